set_option maxHeartbeats 4000000 in
set_option maxRecDepth 100000 in
theorem kX6_isFor (l : Launch) (D : va_G) (C : Nat → ClassId) (A : Nat → Prop) (ad : Nat → Nat → Nat) (nh nv na : Nat) (Y : Nat → Nat → Nat → Int32) (i0 : Nat) (hd0 : domY nh nv na 12 i0) (h0 : Nat) (hdh : domY nh nv na 20 h0) : Met l yX6_isFor wsX6_isFor ({ frames := 1, cells := 0, slots := 0, locals := 20 }) (va_Pc [.ref (ad 12 i0), .ref (ad 20 h0)] (PW D C A (nw D (enY C) (domY nh nv na) A ad Y))) (nQ A (some (.int (fX6_isFor Y i0 h0))) (nw D (enY C) (domY nh nv na) A ad Y)) 0 0 A := by
  refine Met.ofW (cc := cX6_isFor) (maxL := 2) (ret := (some .boolean)) (by decide) rfl ?_
  intro p e s m args below meth c s₁ B hml hv
  obtain ⟨rfl, hK, hN, hA⟩ := hv
  have hx := B.exec
  have hb := B.bytes
  have hr := B.returns
  have hts := atoms_spec (ws := wsX6_isFor) B.pre
  have hown : s.vm.findClass RX6 = some m.cls := findClass_of_methodNamed B.named
  have hlocks := B.notSynchronized
  have S : CallFix p m c cX6_isFor 2 s _ wsX6_isFor RX6 := ⟨hx, hb, hml, hown, hts⟩
  have hin6 : ∀ w ∈ wsX60, w ∈ wsX6_isFor := (fun _ h => List.mem_cons_of_mem _ (List.mem_append_right _ (h)))
  have hS : va_S A s.heap s.heap [] := va_S.rf
  have hl := lv_entry ([.ref (ad 12 i0), .ref (ad 20 h0)]) (n := 2) (Nat.le_of_ble_eq_true rfl)
  rw [lg_entry_eq]
  generalize (lg_sl ([.ref (ad 12 i0), .ref (ad 20 h0)]) ++ List.replicate (2 - (lg_sl ([.ref (ad 12 i0), .ref (ad 20 h0)])).length) Slot.unset).toArray = ls at hl ⊢
  have hl : lv_has ls 2 [(0, .ref (ad 12 i0)), (1, .ref (ad 20 h0))] := hl
  refine lv_aload_n hx hb dX6_isFor_0 rfl (lv_at hl 1 rfl) ?_
  refine lv_ifnull hx hb dX6_isFor_1 ?_
  refine lv_aload_n hx hb dX6_isFor_4 rfl (lv_at hl 1 rfl) ?_
  by_cases k_1 : (Y 20 h0 5) = 0
  · refine nwY_calli (As := []) (rest := []) S (kX2_kindNumber l D C A ad nh nv na Y h0 hdh ) gX6_isFor_X2_kindNumber rfl ⟨rfl, rfl⟩ hqX2_kindNumber ⟨Nat.le_of_ble_eq_true rfl, Nat.le_of_ble_eq_true rfl⟩ hK ((nw_recvH hK hN (h := h0) hdh).1 k_1) hN hA hS rfl hl.1 rfl (Nat.le_of_ble_eq_true rfl) dX6_isFor_5 ⟨Nat.le_of_ble_eq_true rfl, Nat.le_of_ble_eq_true rfl⟩ (fun H locs hN hS => ?_)
    refine lv_aload_n hx hb dX6_isFor_8 rfl (lv_at hl 0 rfl) ?_
    refine nw_get S hK hN (k := 12) (i := i0) hd0 rfl rfl hin6 2 (by decide) (index := 21) (ref := "RidingYard$Team") (List.mem_cons_of_mem _ (List.mem_append_left _ (List.mem_of_getElem? (i := 0) rfl))) (fun _ h => h) (v := .int (Y 12 i0 2)) rfl dX6_isFor_9 ?_
    refine lv_icmp_lt (x := 0) (y := Y 12 i0 2) (tgt := 19) hx hb dX6_isFor_12 (by decide) (fun c_2 => ?_) (fun c_2 => ?_)
    · refine lv_iconst (v := 0) hx hb dX6_isFor_19 (by decide) ?_
      have hf : fX6_isFor Y i0 h0 = 0 := by unfold fX6_isFor; rw [if_pos k_1, if_pos c_2]
      exact W.zret (v := 0) hx hb hr rfl (fun t ht _ => by rw [hf]; exact nw_end hS hN ht) hS.2.2 dX6_isFor_20
    · refine lv_iconst (v := 1) hx hb dX6_isFor_15 (by decide) ?_
      refine lv_goto (tgt := 20) hx hb dX6_isFor_16 (by decide) ?_
      have hf : fX6_isFor Y i0 h0 = 1 := by unfold fX6_isFor; rw [if_pos k_1, if_neg c_2]
      exact W.zret (v := 1) hx hb hr rfl (fun t ht _ => by rw [hf]; exact nw_end hS hN ht) hS.2.2 dX6_isFor_20
  · by_cases k_3 : (Y 20 h0 5) = 1
    · refine nwY_callU (As := []) (rest := []) S (kX1_kindNumber l D C A ad nh nv na Y h0 hdh ) (va_cwO 0 hts gX6_isFor_X1_kindNumber_u28X1 rfl rfl rfl (List.mem_cons_of_mem _ (List.mem_append_left _ (List.mem_of_getElem? (i := 8) rfl))) (by decide +kernel) ⟨Nat.le_of_ble_eq_true rfl, Nat.le_of_ble_eq_true rfl⟩) hK ((nw_recvH hK hN (h := h0) hdh).2.1 k_3) hN hA hS rfl hl.1 rfl (Nat.le_of_ble_eq_true rfl) dX6_isFor_5 ⟨Nat.le_of_ble_eq_true rfl, Nat.le_of_ble_eq_true rfl⟩ (fun H locs hN hS => ?_)
      refine lv_aload_n hx hb dX6_isFor_8 rfl (lv_at hl 0 rfl) ?_
      refine nw_get S hK hN (k := 12) (i := i0) hd0 rfl rfl hin6 2 (by decide) (index := 21) (ref := "RidingYard$Team") (List.mem_cons_of_mem _ (List.mem_append_left _ (List.mem_of_getElem? (i := 0) rfl))) (fun _ h => h) (v := .int (Y 12 i0 2)) rfl dX6_isFor_9 ?_
      refine lv_icmp_lt (x := 1) (y := Y 12 i0 2) (tgt := 19) hx hb dX6_isFor_12 (by decide) (fun c_4 => ?_) (fun c_4 => ?_)
      · refine lv_iconst (v := 0) hx hb dX6_isFor_19 (by decide) ?_
        have hf : fX6_isFor Y i0 h0 = 0 := by unfold fX6_isFor; rw [if_neg k_1, if_pos k_3, if_pos c_4]
        exact W.zret (v := 0) hx hb hr rfl (fun t ht _ => by rw [hf]; exact nw_end hS hN ht) hS.2.2 dX6_isFor_20
      · refine lv_iconst (v := 1) hx hb dX6_isFor_15 (by decide) ?_
        refine lv_goto (tgt := 20) hx hb dX6_isFor_16 (by decide) ?_
        have hf : fX6_isFor Y i0 h0 = 1 := by unfold fX6_isFor; rw [if_neg k_1, if_pos k_3, if_neg c_4]
        exact W.zret (v := 1) hx hb hr rfl (fun t ht _ => by rw [hf]; exact nw_end hS hN ht) hS.2.2 dX6_isFor_20
    · refine nwY_callU (As := []) (rest := []) S (kX3_kindNumber l D C A ad nh nv na Y h0 hdh ) (va_cwO 0 hts gX6_isFor_X3_kindNumber_u28X3 rfl rfl rfl (List.mem_cons_of_mem _ (List.mem_append_left _ (List.mem_of_getElem? (i := 8) rfl))) (by decide +kernel) ⟨Nat.le_of_ble_eq_true rfl, Nat.le_of_ble_eq_true rfl⟩) hK ((nw_recvH hK hN (h := h0) hdh).2.2 k_1 k_3) hN hA hS rfl hl.1 rfl (Nat.le_of_ble_eq_true rfl) dX6_isFor_5 ⟨Nat.le_of_ble_eq_true rfl, Nat.le_of_ble_eq_true rfl⟩ (fun H locs hN hS => ?_)
      refine lv_aload_n hx hb dX6_isFor_8 rfl (lv_at hl 0 rfl) ?_
      refine nw_get S hK hN (k := 12) (i := i0) hd0 rfl rfl hin6 2 (by decide) (index := 21) (ref := "RidingYard$Team") (List.mem_cons_of_mem _ (List.mem_append_left _ (List.mem_of_getElem? (i := 0) rfl))) (fun _ h => h) (v := .int (Y 12 i0 2)) rfl dX6_isFor_9 ?_
      refine lv_icmp_lt (x := 2) (y := Y 12 i0 2) (tgt := 19) hx hb dX6_isFor_12 (by decide) (fun c_5 => ?_) (fun c_5 => ?_)
      · refine lv_iconst (v := 0) hx hb dX6_isFor_19 (by decide) ?_
        have hf : fX6_isFor Y i0 h0 = 0 := by unfold fX6_isFor; rw [if_neg k_1, if_neg k_3, if_pos c_5]
        exact W.zret (v := 0) hx hb hr rfl (fun t ht _ => by rw [hf]; exact nw_end hS hN ht) hS.2.2 dX6_isFor_20
      · refine lv_iconst (v := 1) hx hb dX6_isFor_15 (by decide) ?_
        refine lv_goto (tgt := 20) hx hb dX6_isFor_16 (by decide) ?_
        have hf : fX6_isFor Y i0 h0 = 1 := by unfold fX6_isFor; rw [if_neg k_1, if_neg k_3, if_neg c_5]
        exact W.zret (v := 1) hx hb hr rfl (fun t ht _ => by rw [hf]; exact nw_end hS hN ht) hS.2.2 dX6_isFor_20
set_option maxHeartbeats 4000000 in
set_option maxRecDepth 100000 in
theorem kX9_horseAt (l : Launch) (D : va_G) (C : Nat → ClassId) (A : Nat → Prop) (ad : Nat → Nat → Nat) (nh nv na : Nat) (Y : Nat → Nat → Nat → Int32) (p0 : Int32) : Met l yX9_horseAt wsX9_horseAt ({ frames := 1, cells := 0, slots := 0, locals := 22 }) (va_Pc [.ref (ad 0 0), .int p0] (PW D C A (nw D (enY C) (domY nh nv na) A ad Y))) (nQ A (some (va_rf (oH ad (Y 1 0 ((fJ9_floorMod_7cf53 p0 10 : Int32).toNatClampNeg))))) (nw D (enY C) (domY nh nv na) A ad Y)) 0 0 A := by
  refine Met.ofW (cc := cX9_horseAt) (maxL := 2) (ret := (some (.object "RidingYard$Horse"))) (by decide) rfl ?_
  intro p e s m args below meth c s₁ B hml hv
  obtain ⟨rfl, hK, hN, hA⟩ := hv
  have hx := B.exec
  have hb := B.bytes
  have hr := B.returns
  have hts := atoms_spec (ws := wsX9_horseAt) B.pre
  have hown : s.vm.findClass RX9 = some m.cls := findClass_of_methodNamed B.named
  have hlocks := B.notSynchronized
  have S : CallFix p m c cX9_horseAt 2 s _ wsX9_horseAt RX9 := ⟨hx, hb, hml, hown, hts⟩
  have hin9 : ∀ w ∈ wsX90, w ∈ wsX9_horseAt := (fun _ h => List.mem_cons_of_mem _ (List.mem_append_right _ (h)))
  have hS : va_S A s.heap s.heap [] := va_S.rf
  have hl := lv_entry ([.ref (ad 0 0), .int p0]) (n := 2) (Nat.le_of_ble_eq_true rfl)
  rw [lg_entry_eq]
  generalize (lg_sl ([.ref (ad 0 0), .int p0]) ++ List.replicate (2 - (lg_sl ([.ref (ad 0 0), .int p0])).length) Slot.unset).toArray = ls at hl ⊢
  have hl : lv_has ls 2 [(0, .ref (ad 0 0)), (1, .int p0)] := hl
  refine lv_aload_n hx hb dX9_horseAt_0 rfl (lv_at hl 0 rfl) ?_
  refine nw_get S hK hN (k := 0) (i := 0) ⟨by decide, rfl⟩ rfl rfl hin9 0 (by decide) (index := 11) (ref := "RidingYard") (List.mem_cons_of_mem _ (List.mem_append_left _ (List.mem_of_getElem? (i := 0) rfl))) (fun _ h => h) (v := .ref (ad 1 0)) rfl dX9_horseAt_1 ?_
  refine lv_iload_n hx hb dX9_horseAt_4 rfl (lv_at hl 1 rfl) ?_
  refine lv_bipush (v := 10) hx hb dX9_horseAt_5 (by decide) ?_
  refine nw_callS (As := [.int p0, .int 10]) (rest := [.ref (ad 1 0)]) S (kJ9_floorMod_7cf53 l p0 10 (by decide)) gX9_horseAt_J9_floorMod_7cf53 rfl ⟨rfl, rfl⟩ hqJ9_floorMod_7cf53 ⟨Nat.le_of_ble_eq_true rfl, Nat.le_of_ble_eq_true rfl⟩ rfl hl.1 rfl (Nat.le_of_ble_eq_true rfl) dX9_horseAt_7 ⟨Nat.le_of_ble_eq_true rfl, Nat.le_of_ble_eq_true rfl⟩ ?_
  refine nw_aald S hK hN (k := 1) (i := 0) ⟨by decide, rfl⟩ 2 rfl rfl rfl (x := fJ9_floorMod_7cf53 p0 10) (fm_in10 p0) dX9_horseAt_10 (v := va_rf (oH ad (Y 1 0 ((fJ9_floorMod_7cf53 p0 10 : Int32).toNatClampNeg)))) rfl ?_
  exact W.aret hx hb hr (Or.inl ⟨_, rfl⟩) (va_rf_or _) (fun t ht _ => nw_end hS hN ht) hS.2.2 dX9_horseAt_11
set_option maxHeartbeats 4000000 in
set_option maxRecDepth 100000 in
theorem kX9_workerAt (l : Launch) (D : va_G) (C : Nat → ClassId) (A : Nat → Prop) (ad : Nat → Nat → Nat) (nh nv na : Nat) (Y : Nat → Nat → Nat → Int32) (p0 : Int32) : Met l yX9_workerAt wsX9_workerAt ({ frames := 1, cells := 0, slots := 0, locals := 22 }) (va_Pc [.ref (ad 0 0), .int p0] (PW D C A (nw D (enY C) (domY nh nv na) A ad Y))) (nQ A (some (va_rf (oW ad (Y 2 0 ((fJ9_floorMod_7cf53 p0 6 : Int32).toNatClampNeg))))) (nw D (enY C) (domY nh nv na) A ad Y)) 0 0 A := by
  refine Met.ofW (cc := cX9_workerAt) (maxL := 2) (ret := (some (.object "RidingYard$Worker"))) (by decide) rfl ?_
  intro p e s m args below meth c s₁ B hml hv
  obtain ⟨rfl, hK, hN, hA⟩ := hv
  have hx := B.exec
  have hb := B.bytes
  have hr := B.returns
  have hts := atoms_spec (ws := wsX9_workerAt) B.pre
  have hown : s.vm.findClass RX9 = some m.cls := findClass_of_methodNamed B.named
  have hlocks := B.notSynchronized
  have S : CallFix p m c cX9_workerAt 2 s _ wsX9_workerAt RX9 := ⟨hx, hb, hml, hown, hts⟩
  have hin9 : ∀ w ∈ wsX90, w ∈ wsX9_workerAt := (fun _ h => List.mem_cons_of_mem _ (List.mem_append_right _ (h)))
  have hS : va_S A s.heap s.heap [] := va_S.rf
  have hl := lv_entry ([.ref (ad 0 0), .int p0]) (n := 2) (Nat.le_of_ble_eq_true rfl)
  rw [lg_entry_eq]
  generalize (lg_sl ([.ref (ad 0 0), .int p0]) ++ List.replicate (2 - (lg_sl ([.ref (ad 0 0), .int p0])).length) Slot.unset).toArray = ls at hl ⊢
  have hl : lv_has ls 2 [(0, .ref (ad 0 0)), (1, .int p0)] := hl
  refine lv_aload_n hx hb dX9_workerAt_0 rfl (lv_at hl 0 rfl) ?_
  refine nw_get S hK hN (k := 0) (i := 0) ⟨by decide, rfl⟩ rfl rfl hin9 1 (by decide) (index := 17) (ref := "RidingYard") (List.mem_cons_of_mem _ (List.mem_append_left _ (List.mem_of_getElem? (i := 0) rfl))) (fun _ h => h) (v := .ref (ad 2 0)) rfl dX9_workerAt_1 ?_
  refine lv_iload_n hx hb dX9_workerAt_4 rfl (lv_at hl 1 rfl) ?_
  refine lv_bipush (v := 6) hx hb dX9_workerAt_5 (by decide) ?_
  refine nw_callS (As := [.int p0, .int 6]) (rest := [.ref (ad 2 0)]) S (kJ9_floorMod_7cf53 l p0 6 (by decide)) gX9_workerAt_J9_floorMod_7cf53 rfl ⟨rfl, rfl⟩ hqJ9_floorMod_7cf53 ⟨Nat.le_of_ble_eq_true rfl, Nat.le_of_ble_eq_true rfl⟩ rfl hl.1 rfl (Nat.le_of_ble_eq_true rfl) dX9_workerAt_7 ⟨Nat.le_of_ble_eq_true rfl, Nat.le_of_ble_eq_true rfl⟩ ?_
  refine nw_aald S hK hN (k := 2) (i := 0) ⟨by decide, rfl⟩ 3 rfl rfl rfl (x := fJ9_floorMod_7cf53 p0 6) (fm_in6 p0) dX9_workerAt_10 (v := va_rf (oW ad (Y 2 0 ((fJ9_floorMod_7cf53 p0 6 : Int32).toNatClampNeg)))) rfl ?_
  exact W.aret hx hb hr (Or.inl ⟨_, rfl⟩) (va_rf_or _) (fun t ht _ => nw_end hS hN ht) hS.2.2 dX9_workerAt_11
set_option maxHeartbeats 4000000 in
set_option maxRecDepth 100000 in
theorem kX9_teamAt (l : Launch) (D : va_G) (C : Nat → ClassId) (A : Nat → Prop) (ad : Nat → Nat → Nat) (nh nv na : Nat) (Y : Nat → Nat → Nat → Int32) (p0 : Int32) : Met l yX9_teamAt wsX9_teamAt ({ frames := 1, cells := 0, slots := 0, locals := 22 }) (va_Pc [.ref (ad 0 0), .int p0] (PW D C A (nw D (enY C) (domY nh nv na) A ad Y))) (nQ A (some (.ref (ad 12 ((fJ9_floorMod_7cf53 p0 6 : Int32).toNatClampNeg)))) (nw D (enY C) (domY nh nv na) A ad Y)) 0 0 A := by
  refine Met.ofW (cc := cX9_teamAt) (maxL := 2) (ret := (some (.object "RidingYard$Team"))) (by decide) rfl ?_
  intro p e s m args below meth c s₁ B hml hv
  obtain ⟨rfl, hK, hN, hA⟩ := hv
  have hx := B.exec
  have hb := B.bytes
  have hr := B.returns
  have hts := atoms_spec (ws := wsX9_teamAt) B.pre
  have hown : s.vm.findClass RX9 = some m.cls := findClass_of_methodNamed B.named
  have hlocks := B.notSynchronized
  have S : CallFix p m c cX9_teamAt 2 s _ wsX9_teamAt RX9 := ⟨hx, hb, hml, hown, hts⟩
  have hin9 : ∀ w ∈ wsX90, w ∈ wsX9_teamAt := (fun _ h => List.mem_cons_of_mem _ (List.mem_append_right _ (h)))
  have hS : va_S A s.heap s.heap [] := va_S.rf
  have hl := lv_entry ([.ref (ad 0 0), .int p0]) (n := 2) (Nat.le_of_ble_eq_true rfl)
  rw [lg_entry_eq]
  generalize (lg_sl ([.ref (ad 0 0), .int p0]) ++ List.replicate (2 - (lg_sl ([.ref (ad 0 0), .int p0])).length) Slot.unset).toArray = ls at hl ⊢
  have hl : lv_has ls 2 [(0, .ref (ad 0 0)), (1, .int p0)] := hl
  refine lv_aload_n hx hb dX9_teamAt_0 rfl (lv_at hl 0 rfl) ?_
  refine nw_get S hK hN (k := 0) (i := 0) ⟨by decide, rfl⟩ rfl rfl hin9 2 (by decide) (index := 23) (ref := "RidingYard") (List.mem_cons_of_mem _ (List.mem_append_left _ (List.mem_of_getElem? (i := 0) rfl))) (fun _ h => h) (v := .ref (ad 3 0)) rfl dX9_teamAt_1 ?_
  refine lv_iload_n hx hb dX9_teamAt_4 rfl (lv_at hl 1 rfl) ?_
  refine lv_bipush (v := 6) hx hb dX9_teamAt_5 (by decide) ?_
  refine nw_callS (As := [.int p0, .int 6]) (rest := [.ref (ad 3 0)]) S (kJ9_floorMod_7cf53 l p0 6 (by decide)) gX9_teamAt_J9_floorMod_7cf53 rfl ⟨rfl, rfl⟩ hqJ9_floorMod_7cf53 ⟨Nat.le_of_ble_eq_true rfl, Nat.le_of_ble_eq_true rfl⟩ rfl hl.1 rfl (Nat.le_of_ble_eq_true rfl) dX9_teamAt_7 ⟨Nat.le_of_ble_eq_true rfl, Nat.le_of_ble_eq_true rfl⟩ ?_
  refine nw_aald S hK hN (k := 3) (i := 0) ⟨by decide, rfl⟩ 4 rfl rfl rfl (x := fJ9_floorMod_7cf53 p0 6) (fm_in6 p0) dX9_teamAt_10 (v := .ref (ad 12 ((fJ9_floorMod_7cf53 p0 6 : Int32).toNatClampNeg))) rfl ?_
  exact W.aret (v := .ref (ad 12 ((fJ9_floorMod_7cf53 p0 6 : Int32).toNatClampNeg))) hx hb hr (Or.inl ⟨_, rfl⟩) (Or.inr ⟨_, rfl⟩) (fun t ht _ => nw_end hS hN ht) hS.2.2 dX9_teamAt_11
set_option maxHeartbeats 4000000 in
set_option maxRecDepth 100000 in
theorem kX9_ledgerAt (l : Launch) (D : va_G) (C : Nat → ClassId) (A : Nat → Prop) (ad : Nat → Nat → Nat) (nh nv na : Nat) (Y : Nat → Nat → Nat → Int32) (p0 : Int32) : Met l yX9_ledgerAt wsX9_ledgerAt ({ frames := 1, cells := 0, slots := 0, locals := 22 }) (va_Pc [.ref (ad 0 0), .int p0] (PW D C A (nw D (enY C) (domY nh nv na) A ad Y))) (nQ A (some (.ref (ad 14 ((fJ9_floorMod_7cf53 p0 4 : Int32).toNatClampNeg)))) (nw D (enY C) (domY nh nv na) A ad Y)) 0 0 A := by
  refine Met.ofW (cc := cX9_ledgerAt) (maxL := 2) (ret := (some (.object "RidingYard$Ledger"))) (by decide) rfl ?_
  intro p e s m args below meth c s₁ B hml hv
  obtain ⟨rfl, hK, hN, hA⟩ := hv
  have hx := B.exec
  have hb := B.bytes
  have hr := B.returns
  have hts := atoms_spec (ws := wsX9_ledgerAt) B.pre
  have hown : s.vm.findClass RX9 = some m.cls := findClass_of_methodNamed B.named
  have hlocks := B.notSynchronized
  have S : CallFix p m c cX9_ledgerAt 2 s _ wsX9_ledgerAt RX9 := ⟨hx, hb, hml, hown, hts⟩
  have hin9 : ∀ w ∈ wsX90, w ∈ wsX9_ledgerAt := (fun _ h => List.mem_cons_of_mem _ (List.mem_append_right _ (h)))
  have hS : va_S A s.heap s.heap [] := va_S.rf
  have hl := lv_entry ([.ref (ad 0 0), .int p0]) (n := 2) (Nat.le_of_ble_eq_true rfl)
  rw [lg_entry_eq]
  generalize (lg_sl ([.ref (ad 0 0), .int p0]) ++ List.replicate (2 - (lg_sl ([.ref (ad 0 0), .int p0])).length) Slot.unset).toArray = ls at hl ⊢
  have hl : lv_has ls 2 [(0, .ref (ad 0 0)), (1, .int p0)] := hl
  refine lv_aload_n hx hb dX9_ledgerAt_0 rfl (lv_at hl 0 rfl) ?_
  refine nw_get S hK hN (k := 0) (i := 0) ⟨by decide, rfl⟩ rfl rfl hin9 3 (by decide) (index := 29) (ref := "RidingYard") (List.mem_cons_of_mem _ (List.mem_append_left _ (List.mem_of_getElem? (i := 0) rfl))) (fun _ h => h) (v := .ref (ad 4 0)) rfl dX9_ledgerAt_1 ?_
  refine lv_iload_n hx hb dX9_ledgerAt_4 rfl (lv_at hl 1 rfl) ?_
  refine lv_iconst (v := 4) hx hb dX9_ledgerAt_5 (by decide) ?_
  refine nw_callS (As := [.int p0, .int 4]) (rest := [.ref (ad 4 0)]) S (kJ9_floorMod_7cf53 l p0 4 (by decide)) gX9_ledgerAt_J9_floorMod_7cf53 rfl ⟨rfl, rfl⟩ hqJ9_floorMod_7cf53 ⟨Nat.le_of_ble_eq_true rfl, Nat.le_of_ble_eq_true rfl⟩ rfl hl.1 rfl (Nat.le_of_ble_eq_true rfl) dX9_ledgerAt_6 ⟨Nat.le_of_ble_eq_true rfl, Nat.le_of_ble_eq_true rfl⟩ ?_
  refine nw_aald S hK hN (k := 4) (i := 0) ⟨by decide, rfl⟩ 5 rfl rfl rfl (x := fJ9_floorMod_7cf53 p0 4) (fm_in4 p0) dX9_ledgerAt_9 (v := .ref (ad 14 ((fJ9_floorMod_7cf53 p0 4 : Int32).toNatClampNeg))) rfl ?_
  exact W.aret (v := .ref (ad 14 ((fJ9_floorMod_7cf53 p0 4 : Int32).toNatClampNeg))) hx hb hr (Or.inl ⟨_, rfl⟩) (Or.inr ⟨_, rfl⟩) (fun t ht _ => nw_end hS hN ht) hS.2.2 dX9_ledgerAt_10
set_option maxHeartbeats 4000000 in
set_option maxRecDepth 100000 in
theorem kX9_tableAt (l : Launch) (D : va_G) (C : Nat → ClassId) (A : Nat → Prop) (ad : Nat → Nat → Nat) (nh nv na : Nat) (Y : Nat → Nat → Nat → Int32) (p0 : Int32) : Met l yX9_tableAt wsX9_tableAt ({ frames := 1, cells := 0, slots := 0, locals := 22 }) (va_Pc [.ref (ad 0 0), .int p0] (PW D C A (nw D (enY C) (domY nh nv na) A ad Y))) (nQ A (some (.ref (ad 16 ((fJ9_floorMod_7cf53 p0 4 : Int32).toNatClampNeg)))) (nw D (enY C) (domY nh nv na) A ad Y)) 0 0 A := by
  refine Met.ofW (cc := cX9_tableAt) (maxL := 2) (ret := (some (.object "RidingYard$Table"))) (by decide) rfl ?_
  intro p e s m args below meth c s₁ B hml hv
  obtain ⟨rfl, hK, hN, hA⟩ := hv
  have hx := B.exec
  have hb := B.bytes
  have hr := B.returns
  have hts := atoms_spec (ws := wsX9_tableAt) B.pre
  have hown : s.vm.findClass RX9 = some m.cls := findClass_of_methodNamed B.named
  have hlocks := B.notSynchronized
  have S : CallFix p m c cX9_tableAt 2 s _ wsX9_tableAt RX9 := ⟨hx, hb, hml, hown, hts⟩
  have hin9 : ∀ w ∈ wsX90, w ∈ wsX9_tableAt := (fun _ h => List.mem_cons_of_mem _ (List.mem_append_right _ (h)))
  have hS : va_S A s.heap s.heap [] := va_S.rf
  have hl := lv_entry ([.ref (ad 0 0), .int p0]) (n := 2) (Nat.le_of_ble_eq_true rfl)
  rw [lg_entry_eq]
  generalize (lg_sl ([.ref (ad 0 0), .int p0]) ++ List.replicate (2 - (lg_sl ([.ref (ad 0 0), .int p0])).length) Slot.unset).toArray = ls at hl ⊢
  have hl : lv_has ls 2 [(0, .ref (ad 0 0)), (1, .int p0)] := hl
  refine lv_aload_n hx hb dX9_tableAt_0 rfl (lv_at hl 0 rfl) ?_
  refine nw_get S hK hN (k := 0) (i := 0) ⟨by decide, rfl⟩ rfl rfl hin9 4 (by decide) (index := 35) (ref := "RidingYard") (List.mem_cons_of_mem _ (List.mem_append_left _ (List.mem_of_getElem? (i := 0) rfl))) (fun _ h => h) (v := .ref (ad 5 0)) rfl dX9_tableAt_1 ?_
  refine lv_iload_n hx hb dX9_tableAt_4 rfl (lv_at hl 1 rfl) ?_
  refine lv_iconst (v := 4) hx hb dX9_tableAt_5 (by decide) ?_
  refine nw_callS (As := [.int p0, .int 4]) (rest := [.ref (ad 5 0)]) S (kJ9_floorMod_7cf53 l p0 4 (by decide)) gX9_tableAt_J9_floorMod_7cf53 rfl ⟨rfl, rfl⟩ hqJ9_floorMod_7cf53 ⟨Nat.le_of_ble_eq_true rfl, Nat.le_of_ble_eq_true rfl⟩ rfl hl.1 rfl (Nat.le_of_ble_eq_true rfl) dX9_tableAt_6 ⟨Nat.le_of_ble_eq_true rfl, Nat.le_of_ble_eq_true rfl⟩ ?_
  refine nw_aald S hK hN (k := 5) (i := 0) ⟨by decide, rfl⟩ 6 rfl rfl rfl (x := fJ9_floorMod_7cf53 p0 4) (fm_in4 p0) dX9_tableAt_9 (v := .ref (ad 16 ((fJ9_floorMod_7cf53 p0 4 : Int32).toNatClampNeg))) rfl ?_
  exact W.aret (v := .ref (ad 16 ((fJ9_floorMod_7cf53 p0 4 : Int32).toNatClampNeg))) hx hb hr (Or.inl ⟨_, rfl⟩) (Or.inr ⟨_, rfl⟩) (fun t ht _ => nw_end hS hN ht) hS.2.2 dX9_tableAt_10
set_option maxHeartbeats 4000000 in
set_option maxRecDepth 100000 in
theorem kX9_comeTo (l : Launch) (D : va_G) (C : Nat → ClassId) (A : Nat → Prop) (ad : Nat → Nat → Nat) (nh nv na : Nat) (Y : Nat → Nat → Nat → Int32) (p0 : Int32) : Met l yX9_comeTo wsX9_comeTo ({ frames := 0, cells := 0, slots := 0, locals := 0 }) (va_Pc [.ref (ad 0 0), .int p0] (PW D C A (nw D (enY C) (domY nh nv na) A ad Y))) (nQ A (some (.int (fX9_comeTo Y p0).1)) (nw D (enY C) (domY nh nv na) A ad (fX9_comeTo Y p0).2)) 0 0 A := by
  refine Met.ofW (cc := cX9_comeTo) (maxL := 2) (ret := (some .int)) (by decide) rfl ?_
  intro p e s m args below meth c s₁ B hml hv
  obtain ⟨rfl, hK, hN, hA⟩ := hv
  have hx := B.exec
  have hb := B.bytes
  have hr := B.returns
  have hts := atoms_spec (ws := wsX9_comeTo) B.pre
  have hown : s.vm.findClass RX9 = some m.cls := findClass_of_methodNamed B.named
  have hlocks := B.notSynchronized
  have S : CallFix p m c cX9_comeTo 2 s _ wsX9_comeTo RX9 := ⟨hx, hb, hml, hown, hts⟩
  have hin9 : ∀ w ∈ wsX90, w ∈ wsX9_comeTo := (fun _ h => List.mem_cons_of_mem _ (List.mem_append_right _ (h)))
  have hS : va_S A s.heap s.heap [] := va_S.rf
  have hl := lv_entry ([.ref (ad 0 0), .int p0]) (n := 2) (Nat.le_of_ble_eq_true rfl)
  rw [lg_entry_eq]
  generalize (lg_sl ([.ref (ad 0 0), .int p0]) ++ List.replicate (2 - (lg_sl ([.ref (ad 0 0), .int p0])).length) Slot.unset).toArray = ls at hl ⊢
  have hl : lv_has ls 2 [(0, .ref (ad 0 0)), (1, .int p0)] := hl
  refine lv_aload_n hx hb dX9_comeTo_0 rfl (lv_at hl 0 rfl) ?_
  refine lv_iload_n hx hb dX9_comeTo_1 rfl (lv_at hl 1 rfl) ?_
  refine nw_put S hK hN hS (k := 0) (i := 0) ⟨by decide, rfl⟩ rfl rfl hin9 tyX9_ok nmX9 16 (by decide) (index := 118) (ref := "RidingYard") (List.mem_cons_of_mem _ (List.mem_append_left _ (List.mem_of_getElem? (i := 0) rfl))) (fun _ h => h) rfl p0 rfl rfl rfl (Nat.le_of_ble_eq_true rfl) dX9_comeTo_2 (fun H locs hN hz hS => ?_)
  refine lv_iconst (v := 0) hx hb dX9_comeTo_5 (by decide) ?_
  have hf : fX9_comeTo Y p0 = (0, u3 Y 0 0 16 p0) := rfl
  exact W.iret (v := 0) hx hb hr (fun t ht _ => by rw [hf]; exact nw_end hS hN ht) hS.2.2 dX9_comeTo_6
set_option maxHeartbeats 4000000 in
set_option maxRecDepth 100000 in
theorem kX9_feedHorse (l : Launch) (D : va_G) (C : Nat → ClassId) (A : Nat → Prop) (ad : Nat → Nat → Nat) (nh nv na : Nat) (Y : Nat → Nat → Nat → Int32) (p0 p1 : Int32) (kk : Nat) (hI : InvY nh nv na kk Y) : Met l yX9_feedHorse wsX9_feedHorse ({ frames := 2, cells := 0, slots := 0, locals := 43 }) (va_Pc [.ref (ad 0 0), .int p0, .int p1] (PW D C A (nw D (enY C) (domY nh nv na) A ad Y))) (nQ A (some (.int (fX9_feedHorse Y p0 p1).1)) (nw D (enY C) (domY nh nv na) A ad (fX9_feedHorse Y p0 p1).2)) 0 0 A := by
  refine Met.ofW (cc := cX9_feedHorse) (maxL := 4) (ret := (some .int)) (by decide) rfl ?_
  intro p e s m args below meth c s₁ B hml hv
  obtain ⟨rfl, hK, hN, hA⟩ := hv
  have hx := B.exec
  have hb := B.bytes
  have hr := B.returns
  have hts := atoms_spec (ws := wsX9_feedHorse) B.pre
  have hown : s.vm.findClass RX9 = some m.cls := findClass_of_methodNamed B.named
  have hlocks := B.notSynchronized
  have S : CallFix p m c cX9_feedHorse 4 s _ wsX9_feedHorse RX9 := ⟨hx, hb, hml, hown, hts⟩
  have hin9 : ∀ w ∈ wsX90, w ∈ wsX9_feedHorse := (fun _ h => List.mem_cons_of_mem _ (List.mem_append_right _ (h)))
  have hin1 : ∀ w ∈ wsX10, w ∈ wsX9_feedHorse := (fun _ h => List.mem_cons_of_mem _ (List.mem_append_left _ (List.mem_append_left _ (List.mem_append_left _ (List.mem_append_right _ (h))))))
  have hin2 : ∀ w ∈ wsX20, w ∈ wsX9_feedHorse := (fun _ h => List.mem_cons_of_mem _ (List.mem_append_left _ (List.mem_append_left _ (List.mem_append_right _ (h)))))
  have hin3 : ∀ w ∈ wsX30, w ∈ wsX9_feedHorse := (fun _ h => List.mem_cons_of_mem _ (List.mem_append_left _ (List.mem_append_right _ (h))))
  have hS : va_S A s.heap s.heap [] := va_S.rf
  have hl := lv_entry ([.ref (ad 0 0), .int p0, .int p1]) (n := 4) (Nat.le_of_ble_eq_true rfl)
  rw [lg_entry_eq]
  generalize (lg_sl ([.ref (ad 0 0), .int p0, .int p1]) ++ List.replicate (4 - (lg_sl ([.ref (ad 0 0), .int p0, .int p1])).length) Slot.unset).toArray = ls at hl ⊢
  have hl : lv_has ls 4 [(0, .ref (ad 0 0)), (1, .int p0), (2, .int p1)] := hl
  refine lv_aload_n hx hb dX9_feedHorse_0 rfl (lv_at hl 0 rfl) ?_
  refine lv_iload_n hx hb dX9_feedHorse_1 rfl (lv_at hl 1 rfl) ?_
  refine nwY_calli (As := [.int p0]) (rest := []) S (kX9_horseAt l D C A ad nh nv na Y p0 ) gX9_feedHorse_X9_horseAt rfl ⟨rfl, rfl⟩ hqX9_horseAt ⟨Nat.le_of_ble_eq_true rfl, Nat.le_of_ble_eq_true rfl⟩ hK (nw_recv hK hN (k := 0) (i := 0) ⟨by decide, rfl⟩ rfl rfl) hN hA hS rfl hl.1 rfl (Nat.le_of_ble_eq_true rfl) dX9_feedHorse_2 ⟨Nat.le_of_ble_eq_true rfl, Nat.le_of_ble_eq_true rfl⟩ (fun H locs hN hS => ?_)
  by_cases c_1 : (Y 1 0 ((fJ9_floorMod_7cf53 p0 10 : Int32).toNatClampNeg)) < 0
  · rw [oH_n c_1]
    refine lv_astore_nN (lv' := [(3, .null), (0, .ref (ad 0 0)), (1, .int p0), (2, .int p1)]) hx hb dX9_feedHorse_5 rfl hl (by decide) rfl (fun ls hl => ?_)
    refine lv_aload_nN hx hb dX9_feedHorse_6 rfl (lv_at hl 0 rfl) ?_
    refine lv_ifnonnullN hx hb dX9_feedHorse_7 ?_
    refine lv_iconst (v := 1) hx hb dX9_feedHorse_10 (by decide) ?_
    have hf : fX9_feedHorse Y p0 p1 = (1, Y) := by unfold fX9_feedHorse; rw [if_pos c_1]
    exact W.iret (v := 1) hx hb hr (fun t ht _ => by rw [hf]; exact nw_end hS hN ht) hS.2.2 dX9_feedHorse_11
  · rw [oH_s c_1]
    refine lv_astore_n (lv' := [(3, .ref (ad 20 ((Y 1 0 ((fJ9_floorMod_7cf53 p0 10 : Int32).toNatClampNeg) : Int32).toNatClampNeg))), (0, .ref (ad 0 0)), (1, .int p0), (2, .int p1)]) hx hb dX9_feedHorse_5 rfl hl (by decide) rfl (fun ls hl => ?_)
    refine lv_aload_n hx hb dX9_feedHorse_6 rfl (lv_at hl 0 rfl) ?_
    refine lv_ifnonnull (tgt := 12) hx hb dX9_feedHorse_7 (by decide) ?_
    refine lv_aload_n hx hb dX9_feedHorse_12 rfl (lv_at hl 0 rfl) ?_
    refine lv_dup hx hb dX9_feedHorse_13 rfl ?_
    refine nw_getH S hK hN (h := (Y 1 0 ((fJ9_floorMod_7cf53 p0 10 : Int32).toNatClampNeg) : Int32).toNatClampNeg) (hI.st (fm_in10 p0) c_1) hin1 hin2 hin3 1 (by decide) (index := 137) (ref := "RidingYard$Horse") (List.mem_cons_of_mem _ (List.mem_append_left _ (List.mem_append_left _ (List.mem_append_left _ (List.mem_append_left _ (List.mem_of_getElem? (i := 0) rfl)))))) (fun _ h => h) dX9_feedHorse_14 ?_
    refine lv_iload_n hx hb dX9_feedHorse_17 rfl (lv_at hl 3 rfl) ?_
    refine lv_iadd hx hb dX9_feedHorse_18 ?_
    refine nw_putH S hK hN hS (h := (Y 1 0 ((fJ9_floorMod_7cf53 p0 10 : Int32).toNatClampNeg) : Int32).toNatClampNeg) (hI.st (fm_in10 p0) c_1) hin1 hin2 hin3 1 (by decide) (index := 137) (ref := "RidingYard$Horse") (List.mem_cons_of_mem _ (List.mem_append_left _ (List.mem_append_left _ (List.mem_append_left _ (List.mem_append_left _ (List.mem_of_getElem? (i := 0) rfl)))))) (fun _ h => h) ((Y 20 ((Y 1 0 ((fJ9_floorMod_7cf53 p0 10 : Int32).toNatClampNeg) : Int32).toNatClampNeg) 1) + p1) dX9_feedHorse_19 (fun H locs hN hz hS => ?_)
    refine lv_aload_n hx hb dX9_feedHorse_22 rfl (lv_at hl 1 rfl) ?_
    refine lv_aload_n hx hb dX9_feedHorse_23 rfl (lv_at hl 0 rfl) ?_
    refine nw_getH S hK hN (h := (Y 1 0 ((fJ9_floorMod_7cf53 p0 10 : Int32).toNatClampNeg) : Int32).toNatClampNeg) (hI.st (fm_in10 p0) c_1) hin1 hin2 hin3 1 (by decide) (index := 137) (ref := "RidingYard$Horse") (List.mem_cons_of_mem _ (List.mem_append_left _ (List.mem_append_left _ (List.mem_append_left _ (List.mem_append_left _ (List.mem_of_getElem? (i := 0) rfl)))))) (fun _ h => h) dX9_feedHorse_24 ?_
    refine nwY_calli (As := [.int ((u3 Y 20 ((Y 1 0 ((fJ9_floorMod_7cf53 p0 10 : Int32).toNatClampNeg) : Int32).toNatClampNeg) 1 ((Y 20 ((Y 1 0 ((fJ9_floorMod_7cf53 p0 10 : Int32).toNatClampNeg) : Int32).toNatClampNeg) 1) + p1)) 20 ((Y 1 0 ((fJ9_floorMod_7cf53 p0 10 : Int32).toNatClampNeg) : Int32).toNatClampNeg) 1)]) (rest := []) S (kX9_comeTo l D C A ad nh nv na (u3 Y 20 ((Y 1 0 ((fJ9_floorMod_7cf53 p0 10 : Int32).toNatClampNeg) : Int32).toNatClampNeg) 1 ((Y 20 ((Y 1 0 ((fJ9_floorMod_7cf53 p0 10 : Int32).toNatClampNeg) : Int32).toNatClampNeg) 1) + p1)) ((u3 Y 20 ((Y 1 0 ((fJ9_floorMod_7cf53 p0 10 : Int32).toNatClampNeg) : Int32).toNatClampNeg) 1 ((Y 20 ((Y 1 0 ((fJ9_floorMod_7cf53 p0 10 : Int32).toNatClampNeg) : Int32).toNatClampNeg) 1) + p1)) 20 ((Y 1 0 ((fJ9_floorMod_7cf53 p0 10 : Int32).toNatClampNeg) : Int32).toNatClampNeg) 1) ) gX9_feedHorse_X9_comeTo rfl ⟨rfl, rfl⟩ hqX9_comeTo ⟨Nat.le_of_ble_eq_true rfl, Nat.le_of_ble_eq_true rfl⟩ hK (nw_recv hK hN (k := 0) (i := 0) ⟨by decide, rfl⟩ rfl rfl) hN hA hS rfl hl.1 rfl (Nat.le_of_ble_eq_true rfl) dX9_feedHorse_27 ⟨Nat.le_of_ble_eq_true rfl, Nat.le_of_ble_eq_true rfl⟩ (fun H locs hN hS => ?_)
    have hf : fX9_feedHorse Y p0 p1 = (0, u3 (u3 Y 20 ((Y 1 0 ((fJ9_floorMod_7cf53 p0 10 : Int32).toNatClampNeg) : Int32).toNatClampNeg) 1 ((Y 20 ((Y 1 0 ((fJ9_floorMod_7cf53 p0 10 : Int32).toNatClampNeg) : Int32).toNatClampNeg) 1) + p1)) 0 0 16 ((u3 Y 20 ((Y 1 0 ((fJ9_floorMod_7cf53 p0 10 : Int32).toNatClampNeg) : Int32).toNatClampNeg) 1 ((Y 20 ((Y 1 0 ((fJ9_floorMod_7cf53 p0 10 : Int32).toNatClampNeg) : Int32).toNatClampNeg) 1) + p1)) 20 ((Y 1 0 ((fJ9_floorMod_7cf53 p0 10 : Int32).toNatClampNeg) : Int32).toNatClampNeg) 1)) := by unfold fX9_feedHorse; rw [if_neg c_1]
    exact W.iret (v := 0) hx hb hr (fun t ht _ => by rw [hf]; exact nw_end hS hN ht) hS.2.2 dX9_feedHorse_30
set_option maxHeartbeats 4000000 in
set_option maxRecDepth 100000 in
theorem kX9_askStrength (l : Launch) (D : va_G) (C : Nat → ClassId) (A : Nat → Prop) (ad : Nat → Nat → Nat) (nh nv na : Nat) (Y : Nat → Nat → Nat → Int32) (p0 : Int32) (kk : Nat) (hI : InvY nh nv na kk Y) : Met l yX9_askStrength wsX9_askStrength ({ frames := 2, cells := 0, slots := 0, locals := 43 }) (va_Pc [.ref (ad 0 0), .int p0] (PW D C A (nw D (enY C) (domY nh nv na) A ad Y))) (nQ A (some (.int (fX9_askStrength Y p0).1)) (nw D (enY C) (domY nh nv na) A ad (fX9_askStrength Y p0).2)) 0 0 A := by
  refine Met.ofW (cc := cX9_askStrength) (maxL := 3) (ret := (some .int)) (by decide) rfl ?_
  intro p e s m args below meth c s₁ B hml hv
  obtain ⟨rfl, hK, hN, hA⟩ := hv
  have hx := B.exec
  have hb := B.bytes
  have hr := B.returns
  have hts := atoms_spec (ws := wsX9_askStrength) B.pre
  have hown : s.vm.findClass RX9 = some m.cls := findClass_of_methodNamed B.named
  have hlocks := B.notSynchronized
  have S : CallFix p m c cX9_askStrength 3 s _ wsX9_askStrength RX9 := ⟨hx, hb, hml, hown, hts⟩
  have hin9 : ∀ w ∈ wsX90, w ∈ wsX9_askStrength := (fun _ h => List.mem_cons_of_mem _ (List.mem_append_right _ (h)))
  have hin1 : ∀ w ∈ wsX10, w ∈ wsX9_askStrength := (fun _ h => List.mem_cons_of_mem _ (List.mem_append_left _ (List.mem_append_left _ (List.mem_append_left _ (List.mem_append_right _ (h))))))
  have hin2 : ∀ w ∈ wsX20, w ∈ wsX9_askStrength := (fun _ h => List.mem_cons_of_mem _ (List.mem_append_left _ (List.mem_append_left _ (List.mem_append_right _ (h)))))
  have hin3 : ∀ w ∈ wsX30, w ∈ wsX9_askStrength := (fun _ h => List.mem_cons_of_mem _ (List.mem_append_left _ (List.mem_append_right _ (h))))
  have hS : va_S A s.heap s.heap [] := va_S.rf
  have hl := lv_entry ([.ref (ad 0 0), .int p0]) (n := 3) (Nat.le_of_ble_eq_true rfl)
  rw [lg_entry_eq]
  generalize (lg_sl ([.ref (ad 0 0), .int p0]) ++ List.replicate (3 - (lg_sl ([.ref (ad 0 0), .int p0])).length) Slot.unset).toArray = ls at hl ⊢
  have hl : lv_has ls 3 [(0, .ref (ad 0 0)), (1, .int p0)] := hl
  refine lv_aload_n hx hb dX9_askStrength_0 rfl (lv_at hl 0 rfl) ?_
  refine lv_iload_n hx hb dX9_askStrength_1 rfl (lv_at hl 1 rfl) ?_
  refine nwY_calli (As := [.int p0]) (rest := []) S (kX9_horseAt l D C A ad nh nv na Y p0 ) gX9_askStrength_X9_horseAt rfl ⟨rfl, rfl⟩ hqX9_horseAt ⟨Nat.le_of_ble_eq_true rfl, Nat.le_of_ble_eq_true rfl⟩ hK (nw_recv hK hN (k := 0) (i := 0) ⟨by decide, rfl⟩ rfl rfl) hN hA hS rfl hl.1 rfl (Nat.le_of_ble_eq_true rfl) dX9_askStrength_2 ⟨Nat.le_of_ble_eq_true rfl, Nat.le_of_ble_eq_true rfl⟩ (fun H locs hN hS => ?_)
  by_cases c_1 : (Y 1 0 ((fJ9_floorMod_7cf53 p0 10 : Int32).toNatClampNeg)) < 0
  · rw [oH_n c_1]
    refine lv_astore_nN (lv' := [(2, .null), (0, .ref (ad 0 0)), (1, .int p0)]) hx hb dX9_askStrength_5 rfl hl (by decide) rfl (fun ls hl => ?_)
    refine lv_aload_nN hx hb dX9_askStrength_6 rfl (lv_at hl 0 rfl) ?_
    refine lv_ifnonnullN hx hb dX9_askStrength_7 ?_
    refine lv_iconst (v := 1) hx hb dX9_askStrength_10 (by decide) ?_
    refine lv_goto (tgt := 22) hx hb dX9_askStrength_11 (by decide) ?_
    have hf : fX9_askStrength Y p0 = (1, Y) := by unfold fX9_askStrength; rw [if_pos c_1]
    exact W.iret (v := 1) hx hb hr (fun t ht _ => by rw [hf]; exact nw_end hS hN ht) hS.2.2 dX9_askStrength_22
  · rw [oH_s c_1]
    refine lv_astore_n (lv' := [(2, .ref (ad 20 ((Y 1 0 ((fJ9_floorMod_7cf53 p0 10 : Int32).toNatClampNeg) : Int32).toNatClampNeg))), (0, .ref (ad 0 0)), (1, .int p0)]) hx hb dX9_askStrength_5 rfl hl (by decide) rfl (fun ls hl => ?_)
    refine lv_aload_n hx hb dX9_askStrength_6 rfl (lv_at hl 0 rfl) ?_
    refine lv_ifnonnull (tgt := 14) hx hb dX9_askStrength_7 (by decide) ?_
    refine lv_aload_n hx hb dX9_askStrength_14 rfl (lv_at hl 1 rfl) ?_
    refine lv_aload_n hx hb dX9_askStrength_15 rfl (lv_at hl 0 rfl) ?_
    refine nw_getH S hK hN (h := (Y 1 0 ((fJ9_floorMod_7cf53 p0 10 : Int32).toNatClampNeg) : Int32).toNatClampNeg) (hI.st (fm_in10 p0) c_1) hin1 hin2 hin3 0 (by decide) (index := 134) (ref := "RidingYard$Horse") (List.mem_cons_of_mem _ (List.mem_append_left _ (List.mem_append_left _ (List.mem_append_left _ (List.mem_append_left _ (List.mem_of_getElem? (i := 0) rfl)))))) (fun _ h => h) dX9_askStrength_16 ?_
    refine nwY_calli (As := [.int (Y 20 ((Y 1 0 ((fJ9_floorMod_7cf53 p0 10 : Int32).toNatClampNeg) : Int32).toNatClampNeg) 0)]) (rest := []) S (kX9_comeTo l D C A ad nh nv na Y (Y 20 ((Y 1 0 ((fJ9_floorMod_7cf53 p0 10 : Int32).toNatClampNeg) : Int32).toNatClampNeg) 0) ) gX9_askStrength_X9_comeTo rfl ⟨rfl, rfl⟩ hqX9_comeTo ⟨Nat.le_of_ble_eq_true rfl, Nat.le_of_ble_eq_true rfl⟩ hK (nw_recv hK hN (k := 0) (i := 0) ⟨by decide, rfl⟩ rfl rfl) hN hA hS rfl hl.1 rfl (Nat.le_of_ble_eq_true rfl) dX9_askStrength_19 ⟨Nat.le_of_ble_eq_true rfl, Nat.le_of_ble_eq_true rfl⟩ (fun H locs hN hS => ?_)
    have hf : fX9_askStrength Y p0 = (0, u3 Y 0 0 16 (Y 20 ((Y 1 0 ((fJ9_floorMod_7cf53 p0 10 : Int32).toNatClampNeg) : Int32).toNatClampNeg) 0)) := by unfold fX9_askStrength; rw [if_neg c_1]
    exact W.iret (v := 0) hx hb hr (fun t ht _ => by rw [hf]; exact nw_end hS hN ht) hS.2.2 dX9_askStrength_22
set_option maxHeartbeats 4000000 in
set_option maxRecDepth 100000 in
theorem kX9_coverHorse (l : Launch) (D : va_G) (C : Nat → ClassId) (A : Nat → Prop) (ad : Nat → Nat → Nat) (nh nv na : Nat) (Y : Nat → Nat → Nat → Int32) (p0 p1 : Int32) (kk : Nat) (hI : InvY nh nv na kk Y) : Met l yX9_coverHorse wsX9_coverHorse ({ frames := 2, cells := 0, slots := 0, locals := 43 }) (va_Pc [.ref (ad 0 0), .int p0, .int p1] (PW D C A (nw D (enY C) (domY nh nv na) A ad Y))) (nQ A (some (.int (fX9_coverHorse Y p0 p1).1)) (nw D (enY C) (domY nh nv na) A ad (fX9_coverHorse Y p0 p1).2)) 0 0 A := by
  refine Met.ofW (cc := cX9_coverHorse) (maxL := 4) (ret := (some .int)) (by decide) rfl ?_
  intro p e s m args below meth c s₁ B hml hv
  obtain ⟨rfl, hK, hN, hA⟩ := hv
  have hx := B.exec
  have hb := B.bytes
  have hr := B.returns
  have hts := atoms_spec (ws := wsX9_coverHorse) B.pre
  have hown : s.vm.findClass RX9 = some m.cls := findClass_of_methodNamed B.named
  have hlocks := B.notSynchronized
  have S : CallFix p m c cX9_coverHorse 4 s _ wsX9_coverHorse RX9 := ⟨hx, hb, hml, hown, hts⟩
  have hin9 : ∀ w ∈ wsX90, w ∈ wsX9_coverHorse := (fun _ h => List.mem_cons_of_mem _ (List.mem_append_right _ (h)))
  have hin1 : ∀ w ∈ wsX10, w ∈ wsX9_coverHorse := (fun _ h => List.mem_cons_of_mem _ (List.mem_append_left _ (List.mem_append_left _ (List.mem_append_left _ (List.mem_append_right _ (h))))))
  have hin2 : ∀ w ∈ wsX20, w ∈ wsX9_coverHorse := (fun _ h => List.mem_cons_of_mem _ (List.mem_append_left _ (List.mem_append_left _ (List.mem_append_right _ (h)))))
  have hin3 : ∀ w ∈ wsX30, w ∈ wsX9_coverHorse := (fun _ h => List.mem_cons_of_mem _ (List.mem_append_left _ (List.mem_append_right _ (h))))
  have hS : va_S A s.heap s.heap [] := va_S.rf
  have hl := lv_entry ([.ref (ad 0 0), .int p0, .int p1]) (n := 4) (Nat.le_of_ble_eq_true rfl)
  rw [lg_entry_eq]
  generalize (lg_sl ([.ref (ad 0 0), .int p0, .int p1]) ++ List.replicate (4 - (lg_sl ([.ref (ad 0 0), .int p0, .int p1])).length) Slot.unset).toArray = ls at hl ⊢
  have hl : lv_has ls 4 [(0, .ref (ad 0 0)), (1, .int p0), (2, .int p1)] := hl
  refine lv_aload_n hx hb dX9_coverHorse_0 rfl (lv_at hl 0 rfl) ?_
  refine lv_iload_n hx hb dX9_coverHorse_1 rfl (lv_at hl 1 rfl) ?_
  refine nwY_calli (As := [.int p0]) (rest := []) S (kX9_horseAt l D C A ad nh nv na Y p0 ) gX9_coverHorse_X9_horseAt rfl ⟨rfl, rfl⟩ hqX9_horseAt ⟨Nat.le_of_ble_eq_true rfl, Nat.le_of_ble_eq_true rfl⟩ hK (nw_recv hK hN (k := 0) (i := 0) ⟨by decide, rfl⟩ rfl rfl) hN hA hS rfl hl.1 rfl (Nat.le_of_ble_eq_true rfl) dX9_coverHorse_2 ⟨Nat.le_of_ble_eq_true rfl, Nat.le_of_ble_eq_true rfl⟩ (fun H locs hN hS => ?_)
  by_cases c_1 : (Y 1 0 ((fJ9_floorMod_7cf53 p0 10 : Int32).toNatClampNeg)) < 0
  · rw [oH_n c_1]
    refine lv_astore_nN (lv' := [(3, .null), (0, .ref (ad 0 0)), (1, .int p0), (2, .int p1)]) hx hb dX9_coverHorse_5 rfl hl (by decide) rfl (fun ls hl => ?_)
    refine lv_aload_nN hx hb dX9_coverHorse_6 rfl (lv_at hl 0 rfl) ?_
    refine lv_ifnonnullN hx hb dX9_coverHorse_7 ?_
    refine lv_iconst (v := 1) hx hb dX9_coverHorse_10 (by decide) ?_
    have hf : fX9_coverHorse Y p0 p1 = (1, Y) := by unfold fX9_coverHorse; rw [if_pos c_1]
    exact W.iret (v := 1) hx hb hr (fun t ht _ => by rw [hf]; exact nw_end hS hN ht) hS.2.2 dX9_coverHorse_11
  · rw [oH_s c_1]
    refine lv_astore_n (lv' := [(3, .ref (ad 20 ((Y 1 0 ((fJ9_floorMod_7cf53 p0 10 : Int32).toNatClampNeg) : Int32).toNatClampNeg))), (0, .ref (ad 0 0)), (1, .int p0), (2, .int p1)]) hx hb dX9_coverHorse_5 rfl hl (by decide) rfl (fun ls hl => ?_)
    refine lv_aload_n hx hb dX9_coverHorse_6 rfl (lv_at hl 0 rfl) ?_
    refine lv_ifnonnull (tgt := 12) hx hb dX9_coverHorse_7 (by decide) ?_
    refine lv_aload_n hx hb dX9_coverHorse_12 rfl (lv_at hl 0 rfl) ?_
    refine lv_iload_n hx hb dX9_coverHorse_13 rfl (lv_at hl 3 rfl) ?_
    refine nw_putH S hK hN hS (h := (Y 1 0 ((fJ9_floorMod_7cf53 p0 10 : Int32).toNatClampNeg) : Int32).toNatClampNeg) (hI.st (fm_in10 p0) c_1) hin1 hin2 hin3 2 (by decide) (index := 140) (ref := "RidingYard$Horse") (List.mem_cons_of_mem _ (List.mem_append_left _ (List.mem_append_left _ (List.mem_append_left _ (List.mem_append_left _ (List.mem_of_getElem? (i := 0) rfl)))))) (fun _ h => h) p1 dX9_coverHorse_14 (fun H locs hN hz hS => ?_)
    refine lv_aload_n hx hb dX9_coverHorse_17 rfl (lv_at hl 1 rfl) ?_
    refine lv_iconst (v := 0) hx hb dX9_coverHorse_18 (by decide) ?_
    refine nwY_calli (As := [.int 0]) (rest := []) S (kX9_comeTo l D C A ad nh nv na (u3 Y 20 ((Y 1 0 ((fJ9_floorMod_7cf53 p0 10 : Int32).toNatClampNeg) : Int32).toNatClampNeg) 2 p1) 0 ) gX9_coverHorse_X9_comeTo rfl ⟨rfl, rfl⟩ hqX9_comeTo ⟨Nat.le_of_ble_eq_true rfl, Nat.le_of_ble_eq_true rfl⟩ hK (nw_recv hK hN (k := 0) (i := 0) ⟨by decide, rfl⟩ rfl rfl) hN hA hS rfl hl.1 rfl (Nat.le_of_ble_eq_true rfl) dX9_coverHorse_19 ⟨Nat.le_of_ble_eq_true rfl, Nat.le_of_ble_eq_true rfl⟩ (fun H locs hN hS => ?_)
    have hf : fX9_coverHorse Y p0 p1 = (0, u3 (u3 Y 20 ((Y 1 0 ((fJ9_floorMod_7cf53 p0 10 : Int32).toNatClampNeg) : Int32).toNatClampNeg) 2 p1) 0 0 16 0) := by unfold fX9_coverHorse; rw [if_neg c_1]
    exact W.iret (v := 0) hx hb hr (fun t ht _ => by rw [hf]; exact nw_end hS hN ht) hS.2.2 dX9_coverHorse_22
set_option maxHeartbeats 4000000 in
set_option maxRecDepth 100000 in
theorem kX9_groomHorse (l : Launch) (D : va_G) (C : Nat → ClassId) (A : Nat → Prop) (ad : Nat → Nat → Nat) (nh nv na : Nat) (Y : Nat → Nat → Nat → Int32) (p0 : Int32) (kk : Nat) (hI : InvY nh nv na kk Y) : Met l yX9_groomHorse wsX9_groomHorse ({ frames := 2, cells := 0, slots := 0, locals := 43 }) (va_Pc [.ref (ad 0 0), .int p0] (PW D C A (nw D (enY C) (domY nh nv na) A ad Y))) (nQ A (some (.int (fX9_groomHorse Y p0).1)) (nw D (enY C) (domY nh nv na) A ad (fX9_groomHorse Y p0).2)) 0 0 A := by
  refine Met.ofW (cc := cX9_groomHorse) (maxL := 3) (ret := (some .int)) (by decide) rfl ?_
  intro p e s m args below meth c s₁ B hml hv
  obtain ⟨rfl, hK, hN, hA⟩ := hv
  have hx := B.exec
  have hb := B.bytes
  have hr := B.returns
  have hts := atoms_spec (ws := wsX9_groomHorse) B.pre
  have hown : s.vm.findClass RX9 = some m.cls := findClass_of_methodNamed B.named
  have hlocks := B.notSynchronized
  have S : CallFix p m c cX9_groomHorse 3 s _ wsX9_groomHorse RX9 := ⟨hx, hb, hml, hown, hts⟩
  have hin9 : ∀ w ∈ wsX90, w ∈ wsX9_groomHorse := (fun _ h => List.mem_cons_of_mem _ (List.mem_append_left _ (List.mem_append_left _ (List.mem_append_left _ (List.mem_append_right _ (h))))))
  have hin1 : ∀ w ∈ wsX10, w ∈ wsX9_groomHorse := (fun _ h => List.mem_cons_of_mem _ (List.mem_append_left _ (List.mem_append_left _ (List.mem_append_right _ (h)))))
  have hin2 : ∀ w ∈ wsX20, w ∈ wsX9_groomHorse := (fun _ h => List.mem_cons_of_mem _ (List.mem_append_left _ (List.mem_append_right _ (h))))
  have hin3 : ∀ w ∈ wsX30, w ∈ wsX9_groomHorse := (fun _ h => List.mem_cons_of_mem _ (List.mem_append_right _ (h)))
  have hS : va_S A s.heap s.heap [] := va_S.rf
  have hl := lv_entry ([.ref (ad 0 0), .int p0]) (n := 3) (Nat.le_of_ble_eq_true rfl)
  rw [lg_entry_eq]
  generalize (lg_sl ([.ref (ad 0 0), .int p0]) ++ List.replicate (3 - (lg_sl ([.ref (ad 0 0), .int p0])).length) Slot.unset).toArray = ls at hl ⊢
  have hl : lv_has ls 3 [(0, .ref (ad 0 0)), (1, .int p0)] := hl
  refine lv_aload_n hx hb dX9_groomHorse_0 rfl (lv_at hl 0 rfl) ?_
  refine lv_iload_n hx hb dX9_groomHorse_1 rfl (lv_at hl 1 rfl) ?_
  refine nwY_calli (As := [.int p0]) (rest := []) S (kX9_horseAt l D C A ad nh nv na Y p0 ) gX9_groomHorse_X9_horseAt rfl ⟨rfl, rfl⟩ hqX9_horseAt ⟨Nat.le_of_ble_eq_true rfl, Nat.le_of_ble_eq_true rfl⟩ hK (nw_recv hK hN (k := 0) (i := 0) ⟨by decide, rfl⟩ rfl rfl) hN hA hS rfl hl.1 rfl (Nat.le_of_ble_eq_true rfl) dX9_groomHorse_2 ⟨Nat.le_of_ble_eq_true rfl, Nat.le_of_ble_eq_true rfl⟩ (fun H locs hN hS => ?_)
  by_cases c_1 : (Y 1 0 ((fJ9_floorMod_7cf53 p0 10 : Int32).toNatClampNeg)) < 0
  · rw [oH_n c_1]
    refine lv_astore_nN (lv' := [(2, .null), (0, .ref (ad 0 0)), (1, .int p0)]) hx hb dX9_groomHorse_5 rfl hl (by decide) rfl (fun ls hl => ?_)
    refine lv_aload_nN hx hb dX9_groomHorse_6 rfl (lv_at hl 0 rfl) ?_
    refine lv_ifnonnullN hx hb dX9_groomHorse_7 ?_
    refine lv_iconst (v := 1) hx hb dX9_groomHorse_10 (by decide) ?_
    refine lv_goto (tgt := 22) hx hb dX9_groomHorse_11 (by decide) ?_
    have hf : fX9_groomHorse Y p0 = (1, Y) := by unfold fX9_groomHorse; rw [if_pos c_1]
    exact W.iret (v := 1) hx hb hr (fun t ht _ => by rw [hf]; exact nw_end hS hN ht) hS.2.2 dX9_groomHorse_22
  · rw [oH_s c_1]
    refine lv_astore_n (lv' := [(2, .ref (ad 20 ((Y 1 0 ((fJ9_floorMod_7cf53 p0 10 : Int32).toNatClampNeg) : Int32).toNatClampNeg))), (0, .ref (ad 0 0)), (1, .int p0)]) hx hb dX9_groomHorse_5 rfl hl (by decide) rfl (fun ls hl => ?_)
    refine lv_aload_n hx hb dX9_groomHorse_6 rfl (lv_at hl 0 rfl) ?_
    refine lv_ifnonnull (tgt := 14) hx hb dX9_groomHorse_7 (by decide) ?_
    refine lv_aload_n hx hb dX9_groomHorse_14 rfl (lv_at hl 1 rfl) ?_
    refine lv_aload_n hx hb dX9_groomHorse_15 rfl (lv_at hl 0 rfl) ?_
    by_cases k_2 : (Y 20 ((Y 1 0 ((fJ9_floorMod_7cf53 p0 10 : Int32).toNatClampNeg) : Int32).toNatClampNeg) 5) = 0
    · refine nwY_calli (As := []) (rest := [.ref (ad 0 0)]) S (kX2_groom l D C A ad nh nv na Y ((Y 1 0 ((fJ9_floorMod_7cf53 p0 10 : Int32).toNatClampNeg) : Int32).toNatClampNeg) (hI.st (fm_in10 p0) c_1) ) gX9_groomHorse_X2_groom rfl ⟨rfl, rfl⟩ hqX2_groom ⟨Nat.le_of_ble_eq_true rfl, Nat.le_of_ble_eq_true rfl⟩ hK ((nw_recvH hK hN (h := (Y 1 0 ((fJ9_floorMod_7cf53 p0 10 : Int32).toNatClampNeg) : Int32).toNatClampNeg) (hI.st (fm_in10 p0) c_1)).1 k_2) hN hA hS rfl hl.1 rfl (Nat.le_of_ble_eq_true rfl) dX9_groomHorse_16 ⟨Nat.le_of_ble_eq_true rfl, Nat.le_of_ble_eq_true rfl⟩ (fun H locs hN hS => ?_)
      refine nwY_calli (As := [.int ((fX2_groom Y ((Y 1 0 ((fJ9_floorMod_7cf53 p0 10 : Int32).toNatClampNeg) : Int32).toNatClampNeg)).1)]) (rest := []) S (kX9_comeTo l D C A ad nh nv na ((fX2_groom Y ((Y 1 0 ((fJ9_floorMod_7cf53 p0 10 : Int32).toNatClampNeg) : Int32).toNatClampNeg)).2) ((fX2_groom Y ((Y 1 0 ((fJ9_floorMod_7cf53 p0 10 : Int32).toNatClampNeg) : Int32).toNatClampNeg)).1) ) gX9_groomHorse_X9_comeTo rfl ⟨rfl, rfl⟩ hqX9_comeTo ⟨Nat.le_of_ble_eq_true rfl, Nat.le_of_ble_eq_true rfl⟩ hK (nw_recv hK hN (k := 0) (i := 0) ⟨by decide, rfl⟩ rfl rfl) hN hA hS rfl hl.1 rfl (Nat.le_of_ble_eq_true rfl) dX9_groomHorse_19 ⟨Nat.le_of_ble_eq_true rfl, Nat.le_of_ble_eq_true rfl⟩ (fun H locs hN hS => ?_)
      have hf : fX9_groomHorse Y p0 = (0, u3 ((fX2_groom Y ((Y 1 0 ((fJ9_floorMod_7cf53 p0 10 : Int32).toNatClampNeg) : Int32).toNatClampNeg)).2) 0 0 16 ((fX2_groom Y ((Y 1 0 ((fJ9_floorMod_7cf53 p0 10 : Int32).toNatClampNeg) : Int32).toNatClampNeg)).1)) := by unfold fX9_groomHorse; rw [if_neg c_1, if_pos k_2]
      exact W.iret (v := 0) hx hb hr (fun t ht _ => by rw [hf]; exact nw_end hS hN ht) hS.2.2 dX9_groomHorse_22
    · by_cases k_3 : (Y 20 ((Y 1 0 ((fJ9_floorMod_7cf53 p0 10 : Int32).toNatClampNeg) : Int32).toNatClampNeg) 5) = 1
      · refine nwY_callU (As := []) (rest := [.ref (ad 0 0)]) S (kX1_groom l D C A ad nh nv na Y ((Y 1 0 ((fJ9_floorMod_7cf53 p0 10 : Int32).toNatClampNeg) : Int32).toNatClampNeg) (hI.st (fm_in10 p0) c_1) ) (va_cwO 0 hts gX9_groomHorse_X1_groom_u234X1 rfl rfl rfl (List.mem_cons_of_mem _ (List.mem_append_left _ (List.mem_append_left _ (List.mem_append_left _ (List.mem_append_left _ (List.mem_append_left _ (List.mem_of_getElem? (i := 19) rfl))))))) (by decide +kernel) ⟨Nat.le_of_ble_eq_true rfl, Nat.le_of_ble_eq_true rfl⟩) hK ((nw_recvH hK hN (h := (Y 1 0 ((fJ9_floorMod_7cf53 p0 10 : Int32).toNatClampNeg) : Int32).toNatClampNeg) (hI.st (fm_in10 p0) c_1)).2.1 k_3) hN hA hS rfl hl.1 rfl (Nat.le_of_ble_eq_true rfl) dX9_groomHorse_16 ⟨Nat.le_of_ble_eq_true rfl, Nat.le_of_ble_eq_true rfl⟩ (fun H locs hN hS => ?_)
        refine nwY_calli (As := [.int ((fX1_groom Y ((Y 1 0 ((fJ9_floorMod_7cf53 p0 10 : Int32).toNatClampNeg) : Int32).toNatClampNeg)).1)]) (rest := []) S (kX9_comeTo l D C A ad nh nv na ((fX1_groom Y ((Y 1 0 ((fJ9_floorMod_7cf53 p0 10 : Int32).toNatClampNeg) : Int32).toNatClampNeg)).2) ((fX1_groom Y ((Y 1 0 ((fJ9_floorMod_7cf53 p0 10 : Int32).toNatClampNeg) : Int32).toNatClampNeg)).1) ) gX9_groomHorse_X9_comeTo rfl ⟨rfl, rfl⟩ hqX9_comeTo ⟨Nat.le_of_ble_eq_true rfl, Nat.le_of_ble_eq_true rfl⟩ hK (nw_recv hK hN (k := 0) (i := 0) ⟨by decide, rfl⟩ rfl rfl) hN hA hS rfl hl.1 rfl (Nat.le_of_ble_eq_true rfl) dX9_groomHorse_19 ⟨Nat.le_of_ble_eq_true rfl, Nat.le_of_ble_eq_true rfl⟩ (fun H locs hN hS => ?_)
        have hf : fX9_groomHorse Y p0 = (0, u3 ((fX1_groom Y ((Y 1 0 ((fJ9_floorMod_7cf53 p0 10 : Int32).toNatClampNeg) : Int32).toNatClampNeg)).2) 0 0 16 ((fX1_groom Y ((Y 1 0 ((fJ9_floorMod_7cf53 p0 10 : Int32).toNatClampNeg) : Int32).toNatClampNeg)).1)) := by unfold fX9_groomHorse; rw [if_neg c_1, if_neg k_2, if_pos k_3]
        exact W.iret (v := 0) hx hb hr (fun t ht _ => by rw [hf]; exact nw_end hS hN ht) hS.2.2 dX9_groomHorse_22
      · refine nwY_callU (As := []) (rest := [.ref (ad 0 0)]) S (kX3_groom l D C A ad nh nv na Y ((Y 1 0 ((fJ9_floorMod_7cf53 p0 10 : Int32).toNatClampNeg) : Int32).toNatClampNeg) (hI.st (fm_in10 p0) c_1)  k_2 k_3) (va_cwO 0 hts gX9_groomHorse_X3_groom_u234X3 rfl rfl rfl (List.mem_cons_of_mem _ (List.mem_append_left _ (List.mem_append_left _ (List.mem_append_left _ (List.mem_append_left _ (List.mem_append_left _ (List.mem_of_getElem? (i := 19) rfl))))))) (by decide +kernel) ⟨Nat.le_of_ble_eq_true rfl, Nat.le_of_ble_eq_true rfl⟩) hK ((nw_recvH hK hN (h := (Y 1 0 ((fJ9_floorMod_7cf53 p0 10 : Int32).toNatClampNeg) : Int32).toNatClampNeg) (hI.st (fm_in10 p0) c_1)).2.2 k_2 k_3) hN hA hS rfl hl.1 rfl (Nat.le_of_ble_eq_true rfl) dX9_groomHorse_16 ⟨Nat.le_of_ble_eq_true rfl, Nat.le_of_ble_eq_true rfl⟩ (fun H locs hN hS => ?_)
        refine nwY_calli (As := [.int ((fX3_groom Y ((Y 1 0 ((fJ9_floorMod_7cf53 p0 10 : Int32).toNatClampNeg) : Int32).toNatClampNeg)).1)]) (rest := []) S (kX9_comeTo l D C A ad nh nv na ((fX3_groom Y ((Y 1 0 ((fJ9_floorMod_7cf53 p0 10 : Int32).toNatClampNeg) : Int32).toNatClampNeg)).2) ((fX3_groom Y ((Y 1 0 ((fJ9_floorMod_7cf53 p0 10 : Int32).toNatClampNeg) : Int32).toNatClampNeg)).1) ) gX9_groomHorse_X9_comeTo rfl ⟨rfl, rfl⟩ hqX9_comeTo ⟨Nat.le_of_ble_eq_true rfl, Nat.le_of_ble_eq_true rfl⟩ hK (nw_recv hK hN (k := 0) (i := 0) ⟨by decide, rfl⟩ rfl rfl) hN hA hS rfl hl.1 rfl (Nat.le_of_ble_eq_true rfl) dX9_groomHorse_19 ⟨Nat.le_of_ble_eq_true rfl, Nat.le_of_ble_eq_true rfl⟩ (fun H locs hN hS => ?_)
        have hf : fX9_groomHorse Y p0 = (0, u3 ((fX3_groom Y ((Y 1 0 ((fJ9_floorMod_7cf53 p0 10 : Int32).toNatClampNeg) : Int32).toNatClampNeg)).2) 0 0 16 ((fX3_groom Y ((Y 1 0 ((fJ9_floorMod_7cf53 p0 10 : Int32).toNatClampNeg) : Int32).toNatClampNeg)).1)) := by unfold fX9_groomHorse; rw [if_neg c_1, if_neg k_2, if_neg k_3]
        exact W.iret (v := 0) hx hb hr (fun t ht _ => by rw [hf]; exact nw_end hS hN ht) hS.2.2 dX9_groomHorse_22
set_option maxHeartbeats 4000000 in
set_option maxRecDepth 100000 in
theorem kX9_workInShed (l : Launch) (D : va_G) (C : Nat → ClassId) (A : Nat → Prop) (ad : Nat → Nat → Nat) (nh nv na : Nat) (Y : Nat → Nat → Nat → Int32) (p0 p1 : Int32) (kk : Nat) (hI : InvY nh nv na kk Y) : Met l yX9_workInShed wsX9_workInShed ({ frames := 2, cells := 0, slots := 0, locals := 43 }) (va_Pc [.ref (ad 0 0), .int p0, .int p1] (PW D C A (nw D (enY C) (domY nh nv na) A ad Y))) (nQ A (some (.int (fX9_workInShed Y p0 p1).1)) (nw D (enY C) (domY nh nv na) A ad (fX9_workInShed Y p0 p1).2)) 0 0 A := by
  refine Met.ofW (cc := cX9_workInShed) (maxL := 4) (ret := (some .int)) (by decide) rfl ?_
  intro p e s m args below meth c s₁ B hml hv
  obtain ⟨rfl, hK, hN, hA⟩ := hv
  have hx := B.exec
  have hb := B.bytes
  have hr := B.returns
  have hts := atoms_spec (ws := wsX9_workInShed) B.pre
  have hown : s.vm.findClass RX9 = some m.cls := findClass_of_methodNamed B.named
  have hlocks := B.notSynchronized
  have S : CallFix p m c cX9_workInShed 4 s _ wsX9_workInShed RX9 := ⟨hx, hb, hml, hown, hts⟩
  have hin9 : ∀ w ∈ wsX90, w ∈ wsX9_workInShed := (fun _ h => List.mem_cons_of_mem _ (List.mem_append_left _ (List.mem_append_left _ (List.mem_append_left _ (List.mem_append_left _ (List.mem_append_right _ (h)))))))
  have hin7 : ∀ w ∈ wsX70, w ∈ wsX9_workInShed := (fun _ h => List.mem_cons_of_mem _ (List.mem_append_right _ (h)))
  have hin1 : ∀ w ∈ wsX10, w ∈ wsX9_workInShed := (fun _ h => List.mem_cons_of_mem _ (List.mem_append_left _ (List.mem_append_left _ (List.mem_append_left _ (List.mem_append_right _ (h))))))
  have hin2 : ∀ w ∈ wsX20, w ∈ wsX9_workInShed := (fun _ h => List.mem_cons_of_mem _ (List.mem_append_left _ (List.mem_append_left _ (List.mem_append_right _ (h)))))
  have hin3 : ∀ w ∈ wsX30, w ∈ wsX9_workInShed := (fun _ h => List.mem_cons_of_mem _ (List.mem_append_left _ (List.mem_append_right _ (h))))
  have hS : va_S A s.heap s.heap [] := va_S.rf
  have hl := lv_entry ([.ref (ad 0 0), .int p0, .int p1]) (n := 4) (Nat.le_of_ble_eq_true rfl)
  rw [lg_entry_eq]
  generalize (lg_sl ([.ref (ad 0 0), .int p0, .int p1]) ++ List.replicate (4 - (lg_sl ([.ref (ad 0 0), .int p0, .int p1])).length) Slot.unset).toArray = ls at hl ⊢
  have hl : lv_has ls 4 [(0, .ref (ad 0 0)), (1, .int p0), (2, .int p1)] := hl
  refine lv_aload_n hx hb dX9_workInShed_0 rfl (lv_at hl 0 rfl) ?_
  refine lv_iload_n hx hb dX9_workInShed_1 rfl (lv_at hl 1 rfl) ?_
  refine nwY_calli (As := [.int p0]) (rest := []) S (kX9_workerAt l D C A ad nh nv na Y p0 ) gX9_workInShed_X9_workerAt rfl ⟨rfl, rfl⟩ hqX9_workerAt ⟨Nat.le_of_ble_eq_true rfl, Nat.le_of_ble_eq_true rfl⟩ hK (nw_recv hK hN (k := 0) (i := 0) ⟨by decide, rfl⟩ rfl rfl) hN hA hS rfl hl.1 rfl (Nat.le_of_ble_eq_true rfl) dX9_workInShed_2 ⟨Nat.le_of_ble_eq_true rfl, Nat.le_of_ble_eq_true rfl⟩ (fun H locs hN hS => ?_)
  by_cases c_1 : (Y 2 0 ((fJ9_floorMod_7cf53 p0 6 : Int32).toNatClampNeg)) < 0
  · rw [oW_n c_1]
    refine lv_astore_nN (lv' := [(3, .null), (0, .ref (ad 0 0)), (1, .int p0), (2, .int p1)]) hx hb dX9_workInShed_5 rfl hl (by decide) rfl (fun ls hl => ?_)
    refine lv_aload_nN hx hb dX9_workInShed_6 rfl (lv_at hl 0 rfl) ?_
    refine lv_ifnonnullN hx hb dX9_workInShed_7 ?_
    refine lv_iconst (v := 1) hx hb dX9_workInShed_10 (by decide) ?_
    refine lv_goto (tgt := 23) hx hb dX9_workInShed_11 (by decide) ?_
    have hf : fX9_workInShed Y p0 p1 = (1, Y) := by unfold fX9_workInShed; rw [if_pos c_1]
    exact W.iret (v := 1) hx hb hr (fun t ht _ => by rw [hf]; exact nw_end hS hN ht) hS.2.2 dX9_workInShed_23
  · by_cases c_2 : (Y 2 0 ((fJ9_floorMod_7cf53 p0 6 : Int32).toNatClampNeg)) < 100
    · rw [oW_h c_1 c_2]
      refine lv_astore_n (lv' := [(3, .ref (ad 20 ((Y 2 0 ((fJ9_floorMod_7cf53 p0 6 : Int32).toNatClampNeg) : Int32).toNatClampNeg))), (0, .ref (ad 0 0)), (1, .int p0), (2, .int p1)]) hx hb dX9_workInShed_5 rfl hl (by decide) rfl (fun ls hl => ?_)
      refine lv_aload_n hx hb dX9_workInShed_6 rfl (lv_at hl 0 rfl) ?_
      refine lv_ifnonnull (tgt := 14) hx hb dX9_workInShed_7 (by decide) ?_
      refine lv_aload_n hx hb dX9_workInShed_14 rfl (lv_at hl 1 rfl) ?_
      refine lv_aload_n hx hb dX9_workInShed_15 rfl (lv_at hl 0 rfl) ?_
      refine lv_iload_n hx hb dX9_workInShed_16 rfl (lv_at hl 3 rfl) ?_
      by_cases k_3 : (Y 20 ((Y 2 0 ((fJ9_floorMod_7cf53 p0 6 : Int32).toNatClampNeg) : Int32).toNatClampNeg) 5) = 0
      · refine nwY_callU (As := [.int p1]) (rest := [.ref (ad 0 0)]) S (kX2_workFor l D C A ad nh nv na Y ((Y 2 0 ((fJ9_floorMod_7cf53 p0 6 : Int32).toNatClampNeg) : Int32).toNatClampNeg) (hI.sh (fm_in6 p0) c_1 c_2) p1) (va_cwA 1 hts gX9_workInShed_X2_workFor_u241X2 rfl rfl rfl hK.2.2.2.2.2.2 (by decide +kernel) ⟨Nat.le_of_ble_eq_true rfl, Nat.le_of_ble_eq_true rfl⟩) hK ((nw_recvH hK hN (h := (Y 2 0 ((fJ9_floorMod_7cf53 p0 6 : Int32).toNatClampNeg) : Int32).toNatClampNeg) (hI.sh (fm_in6 p0) c_1 c_2)).1 k_3) hN hA hS rfl hl.1 rfl (Nat.le_of_ble_eq_true rfl) dX9_workInShed_17 ⟨Nat.le_of_ble_eq_true rfl, Nat.le_of_ble_eq_true rfl⟩ (fun H locs hN hS => ?_)
        refine nwY_calli (As := [.int ((fX2_workFor Y ((Y 2 0 ((fJ9_floorMod_7cf53 p0 6 : Int32).toNatClampNeg) : Int32).toNatClampNeg) p1).1)]) (rest := []) S (kX9_comeTo l D C A ad nh nv na ((fX2_workFor Y ((Y 2 0 ((fJ9_floorMod_7cf53 p0 6 : Int32).toNatClampNeg) : Int32).toNatClampNeg) p1).2) ((fX2_workFor Y ((Y 2 0 ((fJ9_floorMod_7cf53 p0 6 : Int32).toNatClampNeg) : Int32).toNatClampNeg) p1).1) ) gX9_workInShed_X9_comeTo rfl ⟨rfl, rfl⟩ hqX9_comeTo ⟨Nat.le_of_ble_eq_true rfl, Nat.le_of_ble_eq_true rfl⟩ hK (nw_recv hK hN (k := 0) (i := 0) ⟨by decide, rfl⟩ rfl rfl) hN hA hS rfl hl.1 rfl (Nat.le_of_ble_eq_true rfl) dX9_workInShed_20 ⟨Nat.le_of_ble_eq_true rfl, Nat.le_of_ble_eq_true rfl⟩ (fun H locs hN hS => ?_)
        have hf : fX9_workInShed Y p0 p1 = (0, u3 ((fX2_workFor Y ((Y 2 0 ((fJ9_floorMod_7cf53 p0 6 : Int32).toNatClampNeg) : Int32).toNatClampNeg) p1).2) 0 0 16 ((fX2_workFor Y ((Y 2 0 ((fJ9_floorMod_7cf53 p0 6 : Int32).toNatClampNeg) : Int32).toNatClampNeg) p1).1)) := by unfold fX9_workInShed; rw [if_neg c_1, if_pos c_2, if_pos k_3]
        exact W.iret (v := 0) hx hb hr (fun t ht _ => by rw [hf]; exact nw_end hS hN ht) hS.2.2 dX9_workInShed_23
      · by_cases k_4 : (Y 20 ((Y 2 0 ((fJ9_floorMod_7cf53 p0 6 : Int32).toNatClampNeg) : Int32).toNatClampNeg) 5) = 1
        · refine nwY_callU (As := [.int p1]) (rest := [.ref (ad 0 0)]) S (kX1_workFor l D C A ad nh nv na Y ((Y 2 0 ((fJ9_floorMod_7cf53 p0 6 : Int32).toNatClampNeg) : Int32).toNatClampNeg) (hI.sh (fm_in6 p0) c_1 c_2) p1) (va_cwA 1 hts gX9_workInShed_X1_workFor_u241X1 rfl rfl rfl hK.2.2.2.2.2.2 (by decide +kernel) ⟨Nat.le_of_ble_eq_true rfl, Nat.le_of_ble_eq_true rfl⟩) hK ((nw_recvH hK hN (h := (Y 2 0 ((fJ9_floorMod_7cf53 p0 6 : Int32).toNatClampNeg) : Int32).toNatClampNeg) (hI.sh (fm_in6 p0) c_1 c_2)).2.1 k_4) hN hA hS rfl hl.1 rfl (Nat.le_of_ble_eq_true rfl) dX9_workInShed_17 ⟨Nat.le_of_ble_eq_true rfl, Nat.le_of_ble_eq_true rfl⟩ (fun H locs hN hS => ?_)
          refine nwY_calli (As := [.int ((fX1_workFor Y ((Y 2 0 ((fJ9_floorMod_7cf53 p0 6 : Int32).toNatClampNeg) : Int32).toNatClampNeg) p1).1)]) (rest := []) S (kX9_comeTo l D C A ad nh nv na ((fX1_workFor Y ((Y 2 0 ((fJ9_floorMod_7cf53 p0 6 : Int32).toNatClampNeg) : Int32).toNatClampNeg) p1).2) ((fX1_workFor Y ((Y 2 0 ((fJ9_floorMod_7cf53 p0 6 : Int32).toNatClampNeg) : Int32).toNatClampNeg) p1).1) ) gX9_workInShed_X9_comeTo rfl ⟨rfl, rfl⟩ hqX9_comeTo ⟨Nat.le_of_ble_eq_true rfl, Nat.le_of_ble_eq_true rfl⟩ hK (nw_recv hK hN (k := 0) (i := 0) ⟨by decide, rfl⟩ rfl rfl) hN hA hS rfl hl.1 rfl (Nat.le_of_ble_eq_true rfl) dX9_workInShed_20 ⟨Nat.le_of_ble_eq_true rfl, Nat.le_of_ble_eq_true rfl⟩ (fun H locs hN hS => ?_)
          have hf : fX9_workInShed Y p0 p1 = (0, u3 ((fX1_workFor Y ((Y 2 0 ((fJ9_floorMod_7cf53 p0 6 : Int32).toNatClampNeg) : Int32).toNatClampNeg) p1).2) 0 0 16 ((fX1_workFor Y ((Y 2 0 ((fJ9_floorMod_7cf53 p0 6 : Int32).toNatClampNeg) : Int32).toNatClampNeg) p1).1)) := by unfold fX9_workInShed; rw [if_neg c_1, if_pos c_2, if_neg k_3, if_pos k_4]
          exact W.iret (v := 0) hx hb hr (fun t ht _ => by rw [hf]; exact nw_end hS hN ht) hS.2.2 dX9_workInShed_23
        · refine nwY_callU (As := [.int p1]) (rest := [.ref (ad 0 0)]) S (kX3_workFor l D C A ad nh nv na Y ((Y 2 0 ((fJ9_floorMod_7cf53 p0 6 : Int32).toNatClampNeg) : Int32).toNatClampNeg) (hI.sh (fm_in6 p0) c_1 c_2) p1 k_3 k_4) (va_cwA 1 hts gX9_workInShed_X3_workFor_u241X3 rfl rfl rfl hK.2.2.2.2.2.2 (by decide +kernel) ⟨Nat.le_of_ble_eq_true rfl, Nat.le_of_ble_eq_true rfl⟩) hK ((nw_recvH hK hN (h := (Y 2 0 ((fJ9_floorMod_7cf53 p0 6 : Int32).toNatClampNeg) : Int32).toNatClampNeg) (hI.sh (fm_in6 p0) c_1 c_2)).2.2 k_3 k_4) hN hA hS rfl hl.1 rfl (Nat.le_of_ble_eq_true rfl) dX9_workInShed_17 ⟨Nat.le_of_ble_eq_true rfl, Nat.le_of_ble_eq_true rfl⟩ (fun H locs hN hS => ?_)
          refine nwY_calli (As := [.int ((fX3_workFor Y ((Y 2 0 ((fJ9_floorMod_7cf53 p0 6 : Int32).toNatClampNeg) : Int32).toNatClampNeg) p1).1)]) (rest := []) S (kX9_comeTo l D C A ad nh nv na ((fX3_workFor Y ((Y 2 0 ((fJ9_floorMod_7cf53 p0 6 : Int32).toNatClampNeg) : Int32).toNatClampNeg) p1).2) ((fX3_workFor Y ((Y 2 0 ((fJ9_floorMod_7cf53 p0 6 : Int32).toNatClampNeg) : Int32).toNatClampNeg) p1).1) ) gX9_workInShed_X9_comeTo rfl ⟨rfl, rfl⟩ hqX9_comeTo ⟨Nat.le_of_ble_eq_true rfl, Nat.le_of_ble_eq_true rfl⟩ hK (nw_recv hK hN (k := 0) (i := 0) ⟨by decide, rfl⟩ rfl rfl) hN hA hS rfl hl.1 rfl (Nat.le_of_ble_eq_true rfl) dX9_workInShed_20 ⟨Nat.le_of_ble_eq_true rfl, Nat.le_of_ble_eq_true rfl⟩ (fun H locs hN hS => ?_)
          have hf : fX9_workInShed Y p0 p1 = (0, u3 ((fX3_workFor Y ((Y 2 0 ((fJ9_floorMod_7cf53 p0 6 : Int32).toNatClampNeg) : Int32).toNatClampNeg) p1).2) 0 0 16 ((fX3_workFor Y ((Y 2 0 ((fJ9_floorMod_7cf53 p0 6 : Int32).toNatClampNeg) : Int32).toNatClampNeg) p1).1)) := by unfold fX9_workInShed; rw [if_neg c_1, if_pos c_2, if_neg k_3, if_neg k_4]
          exact W.iret (v := 0) hx hb hr (fun t ht _ => by rw [hf]; exact nw_end hS hN ht) hS.2.2 dX9_workInShed_23
    · rw [oW_w c_1 c_2]
      refine lv_astore_n (lv' := [(3, .ref (ad 21 ((Y 2 0 ((fJ9_floorMod_7cf53 p0 6 : Int32).toNatClampNeg) : Int32).toNatClampNeg - 100))), (0, .ref (ad 0 0)), (1, .int p0), (2, .int p1)]) hx hb dX9_workInShed_5 rfl hl (by decide) rfl (fun ls hl => ?_)
      refine lv_aload_n hx hb dX9_workInShed_6 rfl (lv_at hl 0 rfl) ?_
      refine lv_ifnonnull (tgt := 14) hx hb dX9_workInShed_7 (by decide) ?_
      refine lv_aload_n hx hb dX9_workInShed_14 rfl (lv_at hl 1 rfl) ?_
      refine lv_aload_n hx hb dX9_workInShed_15 rfl (lv_at hl 0 rfl) ?_
      refine lv_iload_n hx hb dX9_workInShed_16 rfl (lv_at hl 3 rfl) ?_
      refine nwY_callU (As := [.int p1]) (rest := [.ref (ad 0 0)]) S (kX7_workFor l D C A ad nh nv na Y ((Y 2 0 ((fJ9_floorMod_7cf53 p0 6 : Int32).toNatClampNeg) : Int32).toNatClampNeg - 100) (hI.sw (fm_in6 p0) c_1 c_2) p1) (va_cwA 1 hts gX9_workInShed_X7_workFor_u241X7 rfl rfl rfl hK.2.2.2.2.2.2 (by decide +kernel) ⟨Nat.le_of_ble_eq_true rfl, Nat.le_of_ble_eq_true rfl⟩) hK (nw_recv hK hN (k := 21) (i := ((Y 2 0 ((fJ9_floorMod_7cf53 p0 6 : Int32).toNatClampNeg) : Int32).toNatClampNeg - 100)) (hI.sw (fm_in6 p0) c_1 c_2) rfl rfl) hN hA hS rfl hl.1 rfl (Nat.le_of_ble_eq_true rfl) dX9_workInShed_17 ⟨Nat.le_of_ble_eq_true rfl, Nat.le_of_ble_eq_true rfl⟩ (fun H locs hN hS => ?_)
      refine nwY_calli (As := [.int ((fX7_workFor Y ((Y 2 0 ((fJ9_floorMod_7cf53 p0 6 : Int32).toNatClampNeg) : Int32).toNatClampNeg - 100) p1).1)]) (rest := []) S (kX9_comeTo l D C A ad nh nv na ((fX7_workFor Y ((Y 2 0 ((fJ9_floorMod_7cf53 p0 6 : Int32).toNatClampNeg) : Int32).toNatClampNeg - 100) p1).2) ((fX7_workFor Y ((Y 2 0 ((fJ9_floorMod_7cf53 p0 6 : Int32).toNatClampNeg) : Int32).toNatClampNeg - 100) p1).1) ) gX9_workInShed_X9_comeTo rfl ⟨rfl, rfl⟩ hqX9_comeTo ⟨Nat.le_of_ble_eq_true rfl, Nat.le_of_ble_eq_true rfl⟩ hK (nw_recv hK hN (k := 0) (i := 0) ⟨by decide, rfl⟩ rfl rfl) hN hA hS rfl hl.1 rfl (Nat.le_of_ble_eq_true rfl) dX9_workInShed_20 ⟨Nat.le_of_ble_eq_true rfl, Nat.le_of_ble_eq_true rfl⟩ (fun H locs hN hS => ?_)
      have hf : fX9_workInShed Y p0 p1 = (0, u3 ((fX7_workFor Y ((Y 2 0 ((fJ9_floorMod_7cf53 p0 6 : Int32).toNatClampNeg) : Int32).toNatClampNeg - 100) p1).2) 0 0 16 ((fX7_workFor Y ((Y 2 0 ((fJ9_floorMod_7cf53 p0 6 : Int32).toNatClampNeg) : Int32).toNatClampNeg - 100) p1).1)) := by unfold fX9_workInShed; rw [if_neg c_1, if_neg c_2]
      exact W.iret (v := 0) hx hb hr (fun t ht _ => by rw [hf]; exact nw_end hS hN ht) hS.2.2 dX9_workInShed_23
