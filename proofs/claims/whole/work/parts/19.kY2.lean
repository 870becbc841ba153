set_option maxHeartbeats 4000000 in
set_option maxRecDepth 100000 in
theorem kX9_askStrengthInShed (l : Launch) (D : va_G) (C : Nat → ClassId) (A : Nat → Prop) (ad : Nat → Nat → Nat) (nh nv na : Nat) (Y : Nat → Nat → Nat → Int32) (p0 : Int32) (kk : Nat) (hI : InvY nh nv na kk Y) : Met l yX9_askStrengthInShed wsX9_askStrengthInShed ({ frames := 2, cells := 0, slots := 0, locals := 43 }) (va_Pc [.ref (ad 0 0), .int p0] (PW D C A (nw D (enY C) (domY nh nv na) A ad Y))) (nQ A (some (.int (fX9_askStrengthInShed Y p0).1)) (nw D (enY C) (domY nh nv na) A ad (fX9_askStrengthInShed Y p0).2)) 0 0 A := by
  refine Met.ofW (cc := cX9_askStrengthInShed) (maxL := 4) (ret := (some .int)) (by decide) rfl ?_
  intro p e s m args below meth c s₁ B hml hv
  obtain ⟨rfl, hK, hN, hA⟩ := hv
  have hx := B.exec
  have hb := B.bytes
  have hr := B.returns
  have hts := atoms_spec (ws := wsX9_askStrengthInShed) B.pre
  have hown : s.vm.findClass RX9 = some m.cls := findClass_of_methodNamed B.named
  have hlocks := B.notSynchronized
  have S : CallFix p m c cX9_askStrengthInShed 4 s _ wsX9_askStrengthInShed RX9 := ⟨hx, hb, hml, hown, hts⟩
  have hin9 : ∀ w ∈ wsX90, w ∈ wsX9_askStrengthInShed := (fun _ h => List.mem_cons_of_mem _ (List.mem_append_right _ (h)))
  have hin1 : ∀ w ∈ wsX10, w ∈ wsX9_askStrengthInShed := (fun _ h => List.mem_cons_of_mem _ (List.mem_append_left _ (List.mem_append_left _ (List.mem_append_left _ (List.mem_append_right _ (h))))))
  have hin2 : ∀ w ∈ wsX20, w ∈ wsX9_askStrengthInShed := (fun _ h => List.mem_cons_of_mem _ (List.mem_append_left _ (List.mem_append_left _ (List.mem_append_right _ (h)))))
  have hin3 : ∀ w ∈ wsX30, w ∈ wsX9_askStrengthInShed := (fun _ h => List.mem_cons_of_mem _ (List.mem_append_left _ (List.mem_append_right _ (h))))
  have hS : va_S A s.heap s.heap [] := va_S.rf
  have hl := lv_entry ([.ref (ad 0 0), .int p0]) (n := 4) (Nat.le_of_ble_eq_true rfl)
  rw [lg_entry_eq]
  generalize (lg_sl ([.ref (ad 0 0), .int p0]) ++ List.replicate (4 - (lg_sl ([.ref (ad 0 0), .int p0])).length) Slot.unset).toArray = ls at hl ⊢
  have hl : lv_has ls 4 [(0, .ref (ad 0 0)), (1, .int p0)] := hl
  refine lv_aload_n hx hb dX9_askStrengthInShed_0 rfl (lv_at hl 0 rfl) ?_
  refine lv_iload_n hx hb dX9_askStrengthInShed_1 rfl (lv_at hl 1 rfl) ?_
  refine nwY_calli (As := [.int p0]) (rest := []) S (kX9_workerAt l D C A ad nh nv na Y p0 ) gX9_askStrengthInShed_X9_workerAt rfl ⟨rfl, rfl⟩ hqX9_workerAt ⟨Nat.le_of_ble_eq_true rfl, Nat.le_of_ble_eq_true rfl⟩ hK (nw_recv hK hN (k := 0) (i := 0) ⟨by decide, rfl⟩ rfl rfl) hN hA hS rfl hl.1 rfl (Nat.le_of_ble_eq_true rfl) dX9_askStrengthInShed_2 ⟨Nat.le_of_ble_eq_true rfl, Nat.le_of_ble_eq_true rfl⟩ (fun H locs hN hS => ?_)
  by_cases c_1 : (Y 2 0 ((fJ9_floorMod_7cf53 p0 6 : Int32).toNatClampNeg)) < 0
  · rw [oW_n c_1]
    refine lv_astore_nN (lv' := [(2, .null), (0, .ref (ad 0 0)), (1, .int p0)]) hx hb dX9_askStrengthInShed_5 rfl hl (by decide) rfl (fun ls hl => ?_)
    refine lv_aload_nN hx hb dX9_askStrengthInShed_6 rfl (lv_at hl 0 rfl) ?_
    refine lv_ifnonnullN hx hb dX9_askStrengthInShed_7 ?_
    refine lv_iconst (v := 1) hx hb dX9_askStrengthInShed_10 (by decide) ?_
    have hf : fX9_askStrengthInShed Y p0 = (1, Y) := by unfold fX9_askStrengthInShed; rw [if_pos c_1]
    exact W.iret (v := 1) hx hb hr (fun t ht _ => by rw [hf]; exact nw_end hS hN ht) hS.2.2 dX9_askStrengthInShed_11
  · by_cases c_2 : (Y 2 0 ((fJ9_floorMod_7cf53 p0 6 : Int32).toNatClampNeg)) < 100
    · rw [oW_h c_1 c_2]
      refine lv_astore_n (lv' := [(2, .ref (ad 20 ((Y 2 0 ((fJ9_floorMod_7cf53 p0 6 : Int32).toNatClampNeg) : Int32).toNatClampNeg))), (0, .ref (ad 0 0)), (1, .int p0)]) hx hb dX9_askStrengthInShed_5 rfl hl (by decide) rfl (fun ls hl => ?_)
      refine lv_aload_n hx hb dX9_askStrengthInShed_6 rfl (lv_at hl 0 rfl) ?_
      refine lv_ifnonnull (tgt := 12) hx hb dX9_askStrengthInShed_7 (by decide) ?_
      refine lv_aload_n hx hb dX9_askStrengthInShed_12 rfl (lv_at hl 0 rfl) ?_
      refine nw_instH S hK hN (h := (Y 2 0 ((fJ9_floorMod_7cf53 p0 6 : Int32).toNatClampNeg) : Int32).toNatClampNeg) (hI.sh (fm_in6 p0) c_1 c_2) (index := 9) (List.mem_cons_of_mem _ (List.mem_append_left _ (List.mem_append_left _ (List.mem_append_left _ (List.mem_append_left _ (List.mem_of_getElem? (i := 0) rfl)))))) dX9_askStrengthInShed_13 ?_
      refine lv_if_eq (x := 1) (tgt := 35) hx hb dX9_askStrengthInShed_16 (by decide) (fun c_3 => by first | exact absurd (by decide) c_3 | exact absurd c_3 (by decide)) (fun c_3 => ?_)
      refine lv_aload_n hx hb dX9_askStrengthInShed_19 rfl (lv_at hl 0 rfl) ?_
      refine nw_castH S hK hN (h := (Y 2 0 ((fJ9_floorMod_7cf53 p0 6 : Int32).toNatClampNeg) : Int32).toNatClampNeg) (hI.sh (fm_in6 p0) c_1 c_2) (index := 9) (List.mem_cons_of_mem _ (List.mem_append_left _ (List.mem_append_left _ (List.mem_append_left _ (List.mem_append_left _ (List.mem_of_getElem? (i := 0) rfl)))))) dX9_askStrengthInShed_20 ?_
      refine lv_astore_n (lv' := [(3, .ref (ad 20 ((Y 2 0 ((fJ9_floorMod_7cf53 p0 6 : Int32).toNatClampNeg) : Int32).toNatClampNeg))), (2, .ref (ad 20 ((Y 2 0 ((fJ9_floorMod_7cf53 p0 6 : Int32).toNatClampNeg) : Int32).toNatClampNeg))), (0, .ref (ad 0 0)), (1, .int p0)]) hx hb dX9_askStrengthInShed_23 rfl hl (by decide) rfl (fun ls hl => ?_)
      refine lv_aload_n hx hb dX9_askStrengthInShed_24 rfl (lv_at hl 2 rfl) ?_
      refine lv_aload_n hx hb dX9_askStrengthInShed_25 rfl (lv_at hl 0 rfl) ?_
      refine nw_getH S hK hN (h := (Y 2 0 ((fJ9_floorMod_7cf53 p0 6 : Int32).toNatClampNeg) : Int32).toNatClampNeg) (hI.sh (fm_in6 p0) c_1 c_2) hin1 hin2 hin3 0 (by decide) (index := 134) (ref := "RidingYard$Horse") (List.mem_cons_of_mem _ (List.mem_append_left _ (List.mem_append_left _ (List.mem_append_left _ (List.mem_append_left _ (List.mem_of_getElem? (i := 1) rfl)))))) (fun _ h => h) dX9_askStrengthInShed_26 ?_
      refine nwY_calli (As := [.int (Y 20 ((Y 2 0 ((fJ9_floorMod_7cf53 p0 6 : Int32).toNatClampNeg) : Int32).toNatClampNeg) 0)]) (rest := []) S (kX9_comeTo l D C A ad nh nv na Y (Y 20 ((Y 2 0 ((fJ9_floorMod_7cf53 p0 6 : Int32).toNatClampNeg) : Int32).toNatClampNeg) 0) ) gX9_askStrengthInShed_X9_comeTo rfl ⟨rfl, rfl⟩ hqX9_comeTo ⟨Nat.le_of_ble_eq_true rfl, Nat.le_of_ble_eq_true rfl⟩ hK (nw_recv hK hN (k := 0) (i := 0) ⟨by decide, rfl⟩ rfl rfl) hN hA hS rfl hl.1 rfl (Nat.le_of_ble_eq_true rfl) dX9_askStrengthInShed_29 ⟨Nat.le_of_ble_eq_true rfl, Nat.le_of_ble_eq_true rfl⟩ (fun H locs hN hS => ?_)
      refine lv_goto (tgt := 36) hx hb dX9_askStrengthInShed_32 (by decide) ?_
      have hf : fX9_askStrengthInShed Y p0 = (0, u3 Y 0 0 16 (Y 20 ((Y 2 0 ((fJ9_floorMod_7cf53 p0 6 : Int32).toNatClampNeg) : Int32).toNatClampNeg) 0)) := by unfold fX9_askStrengthInShed; rw [if_neg c_1, if_pos c_2]
      exact W.iret (v := 0) hx hb hr (fun t ht _ => by rw [hf]; exact nw_end hS hN ht) hS.2.2 dX9_askStrengthInShed_36
    · rw [oW_w c_1 c_2]
      refine lv_astore_n (lv' := [(2, .ref (ad 21 ((Y 2 0 ((fJ9_floorMod_7cf53 p0 6 : Int32).toNatClampNeg) : Int32).toNatClampNeg - 100))), (0, .ref (ad 0 0)), (1, .int p0)]) hx hb dX9_askStrengthInShed_5 rfl hl (by decide) rfl (fun ls hl => ?_)
      refine lv_aload_n hx hb dX9_askStrengthInShed_6 rfl (lv_at hl 0 rfl) ?_
      refine lv_ifnonnull (tgt := 12) hx hb dX9_askStrengthInShed_7 (by decide) ?_
      refine lv_aload_n hx hb dX9_askStrengthInShed_12 rfl (lv_at hl 0 rfl) ?_
      refine nw_instW S hK hN (h := ((Y 2 0 ((fJ9_floorMod_7cf53 p0 6 : Int32).toNatClampNeg) : Int32).toNatClampNeg - 100)) (hI.sw (fm_in6 p0) c_1 c_2) (index := 9) (List.mem_cons_of_mem _ (List.mem_append_left _ (List.mem_append_left _ (List.mem_append_left _ (List.mem_append_left _ (List.mem_of_getElem? (i := 0) rfl)))))) dX9_askStrengthInShed_13 ?_
      refine lv_if_eq (x := 0) (tgt := 35) hx hb dX9_askStrengthInShed_16 (by decide) (fun c_4 => ?_) (fun c_4 => by first | exact absurd (by decide) c_4 | exact absurd c_4 (by decide))
      refine lv_iconst (v := 3) hx hb dX9_askStrengthInShed_35 (by decide) ?_
      have hf : fX9_askStrengthInShed Y p0 = (3, Y) := by unfold fX9_askStrengthInShed; rw [if_neg c_1, if_neg c_2]
      exact W.iret (v := 3) hx hb hr (fun t ht _ => by rw [hf]; exact nw_end hS hN ht) hS.2.2 dX9_askStrengthInShed_36
set_option maxHeartbeats 4000000 in
set_option maxRecDepth 100000 in
theorem kX9_askRugOfHunter (l : Launch) (D : va_G) (C : Nat → ClassId) (A : Nat → Prop) (ad : Nat → Nat → Nat) (nh nv na : Nat) (Y : Nat → Nat → Nat → Int32) (p0 : Int32) (kk : Nat) (hI : InvY nh nv na kk Y) : Met l yX9_askRugOfHunter wsX9_askRugOfHunter ({ frames := 2, cells := 0, slots := 0, locals := 43 }) (va_Pc [.ref (ad 0 0), .int p0] (PW D C A (nw D (enY C) (domY nh nv na) A ad Y))) (nQ A (some (.int (fX9_askRugOfHunter Y p0).1)) (nw D (enY C) (domY nh nv na) A ad (fX9_askRugOfHunter Y p0).2)) 0 0 A := by
  refine Met.ofW (cc := cX9_askRugOfHunter) (maxL := 3) (ret := (some .int)) (by decide) rfl ?_
  intro p e s m args below meth c s₁ B hml hv
  obtain ⟨rfl, hK, hN, hA⟩ := hv
  have hx := B.exec
  have hb := B.bytes
  have hr := B.returns
  have hts := atoms_spec (ws := wsX9_askRugOfHunter) B.pre
  have hown : s.vm.findClass RX9 = some m.cls := findClass_of_methodNamed B.named
  have hlocks := B.notSynchronized
  have S : CallFix p m c cX9_askRugOfHunter 3 s _ wsX9_askRugOfHunter RX9 := ⟨hx, hb, hml, hown, hts⟩
  have hin9 : ∀ w ∈ wsX90, w ∈ wsX9_askRugOfHunter := (fun _ h => List.mem_cons_of_mem _ (List.mem_append_right _ (h)))
  have hin1 : ∀ w ∈ wsX10, w ∈ wsX9_askRugOfHunter := (fun _ h => List.mem_cons_of_mem _ (List.mem_append_left _ (List.mem_append_left _ (List.mem_append_left _ (List.mem_append_right _ (h))))))
  have hin2 : ∀ w ∈ wsX20, w ∈ wsX9_askRugOfHunter := (fun _ h => List.mem_cons_of_mem _ (List.mem_append_left _ (List.mem_append_left _ (List.mem_append_right _ (h)))))
  have hin3 : ∀ w ∈ wsX30, w ∈ wsX9_askRugOfHunter := (fun _ h => List.mem_cons_of_mem _ (List.mem_append_left _ (List.mem_append_right _ (h))))
  have hS : va_S A s.heap s.heap [] := va_S.rf
  have hl := lv_entry ([.ref (ad 0 0), .int p0]) (n := 3) (Nat.le_of_ble_eq_true rfl)
  rw [lg_entry_eq]
  generalize (lg_sl ([.ref (ad 0 0), .int p0]) ++ List.replicate (3 - (lg_sl ([.ref (ad 0 0), .int p0])).length) Slot.unset).toArray = ls at hl ⊢
  have hl : lv_has ls 3 [(0, .ref (ad 0 0)), (1, .int p0)] := hl
  refine lv_aload_n hx hb dX9_askRugOfHunter_0 rfl (lv_at hl 0 rfl) ?_
  refine lv_iload_n hx hb dX9_askRugOfHunter_1 rfl (lv_at hl 1 rfl) ?_
  refine nwY_calli (As := [.int p0]) (rest := []) S (kX9_horseAt l D C A ad nh nv na Y p0 ) gX9_askRugOfHunter_X9_horseAt rfl ⟨rfl, rfl⟩ hqX9_horseAt ⟨Nat.le_of_ble_eq_true rfl, Nat.le_of_ble_eq_true rfl⟩ hK (nw_recv hK hN (k := 0) (i := 0) ⟨by decide, rfl⟩ rfl rfl) hN hA hS rfl hl.1 rfl (Nat.le_of_ble_eq_true rfl) dX9_askRugOfHunter_2 ⟨Nat.le_of_ble_eq_true rfl, Nat.le_of_ble_eq_true rfl⟩ (fun H locs hN hS => ?_)
  by_cases c_1 : (Y 1 0 ((fJ9_floorMod_7cf53 p0 10 : Int32).toNatClampNeg)) < 0
  · rw [oH_n c_1]
    refine lv_astore_nN (lv' := [(2, .null), (0, .ref (ad 0 0)), (1, .int p0)]) hx hb dX9_askRugOfHunter_5 rfl hl (by decide) rfl (fun ls hl => ?_)
    refine lv_aload_nN hx hb dX9_askRugOfHunter_6 rfl (lv_at hl 0 rfl) ?_
    refine lv_ifnonnullN hx hb dX9_askRugOfHunter_7 ?_
    refine lv_iconst (v := 1) hx hb dX9_askRugOfHunter_10 (by decide) ?_
    have hf : fX9_askRugOfHunter Y p0 = (1, Y) := by unfold fX9_askRugOfHunter; rw [if_pos c_1]
    exact W.iret (v := 1) hx hb hr (fun t ht _ => by rw [hf]; exact nw_end hS hN ht) hS.2.2 dX9_askRugOfHunter_11
  · rw [oH_s c_1]
    refine lv_astore_n (lv' := [(2, .ref (ad 20 ((Y 1 0 ((fJ9_floorMod_7cf53 p0 10 : Int32).toNatClampNeg) : Int32).toNatClampNeg))), (0, .ref (ad 0 0)), (1, .int p0)]) hx hb dX9_askRugOfHunter_5 rfl hl (by decide) rfl (fun ls hl => ?_)
    refine lv_aload_n hx hb dX9_askRugOfHunter_6 rfl (lv_at hl 0 rfl) ?_
    refine lv_ifnonnull (tgt := 12) hx hb dX9_askRugOfHunter_7 (by decide) ?_
    refine lv_aload_n hx hb dX9_askRugOfHunter_12 rfl (lv_at hl 0 rfl) ?_
    refine nw_instU S hK hN (h := (Y 1 0 ((fJ9_floorMod_7cf53 p0 10 : Int32).toNatClampNeg) : Int32).toNatClampNeg) (hI.st (fm_in10 p0) c_1) (index := 156) (List.mem_cons_of_mem _ (List.mem_append_left _ (List.mem_append_left _ (List.mem_append_left _ (List.mem_append_left _ (List.mem_of_getElem? (i := 0) rfl)))))) dX9_askRugOfHunter_13 ?_
    refine lv_if_eq (x := isHu (Y 20 ((Y 1 0 ((fJ9_floorMod_7cf53 p0 10 : Int32).toNatClampNeg) : Int32).toNatClampNeg) 5)) (tgt := 30) hx hb dX9_askRugOfHunter_16 (by decide) (fun c_2 => ?_) (fun c_2 => ?_)
    · refine lv_iconst (v := 3) hx hb dX9_askRugOfHunter_30 (by decide) ?_
      have hf : fX9_askRugOfHunter Y p0 = (3, Y) := by unfold fX9_askRugOfHunter; rw [if_neg c_1, if_pos c_2]
      exact W.iret (v := 3) hx hb hr (fun t ht _ => by rw [hf]; exact nw_end hS hN ht) hS.2.2 dX9_askRugOfHunter_31
    · refine lv_aload_n hx hb dX9_askRugOfHunter_19 rfl (lv_at hl 1 rfl) ?_
      refine lv_aload_n hx hb dX9_askRugOfHunter_20 rfl (lv_at hl 0 rfl) ?_
      refine nw_getH S hK hN (h := (Y 1 0 ((fJ9_floorMod_7cf53 p0 10 : Int32).toNatClampNeg) : Int32).toNatClampNeg) (hI.st (fm_in10 p0) c_1) hin1 hin2 hin3 2 (by decide) (index := 140) (ref := "RidingYard$Horse") (List.mem_cons_of_mem _ (List.mem_append_left _ (List.mem_append_left _ (List.mem_append_left _ (List.mem_append_left _ (List.mem_of_getElem? (i := 1) rfl)))))) (fun _ h => h) dX9_askRugOfHunter_21 ?_
      refine nwY_calli (As := [.int (Y 20 ((Y 1 0 ((fJ9_floorMod_7cf53 p0 10 : Int32).toNatClampNeg) : Int32).toNatClampNeg) 2)]) (rest := []) S (kX9_comeTo l D C A ad nh nv na Y (Y 20 ((Y 1 0 ((fJ9_floorMod_7cf53 p0 10 : Int32).toNatClampNeg) : Int32).toNatClampNeg) 2) ) gX9_askRugOfHunter_X9_comeTo rfl ⟨rfl, rfl⟩ hqX9_comeTo ⟨Nat.le_of_ble_eq_true rfl, Nat.le_of_ble_eq_true rfl⟩ hK (nw_recv hK hN (k := 0) (i := 0) ⟨by decide, rfl⟩ rfl rfl) hN hA hS rfl hl.1 rfl (Nat.le_of_ble_eq_true rfl) dX9_askRugOfHunter_24 ⟨Nat.le_of_ble_eq_true rfl, Nat.le_of_ble_eq_true rfl⟩ (fun H locs hN hS => ?_)
      refine lv_goto (tgt := 31) hx hb dX9_askRugOfHunter_27 (by decide) ?_
      have hf : fX9_askRugOfHunter Y p0 = (0, u3 Y 0 0 16 (Y 20 ((Y 1 0 ((fJ9_floorMod_7cf53 p0 10 : Int32).toNatClampNeg) : Int32).toNatClampNeg) 2)) := by unfold fX9_askRugOfHunter; rw [if_neg c_1, if_neg c_2]
      exact W.iret (v := 0) hx hb hr (fun t ht _ => by rw [hf]; exact nw_end hS hN ht) hS.2.2 dX9_askRugOfHunter_31
set_option maxHeartbeats 4000000 in
set_option maxRecDepth 100000 in
theorem kX9_putInTeam (l : Launch) (D : va_G) (C : Nat → ClassId) (A : Nat → Prop) (ad : Nat → Nat → Nat) (nh nv na : Nat) (Y : Nat → Nat → Nat → Int32) (p0 p1 p2 : Int32) (kk : Nat) (hI : InvY nh nv na kk Y) : Met l yX9_putInTeam wsX9_putInTeam ({ frames := 2, cells := 0, slots := 0, locals := 43 }) (va_Pc [.ref (ad 0 0), .int p0, .int p1, .int p2] (PW D C A (nw D (enY C) (domY nh nv na) A ad Y))) (nQ A (some (.int (fX9_putInTeam Y p0 p1 p2).1)) (nw D (enY C) (domY nh nv na) A ad (fX9_putInTeam Y p0 p1 p2).2)) 0 0 A := by
  refine Met.ofW (cc := cX9_putInTeam) (maxL := 6) (ret := (some .int)) (by decide) rfl ?_
  intro p e s m args below meth c s₁ B hml hv
  obtain ⟨rfl, hK, hN, hA⟩ := hv
  have hx := B.exec
  have hb := B.bytes
  have hr := B.returns
  have hts := atoms_spec (ws := wsX9_putInTeam) B.pre
  have hown : s.vm.findClass RX9 = some m.cls := findClass_of_methodNamed B.named
  have hlocks := B.notSynchronized
  have S : CallFix p m c cX9_putInTeam 6 s _ wsX9_putInTeam RX9 := ⟨hx, hb, hml, hown, hts⟩
  have hin9 : ∀ w ∈ wsX90, w ∈ wsX9_putInTeam := (fun _ h => List.mem_cons_of_mem _ (List.mem_append_right _ (h)))
  have hin6 : ∀ w ∈ wsX60, w ∈ wsX9_putInTeam := (fun _ h => List.mem_cons_of_mem _ (List.mem_append_left _ (List.mem_append_right _ (h))))
  have hS : va_S A s.heap s.heap [] := va_S.rf
  have hl := lv_entry ([.ref (ad 0 0), .int p0, .int p1, .int p2]) (n := 6) (Nat.le_of_ble_eq_true rfl)
  rw [lg_entry_eq]
  generalize (lg_sl ([.ref (ad 0 0), .int p0, .int p1, .int p2]) ++ List.replicate (6 - (lg_sl ([.ref (ad 0 0), .int p0, .int p1, .int p2])).length) Slot.unset).toArray = ls at hl ⊢
  have hl : lv_has ls 6 [(0, .ref (ad 0 0)), (1, .int p0), (2, .int p1), (3, .int p2)] := hl
  refine lv_aload_n hx hb dX9_putInTeam_0 rfl (lv_at hl 0 rfl) ?_
  refine lv_iload_n hx hb dX9_putInTeam_1 rfl (lv_at hl 1 rfl) ?_
  refine nwY_calli (As := [.int p0]) (rest := []) S (kX9_teamAt l D C A ad nh nv na Y p0 ) gX9_putInTeam_X9_teamAt rfl ⟨rfl, rfl⟩ hqX9_teamAt ⟨Nat.le_of_ble_eq_true rfl, Nat.le_of_ble_eq_true rfl⟩ hK (nw_recv hK hN (k := 0) (i := 0) ⟨by decide, rfl⟩ rfl rfl) hN hA hS rfl hl.1 rfl (Nat.le_of_ble_eq_true rfl) dX9_putInTeam_2 ⟨Nat.le_of_ble_eq_true rfl, Nat.le_of_ble_eq_true rfl⟩ (fun H locs hN hS => ?_)
  refine lv_astore (lv' := [(4, .ref (ad 12 ((fJ9_floorMod_7cf53 p0 6 : Int32).toNatClampNeg))), (0, .ref (ad 0 0)), (1, .int p0), (2, .int p1), (3, .int p2)]) hx hb dX9_putInTeam_5 hl (by decide) rfl (fun ls hl => ?_)
  refine lv_aload hx hb dX9_putInTeam_7 (lv_at hl 0 rfl) ?_
  refine nw_get S hK hN (k := 12) (i := ((fJ9_floorMod_7cf53 p0 6 : Int32).toNatClampNeg)) (vp_lt (fm_in6 p0)) rfl rfl hin6 1 (by decide) (index := 160) (ref := "RidingYard$Team") (List.mem_cons_of_mem _ (List.mem_append_left _ (List.mem_append_left _ (List.mem_append_left _ (List.mem_of_getElem? (i := 0) rfl))))) (fun _ h => h) (v := .int (Y 12 ((fJ9_floorMod_7cf53 p0 6 : Int32).toNatClampNeg) 1)) rfl dX9_putInTeam_9 ?_
  refine lv_if_ne (x := Y 12 ((fJ9_floorMod_7cf53 p0 6 : Int32).toNatClampNeg) 1) (tgt := 17) hx hb dX9_putInTeam_12 (by decide) (fun c_1 => ?_) (fun c_1 => ?_)
  · refine lv_iload_n hx hb dX9_putInTeam_17 rfl (lv_at hl 3 rfl) ?_
    refine lv_aload hx hb dX9_putInTeam_18 (lv_at hl 0 rfl) ?_
    refine nw_get S hK hN (k := 12) (i := ((fJ9_floorMod_7cf53 p0 6 : Int32).toNatClampNeg)) (vp_lt (fm_in6 p0)) rfl rfl hin6 3 (by decide) (index := 254) (ref := "RidingYard$Team") (List.mem_cons_of_mem _ (List.mem_append_left _ (List.mem_append_left _ (List.mem_append_left _ (List.mem_of_getElem? (i := 1) rfl))))) (fun _ h => h) (v := .int (Y 12 ((fJ9_floorMod_7cf53 p0 6 : Int32).toNatClampNeg) 3)) rfl dX9_putInTeam_20 ?_
    refine nw_callS (As := [.int p1, .int (Y 12 ((fJ9_floorMod_7cf53 p0 6 : Int32).toNatClampNeg) 3)]) (rest := []) S (kX9_within l p1 (Y 12 ((fJ9_floorMod_7cf53 p0 6 : Int32).toNatClampNeg) 3)) gX9_putInTeam_X9_within rfl ⟨rfl, rfl⟩ hqX9_within ⟨Nat.le_of_ble_eq_true rfl, Nat.le_of_ble_eq_true rfl⟩ rfl hl.1 rfl (Nat.le_of_ble_eq_true rfl) dX9_putInTeam_23 ⟨Nat.le_of_ble_eq_true rfl, Nat.le_of_ble_eq_true rfl⟩ ?_
    refine lv_if_ne (x := fX9_within p1 (Y 12 ((fJ9_floorMod_7cf53 p0 6 : Int32).toNatClampNeg) 3)) (tgt := 31) hx hb dX9_putInTeam_26 (by decide) (fun c_2 => ?_) (fun c_2 => ?_)
    · refine lv_aload_n hx hb dX9_putInTeam_31 rfl (lv_at hl 1 rfl) ?_
      refine lv_iload_n hx hb dX9_putInTeam_32 rfl (lv_at hl 4 rfl) ?_
      refine nwY_calli (As := [.int p2]) (rest := []) S (kX9_horseAt l D C A ad nh nv na Y p2 ) gX9_putInTeam_X9_horseAt rfl ⟨rfl, rfl⟩ hqX9_horseAt ⟨Nat.le_of_ble_eq_true rfl, Nat.le_of_ble_eq_true rfl⟩ hK (nw_recv hK hN (k := 0) (i := 0) ⟨by decide, rfl⟩ rfl rfl) hN hA hS rfl hl.1 rfl (Nat.le_of_ble_eq_true rfl) dX9_putInTeam_33 ⟨Nat.le_of_ble_eq_true rfl, Nat.le_of_ble_eq_true rfl⟩ (fun H locs hN hS => ?_)
      by_cases c_3 : (Y 1 0 ((fJ9_floorMod_7cf53 p2 10 : Int32).toNatClampNeg)) < 0
      · rw [oH_n c_3]
        refine lv_astoreN (lv' := [(5, .null), (4, .ref (ad 12 ((fJ9_floorMod_7cf53 p0 6 : Int32).toNatClampNeg))), (0, .ref (ad 0 0)), (1, .int p0), (2, .int p1), (3, .int p2)]) hx hb dX9_putInTeam_36 hl (by decide) rfl (fun ls hl => ?_)
        refine lv_aload hx hb dX9_putInTeam_38 (lv_at hl 1 rfl) ?_
        refine lv_aloadN hx hb dX9_putInTeam_40 (lv_at hl 0 rfl) ?_
        refine nwY_calli (As := [.null]) (rest := []) S (kX6_isForN l D C A ad nh nv na Y ((fJ9_floorMod_7cf53 p0 6 : Int32).toNatClampNeg) (vp_lt (fm_in6 p0))) gX9_putInTeam_X6_isFor rfl ⟨rfl, rfl⟩ hqX6_isFor ⟨Nat.le_of_ble_eq_true rfl, Nat.le_of_ble_eq_true rfl⟩ hK (nw_recv hK hN (k := 12) (i := ((fJ9_floorMod_7cf53 p0 6 : Int32).toNatClampNeg)) (vp_lt (fm_in6 p0)) rfl rfl) hN hA hS rfl hl.1 rfl (Nat.le_of_ble_eq_true rfl) dX9_putInTeam_42 ⟨Nat.le_of_ble_eq_true rfl, Nat.le_of_ble_eq_true rfl⟩ (fun H locs hN hS => ?_)
        refine lv_if_ne (x := 1) (tgt := 50) hx hb dX9_putInTeam_45 (by decide) (fun c_4 => ?_) (fun c_4 => by first | exact absurd (by decide) c_4 | exact absurd c_4 (by decide))
        refine lv_aload hx hb dX9_putInTeam_50 (lv_at hl 1 rfl) ?_
        refine nw_get S hK hN (k := 12) (i := ((fJ9_floorMod_7cf53 p0 6 : Int32).toNatClampNeg)) (vp_lt (fm_in6 p0)) rfl rfl hin6 0 (by decide) (index := 261) (ref := "RidingYard$Team") (List.mem_cons_of_mem _ (List.mem_append_left _ (List.mem_append_left _ (List.mem_append_left _ (List.mem_of_getElem? (i := 2) rfl))))) (fun _ h => h) (v := .ref (ad 13 ((fJ9_floorMod_7cf53 p0 6 : Int32).toNatClampNeg))) rfl dX9_putInTeam_52 ?_
        refine lv_iload_n hx hb dX9_putInTeam_55 rfl (lv_at hl 4 rfl) ?_
        refine lv_aloadN hx hb dX9_putInTeam_56 (lv_at hl 0 rfl) ?_
        refine nw_aastN S hK hN hS (k := 13) (i := ((fJ9_floorMod_7cf53 p0 6 : Int32).toNatClampNeg)) (vp_lt (fm_in6 p0)) 2 rfl (g := oH ad) (fun _ => rfl) (x := p1) (Y 1 0 ((fJ9_floorMod_7cf53 p2 10 : Int32).toNatClampNeg)) (oH_0 c_3) (hI.tb (vp_lt (fm_in6 p0)) c_2) dX9_putInTeam_58 (fun H locs hN hz hS => ?_)
        refine lv_aload_n hx hb dX9_putInTeam_59 rfl (lv_at hl 2 rfl) ?_
        refine lv_iconst (v := 1) hx hb dX9_putInTeam_60 (by decide) ?_
        refine nwY_calli (As := [.int 1]) (rest := []) S (kX9_comeTo l D C A ad nh nv na (u3 Y 13 ((fJ9_floorMod_7cf53 p0 6 : Int32).toNatClampNeg) ((p1 : Int32).toNatClampNeg) (Y 1 0 ((fJ9_floorMod_7cf53 p2 10 : Int32).toNatClampNeg))) 1 ) gX9_putInTeam_X9_comeTo rfl ⟨rfl, rfl⟩ hqX9_comeTo ⟨Nat.le_of_ble_eq_true rfl, Nat.le_of_ble_eq_true rfl⟩ hK (nw_recv hK hN (k := 0) (i := 0) ⟨by decide, rfl⟩ rfl rfl) hN hA hS rfl hl.1 rfl (Nat.le_of_ble_eq_true rfl) dX9_putInTeam_61 ⟨Nat.le_of_ble_eq_true rfl, Nat.le_of_ble_eq_true rfl⟩ (fun H locs hN hS => ?_)
        have hf : fX9_putInTeam Y p0 p1 p2 = (0, u3 (u3 Y 13 ((fJ9_floorMod_7cf53 p0 6 : Int32).toNatClampNeg) ((p1 : Int32).toNatClampNeg) (Y 1 0 ((fJ9_floorMod_7cf53 p2 10 : Int32).toNatClampNeg))) 0 0 16 1) := by unfold fX9_putInTeam; rw [if_neg c_1, if_neg c_2, if_pos c_3]
        exact W.iret (v := 0) hx hb hr (fun t ht _ => by rw [hf]; exact nw_end hS hN ht) hS.2.2 dX9_putInTeam_64
      · rw [oH_s c_3]
        refine lv_astore (lv' := [(5, .ref (ad 20 ((Y 1 0 ((fJ9_floorMod_7cf53 p2 10 : Int32).toNatClampNeg) : Int32).toNatClampNeg))), (4, .ref (ad 12 ((fJ9_floorMod_7cf53 p0 6 : Int32).toNatClampNeg))), (0, .ref (ad 0 0)), (1, .int p0), (2, .int p1), (3, .int p2)]) hx hb dX9_putInTeam_36 hl (by decide) rfl (fun ls hl => ?_)
        refine lv_aload hx hb dX9_putInTeam_38 (lv_at hl 1 rfl) ?_
        refine lv_aload hx hb dX9_putInTeam_40 (lv_at hl 0 rfl) ?_
        refine nwY_calli (As := [.ref (ad 20 ((Y 1 0 ((fJ9_floorMod_7cf53 p2 10 : Int32).toNatClampNeg) : Int32).toNatClampNeg))]) (rest := []) S (kX6_isFor l D C A ad nh nv na Y ((fJ9_floorMod_7cf53 p0 6 : Int32).toNatClampNeg) (vp_lt (fm_in6 p0)) ((Y 1 0 ((fJ9_floorMod_7cf53 p2 10 : Int32).toNatClampNeg) : Int32).toNatClampNeg) (hI.st (fm_in10 p2) c_3)) gX9_putInTeam_X6_isFor rfl ⟨rfl, rfl⟩ hqX6_isFor ⟨Nat.le_of_ble_eq_true rfl, Nat.le_of_ble_eq_true rfl⟩ hK (nw_recv hK hN (k := 12) (i := ((fJ9_floorMod_7cf53 p0 6 : Int32).toNatClampNeg)) (vp_lt (fm_in6 p0)) rfl rfl) hN hA hS rfl hl.1 rfl (Nat.le_of_ble_eq_true rfl) dX9_putInTeam_42 ⟨Nat.le_of_ble_eq_true rfl, Nat.le_of_ble_eq_true rfl⟩ (fun H locs hN hS => ?_)
        refine lv_if_ne (x := fX6_isFor Y ((fJ9_floorMod_7cf53 p0 6 : Int32).toNatClampNeg) ((Y 1 0 ((fJ9_floorMod_7cf53 p2 10 : Int32).toNatClampNeg) : Int32).toNatClampNeg)) (tgt := 50) hx hb dX9_putInTeam_45 (by decide) (fun c_5 => ?_) (fun c_5 => ?_)
        · refine lv_aload hx hb dX9_putInTeam_50 (lv_at hl 1 rfl) ?_
          refine nw_get S hK hN (k := 12) (i := ((fJ9_floorMod_7cf53 p0 6 : Int32).toNatClampNeg)) (vp_lt (fm_in6 p0)) rfl rfl hin6 0 (by decide) (index := 261) (ref := "RidingYard$Team") (List.mem_cons_of_mem _ (List.mem_append_left _ (List.mem_append_left _ (List.mem_append_left _ (List.mem_of_getElem? (i := 2) rfl))))) (fun _ h => h) (v := .ref (ad 13 ((fJ9_floorMod_7cf53 p0 6 : Int32).toNatClampNeg))) rfl dX9_putInTeam_52 ?_
          refine lv_iload_n hx hb dX9_putInTeam_55 rfl (lv_at hl 4 rfl) ?_
          refine lv_aload hx hb dX9_putInTeam_56 (lv_at hl 0 rfl) ?_
          refine nw_aast S hK hN hS (k := 13) (i := ((fJ9_floorMod_7cf53 p0 6 : Int32).toNatClampNeg)) (vp_lt (fm_in6 p0)) 2 rfl (g := oH ad) (fun _ => rfl) (x := p1) (v := Y 1 0 ((fJ9_floorMod_7cf53 p2 10 : Int32).toNatClampNeg)) (oH_1 c_3) ((nw_anyH hK hN (h := (Y 1 0 ((fJ9_floorMod_7cf53 p2 10 : Int32).toNatClampNeg) : Int32).toNatClampNeg) (hI.st (fm_in10 p2) c_3)).1) (hI.tb (vp_lt (fm_in6 p0)) c_2) dX9_putInTeam_58 (fun H locs hN hz hS => ?_)
          refine lv_aload_n hx hb dX9_putInTeam_59 rfl (lv_at hl 2 rfl) ?_
          refine lv_iconst (v := 1) hx hb dX9_putInTeam_60 (by decide) ?_
          refine nwY_calli (As := [.int 1]) (rest := []) S (kX9_comeTo l D C A ad nh nv na (u3 Y 13 ((fJ9_floorMod_7cf53 p0 6 : Int32).toNatClampNeg) ((p1 : Int32).toNatClampNeg) (Y 1 0 ((fJ9_floorMod_7cf53 p2 10 : Int32).toNatClampNeg))) 1 ) gX9_putInTeam_X9_comeTo rfl ⟨rfl, rfl⟩ hqX9_comeTo ⟨Nat.le_of_ble_eq_true rfl, Nat.le_of_ble_eq_true rfl⟩ hK (nw_recv hK hN (k := 0) (i := 0) ⟨by decide, rfl⟩ rfl rfl) hN hA hS rfl hl.1 rfl (Nat.le_of_ble_eq_true rfl) dX9_putInTeam_61 ⟨Nat.le_of_ble_eq_true rfl, Nat.le_of_ble_eq_true rfl⟩ (fun H locs hN hS => ?_)
          have hf : fX9_putInTeam Y p0 p1 p2 = (0, u3 (u3 Y 13 ((fJ9_floorMod_7cf53 p0 6 : Int32).toNatClampNeg) ((p1 : Int32).toNatClampNeg) (Y 1 0 ((fJ9_floorMod_7cf53 p2 10 : Int32).toNatClampNeg))) 0 0 16 1) := by unfold fX9_putInTeam; rw [if_neg c_1, if_neg c_2, if_neg c_3, if_neg c_5]
          exact W.iret (v := 0) hx hb hr (fun t ht _ => by rw [hf]; exact nw_end hS hN ht) hS.2.2 dX9_putInTeam_64
        · refine lv_iconst (v := 4) hx hb dX9_putInTeam_48 (by decide) ?_
          have hf : fX9_putInTeam Y p0 p1 p2 = (4, Y) := by unfold fX9_putInTeam; rw [if_neg c_1, if_neg c_2, if_neg c_3, if_pos c_5]
          exact W.iret (v := 4) hx hb hr (fun t ht _ => by rw [hf]; exact nw_end hS hN ht) hS.2.2 dX9_putInTeam_49
    · refine lv_iconst (v := 5) hx hb dX9_putInTeam_29 (by decide) ?_
      have hf : fX9_putInTeam Y p0 p1 p2 = (5, Y) := by unfold fX9_putInTeam; rw [if_neg c_1, if_pos c_2]
      exact W.iret (v := 5) hx hb hr (fun t ht _ => by rw [hf]; exact nw_end hS hN ht) hS.2.2 dX9_putInTeam_30
  · refine lv_iconst (v := 1) hx hb dX9_putInTeam_15 (by decide) ?_
    have hf : fX9_putInTeam Y p0 p1 p2 = (1, Y) := by unfold fX9_putInTeam; rw [if_pos c_1]
    exact W.iret (v := 1) hx hb hr (fun t ht _ => by rw [hf]; exact nw_end hS hN ht) hS.2.2 dX9_putInTeam_16
set_option maxHeartbeats 4000000 in
set_option maxRecDepth 100000 in
theorem kX9_takeFromTeam (l : Launch) (D : va_G) (C : Nat → ClassId) (A : Nat → Prop) (ad : Nat → Nat → Nat) (nh nv na : Nat) (Y : Nat → Nat → Nat → Int32) (p0 p1 p2 : Int32) (kk : Nat) (hI : InvY nh nv na kk Y) : Met l yX9_takeFromTeam wsX9_takeFromTeam ({ frames := 2, cells := 0, slots := 0, locals := 43 }) (va_Pc [.ref (ad 0 0), .int p0, .int p1, .int p2] (PW D C A (nw D (enY C) (domY nh nv na) A ad Y))) (nQ A (some (.int (fX9_takeFromTeam Y p0 p1 p2).1)) (nw D (enY C) (domY nh nv na) A ad (fX9_takeFromTeam Y p0 p1 p2).2)) 0 0 A := by
  refine Met.ofW (cc := cX9_takeFromTeam) (maxL := 6) (ret := (some .int)) (by decide) rfl ?_
  intro p e s m args below meth c s₁ B hml hv
  obtain ⟨rfl, hK, hN, hA⟩ := hv
  have hx := B.exec
  have hb := B.bytes
  have hr := B.returns
  have hts := atoms_spec (ws := wsX9_takeFromTeam) B.pre
  have hown : s.vm.findClass RX9 = some m.cls := findClass_of_methodNamed B.named
  have hlocks := B.notSynchronized
  have S : CallFix p m c cX9_takeFromTeam 6 s _ wsX9_takeFromTeam RX9 := ⟨hx, hb, hml, hown, hts⟩
  have hin9 : ∀ w ∈ wsX90, w ∈ wsX9_takeFromTeam := (fun _ h => List.mem_cons_of_mem _ (List.mem_append_right _ (h)))
  have hin6 : ∀ w ∈ wsX60, w ∈ wsX9_takeFromTeam := (fun _ h => List.mem_cons_of_mem _ (List.mem_append_left _ (List.mem_append_right _ (h))))
  have hS : va_S A s.heap s.heap [] := va_S.rf
  have hl := lv_entry ([.ref (ad 0 0), .int p0, .int p1, .int p2]) (n := 6) (Nat.le_of_ble_eq_true rfl)
  rw [lg_entry_eq]
  generalize (lg_sl ([.ref (ad 0 0), .int p0, .int p1, .int p2]) ++ List.replicate (6 - (lg_sl ([.ref (ad 0 0), .int p0, .int p1, .int p2])).length) Slot.unset).toArray = ls at hl ⊢
  have hl : lv_has ls 6 [(0, .ref (ad 0 0)), (1, .int p0), (2, .int p1), (3, .int p2)] := hl
  refine lv_aload_n hx hb dX9_takeFromTeam_0 rfl (lv_at hl 0 rfl) ?_
  refine lv_iload_n hx hb dX9_takeFromTeam_1 rfl (lv_at hl 1 rfl) ?_
  refine nwY_calli (As := [.int p0]) (rest := []) S (kX9_teamAt l D C A ad nh nv na Y p0 ) gX9_takeFromTeam_X9_teamAt rfl ⟨rfl, rfl⟩ hqX9_teamAt ⟨Nat.le_of_ble_eq_true rfl, Nat.le_of_ble_eq_true rfl⟩ hK (nw_recv hK hN (k := 0) (i := 0) ⟨by decide, rfl⟩ rfl rfl) hN hA hS rfl hl.1 rfl (Nat.le_of_ble_eq_true rfl) dX9_takeFromTeam_2 ⟨Nat.le_of_ble_eq_true rfl, Nat.le_of_ble_eq_true rfl⟩ (fun H locs hN hS => ?_)
  refine lv_astore (lv' := [(4, .ref (ad 12 ((fJ9_floorMod_7cf53 p0 6 : Int32).toNatClampNeg))), (0, .ref (ad 0 0)), (1, .int p0), (2, .int p1), (3, .int p2)]) hx hb dX9_takeFromTeam_5 hl (by decide) rfl (fun ls hl => ?_)
  refine lv_aload hx hb dX9_takeFromTeam_7 (lv_at hl 0 rfl) ?_
  refine nw_get S hK hN (k := 12) (i := ((fJ9_floorMod_7cf53 p0 6 : Int32).toNatClampNeg)) (vp_lt (fm_in6 p0)) rfl rfl hin6 1 (by decide) (index := 160) (ref := "RidingYard$Team") (List.mem_cons_of_mem _ (List.mem_append_left _ (List.mem_append_left _ (List.mem_append_left _ (List.mem_of_getElem? (i := 0) rfl))))) (fun _ h => h) (v := .int (Y 12 ((fJ9_floorMod_7cf53 p0 6 : Int32).toNatClampNeg) 1)) rfl dX9_takeFromTeam_9 ?_
  refine lv_if_ne (x := Y 12 ((fJ9_floorMod_7cf53 p0 6 : Int32).toNatClampNeg) 1) (tgt := 17) hx hb dX9_takeFromTeam_12 (by decide) (fun c_1 => ?_) (fun c_1 => ?_)
  · refine lv_iload_n hx hb dX9_takeFromTeam_17 rfl (lv_at hl 3 rfl) ?_
    refine lv_aload hx hb dX9_takeFromTeam_18 (lv_at hl 0 rfl) ?_
    refine nw_get S hK hN (k := 12) (i := ((fJ9_floorMod_7cf53 p0 6 : Int32).toNatClampNeg)) (vp_lt (fm_in6 p0)) rfl rfl hin6 3 (by decide) (index := 254) (ref := "RidingYard$Team") (List.mem_cons_of_mem _ (List.mem_append_left _ (List.mem_append_left _ (List.mem_append_left _ (List.mem_of_getElem? (i := 1) rfl))))) (fun _ h => h) (v := .int (Y 12 ((fJ9_floorMod_7cf53 p0 6 : Int32).toNatClampNeg) 3)) rfl dX9_takeFromTeam_20 ?_
    refine nw_callS (As := [.int p1, .int (Y 12 ((fJ9_floorMod_7cf53 p0 6 : Int32).toNatClampNeg) 3)]) (rest := []) S (kX9_within l p1 (Y 12 ((fJ9_floorMod_7cf53 p0 6 : Int32).toNatClampNeg) 3)) gX9_takeFromTeam_X9_within rfl ⟨rfl, rfl⟩ hqX9_within ⟨Nat.le_of_ble_eq_true rfl, Nat.le_of_ble_eq_true rfl⟩ rfl hl.1 rfl (Nat.le_of_ble_eq_true rfl) dX9_takeFromTeam_23 ⟨Nat.le_of_ble_eq_true rfl, Nat.le_of_ble_eq_true rfl⟩ ?_
    refine lv_if_ne (x := fX9_within p1 (Y 12 ((fJ9_floorMod_7cf53 p0 6 : Int32).toNatClampNeg) 3)) (tgt := 31) hx hb dX9_takeFromTeam_26 (by decide) (fun c_2 => ?_) (fun c_2 => ?_)
    · refine lv_aload hx hb dX9_takeFromTeam_31 (lv_at hl 0 rfl) ?_
      refine nw_get S hK hN (k := 12) (i := ((fJ9_floorMod_7cf53 p0 6 : Int32).toNatClampNeg)) (vp_lt (fm_in6 p0)) rfl rfl hin6 0 (by decide) (index := 261) (ref := "RidingYard$Team") (List.mem_cons_of_mem _ (List.mem_append_left _ (List.mem_append_left _ (List.mem_append_left _ (List.mem_of_getElem? (i := 2) rfl))))) (fun _ h => h) (v := .ref (ad 13 ((fJ9_floorMod_7cf53 p0 6 : Int32).toNatClampNeg))) rfl dX9_takeFromTeam_33 ?_
      refine lv_iload_n hx hb dX9_takeFromTeam_36 rfl (lv_at hl 3 rfl) ?_
      by_cases c_3 : (Y 13 ((fJ9_floorMod_7cf53 p0 6 : Int32).toNatClampNeg) ((p1 : Int32).toNatClampNeg)) < 0
      · refine nw_aald S hK hN (k := 13) (i := ((fJ9_floorMod_7cf53 p0 6 : Int32).toNatClampNeg)) (vp_lt (fm_in6 p0)) 2 rfl rfl rfl (x := p1) (hI.tb (vp_lt (fm_in6 p0)) c_2) dX9_takeFromTeam_37 (v := .null) (oH_n c_3) ?_
        refine lv_astoreN (lv' := [(5, .null), (4, .ref (ad 12 ((fJ9_floorMod_7cf53 p0 6 : Int32).toNatClampNeg))), (0, .ref (ad 0 0)), (1, .int p0), (2, .int p1), (3, .int p2)]) hx hb dX9_takeFromTeam_38 hl (by decide) rfl (fun ls hl => ?_)
        refine lv_aload_n hx hb dX9_takeFromTeam_40 rfl (lv_at hl 2 rfl) ?_
        refine nw_get S hK hN (k := 0) (i := 0) ⟨by decide, rfl⟩ rfl rfl hin9 0 (by decide) (index := 11) (ref := "RidingYard") (List.mem_cons_of_mem _ (List.mem_append_left _ (List.mem_append_left _ (List.mem_append_left _ (List.mem_of_getElem? (i := 3) rfl))))) (fun _ h => h) (v := .ref (ad 1 0)) rfl dX9_takeFromTeam_41 ?_
        refine lv_iload_n hx hb dX9_takeFromTeam_44 rfl (lv_at hl 5 rfl) ?_
        refine lv_bipush (v := 10) hx hb dX9_takeFromTeam_45 (by decide) ?_
        refine nw_callS (As := [.int p2, .int 10]) (rest := [.ref (ad 1 0)]) S (kJ9_floorMod_7cf53 l p2 10 (by decide)) gX9_takeFromTeam_J9_floorMod_7cf53 rfl ⟨rfl, rfl⟩ hqJ9_floorMod_7cf53 ⟨Nat.le_of_ble_eq_true rfl, Nat.le_of_ble_eq_true rfl⟩ rfl hl.1 rfl (Nat.le_of_ble_eq_true rfl) dX9_takeFromTeam_47 ⟨Nat.le_of_ble_eq_true rfl, Nat.le_of_ble_eq_true rfl⟩ ?_
        refine lv_aloadN hx hb dX9_takeFromTeam_50 (lv_at hl 0 rfl) ?_
        refine nw_aastN S hK hN hS (k := 1) (i := 0) ⟨by decide, rfl⟩ 2 rfl (g := oH ad) (fun _ => rfl) (x := fJ9_floorMod_7cf53 p2 10) (Y 13 ((fJ9_floorMod_7cf53 p0 6 : Int32).toNatClampNeg) ((p1 : Int32).toNatClampNeg)) (oH_0 c_3) (fm_in10 p2) dX9_takeFromTeam_52 (fun H locs hN hz hS => ?_)
        refine lv_aload_n hx hb dX9_takeFromTeam_53 rfl (lv_at hl 2 rfl) ?_
        refine lv_aloadN hx hb dX9_takeFromTeam_54 (lv_at hl 0 rfl) ?_
        refine lv_ifnullN (tgt := 63) hx hb dX9_takeFromTeam_56 (by decide) ?_
        refine lv_iconst (v := 0) hx hb dX9_takeFromTeam_63 (by decide) ?_
        refine nw_callS (As := [.int 0]) (rest := [.ref (ad 0 0)]) S (kX9_oneIf l 0) gX9_takeFromTeam_X9_oneIf rfl ⟨rfl, rfl⟩ hqX9_oneIf ⟨Nat.le_of_ble_eq_true rfl, Nat.le_of_ble_eq_true rfl⟩ rfl hl.1 rfl (Nat.le_of_ble_eq_true rfl) dX9_takeFromTeam_64 ⟨Nat.le_of_ble_eq_true rfl, Nat.le_of_ble_eq_true rfl⟩ ?_
        refine nwY_calli (As := [.int (fX9_oneIf 0)]) (rest := []) S (kX9_comeTo l D C A ad nh nv na (u3 Y 1 0 ((fJ9_floorMod_7cf53 p2 10 : Int32).toNatClampNeg) (Y 13 ((fJ9_floorMod_7cf53 p0 6 : Int32).toNatClampNeg) ((p1 : Int32).toNatClampNeg))) (fX9_oneIf 0) ) gX9_takeFromTeam_X9_comeTo rfl ⟨rfl, rfl⟩ hqX9_comeTo ⟨Nat.le_of_ble_eq_true rfl, Nat.le_of_ble_eq_true rfl⟩ hK (nw_recv hK hN (k := 0) (i := 0) ⟨by decide, rfl⟩ rfl rfl) hN hA hS rfl hl.1 rfl (Nat.le_of_ble_eq_true rfl) dX9_takeFromTeam_67 ⟨Nat.le_of_ble_eq_true rfl, Nat.le_of_ble_eq_true rfl⟩ (fun H locs hN hS => ?_)
        have hf : fX9_takeFromTeam Y p0 p1 p2 = (0, u3 (u3 Y 1 0 ((fJ9_floorMod_7cf53 p2 10 : Int32).toNatClampNeg) (Y 13 ((fJ9_floorMod_7cf53 p0 6 : Int32).toNatClampNeg) ((p1 : Int32).toNatClampNeg))) 0 0 16 (fX9_oneIf 0)) := by unfold fX9_takeFromTeam; rw [if_neg c_1, if_neg c_2, if_pos c_3]
        exact W.iret (v := 0) hx hb hr (fun t ht _ => by rw [hf]; exact nw_end hS hN ht) hS.2.2 dX9_takeFromTeam_70
      · refine nw_aald S hK hN (k := 13) (i := ((fJ9_floorMod_7cf53 p0 6 : Int32).toNatClampNeg)) (vp_lt (fm_in6 p0)) 2 rfl rfl rfl (x := p1) (hI.tb (vp_lt (fm_in6 p0)) c_2) dX9_takeFromTeam_37 (v := .ref (ad 20 ((Y 13 ((fJ9_floorMod_7cf53 p0 6 : Int32).toNatClampNeg) ((p1 : Int32).toNatClampNeg) : Int32).toNatClampNeg))) (oH_s c_3) ?_
        refine lv_astore (lv' := [(5, .ref (ad 20 ((Y 13 ((fJ9_floorMod_7cf53 p0 6 : Int32).toNatClampNeg) ((p1 : Int32).toNatClampNeg) : Int32).toNatClampNeg))), (4, .ref (ad 12 ((fJ9_floorMod_7cf53 p0 6 : Int32).toNatClampNeg))), (0, .ref (ad 0 0)), (1, .int p0), (2, .int p1), (3, .int p2)]) hx hb dX9_takeFromTeam_38 hl (by decide) rfl (fun ls hl => ?_)
        refine lv_aload_n hx hb dX9_takeFromTeam_40 rfl (lv_at hl 2 rfl) ?_
        refine nw_get S hK hN (k := 0) (i := 0) ⟨by decide, rfl⟩ rfl rfl hin9 0 (by decide) (index := 11) (ref := "RidingYard") (List.mem_cons_of_mem _ (List.mem_append_left _ (List.mem_append_left _ (List.mem_append_left _ (List.mem_of_getElem? (i := 3) rfl))))) (fun _ h => h) (v := .ref (ad 1 0)) rfl dX9_takeFromTeam_41 ?_
        refine lv_iload_n hx hb dX9_takeFromTeam_44 rfl (lv_at hl 5 rfl) ?_
        refine lv_bipush (v := 10) hx hb dX9_takeFromTeam_45 (by decide) ?_
        refine nw_callS (As := [.int p2, .int 10]) (rest := [.ref (ad 1 0)]) S (kJ9_floorMod_7cf53 l p2 10 (by decide)) gX9_takeFromTeam_J9_floorMod_7cf53 rfl ⟨rfl, rfl⟩ hqJ9_floorMod_7cf53 ⟨Nat.le_of_ble_eq_true rfl, Nat.le_of_ble_eq_true rfl⟩ rfl hl.1 rfl (Nat.le_of_ble_eq_true rfl) dX9_takeFromTeam_47 ⟨Nat.le_of_ble_eq_true rfl, Nat.le_of_ble_eq_true rfl⟩ ?_
        refine lv_aload hx hb dX9_takeFromTeam_50 (lv_at hl 0 rfl) ?_
        refine nw_aast S hK hN hS (k := 1) (i := 0) ⟨by decide, rfl⟩ 2 rfl (g := oH ad) (fun _ => rfl) (x := fJ9_floorMod_7cf53 p2 10) (v := Y 13 ((fJ9_floorMod_7cf53 p0 6 : Int32).toNatClampNeg) ((p1 : Int32).toNatClampNeg)) (oH_1 c_3) ((nw_anyH hK hN (h := (Y 13 ((fJ9_floorMod_7cf53 p0 6 : Int32).toNatClampNeg) ((p1 : Int32).toNatClampNeg) : Int32).toNatClampNeg) (hI.pl (vp_lt (fm_in6 p0)) (hI.tb (vp_lt (fm_in6 p0)) c_2) c_3)).1) (fm_in10 p2) dX9_takeFromTeam_52 (fun H locs hN hz hS => ?_)
        refine lv_aload_n hx hb dX9_takeFromTeam_53 rfl (lv_at hl 2 rfl) ?_
        refine lv_aload hx hb dX9_takeFromTeam_54 (lv_at hl 0 rfl) ?_
        refine lv_ifnull hx hb dX9_takeFromTeam_56 ?_
        refine lv_iconst (v := 1) hx hb dX9_takeFromTeam_59 (by decide) ?_
        refine lv_goto (tgt := 64) hx hb dX9_takeFromTeam_60 (by decide) ?_
        refine nw_callS (As := [.int 1]) (rest := [.ref (ad 0 0)]) S (kX9_oneIf l 1) gX9_takeFromTeam_X9_oneIf rfl ⟨rfl, rfl⟩ hqX9_oneIf ⟨Nat.le_of_ble_eq_true rfl, Nat.le_of_ble_eq_true rfl⟩ rfl hl.1 rfl (Nat.le_of_ble_eq_true rfl) dX9_takeFromTeam_64 ⟨Nat.le_of_ble_eq_true rfl, Nat.le_of_ble_eq_true rfl⟩ ?_
        refine nwY_calli (As := [.int (fX9_oneIf 1)]) (rest := []) S (kX9_comeTo l D C A ad nh nv na (u3 Y 1 0 ((fJ9_floorMod_7cf53 p2 10 : Int32).toNatClampNeg) (Y 13 ((fJ9_floorMod_7cf53 p0 6 : Int32).toNatClampNeg) ((p1 : Int32).toNatClampNeg))) (fX9_oneIf 1) ) gX9_takeFromTeam_X9_comeTo rfl ⟨rfl, rfl⟩ hqX9_comeTo ⟨Nat.le_of_ble_eq_true rfl, Nat.le_of_ble_eq_true rfl⟩ hK (nw_recv hK hN (k := 0) (i := 0) ⟨by decide, rfl⟩ rfl rfl) hN hA hS rfl hl.1 rfl (Nat.le_of_ble_eq_true rfl) dX9_takeFromTeam_67 ⟨Nat.le_of_ble_eq_true rfl, Nat.le_of_ble_eq_true rfl⟩ (fun H locs hN hS => ?_)
        have hf : fX9_takeFromTeam Y p0 p1 p2 = (0, u3 (u3 Y 1 0 ((fJ9_floorMod_7cf53 p2 10 : Int32).toNatClampNeg) (Y 13 ((fJ9_floorMod_7cf53 p0 6 : Int32).toNatClampNeg) ((p1 : Int32).toNatClampNeg))) 0 0 16 (fX9_oneIf 1)) := by unfold fX9_takeFromTeam; rw [if_neg c_1, if_neg c_2, if_neg c_3]
        exact W.iret (v := 0) hx hb hr (fun t ht _ => by rw [hf]; exact nw_end hS hN ht) hS.2.2 dX9_takeFromTeam_70
    · refine lv_iconst (v := 5) hx hb dX9_takeFromTeam_29 (by decide) ?_
      have hf : fX9_takeFromTeam Y p0 p1 p2 = (5, Y) := by unfold fX9_takeFromTeam; rw [if_neg c_1, if_pos c_2]
      exact W.iret (v := 5) hx hb hr (fun t ht _ => by rw [hf]; exact nw_end hS hN ht) hS.2.2 dX9_takeFromTeam_30
  · refine lv_iconst (v := 1) hx hb dX9_takeFromTeam_15 (by decide) ?_
    have hf : fX9_takeFromTeam Y p0 p1 p2 = (1, Y) := by unfold fX9_takeFromTeam; rw [if_pos c_1]
    exact W.iret (v := 1) hx hb hr (fun t ht _ => by rw [hf]; exact nw_end hS hN ht) hS.2.2 dX9_takeFromTeam_16
set_option maxHeartbeats 4000000 in
set_option maxRecDepth 100000 in
theorem kX9_askPlaces (l : Launch) (D : va_G) (C : Nat → ClassId) (A : Nat → Prop) (ad : Nat → Nat → Nat) (nh nv na : Nat) (Y : Nat → Nat → Nat → Int32) (p0 : Int32) (kk : Nat) (hI : InvY nh nv na kk Y) : Met l yX9_askPlaces wsX9_askPlaces ({ frames := 2, cells := 0, slots := 0, locals := 43 }) (va_Pc [.ref (ad 0 0), .int p0] (PW D C A (nw D (enY C) (domY nh nv na) A ad Y))) (nQ A (some (.int (fX9_askPlaces Y p0).1)) (nw D (enY C) (domY nh nv na) A ad (fX9_askPlaces Y p0).2)) 0 0 A := by
  refine Met.ofW (cc := cX9_askPlaces) (maxL := 3) (ret := (some .int)) (by decide) rfl ?_
  intro p e s m args below meth c s₁ B hml hv
  obtain ⟨rfl, hK, hN, hA⟩ := hv
  have hx := B.exec
  have hb := B.bytes
  have hr := B.returns
  have hts := atoms_spec (ws := wsX9_askPlaces) B.pre
  have hown : s.vm.findClass RX9 = some m.cls := findClass_of_methodNamed B.named
  have hlocks := B.notSynchronized
  have S : CallFix p m c cX9_askPlaces 3 s _ wsX9_askPlaces RX9 := ⟨hx, hb, hml, hown, hts⟩
  have hin9 : ∀ w ∈ wsX90, w ∈ wsX9_askPlaces := (fun _ h => List.mem_cons_of_mem _ (List.mem_append_right _ (h)))
  have hin6 : ∀ w ∈ wsX60, w ∈ wsX9_askPlaces := (fun _ h => List.mem_cons_of_mem _ (List.mem_append_left _ (List.mem_append_right _ (h))))
  have hS : va_S A s.heap s.heap [] := va_S.rf
  have hl := lv_entry ([.ref (ad 0 0), .int p0]) (n := 3) (Nat.le_of_ble_eq_true rfl)
  rw [lg_entry_eq]
  generalize (lg_sl ([.ref (ad 0 0), .int p0]) ++ List.replicate (3 - (lg_sl ([.ref (ad 0 0), .int p0])).length) Slot.unset).toArray = ls at hl ⊢
  have hl : lv_has ls 3 [(0, .ref (ad 0 0)), (1, .int p0)] := hl
  refine lv_aload_n hx hb dX9_askPlaces_0 rfl (lv_at hl 0 rfl) ?_
  refine lv_iload_n hx hb dX9_askPlaces_1 rfl (lv_at hl 1 rfl) ?_
  refine nwY_calli (As := [.int p0]) (rest := []) S (kX9_teamAt l D C A ad nh nv na Y p0 ) gX9_askPlaces_X9_teamAt rfl ⟨rfl, rfl⟩ hqX9_teamAt ⟨Nat.le_of_ble_eq_true rfl, Nat.le_of_ble_eq_true rfl⟩ hK (nw_recv hK hN (k := 0) (i := 0) ⟨by decide, rfl⟩ rfl rfl) hN hA hS rfl hl.1 rfl (Nat.le_of_ble_eq_true rfl) dX9_askPlaces_2 ⟨Nat.le_of_ble_eq_true rfl, Nat.le_of_ble_eq_true rfl⟩ (fun H locs hN hS => ?_)
  refine lv_astore_n (lv' := [(2, .ref (ad 12 ((fJ9_floorMod_7cf53 p0 6 : Int32).toNatClampNeg))), (0, .ref (ad 0 0)), (1, .int p0)]) hx hb dX9_askPlaces_5 rfl hl (by decide) rfl (fun ls hl => ?_)
  refine lv_aload_n hx hb dX9_askPlaces_6 rfl (lv_at hl 0 rfl) ?_
  refine nw_get S hK hN (k := 12) (i := ((fJ9_floorMod_7cf53 p0 6 : Int32).toNatClampNeg)) (vp_lt (fm_in6 p0)) rfl rfl hin6 1 (by decide) (index := 160) (ref := "RidingYard$Team") (List.mem_cons_of_mem _ (List.mem_append_left _ (List.mem_append_left _ (List.mem_of_getElem? (i := 0) rfl)))) (fun _ h => h) (v := .int (Y 12 ((fJ9_floorMod_7cf53 p0 6 : Int32).toNatClampNeg) 1)) rfl dX9_askPlaces_7 ?_
  refine lv_if_eq (x := Y 12 ((fJ9_floorMod_7cf53 p0 6 : Int32).toNatClampNeg) 1) (tgt := 24) hx hb dX9_askPlaces_10 (by decide) (fun c_1 => ?_) (fun c_1 => ?_)
  · refine lv_iconst (v := 1) hx hb dX9_askPlaces_24 (by decide) ?_
    have hf : fX9_askPlaces Y p0 = (1, Y) := by unfold fX9_askPlaces; rw [if_pos c_1]
    exact W.iret (v := 1) hx hb hr (fun t ht _ => by rw [hf]; exact nw_end hS hN ht) hS.2.2 dX9_askPlaces_25
  · refine lv_aload_n hx hb dX9_askPlaces_13 rfl (lv_at hl 1 rfl) ?_
    refine lv_aload_n hx hb dX9_askPlaces_14 rfl (lv_at hl 0 rfl) ?_
    refine nw_get S hK hN (k := 12) (i := ((fJ9_floorMod_7cf53 p0 6 : Int32).toNatClampNeg)) (vp_lt (fm_in6 p0)) rfl rfl hin6 3 (by decide) (index := 254) (ref := "RidingYard$Team") (List.mem_cons_of_mem _ (List.mem_append_left _ (List.mem_append_left _ (List.mem_of_getElem? (i := 1) rfl)))) (fun _ h => h) (v := .int (Y 12 ((fJ9_floorMod_7cf53 p0 6 : Int32).toNatClampNeg) 3)) rfl dX9_askPlaces_15 ?_
    refine nwY_calli (As := [.int (Y 12 ((fJ9_floorMod_7cf53 p0 6 : Int32).toNatClampNeg) 3)]) (rest := []) S (kX9_comeTo l D C A ad nh nv na Y (Y 12 ((fJ9_floorMod_7cf53 p0 6 : Int32).toNatClampNeg) 3) ) gX9_askPlaces_X9_comeTo rfl ⟨rfl, rfl⟩ hqX9_comeTo ⟨Nat.le_of_ble_eq_true rfl, Nat.le_of_ble_eq_true rfl⟩ hK (nw_recv hK hN (k := 0) (i := 0) ⟨by decide, rfl⟩ rfl rfl) hN hA hS rfl hl.1 rfl (Nat.le_of_ble_eq_true rfl) dX9_askPlaces_18 ⟨Nat.le_of_ble_eq_true rfl, Nat.le_of_ble_eq_true rfl⟩ (fun H locs hN hS => ?_)
    refine lv_goto (tgt := 25) hx hb dX9_askPlaces_21 (by decide) ?_
    have hf : fX9_askPlaces Y p0 = (0, u3 Y 0 0 16 (Y 12 ((fJ9_floorMod_7cf53 p0 6 : Int32).toNatClampNeg) 3)) := by unfold fX9_askPlaces; rw [if_neg c_1]
    exact W.iret (v := 0) hx hb hr (fun t ht _ => by rw [hf]; exact nw_end hS hN ht) hS.2.2 dX9_askPlaces_25
set_option maxHeartbeats 4000000 in
set_option maxRecDepth 100000 in
theorem kX9_addInLedger (l : Launch) (D : va_G) (C : Nat → ClassId) (A : Nat → Prop) (ad : Nat → Nat → Nat) (nh nv na : Nat) (Y : Nat → Nat → Nat → Int32) (p0 p1 p2 : Int32) (kk : Nat) (hI : InvY nh nv na kk Y) : Met l yX9_addInLedger wsX9_addInLedger ({ frames := 2, cells := 0, slots := 0, locals := 43 }) (va_Pc [.ref (ad 0 0), .int p0, .int p1, .int p2] (PW D C A (nw D (enY C) (domY nh nv na) A ad Y))) (nQ A (some (.int (fX9_addInLedger Y p0 p1 p2).1)) (nw D (enY C) (domY nh nv na) A ad (fX9_addInLedger Y p0 p1 p2).2)) 0 0 A := by
  refine Met.ofW (cc := cX9_addInLedger) (maxL := 5) (ret := (some .int)) (by decide) rfl ?_
  intro p e s m args below meth c s₁ B hml hv
  obtain ⟨rfl, hK, hN, hA⟩ := hv
  have hx := B.exec
  have hb := B.bytes
  have hr := B.returns
  have hts := atoms_spec (ws := wsX9_addInLedger) B.pre
  have hown : s.vm.findClass RX9 = some m.cls := findClass_of_methodNamed B.named
  have hlocks := B.notSynchronized
  have S : CallFix p m c cX9_addInLedger 5 s _ wsX9_addInLedger RX9 := ⟨hx, hb, hml, hown, hts⟩
  have hin9 : ∀ w ∈ wsX90, w ∈ wsX9_addInLedger := (fun _ h => List.mem_cons_of_mem _ (List.mem_append_right _ (h)))
  have hin4 : ∀ w ∈ wsX40, w ∈ wsX9_addInLedger := (fun _ h => List.mem_cons_of_mem _ (List.mem_append_left _ (List.mem_append_right _ (h))))
  have hS : va_S A s.heap s.heap [] := va_S.rf
  have hl := lv_entry ([.ref (ad 0 0), .int p0, .int p1, .int p2]) (n := 5) (Nat.le_of_ble_eq_true rfl)
  rw [lg_entry_eq]
  generalize (lg_sl ([.ref (ad 0 0), .int p0, .int p1, .int p2]) ++ List.replicate (5 - (lg_sl ([.ref (ad 0 0), .int p0, .int p1, .int p2])).length) Slot.unset).toArray = ls at hl ⊢
  have hl : lv_has ls 5 [(0, .ref (ad 0 0)), (1, .int p0), (2, .int p1), (3, .int p2)] := hl
  refine lv_aload_n hx hb dX9_addInLedger_0 rfl (lv_at hl 0 rfl) ?_
  refine lv_iload_n hx hb dX9_addInLedger_1 rfl (lv_at hl 1 rfl) ?_
  refine nwY_calli (As := [.int p0]) (rest := []) S (kX9_ledgerAt l D C A ad nh nv na Y p0 ) gX9_addInLedger_X9_ledgerAt rfl ⟨rfl, rfl⟩ hqX9_ledgerAt ⟨Nat.le_of_ble_eq_true rfl, Nat.le_of_ble_eq_true rfl⟩ hK (nw_recv hK hN (k := 0) (i := 0) ⟨by decide, rfl⟩ rfl rfl) hN hA hS rfl hl.1 rfl (Nat.le_of_ble_eq_true rfl) dX9_addInLedger_2 ⟨Nat.le_of_ble_eq_true rfl, Nat.le_of_ble_eq_true rfl⟩ (fun H locs hN hS => ?_)
  refine lv_astore (lv' := [(4, .ref (ad 14 ((fJ9_floorMod_7cf53 p0 4 : Int32).toNatClampNeg))), (0, .ref (ad 0 0)), (1, .int p0), (2, .int p1), (3, .int p2)]) hx hb dX9_addInLedger_5 hl (by decide) rfl (fun ls hl => ?_)
  refine lv_aload hx hb dX9_addInLedger_7 (lv_at hl 0 rfl) ?_
  refine nw_get S hK hN (k := 14) (i := ((fJ9_floorMod_7cf53 p0 4 : Int32).toNatClampNeg)) (vp_lt (fm_in4 p0)) rfl rfl hin4 1 (by decide) (index := 161) (ref := "RidingYard$Ledger") (List.mem_cons_of_mem _ (List.mem_append_left _ (List.mem_append_left _ (List.mem_of_getElem? (i := 0) rfl)))) (fun _ h => h) (v := .int (Y 14 ((fJ9_floorMod_7cf53 p0 4 : Int32).toNatClampNeg) 1)) rfl dX9_addInLedger_9 ?_
  refine lv_if_ne (x := Y 14 ((fJ9_floorMod_7cf53 p0 4 : Int32).toNatClampNeg) 1) (tgt := 17) hx hb dX9_addInLedger_12 (by decide) (fun c_1 => ?_) (fun c_1 => ?_)
  · refine lv_iload_n hx hb dX9_addInLedger_17 rfl (lv_at hl 3 rfl) ?_
    refine lv_aload hx hb dX9_addInLedger_18 (lv_at hl 0 rfl) ?_
    refine nw_get S hK hN (k := 14) (i := ((fJ9_floorMod_7cf53 p0 4 : Int32).toNatClampNeg)) (vp_lt (fm_in4 p0)) rfl rfl hin4 2 (by decide) (index := 272) (ref := "RidingYard$Ledger") (List.mem_cons_of_mem _ (List.mem_append_left _ (List.mem_append_left _ (List.mem_of_getElem? (i := 1) rfl)))) (fun _ h => h) (v := .int (Y 14 ((fJ9_floorMod_7cf53 p0 4 : Int32).toNatClampNeg) 2)) rfl dX9_addInLedger_20 ?_
    refine nw_callS (As := [.int p1, .int (Y 14 ((fJ9_floorMod_7cf53 p0 4 : Int32).toNatClampNeg) 2)]) (rest := []) S (kX9_within l p1 (Y 14 ((fJ9_floorMod_7cf53 p0 4 : Int32).toNatClampNeg) 2)) gX9_addInLedger_X9_within rfl ⟨rfl, rfl⟩ hqX9_within ⟨Nat.le_of_ble_eq_true rfl, Nat.le_of_ble_eq_true rfl⟩ rfl hl.1 rfl (Nat.le_of_ble_eq_true rfl) dX9_addInLedger_23 ⟨Nat.le_of_ble_eq_true rfl, Nat.le_of_ble_eq_true rfl⟩ ?_
    refine lv_if_ne (x := fX9_within p1 (Y 14 ((fJ9_floorMod_7cf53 p0 4 : Int32).toNatClampNeg) 2)) (tgt := 31) hx hb dX9_addInLedger_26 (by decide) (fun c_2 => ?_) (fun c_2 => ?_)
    · refine lv_aload hx hb dX9_addInLedger_31 (lv_at hl 0 rfl) ?_
      refine nw_get S hK hN (k := 14) (i := ((fJ9_floorMod_7cf53 p0 4 : Int32).toNatClampNeg)) (vp_lt (fm_in4 p0)) rfl rfl hin4 0 (by decide) (index := 273) (ref := "RidingYard$Ledger") (List.mem_cons_of_mem _ (List.mem_append_left _ (List.mem_append_left _ (List.mem_of_getElem? (i := 2) rfl)))) (fun _ h => h) (v := .ref (ad 15 ((fJ9_floorMod_7cf53 p0 4 : Int32).toNatClampNeg))) rfl dX9_addInLedger_33 ?_
      refine lv_iload_n hx hb dX9_addInLedger_36 rfl (lv_at hl 3 rfl) ?_
      refine lv_dup2_11 hx hb dX9_addInLedger_37 rfl rfl ?_
      refine nw_iald S hK hN (k := 15) (i := ((fJ9_floorMod_7cf53 p0 4 : Int32).toNatClampNeg)) (vp_lt (fm_in4 p0)) rfl (x := p1) (hI.lb (vp_lt (fm_in4 p0)) c_2) dX9_addInLedger_38 ?_
      refine lv_iload_n hx hb dX9_addInLedger_39 rfl (lv_at hl 4 rfl) ?_
      refine lv_iadd hx hb dX9_addInLedger_40 ?_
      refine nw_iast S hK hN hS (k := 15) (i := ((fJ9_floorMod_7cf53 p0 4 : Int32).toNatClampNeg)) (vp_lt (fm_in4 p0)) (fun _ => rfl) (x := p1) (v := (Y 15 ((fJ9_floorMod_7cf53 p0 4 : Int32).toNatClampNeg) ((p1 : Int32).toNatClampNeg)) + p2) (hI.lb (vp_lt (fm_in4 p0)) c_2) dX9_addInLedger_41 (fun H locs hN hz hS => ?_)
      refine lv_aload_n hx hb dX9_addInLedger_42 rfl (lv_at hl 1 rfl) ?_
      refine lv_aload hx hb dX9_addInLedger_43 (lv_at hl 0 rfl) ?_
      refine nw_get S hK hN (k := 14) (i := ((fJ9_floorMod_7cf53 p0 4 : Int32).toNatClampNeg)) (vp_lt (fm_in4 p0)) rfl rfl hin4 0 (by decide) (index := 273) (ref := "RidingYard$Ledger") (List.mem_cons_of_mem _ (List.mem_append_left _ (List.mem_append_left _ (List.mem_of_getElem? (i := 2) rfl)))) (fun _ h => h) (v := .ref (ad 15 ((fJ9_floorMod_7cf53 p0 4 : Int32).toNatClampNeg))) rfl dX9_addInLedger_45 ?_
      refine lv_iload_n hx hb dX9_addInLedger_48 rfl (lv_at hl 3 rfl) ?_
      refine nw_iald S hK hN (k := 15) (i := ((fJ9_floorMod_7cf53 p0 4 : Int32).toNatClampNeg)) (vp_lt (fm_in4 p0)) rfl (x := p1) (hI.lb (vp_lt (fm_in4 p0)) c_2) dX9_addInLedger_49 ?_
      refine nwY_calli (As := [.int ((u3 Y 15 ((fJ9_floorMod_7cf53 p0 4 : Int32).toNatClampNeg) ((p1 : Int32).toNatClampNeg) ((Y 15 ((fJ9_floorMod_7cf53 p0 4 : Int32).toNatClampNeg) ((p1 : Int32).toNatClampNeg)) + p2)) 15 ((fJ9_floorMod_7cf53 p0 4 : Int32).toNatClampNeg) ((p1 : Int32).toNatClampNeg))]) (rest := []) S (kX9_comeTo l D C A ad nh nv na (u3 Y 15 ((fJ9_floorMod_7cf53 p0 4 : Int32).toNatClampNeg) ((p1 : Int32).toNatClampNeg) ((Y 15 ((fJ9_floorMod_7cf53 p0 4 : Int32).toNatClampNeg) ((p1 : Int32).toNatClampNeg)) + p2)) ((u3 Y 15 ((fJ9_floorMod_7cf53 p0 4 : Int32).toNatClampNeg) ((p1 : Int32).toNatClampNeg) ((Y 15 ((fJ9_floorMod_7cf53 p0 4 : Int32).toNatClampNeg) ((p1 : Int32).toNatClampNeg)) + p2)) 15 ((fJ9_floorMod_7cf53 p0 4 : Int32).toNatClampNeg) ((p1 : Int32).toNatClampNeg)) ) gX9_addInLedger_X9_comeTo rfl ⟨rfl, rfl⟩ hqX9_comeTo ⟨Nat.le_of_ble_eq_true rfl, Nat.le_of_ble_eq_true rfl⟩ hK (nw_recv hK hN (k := 0) (i := 0) ⟨by decide, rfl⟩ rfl rfl) hN hA hS rfl hl.1 rfl (Nat.le_of_ble_eq_true rfl) dX9_addInLedger_50 ⟨Nat.le_of_ble_eq_true rfl, Nat.le_of_ble_eq_true rfl⟩ (fun H locs hN hS => ?_)
      have hf : fX9_addInLedger Y p0 p1 p2 = (0, u3 (u3 Y 15 ((fJ9_floorMod_7cf53 p0 4 : Int32).toNatClampNeg) ((p1 : Int32).toNatClampNeg) ((Y 15 ((fJ9_floorMod_7cf53 p0 4 : Int32).toNatClampNeg) ((p1 : Int32).toNatClampNeg)) + p2)) 0 0 16 ((u3 Y 15 ((fJ9_floorMod_7cf53 p0 4 : Int32).toNatClampNeg) ((p1 : Int32).toNatClampNeg) ((Y 15 ((fJ9_floorMod_7cf53 p0 4 : Int32).toNatClampNeg) ((p1 : Int32).toNatClampNeg)) + p2)) 15 ((fJ9_floorMod_7cf53 p0 4 : Int32).toNatClampNeg) ((p1 : Int32).toNatClampNeg))) := by unfold fX9_addInLedger; rw [if_neg c_1, if_neg c_2]
      exact W.iret (v := 0) hx hb hr (fun t ht _ => by rw [hf]; exact nw_end hS hN ht) hS.2.2 dX9_addInLedger_53
    · refine lv_iconst (v := 5) hx hb dX9_addInLedger_29 (by decide) ?_
      have hf : fX9_addInLedger Y p0 p1 p2 = (5, Y) := by unfold fX9_addInLedger; rw [if_neg c_1, if_pos c_2]
      exact W.iret (v := 5) hx hb hr (fun t ht _ => by rw [hf]; exact nw_end hS hN ht) hS.2.2 dX9_addInLedger_30
  · refine lv_iconst (v := 1) hx hb dX9_addInLedger_15 (by decide) ?_
    have hf : fX9_addInLedger Y p0 p1 p2 = (1, Y) := by unfold fX9_addInLedger; rw [if_pos c_1]
    exact W.iret (v := 1) hx hb hr (fun t ht _ => by rw [hf]; exact nw_end hS hN ht) hS.2.2 dX9_addInLedger_16
set_option maxHeartbeats 4000000 in
set_option maxRecDepth 100000 in
theorem kX9_markTable (l : Launch) (D : va_G) (C : Nat → ClassId) (A : Nat → Prop) (ad : Nat → Nat → Nat) (nh nv na : Nat) (Y : Nat → Nat → Nat → Int32) (p0 p1 p2 : Int32) (kk : Nat) (hI : InvY nh nv na kk Y) : Met l yX9_markTable wsX9_markTable ({ frames := 2, cells := 0, slots := 0, locals := 43 }) (va_Pc [.ref (ad 0 0), .int p0, .int p1, .int p2] (PW D C A (nw D (enY C) (domY nh nv na) A ad Y))) (nQ A (some (.int (fX9_markTable Y p0 p1 p2).1)) (nw D (enY C) (domY nh nv na) A ad (fX9_markTable Y p0 p1 p2).2)) 0 0 A := by
  refine Met.ofW (cc := cX9_markTable) (maxL := 5) (ret := (some .int)) (by decide) rfl ?_
  intro p e s m args below meth c s₁ B hml hv
  obtain ⟨rfl, hK, hN, hA⟩ := hv
  have hx := B.exec
  have hb := B.bytes
  have hr := B.returns
  have hts := atoms_spec (ws := wsX9_markTable) B.pre
  have hown : s.vm.findClass RX9 = some m.cls := findClass_of_methodNamed B.named
  have hlocks := B.notSynchronized
  have S : CallFix p m c cX9_markTable 5 s _ wsX9_markTable RX9 := ⟨hx, hb, hml, hown, hts⟩
  have hin9 : ∀ w ∈ wsX90, w ∈ wsX9_markTable := (fun _ h => List.mem_cons_of_mem _ (List.mem_append_right _ (h)))
  have hin5 : ∀ w ∈ wsX50, w ∈ wsX9_markTable := (fun _ h => List.mem_cons_of_mem _ (List.mem_append_left _ (List.mem_append_right _ (h))))
  have hS : va_S A s.heap s.heap [] := va_S.rf
  have hl := lv_entry ([.ref (ad 0 0), .int p0, .int p1, .int p2]) (n := 5) (Nat.le_of_ble_eq_true rfl)
  rw [lg_entry_eq]
  generalize (lg_sl ([.ref (ad 0 0), .int p0, .int p1, .int p2]) ++ List.replicate (5 - (lg_sl ([.ref (ad 0 0), .int p0, .int p1, .int p2])).length) Slot.unset).toArray = ls at hl ⊢
  have hl : lv_has ls 5 [(0, .ref (ad 0 0)), (1, .int p0), (2, .int p1), (3, .int p2)] := hl
  refine lv_aload_n hx hb dX9_markTable_0 rfl (lv_at hl 0 rfl) ?_
  refine lv_iload_n hx hb dX9_markTable_1 rfl (lv_at hl 1 rfl) ?_
  refine nwY_calli (As := [.int p0]) (rest := []) S (kX9_tableAt l D C A ad nh nv na Y p0 ) gX9_markTable_X9_tableAt rfl ⟨rfl, rfl⟩ hqX9_tableAt ⟨Nat.le_of_ble_eq_true rfl, Nat.le_of_ble_eq_true rfl⟩ hK (nw_recv hK hN (k := 0) (i := 0) ⟨by decide, rfl⟩ rfl rfl) hN hA hS rfl hl.1 rfl (Nat.le_of_ble_eq_true rfl) dX9_markTable_2 ⟨Nat.le_of_ble_eq_true rfl, Nat.le_of_ble_eq_true rfl⟩ (fun H locs hN hS => ?_)
  refine lv_astore (lv' := [(4, .ref (ad 16 ((fJ9_floorMod_7cf53 p0 4 : Int32).toNatClampNeg))), (0, .ref (ad 0 0)), (1, .int p0), (2, .int p1), (3, .int p2)]) hx hb dX9_markTable_5 hl (by decide) rfl (fun ls hl => ?_)
  refine lv_aload hx hb dX9_markTable_7 (lv_at hl 0 rfl) ?_
  refine nw_get S hK hN (k := 16) (i := ((fJ9_floorMod_7cf53 p0 4 : Int32).toNatClampNeg)) (vp_lt (fm_in4 p0)) rfl rfl hin5 2 (by decide) (index := 99) (ref := "RidingYard$Table") (List.mem_cons_of_mem _ (List.mem_append_left _ (List.mem_append_left _ (List.mem_of_getElem? (i := 0) rfl)))) (fun _ h => h) (v := .int (Y 16 ((fJ9_floorMod_7cf53 p0 4 : Int32).toNatClampNeg) 2)) rfl dX9_markTable_9 ?_
  refine lv_if_ne (x := Y 16 ((fJ9_floorMod_7cf53 p0 4 : Int32).toNatClampNeg) 2) (tgt := 17) hx hb dX9_markTable_12 (by decide) (fun c_1 => ?_) (fun c_1 => ?_)
  · refine lv_iload_n hx hb dX9_markTable_17 rfl (lv_at hl 3 rfl) ?_
    refine lv_aload hx hb dX9_markTable_18 (lv_at hl 0 rfl) ?_
    refine nw_get S hK hN (k := 16) (i := ((fJ9_floorMod_7cf53 p0 4 : Int32).toNatClampNeg)) (vp_lt (fm_in4 p0)) rfl rfl hin5 3 (by decide) (index := 103) (ref := "RidingYard$Table") (List.mem_cons_of_mem _ (List.mem_append_left _ (List.mem_append_left _ (List.mem_of_getElem? (i := 1) rfl)))) (fun _ h => h) (v := .int (Y 16 ((fJ9_floorMod_7cf53 p0 4 : Int32).toNatClampNeg) 3)) rfl dX9_markTable_20 ?_
    refine nw_callS (As := [.int p1, .int (Y 16 ((fJ9_floorMod_7cf53 p0 4 : Int32).toNatClampNeg) 3)]) (rest := []) S (kX9_within l p1 (Y 16 ((fJ9_floorMod_7cf53 p0 4 : Int32).toNatClampNeg) 3)) gX9_markTable_X9_within rfl ⟨rfl, rfl⟩ hqX9_within ⟨Nat.le_of_ble_eq_true rfl, Nat.le_of_ble_eq_true rfl⟩ rfl hl.1 rfl (Nat.le_of_ble_eq_true rfl) dX9_markTable_23 ⟨Nat.le_of_ble_eq_true rfl, Nat.le_of_ble_eq_true rfl⟩ ?_
    refine lv_if_ne (x := fX9_within p1 (Y 16 ((fJ9_floorMod_7cf53 p0 4 : Int32).toNatClampNeg) 3)) (tgt := 31) hx hb dX9_markTable_26 (by decide) (fun c_2 => ?_) (fun c_2 => ?_)
    · refine lv_aload hx hb dX9_markTable_31 (lv_at hl 0 rfl) ?_
      refine nw_get S hK hN (k := 16) (i := ((fJ9_floorMod_7cf53 p0 4 : Int32).toNatClampNeg)) (vp_lt (fm_in4 p0)) rfl rfl hin5 1 (by decide) (index := 106) (ref := "RidingYard$Table") (List.mem_cons_of_mem _ (List.mem_append_left _ (List.mem_append_left _ (List.mem_of_getElem? (i := 2) rfl)))) (fun _ h => h) (v := .ref (ad 19 ((fJ9_floorMod_7cf53 p0 4 : Int32).toNatClampNeg))) rfl dX9_markTable_33 ?_
      refine lv_iload_n hx hb dX9_markTable_36 rfl (lv_at hl 3 rfl) ?_
      refine nw_zald S hK hN (k := 19) (i := ((fJ9_floorMod_7cf53 p0 4 : Int32).toNatClampNeg)) (vp_lt (fm_in4 p0)) rfl (x := p1) (hI.rb (vp_lt (fm_in4 p0)) c_2) dX9_markTable_37 ?_
      refine lv_if_ne (x := Y 19 ((fJ9_floorMod_7cf53 p0 4 : Int32).toNatClampNeg) ((p1 : Int32).toNatClampNeg)) (tgt := 43) hx hb dX9_markTable_38 (by decide) (fun c_3 => ?_) (fun c_3 => ?_)
      · refine lv_iload_n hx hb dX9_markTable_43 rfl (lv_at hl 4 rfl) ?_
        refine lv_aload hx hb dX9_markTable_44 (lv_at hl 0 rfl) ?_
        refine nw_get S hK hN (k := 16) (i := ((fJ9_floorMod_7cf53 p0 4 : Int32).toNatClampNeg)) (vp_lt (fm_in4 p0)) rfl rfl hin5 4 (by decide) (index := 286) (ref := "RidingYard$Table") (List.mem_cons_of_mem _ (List.mem_append_left _ (List.mem_append_left _ (List.mem_of_getElem? (i := 3) rfl)))) (fun _ h => h) (v := .int (Y 16 ((fJ9_floorMod_7cf53 p0 4 : Int32).toNatClampNeg) 4)) rfl dX9_markTable_46 ?_
        refine nw_callS (As := [.int p2, .int (Y 16 ((fJ9_floorMod_7cf53 p0 4 : Int32).toNatClampNeg) 4)]) (rest := []) S (kX9_within l p2 (Y 16 ((fJ9_floorMod_7cf53 p0 4 : Int32).toNatClampNeg) 4)) gX9_markTable_X9_within rfl ⟨rfl, rfl⟩ hqX9_within ⟨Nat.le_of_ble_eq_true rfl, Nat.le_of_ble_eq_true rfl⟩ rfl hl.1 rfl (Nat.le_of_ble_eq_true rfl) dX9_markTable_49 ⟨Nat.le_of_ble_eq_true rfl, Nat.le_of_ble_eq_true rfl⟩ ?_
        refine lv_if_ne (x := fX9_within p2 (Y 16 ((fJ9_floorMod_7cf53 p0 4 : Int32).toNatClampNeg) 4)) (tgt := 57) hx hb dX9_markTable_52 (by decide) (fun c_4 => ?_) (fun c_4 => ?_)
        · refine lv_aload hx hb dX9_markTable_57 (lv_at hl 0 rfl) ?_
          refine nw_get S hK hN (k := 16) (i := ((fJ9_floorMod_7cf53 p0 4 : Int32).toNatClampNeg)) (vp_lt (fm_in4 p0)) rfl rfl hin5 0 (by decide) (index := 289) (ref := "RidingYard$Table") (List.mem_cons_of_mem _ (List.mem_append_left _ (List.mem_append_left _ (List.mem_of_getElem? (i := 4) rfl)))) (fun _ h => h) (v := .ref (ad 17 ((fJ9_floorMod_7cf53 p0 4 : Int32).toNatClampNeg))) rfl dX9_markTable_59 ?_
          refine lv_iload_n hx hb dX9_markTable_62 rfl (lv_at hl 3 rfl) ?_
          refine nw_aald S hK hN (k := 17) (i := ((fJ9_floorMod_7cf53 p0 4 : Int32).toNatClampNeg)) (vp_lt (fm_in4 p0)) 8 rfl rfl rfl (x := p1) (hI.rb (vp_lt (fm_in4 p0)) c_2) dX9_markTable_63 (v := .ref (ad 18 (6 * ((fJ9_floorMod_7cf53 p0 4 : Int32).toNatClampNeg) + ((p1 : Int32).toNatClampNeg)))) rfl ?_
          refine lv_iload_n hx hb dX9_markTable_64 rfl (lv_at hl 4 rfl) ?_
          refine lv_dup2_11 hx hb dX9_markTable_65 rfl rfl ?_
          refine nw_iald S hK hN (k := 18) (i := (6 * ((fJ9_floorMod_7cf53 p0 4 : Int32).toNatClampNeg) + ((p1 : Int32).toNatClampNeg))) (row_lt (vp_lt (fm_in4 p0)) (vp_lt (hI.rb (vp_lt (fm_in4 p0)) c_2))) rfl (x := p2) (hI.wb (vp_lt (fm_in4 p0)) c_4) dX9_markTable_66 ?_
          refine lv_iconst (v := 1) hx hb dX9_markTable_67 (by decide) ?_
          refine lv_iadd hx hb dX9_markTable_68 ?_
          refine nw_iast S hK hN hS (k := 18) (i := (6 * ((fJ9_floorMod_7cf53 p0 4 : Int32).toNatClampNeg) + ((p1 : Int32).toNatClampNeg))) (row_lt (vp_lt (fm_in4 p0)) (vp_lt (hI.rb (vp_lt (fm_in4 p0)) c_2))) (fun _ => rfl) (x := p2) (v := (Y 18 (6 * ((fJ9_floorMod_7cf53 p0 4 : Int32).toNatClampNeg) + ((p1 : Int32).toNatClampNeg)) ((p2 : Int32).toNatClampNeg)) + 1) (hI.wb (vp_lt (fm_in4 p0)) c_4) dX9_markTable_69 (fun H locs hN hz hS => ?_)
          refine lv_aload_n hx hb dX9_markTable_70 rfl (lv_at hl 1 rfl) ?_
          refine lv_aload hx hb dX9_markTable_71 (lv_at hl 0 rfl) ?_
          refine nw_get S hK hN (k := 16) (i := ((fJ9_floorMod_7cf53 p0 4 : Int32).toNatClampNeg)) (vp_lt (fm_in4 p0)) rfl rfl hin5 0 (by decide) (index := 289) (ref := "RidingYard$Table") (List.mem_cons_of_mem _ (List.mem_append_left _ (List.mem_append_left _ (List.mem_of_getElem? (i := 4) rfl)))) (fun _ h => h) (v := .ref (ad 17 ((fJ9_floorMod_7cf53 p0 4 : Int32).toNatClampNeg))) rfl dX9_markTable_73 ?_
          refine lv_iload_n hx hb dX9_markTable_76 rfl (lv_at hl 3 rfl) ?_
          refine nw_aald S hK hN (k := 17) (i := ((fJ9_floorMod_7cf53 p0 4 : Int32).toNatClampNeg)) (vp_lt (fm_in4 p0)) 8 rfl rfl rfl (x := p1) (hI.rb (vp_lt (fm_in4 p0)) c_2) dX9_markTable_77 (v := .ref (ad 18 (6 * ((fJ9_floorMod_7cf53 p0 4 : Int32).toNatClampNeg) + ((p1 : Int32).toNatClampNeg)))) rfl ?_
          refine lv_iload_n hx hb dX9_markTable_78 rfl (lv_at hl 4 rfl) ?_
          refine nw_iald S hK hN (k := 18) (i := (6 * ((fJ9_floorMod_7cf53 p0 4 : Int32).toNatClampNeg) + ((p1 : Int32).toNatClampNeg))) (row_lt (vp_lt (fm_in4 p0)) (vp_lt (hI.rb (vp_lt (fm_in4 p0)) c_2))) rfl (x := p2) (hI.wb (vp_lt (fm_in4 p0)) c_4) dX9_markTable_79 ?_
          refine nwY_calli (As := [.int ((u3 Y 18 (6 * ((fJ9_floorMod_7cf53 p0 4 : Int32).toNatClampNeg) + ((p1 : Int32).toNatClampNeg)) ((p2 : Int32).toNatClampNeg) ((Y 18 (6 * ((fJ9_floorMod_7cf53 p0 4 : Int32).toNatClampNeg) + ((p1 : Int32).toNatClampNeg)) ((p2 : Int32).toNatClampNeg)) + 1)) 18 (6 * ((fJ9_floorMod_7cf53 p0 4 : Int32).toNatClampNeg) + ((p1 : Int32).toNatClampNeg)) ((p2 : Int32).toNatClampNeg))]) (rest := []) S (kX9_comeTo l D C A ad nh nv na (u3 Y 18 (6 * ((fJ9_floorMod_7cf53 p0 4 : Int32).toNatClampNeg) + ((p1 : Int32).toNatClampNeg)) ((p2 : Int32).toNatClampNeg) ((Y 18 (6 * ((fJ9_floorMod_7cf53 p0 4 : Int32).toNatClampNeg) + ((p1 : Int32).toNatClampNeg)) ((p2 : Int32).toNatClampNeg)) + 1)) ((u3 Y 18 (6 * ((fJ9_floorMod_7cf53 p0 4 : Int32).toNatClampNeg) + ((p1 : Int32).toNatClampNeg)) ((p2 : Int32).toNatClampNeg) ((Y 18 (6 * ((fJ9_floorMod_7cf53 p0 4 : Int32).toNatClampNeg) + ((p1 : Int32).toNatClampNeg)) ((p2 : Int32).toNatClampNeg)) + 1)) 18 (6 * ((fJ9_floorMod_7cf53 p0 4 : Int32).toNatClampNeg) + ((p1 : Int32).toNatClampNeg)) ((p2 : Int32).toNatClampNeg)) ) gX9_markTable_X9_comeTo rfl ⟨rfl, rfl⟩ hqX9_comeTo ⟨Nat.le_of_ble_eq_true rfl, Nat.le_of_ble_eq_true rfl⟩ hK (nw_recv hK hN (k := 0) (i := 0) ⟨by decide, rfl⟩ rfl rfl) hN hA hS rfl hl.1 rfl (Nat.le_of_ble_eq_true rfl) dX9_markTable_80 ⟨Nat.le_of_ble_eq_true rfl, Nat.le_of_ble_eq_true rfl⟩ (fun H locs hN hS => ?_)
          have hf : fX9_markTable Y p0 p1 p2 = (0, u3 (u3 Y 18 (6 * ((fJ9_floorMod_7cf53 p0 4 : Int32).toNatClampNeg) + ((p1 : Int32).toNatClampNeg)) ((p2 : Int32).toNatClampNeg) ((Y 18 (6 * ((fJ9_floorMod_7cf53 p0 4 : Int32).toNatClampNeg) + ((p1 : Int32).toNatClampNeg)) ((p2 : Int32).toNatClampNeg)) + 1)) 0 0 16 ((u3 Y 18 (6 * ((fJ9_floorMod_7cf53 p0 4 : Int32).toNatClampNeg) + ((p1 : Int32).toNatClampNeg)) ((p2 : Int32).toNatClampNeg) ((Y 18 (6 * ((fJ9_floorMod_7cf53 p0 4 : Int32).toNatClampNeg) + ((p1 : Int32).toNatClampNeg)) ((p2 : Int32).toNatClampNeg)) + 1)) 18 (6 * ((fJ9_floorMod_7cf53 p0 4 : Int32).toNatClampNeg) + ((p1 : Int32).toNatClampNeg)) ((p2 : Int32).toNatClampNeg))) := by unfold fX9_markTable; rw [if_neg c_1, if_neg c_2, if_neg c_3, if_neg c_4]
          exact W.iret (v := 0) hx hb hr (fun t ht _ => by rw [hf]; exact nw_end hS hN ht) hS.2.2 dX9_markTable_83
        · refine lv_iconst (v := 5) hx hb dX9_markTable_55 (by decide) ?_
          have hf : fX9_markTable Y p0 p1 p2 = (5, Y) := by unfold fX9_markTable; rw [if_neg c_1, if_neg c_2, if_neg c_3, if_pos c_4]
          exact W.iret (v := 5) hx hb hr (fun t ht _ => by rw [hf]; exact nw_end hS hN ht) hS.2.2 dX9_markTable_56
      · refine lv_iconst (v := 1) hx hb dX9_markTable_41 (by decide) ?_
        have hf : fX9_markTable Y p0 p1 p2 = (1, Y) := by unfold fX9_markTable; rw [if_neg c_1, if_neg c_2, if_pos c_3]
        exact W.iret (v := 1) hx hb hr (fun t ht _ => by rw [hf]; exact nw_end hS hN ht) hS.2.2 dX9_markTable_42
    · refine lv_iconst (v := 5) hx hb dX9_markTable_29 (by decide) ?_
      have hf : fX9_markTable Y p0 p1 p2 = (5, Y) := by unfold fX9_markTable; rw [if_neg c_1, if_pos c_2]
      exact W.iret (v := 5) hx hb hr (fun t ht _ => by rw [hf]; exact nw_end hS hN ht) hS.2.2 dX9_markTable_30
  · refine lv_iconst (v := 1) hx hb dX9_markTable_15 (by decide) ?_
    have hf : fX9_markTable Y p0 p1 p2 = (1, Y) := by unfold fX9_markTable; rw [if_pos c_1]
    exact W.iret (v := 1) hx hb hr (fun t ht _ => by rw [hf]; exact nw_end hS hN ht) hS.2.2 dX9_markTable_16
set_option maxHeartbeats 4000000 in
set_option maxRecDepth 100000 in
theorem kX9_raiseAlarm (l : Launch) (D : va_G) (C : Nat → ClassId) (A : Nat → Prop) (ad : Nat → Nat → Nat) (nh nv na : Nat) (Y : Nat → Nat → Nat → Int32) (p0 : Int32) (kk : Nat) (hI : InvY nh nv na kk Y) : Met l yX9_raiseAlarm wsX9_raiseAlarm ({ frames := 1, cells := 0, slots := 0, locals := 22 }) (va_Pc [.ref (ad 0 0), .int p0] (PW D C A (nw D (enY C) (domY nh nv na) A ad Y))) (nQ A (some (.int (fX9_raiseAlarm Y p0).1)) (nw D (enY C) (domY nh nv na) A ad (fX9_raiseAlarm Y p0).2)) 0 0 A := by
  refine Met.ofW (cc := cX9_raiseAlarm) (maxL := 3) (ret := (some .int)) (by decide) rfl ?_
  intro p e s m args below meth c s₁ B hml hv
  obtain ⟨rfl, hK, hN, hA⟩ := hv
  have hx := B.exec
  have hb := B.bytes
  have hr := B.returns
  have hts := atoms_spec (ws := wsX9_raiseAlarm) B.pre
  have hown : s.vm.findClass RX9 = some m.cls := findClass_of_methodNamed B.named
  have hlocks := B.notSynchronized
  have S : CallFix p m c cX9_raiseAlarm 3 s _ wsX9_raiseAlarm RX9 := ⟨hx, hb, hml, hown, hts⟩
  have hin9 : ∀ w ∈ wsX90, w ∈ wsX9_raiseAlarm := (fun _ h => List.mem_cons_of_mem _ (List.mem_append_left _ (List.mem_append_right _ (h))))
  have hin0 : ∀ w ∈ wsX00, w ∈ wsX9_raiseAlarm := (fun _ h => List.mem_cons_of_mem _ (List.mem_append_right _ (h)))
  have hS : va_S A s.heap s.heap [] := va_S.rf
  have hl := lv_entry ([.ref (ad 0 0), .int p0]) (n := 3) (Nat.le_of_ble_eq_true rfl)
  rw [lg_entry_eq]
  generalize (lg_sl ([.ref (ad 0 0), .int p0]) ++ List.replicate (3 - (lg_sl ([.ref (ad 0 0), .int p0])).length) Slot.unset).toArray = ls at hl ⊢
  have hl : lv_has ls 3 [(0, .ref (ad 0 0)), (1, .int p0)] := hl
  refine lv_aload_n hx hb dX9_raiseAlarm_0 rfl (lv_at hl 0 rfl) ?_
  refine nw_get S hK hN (k := 0) (i := 0) ⟨by decide, rfl⟩ rfl rfl hin9 5 (by decide) (index := 41) (ref := "RidingYard") (List.mem_cons_of_mem _ (List.mem_append_left _ (List.mem_append_left _ (List.mem_of_getElem? (i := 0) rfl)))) (fun _ h => h) (v := .ref (ad 6 0)) rfl dX9_raiseAlarm_1 ?_
  refine lv_iload_n hx hb dX9_raiseAlarm_4 rfl (lv_at hl 1 rfl) ?_
  refine lv_bipush (v := 6) hx hb dX9_raiseAlarm_5 (by decide) ?_
  refine nw_callS (As := [.int p0, .int 6]) (rest := [.ref (ad 6 0)]) S (kJ9_floorMod_7cf53 l p0 6 (by decide)) gX9_raiseAlarm_J9_floorMod_7cf53 rfl ⟨rfl, rfl⟩ hqJ9_floorMod_7cf53 ⟨Nat.le_of_ble_eq_true rfl, Nat.le_of_ble_eq_true rfl⟩ rfl hl.1 rfl (Nat.le_of_ble_eq_true rfl) dX9_raiseAlarm_7 ⟨Nat.le_of_ble_eq_true rfl, Nat.le_of_ble_eq_true rfl⟩ ?_
  by_cases c_1 : (Y 6 0 ((fJ9_floorMod_7cf53 p0 6 : Int32).toNatClampNeg)) < 0
  · refine nw_aald S hK hN (k := 6) (i := 0) ⟨by decide, rfl⟩ 7 rfl rfl rfl (x := fJ9_floorMod_7cf53 p0 6) (fm_in6 p0) dX9_raiseAlarm_10 (v := .null) (oA_n c_1) ?_
    refine lv_astore_nN (lv' := [(2, .null), (0, .ref (ad 0 0)), (1, .int p0)]) hx hb dX9_raiseAlarm_11 rfl hl (by decide) rfl (fun ls hl => ?_)
    refine lv_aload_nN hx hb dX9_raiseAlarm_12 rfl (lv_at hl 0 rfl) ?_
    refine lv_ifnonnullN hx hb dX9_raiseAlarm_13 ?_
    refine lv_iconst (v := 1) hx hb dX9_raiseAlarm_16 (by decide) ?_
    have hf : fX9_raiseAlarm Y p0 = (1, Y) := by unfold fX9_raiseAlarm; rw [if_pos c_1]
    exact W.iret (v := 1) hx hb hr (fun t ht _ => by rw [hf]; exact nw_end hS hN ht) hS.2.2 dX9_raiseAlarm_17
  · refine nw_aald S hK hN (k := 6) (i := 0) ⟨by decide, rfl⟩ 7 rfl rfl rfl (x := fJ9_floorMod_7cf53 p0 6) (fm_in6 p0) dX9_raiseAlarm_10 (v := .ref (ad 22 ((Y 6 0 ((fJ9_floorMod_7cf53 p0 6 : Int32).toNatClampNeg) : Int32).toNatClampNeg))) (oA_s c_1) ?_
    refine lv_astore_n (lv' := [(2, .ref (ad 22 ((Y 6 0 ((fJ9_floorMod_7cf53 p0 6 : Int32).toNatClampNeg) : Int32).toNatClampNeg))), (0, .ref (ad 0 0)), (1, .int p0)]) hx hb dX9_raiseAlarm_11 rfl hl (by decide) rfl (fun ls hl => ?_)
    refine lv_aload_n hx hb dX9_raiseAlarm_12 rfl (lv_at hl 0 rfl) ?_
    refine lv_ifnonnull (tgt := 18) hx hb dX9_raiseAlarm_13 (by decide) ?_
    refine lv_aload_n hx hb dX9_raiseAlarm_18 rfl (lv_at hl 1 rfl) ?_
    refine lv_aload_n hx hb dX9_raiseAlarm_19 rfl (lv_at hl 0 rfl) ?_
    refine nw_get S hK hN (k := 22) (i := (Y 6 0 ((fJ9_floorMod_7cf53 p0 6 : Int32).toNatClampNeg) : Int32).toNatClampNeg) (hI.hk (fm_in6 p0) c_1) rfl rfl hin0 0 (by decide) (index := 292) (ref := "RidingYard$Alarm") (List.mem_cons_of_mem _ (List.mem_append_left _ (List.mem_append_left _ (List.mem_of_getElem? (i := 1) rfl)))) (fun _ h => h) (v := .int (Y 22 ((Y 6 0 ((fJ9_floorMod_7cf53 p0 6 : Int32).toNatClampNeg) : Int32).toNatClampNeg) 0)) rfl dX9_raiseAlarm_20 ?_
    refine nw_put S hK hN hS (k := 0) (i := 0) ⟨by decide, rfl⟩ rfl rfl hin9 tyX9_ok nmX9 16 (by decide) (index := 118) (ref := "RidingYard") (List.mem_cons_of_mem _ (List.mem_append_left _ (List.mem_append_left _ (List.mem_of_getElem? (i := 2) rfl)))) (fun _ h => h) rfl (Y 22 ((Y 6 0 ((fJ9_floorMod_7cf53 p0 6 : Int32).toNatClampNeg) : Int32).toNatClampNeg) 0) rfl rfl rfl (Nat.le_of_ble_eq_true rfl) dX9_raiseAlarm_23 (fun H locs hN hz hS => ?_)
    refine lv_bipush (v := 6) hx hb dX9_raiseAlarm_26 (by decide) ?_
    have hf : fX9_raiseAlarm Y p0 = (6, u3 Y 0 0 16 (Y 22 ((Y 6 0 ((fJ9_floorMod_7cf53 p0 6 : Int32).toNatClampNeg) : Int32).toNatClampNeg) 0)) := by unfold fX9_raiseAlarm; rw [if_neg c_1]
    exact W.iret (v := 6) hx hb hr (fun t ht _ => by rw [hf]; exact nw_end hS hN ht) hS.2.2 dX9_raiseAlarm_28
