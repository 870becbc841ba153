set_option maxHeartbeats 4000000 in
set_option maxRecDepth 100000 in
theorem kX9_formTeam (l : Launch) (D : va_G) (C : Nat → ClassId) (A : Nat → Prop) (ad : Nat → Nat → Nat) (nh nv na : Nat) (Y : Nat → Nat → Nat → Int32) (p0 p1 p2 : Int32) (kk : Nat) (hI : InvY nh nv na kk Y) : Met l yX9_formTeam wsX9_formTeam ({ frames := 2, cells := 0, slots := 0, locals := 43 }) (va_Pc [.ref (ad 0 0), .int p0, .int p1, .int p2] (PW D C A (nw D (enY C) (domY nh nv na) A ad Y))) (nQ A (some (.int (fX9_formTeam Y p0 p1 p2).1)) (nw D (enY C) (domY nh nv na) A ad (fX9_formTeam Y p0 p1 p2).2)) 0 0 A := by
  refine Met.ofW (cc := cX9_formTeam) (maxL := 5) (ret := (some .int)) (by decide) rfl ?_
  intro p e s m args below meth c s₁ B hml hv
  obtain ⟨rfl, hK, hN, hA⟩ := hv
  have hx := B.exec
  have hb := B.bytes
  have hr := B.returns
  have hts := atoms_spec (ws := wsX9_formTeam) B.pre
  have hown : s.vm.findClass RX9 = some m.cls := findClass_of_methodNamed B.named
  have hlocks := B.notSynchronized
  have S : CallFix p m c cX9_formTeam 5 s _ wsX9_formTeam RX9 := ⟨hx, hb, hml, hown, hts⟩
  have hin9 : ∀ w ∈ wsX90, w ∈ wsX9_formTeam := (fun _ h => List.mem_cons_of_mem _ (List.mem_append_left _ (List.mem_append_right _ (h))))
  have hin6 : ∀ w ∈ wsX60, w ∈ wsX9_formTeam := (fun _ h => List.mem_cons_of_mem _ (List.mem_append_right _ (h)))
  have hS : va_S A s.heap s.heap [] := va_S.rf
  have hl := lv_entry ([.ref (ad 0 0), .int p0, .int p1, .int p2]) (n := 5) (Nat.le_of_ble_eq_true rfl)
  rw [lg_entry_eq]
  generalize (lg_sl ([.ref (ad 0 0), .int p0, .int p1, .int p2]) ++ List.replicate (5 - (lg_sl ([.ref (ad 0 0), .int p0, .int p1, .int p2])).length) Slot.unset).toArray = ls at hl ⊢
  have hl : lv_has ls 5 [(0, .ref (ad 0 0)), (1, .int p0), (2, .int p1), (3, .int p2)] := hl
  refine lv_iload_n hx hb dX9_formTeam_0 rfl (lv_at hl 3 rfl) ?_
  refine lv_if_ge (x := p2) (tgt := 6) hx hb dX9_formTeam_1 (by decide) (fun c_1 => ?_) (fun c_1 => ?_)
  · refine lv_iload_n hx hb dX9_formTeam_6 rfl (lv_at hl 3 rfl) ?_
    refine lv_bipush (v := 8) hx hb dX9_formTeam_7 (by decide) ?_
    refine va_mmin hx hb (hml.trans hl.1.symm) hown (hts _ (List.mem_cons_of_mem _ (List.mem_append_left _ (List.mem_append_left _ (List.mem_append_left _ (List.mem_of_getElem? (i := 0) rfl)))))) (hts _ (List.mem_cons_of_mem _ (List.mem_append_left _ (List.mem_append_left _ (List.mem_append_left _ (List.mem_of_getElem? (i := 1) rfl)))))) (hts _ (List.mem_cons_of_mem _ (List.mem_append_left _ (List.mem_append_left _ (List.mem_append_left _ (List.mem_of_getElem? (i := 2) rfl)))))) (hts _ (List.mem_cons_of_mem _ (List.mem_append_left _ (List.mem_append_left _ (List.mem_append_left _ (List.mem_of_getElem? (i := 3) rfl)))))) (Nat.le_of_ble_eq_true rfl) (Nat.le_of_ble_eq_true rfl) (Nat.le_of_ble_eq_true rfl) (Nat.le_of_ble_eq_true rfl) (x := p2) (y := 8) dX9_formTeam_9 ?_
    refine lv_istore (lv' := [(4, .int (if 8 < p2 then 8 else p2)), (0, .ref (ad 0 0)), (1, .int p0), (2, .int p1), (3, .int p2)]) hx hb dX9_formTeam_12 hl (by decide) rfl (fun ls hl => ?_)
    refine lv_aload_n hx hb dX9_formTeam_14 rfl (lv_at hl 1 rfl) ?_
    refine lv_iload_n hx hb dX9_formTeam_15 rfl (lv_at hl 2 rfl) ?_
    refine nwY_calli (As := [.int p0]) (rest := []) S (kX9_teamAt l D C A ad nh nv na Y p0 ) gX9_formTeam_X9_teamAt rfl ⟨rfl, rfl⟩ hqX9_teamAt ⟨Nat.le_of_ble_eq_true rfl, Nat.le_of_ble_eq_true rfl⟩ hK (nw_recv hK hN (k := 0) (i := 0) ⟨by decide, rfl⟩ rfl rfl) hN hA hS rfl hl.1 rfl (Nat.le_of_ble_eq_true rfl) dX9_formTeam_16 ⟨Nat.le_of_ble_eq_true rfl, Nat.le_of_ble_eq_true rfl⟩ (fun H locs hN hS => ?_)
    refine lv_iload_n hx hb dX9_formTeam_19 rfl (lv_at hl 3 rfl) ?_
    refine lv_iconst (v := 3) hx hb dX9_formTeam_20 (by decide) ?_
    refine nw_callS (As := [.int p1, .int 3]) (rest := [.ref (ad 12 ((fJ9_floorMod_7cf53 p0 6 : Int32).toNatClampNeg))]) S (kJ9_floorMod_7cf53 l p1 3 (by decide)) gX9_formTeam_J9_floorMod_7cf53 rfl ⟨rfl, rfl⟩ hqJ9_floorMod_7cf53 ⟨Nat.le_of_ble_eq_true rfl, Nat.le_of_ble_eq_true rfl⟩ rfl hl.1 rfl (Nat.le_of_ble_eq_true rfl) dX9_formTeam_21 ⟨Nat.le_of_ble_eq_true rfl, Nat.le_of_ble_eq_true rfl⟩ ?_
    refine lv_iload hx hb dX9_formTeam_24 (lv_at hl 0 rfl) ?_
    refine nwY_callv (As := [.int (fJ9_floorMod_7cf53 p1 3), .int (if 8 < p2 then 8 else p2)]) (rest := []) S (kX6_form l D C A ad nh nv na Y ((fJ9_floorMod_7cf53 p0 6 : Int32).toNatClampNeg) (vp_lt (fm_in6 p0)) (fJ9_floorMod_7cf53 p1 3) (if 8 < p2 then 8 else p2) ) gX9_formTeam_X6_form rfl ⟨rfl, rfl⟩ hqX6_form ⟨Nat.le_of_ble_eq_true rfl, Nat.le_of_ble_eq_true rfl⟩ hK (nw_recv hK hN (k := 12) (i := ((fJ9_floorMod_7cf53 p0 6 : Int32).toNatClampNeg)) (vp_lt (fm_in6 p0)) rfl rfl) hN hA hS rfl hl.1 rfl (Nat.le_of_ble_eq_true rfl) dX9_formTeam_26 ⟨Nat.le_of_ble_eq_true rfl, Nat.le_of_ble_eq_true rfl⟩ (fun H locs hN hS => ?_)
    refine lv_aload_n hx hb dX9_formTeam_29 rfl (lv_at hl 1 rfl) ?_
    refine lv_iload hx hb dX9_formTeam_30 (lv_at hl 0 rfl) ?_
    refine nwY_calli (As := [.int (if 8 < p2 then 8 else p2)]) (rest := []) S (kX9_comeTo l D C A ad nh nv na (fX6_form Y ((fJ9_floorMod_7cf53 p0 6 : Int32).toNatClampNeg) (fJ9_floorMod_7cf53 p1 3) (if 8 < p2 then 8 else p2)) (if 8 < p2 then 8 else p2) ) gX9_formTeam_X9_comeTo rfl ⟨rfl, rfl⟩ hqX9_comeTo ⟨Nat.le_of_ble_eq_true rfl, Nat.le_of_ble_eq_true rfl⟩ hK (nw_recv hK hN (k := 0) (i := 0) ⟨by decide, rfl⟩ rfl rfl) hN hA hS rfl hl.1 rfl (Nat.le_of_ble_eq_true rfl) dX9_formTeam_32 ⟨Nat.le_of_ble_eq_true rfl, Nat.le_of_ble_eq_true rfl⟩ (fun H locs hN hS => ?_)
    have hf : fX9_formTeam Y p0 p1 p2 = (0, u3 (fX6_form Y ((fJ9_floorMod_7cf53 p0 6 : Int32).toNatClampNeg) (fJ9_floorMod_7cf53 p1 3) (if 8 < p2 then 8 else p2)) 0 0 16 (if 8 < p2 then 8 else p2)) := by unfold fX9_formTeam; rw [if_pos c_1]
    exact W.iret (v := 0) hx hb hr (fun t ht _ => by rw [hf]; exact nw_end hS hN ht) hS.2.2 dX9_formTeam_35
  · refine lv_iconst (v := 2) hx hb dX9_formTeam_4 (by decide) ?_
    have hf : fX9_formTeam Y p0 p1 p2 = (2, Y) := by unfold fX9_formTeam; rw [if_neg c_1]
    exact W.iret (v := 2) hx hb hr (fun t ht _ => by rw [hf]; exact nw_end hS hN ht) hS.2.2 dX9_formTeam_5
set_option maxHeartbeats 4000000 in
set_option maxRecDepth 100000 in
theorem kX9_openLedger (l : Launch) (D : va_G) (C : Nat → ClassId) (A : Nat → Prop) (ad : Nat → Nat → Nat) (nh nv na : Nat) (Y : Nat → Nat → Nat → Int32) (p0 p1 : Int32) (kk : Nat) (hI : InvY nh nv na kk Y) : Met l yX9_openLedger wsX9_openLedger ({ frames := 2, cells := 0, slots := 0, locals := 44 }) (va_Pc [.ref (ad 0 0), .int p0, .int p1] (PW D C A (nw D (enY C) (domY nh nv na) A ad Y))) (nQ A (some (.int (fX9_openLedger Y p0 p1).1)) (nw D (enY C) (domY nh nv na) A ad (fX9_openLedger Y p0 p1).2)) 0 0 A := by
  refine Met.ofW (cc := cX9_openLedger) (maxL := 4) (ret := (some .int)) (by decide) rfl ?_
  intro p e s m args below meth c s₁ B hml hv
  obtain ⟨rfl, hK, hN, hA⟩ := hv
  have hx := B.exec
  have hb := B.bytes
  have hr := B.returns
  have hts := atoms_spec (ws := wsX9_openLedger) B.pre
  have hown : s.vm.findClass RX9 = some m.cls := findClass_of_methodNamed B.named
  have hlocks := B.notSynchronized
  have S : CallFix p m c cX9_openLedger 4 s _ wsX9_openLedger RX9 := ⟨hx, hb, hml, hown, hts⟩
  have hin9 : ∀ w ∈ wsX90, w ∈ wsX9_openLedger := (fun _ h => List.mem_cons_of_mem _ (List.mem_append_left _ (List.mem_append_right _ (h))))
  have hin4 : ∀ w ∈ wsX40, w ∈ wsX9_openLedger := (fun _ h => List.mem_cons_of_mem _ (List.mem_append_right _ (h)))
  have hS : va_S A s.heap s.heap [] := va_S.rf
  have hl := lv_entry ([.ref (ad 0 0), .int p0, .int p1]) (n := 4) (Nat.le_of_ble_eq_true rfl)
  rw [lg_entry_eq]
  generalize (lg_sl ([.ref (ad 0 0), .int p0, .int p1]) ++ List.replicate (4 - (lg_sl ([.ref (ad 0 0), .int p0, .int p1])).length) Slot.unset).toArray = ls at hl ⊢
  have hl : lv_has ls 4 [(0, .ref (ad 0 0)), (1, .int p0), (2, .int p1)] := hl
  refine lv_iload_n hx hb dX9_openLedger_0 rfl (lv_at hl 2 rfl) ?_
  refine lv_if_ge (x := p1) (tgt := 6) hx hb dX9_openLedger_1 (by decide) (fun c_1 => ?_) (fun c_1 => ?_)
  · refine lv_iload_n hx hb dX9_openLedger_6 rfl (lv_at hl 2 rfl) ?_
    refine lv_bipush (v := 12) hx hb dX9_openLedger_7 (by decide) ?_
    refine va_mmin hx hb (hml.trans hl.1.symm) hown (hts _ (List.mem_cons_of_mem _ (List.mem_append_left _ (List.mem_append_left _ (List.mem_append_left _ (List.mem_of_getElem? (i := 0) rfl)))))) (hts _ (List.mem_cons_of_mem _ (List.mem_append_left _ (List.mem_append_left _ (List.mem_append_left _ (List.mem_of_getElem? (i := 1) rfl)))))) (hts _ (List.mem_cons_of_mem _ (List.mem_append_left _ (List.mem_append_left _ (List.mem_append_left _ (List.mem_of_getElem? (i := 2) rfl)))))) (hts _ (List.mem_cons_of_mem _ (List.mem_append_left _ (List.mem_append_left _ (List.mem_append_left _ (List.mem_of_getElem? (i := 3) rfl)))))) (Nat.le_of_ble_eq_true rfl) (Nat.le_of_ble_eq_true rfl) (Nat.le_of_ble_eq_true rfl) (Nat.le_of_ble_eq_true rfl) (x := p1) (y := 12) dX9_openLedger_9 ?_
    refine lv_istore_n (lv' := [(3, .int (if 12 < p1 then 12 else p1)), (0, .ref (ad 0 0)), (1, .int p0), (2, .int p1)]) hx hb dX9_openLedger_12 rfl hl (by decide) rfl (fun ls hl => ?_)
    refine lv_aload_n hx hb dX9_openLedger_13 rfl (lv_at hl 1 rfl) ?_
    refine lv_iload_n hx hb dX9_openLedger_14 rfl (lv_at hl 2 rfl) ?_
    refine nwY_calli (As := [.int p0]) (rest := []) S (kX9_ledgerAt l D C A ad nh nv na Y p0 ) gX9_openLedger_X9_ledgerAt rfl ⟨rfl, rfl⟩ hqX9_ledgerAt ⟨Nat.le_of_ble_eq_true rfl, Nat.le_of_ble_eq_true rfl⟩ hK (nw_recv hK hN (k := 0) (i := 0) ⟨by decide, rfl⟩ rfl rfl) hN hA hS rfl hl.1 rfl (Nat.le_of_ble_eq_true rfl) dX9_openLedger_15 ⟨Nat.le_of_ble_eq_true rfl, Nat.le_of_ble_eq_true rfl⟩ (fun H locs hN hS => ?_)
    refine lv_iload_n hx hb dX9_openLedger_18 rfl (lv_at hl 0 rfl) ?_
    refine nwY_callv (As := [.int (if 12 < p1 then 12 else p1)]) (rest := []) S (kX4_open l D C A ad nh nv na Y ((fJ9_floorMod_7cf53 p0 4 : Int32).toNatClampNeg) (vp_lt (fm_in4 p0)) (if 12 < p1 then 12 else p1) ) gX9_openLedger_X4_open rfl ⟨rfl, rfl⟩ hqX4_open ⟨Nat.le_of_ble_eq_true rfl, Nat.le_of_ble_eq_true rfl⟩ hK (nw_recv hK hN (k := 14) (i := ((fJ9_floorMod_7cf53 p0 4 : Int32).toNatClampNeg)) (vp_lt (fm_in4 p0)) rfl rfl) hN hA hS rfl hl.1 rfl (Nat.le_of_ble_eq_true rfl) dX9_openLedger_19 ⟨Nat.le_of_ble_eq_true rfl, Nat.le_of_ble_eq_true rfl⟩ (fun H locs hN hS => ?_)
    refine lv_aload_n hx hb dX9_openLedger_22 rfl (lv_at hl 1 rfl) ?_
    refine lv_iload_n hx hb dX9_openLedger_23 rfl (lv_at hl 0 rfl) ?_
    refine nwY_calli (As := [.int (if 12 < p1 then 12 else p1)]) (rest := []) S (kX9_comeTo l D C A ad nh nv na (fX4_open Y ((fJ9_floorMod_7cf53 p0 4 : Int32).toNatClampNeg) (if 12 < p1 then 12 else p1)) (if 12 < p1 then 12 else p1) ) gX9_openLedger_X9_comeTo rfl ⟨rfl, rfl⟩ hqX9_comeTo ⟨Nat.le_of_ble_eq_true rfl, Nat.le_of_ble_eq_true rfl⟩ hK (nw_recv hK hN (k := 0) (i := 0) ⟨by decide, rfl⟩ rfl rfl) hN hA hS rfl hl.1 rfl (Nat.le_of_ble_eq_true rfl) dX9_openLedger_24 ⟨Nat.le_of_ble_eq_true rfl, Nat.le_of_ble_eq_true rfl⟩ (fun H locs hN hS => ?_)
    have hf : fX9_openLedger Y p0 p1 = (0, u3 (fX4_open Y ((fJ9_floorMod_7cf53 p0 4 : Int32).toNatClampNeg) (if 12 < p1 then 12 else p1)) 0 0 16 (if 12 < p1 then 12 else p1)) := by unfold fX9_openLedger; rw [if_pos c_1]
    exact W.iret (v := 0) hx hb hr (fun t ht _ => by rw [hf]; exact nw_end hS hN ht) hS.2.2 dX9_openLedger_27
  · refine lv_iconst (v := 2) hx hb dX9_openLedger_4 (by decide) ?_
    have hf : fX9_openLedger Y p0 p1 = (2, Y) := by unfold fX9_openLedger; rw [if_neg c_1]
    exact W.iret (v := 2) hx hb hr (fun t ht _ => by rw [hf]; exact nw_end hS hN ht) hS.2.2 dX9_openLedger_5
set_option maxHeartbeats 4000000 in
set_option maxRecDepth 100000 in
theorem kX9_setTable (l : Launch) (D : va_G) (C : Nat → ClassId) (A : Nat → Prop) (ad : Nat → Nat → Nat) (nh nv na : Nat) (Y : Nat → Nat → Nat → Int32) (p0 p1 p2 : Int32) (kk : Nat) (hI : InvY nh nv na kk Y) : Met l yX9_setTable wsX9_setTable ({ frames := 2, cells := 0, slots := 0, locals := 46 }) (va_Pc [.ref (ad 0 0), .int p0, .int p1, .int p2] (PW D C A (nw D (enY C) (domY nh nv na) A ad Y))) (nQ A (some (.int (fX9_setTable Y p0 p1 p2).1)) (nw D (enY C) (domY nh nv na) A ad (fX9_setTable Y p0 p1 p2).2)) 0 0 A := by
  refine Met.ofW (cc := cX9_setTable) (maxL := 4) (ret := (some .int)) (by decide) rfl ?_
  intro p e s m args below meth c s₁ B hml hv
  obtain ⟨rfl, hK, hN, hA⟩ := hv
  have hx := B.exec
  have hb := B.bytes
  have hr := B.returns
  have hts := atoms_spec (ws := wsX9_setTable) B.pre
  have hown : s.vm.findClass RX9 = some m.cls := findClass_of_methodNamed B.named
  have hlocks := B.notSynchronized
  have S : CallFix p m c cX9_setTable 4 s _ wsX9_setTable RX9 := ⟨hx, hb, hml, hown, hts⟩
  have hin9 : ∀ w ∈ wsX90, w ∈ wsX9_setTable := (fun _ h => List.mem_cons_of_mem _ (List.mem_append_left _ (List.mem_append_right _ (h))))
  have hin5 : ∀ w ∈ wsX50, w ∈ wsX9_setTable := (fun _ h => List.mem_cons_of_mem _ (List.mem_append_right _ (h)))
  have hS : va_S A s.heap s.heap [] := va_S.rf
  have hl := lv_entry ([.ref (ad 0 0), .int p0, .int p1, .int p2]) (n := 4) (Nat.le_of_ble_eq_true rfl)
  rw [lg_entry_eq]
  generalize (lg_sl ([.ref (ad 0 0), .int p0, .int p1, .int p2]) ++ List.replicate (4 - (lg_sl ([.ref (ad 0 0), .int p0, .int p1, .int p2])).length) Slot.unset).toArray = ls at hl ⊢
  have hl : lv_has ls 4 [(0, .ref (ad 0 0)), (1, .int p0), (2, .int p1), (3, .int p2)] := hl
  refine lv_iload_n hx hb dX9_setTable_0 rfl (lv_at hl 2 rfl) ?_
  refine lv_if_lt (x := p1) (tgt := 8) hx hb dX9_setTable_1 (by decide) (fun c_1 => ?_) (fun c_1 => ?_)
  · refine lv_iconst (v := 2) hx hb dX9_setTable_8 (by decide) ?_
    have hf : fX9_setTable Y p0 p1 p2 = (2, Y) := by unfold fX9_setTable; rw [if_pos c_1]
    exact W.iret (v := 2) hx hb hr (fun t ht _ => by rw [hf]; exact nw_end hS hN ht) hS.2.2 dX9_setTable_9
  · refine lv_iload_n hx hb dX9_setTable_4 rfl (lv_at hl 3 rfl) ?_
    refine lv_if_ge (x := p2) (tgt := 10) hx hb dX9_setTable_5 (by decide) (fun c_2 => ?_) (fun c_2 => ?_)
    · refine lv_aload_n hx hb dX9_setTable_10 rfl (lv_at hl 0 rfl) ?_
      refine lv_iload_n hx hb dX9_setTable_11 rfl (lv_at hl 1 rfl) ?_
      refine nwY_calli (As := [.int p0]) (rest := []) S (kX9_tableAt l D C A ad nh nv na Y p0 ) gX9_setTable_X9_tableAt rfl ⟨rfl, rfl⟩ hqX9_tableAt ⟨Nat.le_of_ble_eq_true rfl, Nat.le_of_ble_eq_true rfl⟩ hK (nw_recv hK hN (k := 0) (i := 0) ⟨by decide, rfl⟩ rfl rfl) hN hA hS rfl hl.1 rfl (Nat.le_of_ble_eq_true rfl) dX9_setTable_12 ⟨Nat.le_of_ble_eq_true rfl, Nat.le_of_ble_eq_true rfl⟩ (fun H locs hN hS => ?_)
      refine lv_iload_n hx hb dX9_setTable_15 rfl (lv_at hl 2 rfl) ?_
      refine lv_bipush (v := 6) hx hb dX9_setTable_16 (by decide) ?_
      refine va_mmin hx hb (hml.trans hl.1.symm) hown (hts _ (List.mem_cons_of_mem _ (List.mem_append_left _ (List.mem_append_left _ (List.mem_append_left _ (List.mem_of_getElem? (i := 0) rfl)))))) (hts _ (List.mem_cons_of_mem _ (List.mem_append_left _ (List.mem_append_left _ (List.mem_append_left _ (List.mem_of_getElem? (i := 1) rfl)))))) (hts _ (List.mem_cons_of_mem _ (List.mem_append_left _ (List.mem_append_left _ (List.mem_append_left _ (List.mem_of_getElem? (i := 2) rfl)))))) (hts _ (List.mem_cons_of_mem _ (List.mem_append_left _ (List.mem_append_left _ (List.mem_append_left _ (List.mem_of_getElem? (i := 3) rfl)))))) (Nat.le_of_ble_eq_true rfl) (Nat.le_of_ble_eq_true rfl) (Nat.le_of_ble_eq_true rfl) (Nat.le_of_ble_eq_true rfl) (x := p1) (y := 6) dX9_setTable_18 ?_
      refine lv_iload_n hx hb dX9_setTable_21 rfl (lv_at hl 3 rfl) ?_
      refine lv_bipush (v := 6) hx hb dX9_setTable_22 (by decide) ?_
      refine va_mmin hx hb (hml.trans hl.1.symm) hown (hts _ (List.mem_cons_of_mem _ (List.mem_append_left _ (List.mem_append_left _ (List.mem_append_left _ (List.mem_of_getElem? (i := 0) rfl)))))) (hts _ (List.mem_cons_of_mem _ (List.mem_append_left _ (List.mem_append_left _ (List.mem_append_left _ (List.mem_of_getElem? (i := 1) rfl)))))) (hts _ (List.mem_cons_of_mem _ (List.mem_append_left _ (List.mem_append_left _ (List.mem_append_left _ (List.mem_of_getElem? (i := 2) rfl)))))) (hts _ (List.mem_cons_of_mem _ (List.mem_append_left _ (List.mem_append_left _ (List.mem_append_left _ (List.mem_of_getElem? (i := 3) rfl)))))) (Nat.le_of_ble_eq_true rfl) (Nat.le_of_ble_eq_true rfl) (Nat.le_of_ble_eq_true rfl) (Nat.le_of_ble_eq_true rfl) (x := p2) (y := 6) dX9_setTable_24 ?_
      refine nwY_callv (As := [.int (if 6 < p1 then 6 else p1), .int (if 6 < p2 then 6 else p2)]) (rest := []) S (kX5_set l D C A ad nh nv na Y ((fJ9_floorMod_7cf53 p0 4 : Int32).toNatClampNeg) (vp_lt (fm_in4 p0)) (if 6 < p1 then 6 else p1) (if 6 < p2 then 6 else p2) ) gX9_setTable_X5_set rfl ⟨rfl, rfl⟩ hqX5_set ⟨Nat.le_of_ble_eq_true rfl, Nat.le_of_ble_eq_true rfl⟩ hK (nw_recv hK hN (k := 16) (i := ((fJ9_floorMod_7cf53 p0 4 : Int32).toNatClampNeg)) (vp_lt (fm_in4 p0)) rfl rfl) hN hA hS rfl hl.1 rfl (Nat.le_of_ble_eq_true rfl) dX9_setTable_27 ⟨Nat.le_of_ble_eq_true rfl, Nat.le_of_ble_eq_true rfl⟩ (fun H locs hN hS => ?_)
      refine lv_aload_n hx hb dX9_setTable_30 rfl (lv_at hl 0 rfl) ?_
      refine lv_iconst (v := 1) hx hb dX9_setTable_31 (by decide) ?_
      refine nwY_calli (As := [.int 1]) (rest := []) S (kX9_comeTo l D C A ad nh nv na (fX5_set Y ((fJ9_floorMod_7cf53 p0 4 : Int32).toNatClampNeg) (if 6 < p1 then 6 else p1) (if 6 < p2 then 6 else p2)) 1 ) gX9_setTable_X9_comeTo rfl ⟨rfl, rfl⟩ hqX9_comeTo ⟨Nat.le_of_ble_eq_true rfl, Nat.le_of_ble_eq_true rfl⟩ hK (nw_recv hK hN (k := 0) (i := 0) ⟨by decide, rfl⟩ rfl rfl) hN hA hS rfl hl.1 rfl (Nat.le_of_ble_eq_true rfl) dX9_setTable_32 ⟨Nat.le_of_ble_eq_true rfl, Nat.le_of_ble_eq_true rfl⟩ (fun H locs hN hS => ?_)
      have hf : fX9_setTable Y p0 p1 p2 = (0, u3 (fX5_set Y ((fJ9_floorMod_7cf53 p0 4 : Int32).toNatClampNeg) (if 6 < p1 then 6 else p1) (if 6 < p2 then 6 else p2)) 0 0 16 1) := by unfold fX9_setTable; rw [if_neg c_1, if_pos c_2]
      exact W.iret (v := 0) hx hb hr (fun t ht _ => by rw [hf]; exact nw_end hS hN ht) hS.2.2 dX9_setTable_35
    · refine lv_iconst (v := 2) hx hb dX9_setTable_8 (by decide) ?_
      have hf : fX9_setTable Y p0 p1 p2 = (2, Y) := by unfold fX9_setTable; rw [if_neg c_1, if_neg c_2]
      exact W.iret (v := 2) hx hb hr (fun t ht _ => by rw [hf]; exact nw_end hS hN ht) hS.2.2 dX9_setTable_9
set_option maxHeartbeats 4000000 in
set_option maxRecDepth 100000 in
theorem kX9_sumLedger (l : Launch) (D : va_G) (C : Nat → ClassId) (A : Nat → Prop) (ad : Nat → Nat → Nat) (nh nv na : Nat) (Y : Nat → Nat → Nat → Int32) (p0 : Int32) (kk : Nat) (hI : InvY nh nv na kk Y) : Met l yX9_sumLedger wsX9_sumLedger ({ frames := 2, cells := 0, slots := 0, locals := 43 }) (va_Pc [.ref (ad 0 0), .int p0] (PW D C A (nw D (enY C) (domY nh nv na) A ad Y))) (nQ A (some (.int (fX9_sumLedger Y p0).1)) (nw D (enY C) (domY nh nv na) A ad (fX9_sumLedger Y p0).2)) 0 0 A := by
  refine Met.ofW (cc := cX9_sumLedger) (maxL := 3) (ret := (some .int)) (by decide) rfl ?_
  intro p e s m args below meth c s₁ B hml hv
  obtain ⟨rfl, hK, hN, hA⟩ := hv
  have hx := B.exec
  have hb := B.bytes
  have hr := B.returns
  have hts := atoms_spec (ws := wsX9_sumLedger) B.pre
  have hown : s.vm.findClass RX9 = some m.cls := findClass_of_methodNamed B.named
  have hlocks := B.notSynchronized
  have S : CallFix p m c cX9_sumLedger 3 s _ wsX9_sumLedger RX9 := ⟨hx, hb, hml, hown, hts⟩
  have hin9 : ∀ w ∈ wsX90, w ∈ wsX9_sumLedger := (fun _ h => List.mem_cons_of_mem _ (List.mem_append_right _ (h)))
  have hin4 : ∀ w ∈ wsX40, w ∈ wsX9_sumLedger := (fun _ h => List.mem_cons_of_mem _ (List.mem_append_left _ (List.mem_append_right _ (h))))
  have hS : va_S A s.heap s.heap [] := va_S.rf
  have hl := lv_entry ([.ref (ad 0 0), .int p0]) (n := 3) (Nat.le_of_ble_eq_true rfl)
  rw [lg_entry_eq]
  generalize (lg_sl ([.ref (ad 0 0), .int p0]) ++ List.replicate (3 - (lg_sl ([.ref (ad 0 0), .int p0])).length) Slot.unset).toArray = ls at hl ⊢
  have hl : lv_has ls 3 [(0, .ref (ad 0 0)), (1, .int p0)] := hl
  refine lv_aload_n hx hb dX9_sumLedger_0 rfl (lv_at hl 0 rfl) ?_
  refine lv_iload_n hx hb dX9_sumLedger_1 rfl (lv_at hl 1 rfl) ?_
  refine nwY_calli (As := [.int p0]) (rest := []) S (kX9_ledgerAt l D C A ad nh nv na Y p0 ) gX9_sumLedger_X9_ledgerAt rfl ⟨rfl, rfl⟩ hqX9_ledgerAt ⟨Nat.le_of_ble_eq_true rfl, Nat.le_of_ble_eq_true rfl⟩ hK (nw_recv hK hN (k := 0) (i := 0) ⟨by decide, rfl⟩ rfl rfl) hN hA hS rfl hl.1 rfl (Nat.le_of_ble_eq_true rfl) dX9_sumLedger_2 ⟨Nat.le_of_ble_eq_true rfl, Nat.le_of_ble_eq_true rfl⟩ (fun H locs hN hS => ?_)
  refine lv_astore_n (lv' := [(2, .ref (ad 14 ((fJ9_floorMod_7cf53 p0 4 : Int32).toNatClampNeg))), (0, .ref (ad 0 0)), (1, .int p0)]) hx hb dX9_sumLedger_5 rfl hl (by decide) rfl (fun ls hl => ?_)
  refine lv_aload_n hx hb dX9_sumLedger_6 rfl (lv_at hl 0 rfl) ?_
  refine nw_get S hK hN (k := 14) (i := ((fJ9_floorMod_7cf53 p0 4 : Int32).toNatClampNeg)) (vp_lt (fm_in4 p0)) rfl rfl hin4 1 (by decide) (index := 161) (ref := "RidingYard$Ledger") (List.mem_cons_of_mem _ (List.mem_append_left _ (List.mem_append_left _ (List.mem_of_getElem? (i := 0) rfl)))) (fun _ h => h) (v := .int (Y 14 ((fJ9_floorMod_7cf53 p0 4 : Int32).toNatClampNeg) 1)) rfl dX9_sumLedger_7 ?_
  refine lv_if_eq (x := Y 14 ((fJ9_floorMod_7cf53 p0 4 : Int32).toNatClampNeg) 1) (tgt := 24) hx hb dX9_sumLedger_10 (by decide) (fun c_1 => ?_) (fun c_1 => ?_)
  · refine lv_iconst (v := 1) hx hb dX9_sumLedger_24 (by decide) ?_
    have hf : fX9_sumLedger Y p0 = (1, Y) := by unfold fX9_sumLedger; rw [if_pos c_1]
    exact W.iret (v := 1) hx hb hr (fun t ht _ => by rw [hf]; exact nw_end hS hN ht) hS.2.2 dX9_sumLedger_25
  · refine lv_aload_n hx hb dX9_sumLedger_13 rfl (lv_at hl 1 rfl) ?_
    refine lv_aload_n hx hb dX9_sumLedger_14 rfl (lv_at hl 0 rfl) ?_
    refine nwY_calli (As := []) (rest := [.ref (ad 0 0)]) S (kX4_sum l D C A ad nh nv na Y ((fJ9_floorMod_7cf53 p0 4 : Int32).toNatClampNeg) (vp_lt (fm_in4 p0))  kk hI) gX9_sumLedger_X4_sum rfl ⟨rfl, rfl⟩ hqX4_sum ⟨Nat.le_of_ble_eq_true rfl, Nat.le_of_ble_eq_true rfl⟩ hK (nw_recv hK hN (k := 14) (i := ((fJ9_floorMod_7cf53 p0 4 : Int32).toNatClampNeg)) (vp_lt (fm_in4 p0)) rfl rfl) hN hA hS rfl hl.1 rfl (Nat.le_of_ble_eq_true rfl) dX9_sumLedger_15 ⟨Nat.le_of_ble_eq_true rfl, Nat.le_of_ble_eq_true rfl⟩ (fun H locs hN hS => ?_)
    refine nwY_calli (As := [.int ((fX4_sum Y ((fJ9_floorMod_7cf53 p0 4 : Int32).toNatClampNeg)).1)]) (rest := []) S (kX9_comeTo l D C A ad nh nv na ((fX4_sum Y ((fJ9_floorMod_7cf53 p0 4 : Int32).toNatClampNeg)).2) ((fX4_sum Y ((fJ9_floorMod_7cf53 p0 4 : Int32).toNatClampNeg)).1) ) gX9_sumLedger_X9_comeTo rfl ⟨rfl, rfl⟩ hqX9_comeTo ⟨Nat.le_of_ble_eq_true rfl, Nat.le_of_ble_eq_true rfl⟩ hK (nw_recv hK hN (k := 0) (i := 0) ⟨by decide, rfl⟩ rfl rfl) hN hA hS rfl hl.1 rfl (Nat.le_of_ble_eq_true rfl) dX9_sumLedger_18 ⟨Nat.le_of_ble_eq_true rfl, Nat.le_of_ble_eq_true rfl⟩ (fun H locs hN hS => ?_)
    refine lv_goto (tgt := 25) hx hb dX9_sumLedger_21 (by decide) ?_
    have hf : fX9_sumLedger Y p0 = (0, u3 ((fX4_sum Y ((fJ9_floorMod_7cf53 p0 4 : Int32).toNatClampNeg)).2) 0 0 16 ((fX4_sum Y ((fJ9_floorMod_7cf53 p0 4 : Int32).toNatClampNeg)).1)) := by unfold fX9_sumLedger; rw [if_neg c_1]
    exact W.iret (v := 0) hx hb hr (fun t ht _ => by rw [hf]; exact nw_end hS hN ht) hS.2.2 dX9_sumLedger_25
set_option maxHeartbeats 4000000 in
set_option maxRecDepth 100000 in
theorem kX9_workTeam (l : Launch) (D : va_G) (C : Nat → ClassId) (A : Nat → Prop) (ad : Nat → Nat → Nat) (nh nv na : Nat) (Y : Nat → Nat → Nat → Int32) (p0 p1 : Int32) (kk : Nat) (hI : InvY nh nv na kk Y) : Met l yX9_workTeam wsX9_workTeam ({ frames := 2, cells := 0, slots := 0, locals := 43 }) (va_Pc [.ref (ad 0 0), .int p0, .int p1] (PW D C A (nw D (enY C) (domY nh nv na) A ad Y))) (nQ A (some (.int (fX9_workTeam Y p0 p1).1)) (nw D (enY C) (domY nh nv na) A ad (fX9_workTeam Y p0 p1).2)) 0 0 A := by
  refine Met.ofW (cc := cX9_workTeam) (maxL := 7) (ret := (some .int)) (by decide) rfl ?_
  intro p e s m args below meth c s₁ B hml hv
  obtain ⟨rfl, hK, hN, hA⟩ := hv
  have hx := B.exec
  have hb := B.bytes
  have hr := B.returns
  have hts := atoms_spec (ws := wsX9_workTeam) B.pre
  have hown : s.vm.findClass RX9 = some m.cls := findClass_of_methodNamed B.named
  have hlocks := B.notSynchronized
  have S : CallFix p m c cX9_workTeam 7 s _ wsX9_workTeam RX9 := ⟨hx, hb, hml, hown, hts⟩
  have hin9 : ∀ w ∈ wsX90, w ∈ wsX9_workTeam := (fun _ h => List.mem_cons_of_mem _ (List.mem_append_left _ (List.mem_append_left _ (List.mem_append_left _ (List.mem_append_right _ (h))))))
  have hin6 : ∀ w ∈ wsX60, w ∈ wsX9_workTeam := (fun _ h => List.mem_cons_of_mem _ (List.mem_append_left _ (List.mem_append_left _ (List.mem_append_left _ (List.mem_append_left _ (List.mem_append_right _ (h)))))))
  have hin1 : ∀ w ∈ wsX10, w ∈ wsX9_workTeam := (fun _ h => List.mem_cons_of_mem _ (List.mem_append_left _ (List.mem_append_left _ (List.mem_append_right _ (h)))))
  have hin2 : ∀ w ∈ wsX20, w ∈ wsX9_workTeam := (fun _ h => List.mem_cons_of_mem _ (List.mem_append_left _ (List.mem_append_right _ (h))))
  have hin3 : ∀ w ∈ wsX30, w ∈ wsX9_workTeam := (fun _ h => List.mem_cons_of_mem _ (List.mem_append_right _ (h)))
  have hS : va_S A s.heap s.heap [] := va_S.rf
  have hl := lv_entry ([.ref (ad 0 0), .int p0, .int p1]) (n := 7) (Nat.le_of_ble_eq_true rfl)
  rw [lg_entry_eq]
  generalize (lg_sl ([.ref (ad 0 0), .int p0, .int p1]) ++ List.replicate (7 - (lg_sl ([.ref (ad 0 0), .int p0, .int p1])).length) Slot.unset).toArray = ls at hl ⊢
  have hl : lv_has ls 7 [(0, .ref (ad 0 0)), (1, .int p0), (2, .int p1)] := hl
  refine lv_aload_n hx hb dX9_workTeam_0 rfl (lv_at hl 0 rfl) ?_
  refine lv_iload_n hx hb dX9_workTeam_1 rfl (lv_at hl 1 rfl) ?_
  refine nwY_calli (As := [.int p0]) (rest := []) S (kX9_teamAt l D C A ad nh nv na Y p0 ) gX9_workTeam_X9_teamAt rfl ⟨rfl, rfl⟩ hqX9_teamAt ⟨Nat.le_of_ble_eq_true rfl, Nat.le_of_ble_eq_true rfl⟩ hK (nw_recv hK hN (k := 0) (i := 0) ⟨by decide, rfl⟩ rfl rfl) hN hA hS rfl hl.1 rfl (Nat.le_of_ble_eq_true rfl) dX9_workTeam_2 ⟨Nat.le_of_ble_eq_true rfl, Nat.le_of_ble_eq_true rfl⟩ (fun H locs hN hS => ?_)
  refine lv_astore_n (lv' := [(3, .ref (ad 12 ((fJ9_floorMod_7cf53 p0 6 : Int32).toNatClampNeg))), (0, .ref (ad 0 0)), (1, .int p0), (2, .int p1)]) hx hb dX9_workTeam_5 rfl hl (by decide) rfl (fun ls hl => ?_)
  refine lv_aload_n hx hb dX9_workTeam_6 rfl (lv_at hl 0 rfl) ?_
  refine nw_get S hK hN (k := 12) (i := ((fJ9_floorMod_7cf53 p0 6 : Int32).toNatClampNeg)) (vp_lt (fm_in6 p0)) rfl rfl hin6 1 (by decide) (index := 160) (ref := "RidingYard$Team") (List.mem_cons_of_mem _ (List.mem_append_left _ (List.mem_append_left _ (List.mem_append_left _ (List.mem_append_left _ (List.mem_append_left _ (List.mem_append_left _ (List.mem_of_getElem? (i := 0) rfl)))))))) (fun _ h => h) (v := .int (Y 12 ((fJ9_floorMod_7cf53 p0 6 : Int32).toNatClampNeg) 1)) rfl dX9_workTeam_7 ?_
  refine lv_if_ne (x := Y 12 ((fJ9_floorMod_7cf53 p0 6 : Int32).toNatClampNeg) 1) (tgt := 15) hx hb dX9_workTeam_10 (by decide) (fun c_1 => ?_) (fun c_1 => ?_)
  · refine lv_iconst (v := 0) hx hb dX9_workTeam_15 (by decide) ?_
    refine lv_istore (lv' := [(4, .int 0), (3, .ref (ad 12 ((fJ9_floorMod_7cf53 p0 6 : Int32).toNatClampNeg))), (0, .ref (ad 0 0)), (1, .int p0), (2, .int p1)]) hx hb dX9_workTeam_16 hl (by decide) rfl (fun ls hl => ?_)
    refine lv_iconst (v := 0) hx hb dX9_workTeam_18 (by decide) ?_
    refine lv_istore (lv' := [(5, .int 0), (4, .int 0), (3, .ref (ad 12 ((fJ9_floorMod_7cf53 p0 6 : Int32).toNatClampNeg))), (0, .ref (ad 0 0)), (1, .int p0), (2, .int p1)]) hx hb dX9_workTeam_19 hl (by decide) rfl (fun ls hl => ?_)
    refine lpW (σ := Int32 × Int32 × (Nat → Nat → Nat → Int32)) 9 (0, 0, Y) (fun n x H locs ls => lv_has ls 7 [(5, .int x.1), (4, .int x.2.1), (3, .ref (ad 12 ((fJ9_floorMod_7cf53 p0 6 : Int32).toNatClampNeg))), (0, .ref (ad 0 0)), (1, .int p0), (2, .int p1)] ∧ nw D (enY C) (domY nh nv na) A ad x.2.2 H ∧ va_S A s.heap H locs ∧ fX9_workTeam Y p0 p1 = gX9_workTeam_21 p0 p1 n x.1 x.2.1 (x.2.2) ∧ (InvY nh nv na kk x.2.2 ∧ ∃ i : Nat, x.1 = nI i ∧ i ≤ 8 ∧ i + n = 9)) 21 (fun n x H locs ls hP ih => ?_) ⟨lv_sub hl [0, 1, 2, 3, 4, 5] rfl, hN, hS, by unfold fX9_workTeam; rw [if_neg c_1], hI, 0, rfl, by omega, rfl⟩
    obtain ⟨x5, x4, Z21⟩ := x
    obtain ⟨hl, hN, hS, hfe, hinv⟩ := hP
    dsimp only at hl hN hfe hinv
    obtain ⟨hI, i, hi1, hi2, hi3⟩ := hinv
    obtain ⟨n, rfl⟩ : ∃ k, n = k + 1 := ⟨n - 1, by omega⟩
    refine lv_iload hx hb dX9_workTeam_21 (lv_at hl 0 rfl) ?_
    refine lv_aload_n hx hb dX9_workTeam_23 rfl (lv_at hl 2 rfl) ?_
    refine nw_get S hK hN (k := 12) (i := ((fJ9_floorMod_7cf53 p0 6 : Int32).toNatClampNeg)) (vp_lt (fm_in6 p0)) rfl rfl hin6 3 (by decide) (index := 254) (ref := "RidingYard$Team") (List.mem_cons_of_mem _ (List.mem_append_left _ (List.mem_append_left _ (List.mem_append_left _ (List.mem_append_left _ (List.mem_append_left _ (List.mem_append_left _ (List.mem_of_getElem? (i := 1) rfl)))))))) (fun _ h => h) (v := .int (Z21 12 ((fJ9_floorMod_7cf53 p0 6 : Int32).toNatClampNeg) 3)) rfl dX9_workTeam_24 ?_
    refine lv_icmp_ge (x := x5) (y := Z21 12 ((fJ9_floorMod_7cf53 p0 6 : Int32).toNatClampNeg) 3) (tgt := 60) hx hb dX9_workTeam_27 (by decide) (fun c_2 => ?_) (fun c_2 => ?_)
    · refine lv_aload_n hx hb dX9_workTeam_60 rfl (lv_at hl 3 rfl) ?_
      refine lv_iload hx hb dX9_workTeam_61 (lv_at hl 1 rfl) ?_
      refine nwY_calli (As := [.int x4]) (rest := []) S (kX9_comeTo l D C A ad nh nv na Z21 x4 ) gX9_workTeam_X9_comeTo rfl ⟨rfl, rfl⟩ hqX9_comeTo ⟨Nat.le_of_ble_eq_true rfl, Nat.le_of_ble_eq_true rfl⟩ hK (nw_recv hK hN (k := 0) (i := 0) ⟨by decide, rfl⟩ rfl rfl) hN hA hS rfl hl.1 rfl (Nat.le_of_ble_eq_true rfl) dX9_workTeam_63 ⟨Nat.le_of_ble_eq_true rfl, Nat.le_of_ble_eq_true rfl⟩ (fun H locs hN hS => ?_)
      have hf : fX9_workTeam Y p0 p1 = (0, u3 Z21 0 0 16 x4) := by rw [hfe, gX9_workTeam_21_s, if_pos c_2]
      exact W.iret (v := 0) hx hb hr (fun t ht _ => by rw [hf]; exact nw_end hS hN ht) hS.2.2 dX9_workTeam_66
    · refine lv_aload_n hx hb dX9_workTeam_30 rfl (lv_at hl 2 rfl) ?_
      refine nw_get S hK hN (k := 12) (i := ((fJ9_floorMod_7cf53 p0 6 : Int32).toNatClampNeg)) (vp_lt (fm_in6 p0)) rfl rfl hin6 0 (by decide) (index := 261) (ref := "RidingYard$Team") (List.mem_cons_of_mem _ (List.mem_append_left _ (List.mem_append_left _ (List.mem_append_left _ (List.mem_append_left _ (List.mem_append_left _ (List.mem_append_left _ (List.mem_of_getElem? (i := 2) rfl)))))))) (fun _ h => h) (v := .ref (ad 13 ((fJ9_floorMod_7cf53 p0 6 : Int32).toNatClampNeg))) rfl dX9_workTeam_31 ?_
      refine lv_iload hx hb dX9_workTeam_34 (lv_at hl 0 rfl) ?_
      by_cases c_3 : (Z21 13 ((fJ9_floorMod_7cf53 p0 6 : Int32).toNatClampNeg) ((x5 : Int32).toNatClampNeg)) < 0
      · refine nw_aald S hK hN (k := 13) (i := ((fJ9_floorMod_7cf53 p0 6 : Int32).toNatClampNeg)) (vp_lt (fm_in6 p0)) 2 rfl rfl rfl (x := x5) (hI.tlin (vp_lt (fm_in6 p0)) hi1 hi2 c_2) dX9_workTeam_36 (v := .null) (oH_n c_3) ?_
        refine lv_astoreN (lv' := [(6, .null), (5, .int x5), (4, .int x4), (3, .ref (ad 12 ((fJ9_floorMod_7cf53 p0 6 : Int32).toNatClampNeg))), (0, .ref (ad 0 0)), (1, .int p0), (2, .int p1)]) hx hb dX9_workTeam_37 hl (by decide) rfl (fun ls hl => ?_)
        refine lv_aloadN hx hb dX9_workTeam_39 (lv_at hl 0 rfl) ?_
        refine lv_ifnonnullN hx hb dX9_workTeam_41 ?_
        refine lv_iconst (v := 1) hx hb dX9_workTeam_44 (by decide) ?_
        have hf : fX9_workTeam Y p0 p1 = (1, Z21) := by rw [hfe, gX9_workTeam_21_s, if_neg c_2, if_pos c_3]
        exact W.iret (v := 1) hx hb hr (fun t ht _ => by rw [hf]; exact nw_end hS hN ht) hS.2.2 dX9_workTeam_45
      · refine nw_aald S hK hN (k := 13) (i := ((fJ9_floorMod_7cf53 p0 6 : Int32).toNatClampNeg)) (vp_lt (fm_in6 p0)) 2 rfl rfl rfl (x := x5) (hI.tlin (vp_lt (fm_in6 p0)) hi1 hi2 c_2) dX9_workTeam_36 (v := .ref (ad 20 ((Z21 13 ((fJ9_floorMod_7cf53 p0 6 : Int32).toNatClampNeg) ((x5 : Int32).toNatClampNeg) : Int32).toNatClampNeg))) (oH_s c_3) ?_
        refine lv_astore (lv' := [(6, .ref (ad 20 ((Z21 13 ((fJ9_floorMod_7cf53 p0 6 : Int32).toNatClampNeg) ((x5 : Int32).toNatClampNeg) : Int32).toNatClampNeg))), (5, .int x5), (4, .int x4), (3, .ref (ad 12 ((fJ9_floorMod_7cf53 p0 6 : Int32).toNatClampNeg))), (0, .ref (ad 0 0)), (1, .int p0), (2, .int p1)]) hx hb dX9_workTeam_37 hl (by decide) rfl (fun ls hl => ?_)
        refine lv_aload hx hb dX9_workTeam_39 (lv_at hl 0 rfl) ?_
        refine lv_ifnonnull (tgt := 46) hx hb dX9_workTeam_41 (by decide) ?_
        refine lv_aload hx hb dX9_workTeam_46 (lv_at hl 0 rfl) ?_
        refine lv_iload_n hx hb dX9_workTeam_48 rfl (lv_at hl 6 rfl) ?_
        by_cases k_4 : (Z21 20 ((Z21 13 ((fJ9_floorMod_7cf53 p0 6 : Int32).toNatClampNeg) ((x5 : Int32).toNatClampNeg) : Int32).toNatClampNeg) 5) = 0
        · refine nwY_calli (As := [.int p1]) (rest := []) S (kX2_workFor l D C A ad nh nv na Z21 ((Z21 13 ((fJ9_floorMod_7cf53 p0 6 : Int32).toNatClampNeg) ((x5 : Int32).toNatClampNeg) : Int32).toNatClampNeg) (hI.pl (vp_lt (fm_in6 p0)) (hI.tlin (vp_lt (fm_in6 p0)) hi1 hi2 c_2) c_3) p1) gX9_workTeam_X2_workFor rfl ⟨rfl, rfl⟩ hqX2_workFor ⟨Nat.le_of_ble_eq_true rfl, Nat.le_of_ble_eq_true rfl⟩ hK ((nw_recvH hK hN (h := (Z21 13 ((fJ9_floorMod_7cf53 p0 6 : Int32).toNatClampNeg) ((x5 : Int32).toNatClampNeg) : Int32).toNatClampNeg) (hI.pl (vp_lt (fm_in6 p0)) (hI.tlin (vp_lt (fm_in6 p0)) hi1 hi2 c_2) c_3)).1 k_4) hN hA hS rfl hl.1 rfl (Nat.le_of_ble_eq_true rfl) dX9_workTeam_49 ⟨Nat.le_of_ble_eq_true rfl, Nat.le_of_ble_eq_true rfl⟩ (fun H locs hN hS => ?_)
          refine lv_istore (lv' := [(4, .int ((fX2_workFor Z21 ((Z21 13 ((fJ9_floorMod_7cf53 p0 6 : Int32).toNatClampNeg) ((x5 : Int32).toNatClampNeg) : Int32).toNatClampNeg) p1).1)), (6, .ref (ad 20 ((Z21 13 ((fJ9_floorMod_7cf53 p0 6 : Int32).toNatClampNeg) ((x5 : Int32).toNatClampNeg) : Int32).toNatClampNeg))), (5, .int x5), (3, .ref (ad 12 ((fJ9_floorMod_7cf53 p0 6 : Int32).toNatClampNeg))), (0, .ref (ad 0 0)), (1, .int p0), (2, .int p1)]) hx hb dX9_workTeam_52 hl (by decide) rfl (fun ls hl => ?_)
          refine lv_iinc (v := x5 + 1) (lv' := [(5, .int (x5 + 1)), (4, .int ((fX2_workFor Z21 ((Z21 13 ((fJ9_floorMod_7cf53 p0 6 : Int32).toNatClampNeg) ((x5 : Int32).toNatClampNeg) : Int32).toNatClampNeg) p1).1)), (6, .ref (ad 20 ((Z21 13 ((fJ9_floorMod_7cf53 p0 6 : Int32).toNatClampNeg) ((x5 : Int32).toNatClampNeg) : Int32).toNatClampNeg))), (3, .ref (ad 12 ((fJ9_floorMod_7cf53 p0 6 : Int32).toNatClampNeg))), (0, .ref (ad 0 0)), (1, .int p0), (2, .int p1)]) hx hb dX9_workTeam_54 hl (k := 2) rfl rfl (by decide) rfl (fun ls hl => ?_)
          refine lv_goto (tgt := 21) hx hb dX9_workTeam_57 (by decide) ?_
          exact ih n (x5 + 1, (fX2_workFor Z21 ((Z21 13 ((fJ9_floorMod_7cf53 p0 6 : Int32).toNatClampNeg) ((x5 : Int32).toNatClampNeg) : Int32).toNatClampNeg) p1).1, (fX2_workFor Z21 ((Z21 13 ((fJ9_floorMod_7cf53 p0 6 : Int32).toNatClampNeg) ((x5 : Int32).toNatClampNeg) : Int32).toNatClampNeg) p1).2) _ _ _ (by omega) ⟨lv_sub hl [0, 1, 3, 4, 5, 6] rfl, hN, hS, by rw [hfe, gX9_workTeam_21_s, if_neg c_2, if_neg c_3, if_pos k_4], ⟨invY_w2 hI _ _, hI.tback (vp_lt (fm_in6 p0)) hi1 hi2 hi3 c_2⟩⟩
        · by_cases k_5 : (Z21 20 ((Z21 13 ((fJ9_floorMod_7cf53 p0 6 : Int32).toNatClampNeg) ((x5 : Int32).toNatClampNeg) : Int32).toNatClampNeg) 5) = 1
          · refine nwY_callU (As := [.int p1]) (rest := []) S (kX1_workFor l D C A ad nh nv na Z21 ((Z21 13 ((fJ9_floorMod_7cf53 p0 6 : Int32).toNatClampNeg) ((x5 : Int32).toNatClampNeg) : Int32).toNatClampNeg) (hI.pl (vp_lt (fm_in6 p0)) (hI.tlin (vp_lt (fm_in6 p0)) hi1 hi2 c_2) c_3) p1) (va_cwO 1 hts gX9_workTeam_X1_workFor_u264X1 rfl rfl rfl (List.mem_cons_of_mem _ (List.mem_append_left _ (List.mem_append_left _ (List.mem_append_left _ (List.mem_append_left _ (List.mem_append_left _ (List.mem_append_left _ (List.mem_of_getElem? (i := 22) rfl)))))))) (by decide +kernel) ⟨Nat.le_of_ble_eq_true rfl, Nat.le_of_ble_eq_true rfl⟩) hK ((nw_recvH hK hN (h := (Z21 13 ((fJ9_floorMod_7cf53 p0 6 : Int32).toNatClampNeg) ((x5 : Int32).toNatClampNeg) : Int32).toNatClampNeg) (hI.pl (vp_lt (fm_in6 p0)) (hI.tlin (vp_lt (fm_in6 p0)) hi1 hi2 c_2) c_3)).2.1 k_5) hN hA hS rfl hl.1 rfl (Nat.le_of_ble_eq_true rfl) dX9_workTeam_49 ⟨Nat.le_of_ble_eq_true rfl, Nat.le_of_ble_eq_true rfl⟩ (fun H locs hN hS => ?_)
            refine lv_istore (lv' := [(4, .int ((fX1_workFor Z21 ((Z21 13 ((fJ9_floorMod_7cf53 p0 6 : Int32).toNatClampNeg) ((x5 : Int32).toNatClampNeg) : Int32).toNatClampNeg) p1).1)), (6, .ref (ad 20 ((Z21 13 ((fJ9_floorMod_7cf53 p0 6 : Int32).toNatClampNeg) ((x5 : Int32).toNatClampNeg) : Int32).toNatClampNeg))), (5, .int x5), (3, .ref (ad 12 ((fJ9_floorMod_7cf53 p0 6 : Int32).toNatClampNeg))), (0, .ref (ad 0 0)), (1, .int p0), (2, .int p1)]) hx hb dX9_workTeam_52 hl (by decide) rfl (fun ls hl => ?_)
            refine lv_iinc (v := x5 + 1) (lv' := [(5, .int (x5 + 1)), (4, .int ((fX1_workFor Z21 ((Z21 13 ((fJ9_floorMod_7cf53 p0 6 : Int32).toNatClampNeg) ((x5 : Int32).toNatClampNeg) : Int32).toNatClampNeg) p1).1)), (6, .ref (ad 20 ((Z21 13 ((fJ9_floorMod_7cf53 p0 6 : Int32).toNatClampNeg) ((x5 : Int32).toNatClampNeg) : Int32).toNatClampNeg))), (3, .ref (ad 12 ((fJ9_floorMod_7cf53 p0 6 : Int32).toNatClampNeg))), (0, .ref (ad 0 0)), (1, .int p0), (2, .int p1)]) hx hb dX9_workTeam_54 hl (k := 2) rfl rfl (by decide) rfl (fun ls hl => ?_)
            refine lv_goto (tgt := 21) hx hb dX9_workTeam_57 (by decide) ?_
            exact ih n (x5 + 1, (fX1_workFor Z21 ((Z21 13 ((fJ9_floorMod_7cf53 p0 6 : Int32).toNatClampNeg) ((x5 : Int32).toNatClampNeg) : Int32).toNatClampNeg) p1).1, (fX1_workFor Z21 ((Z21 13 ((fJ9_floorMod_7cf53 p0 6 : Int32).toNatClampNeg) ((x5 : Int32).toNatClampNeg) : Int32).toNatClampNeg) p1).2) _ _ _ (by omega) ⟨lv_sub hl [0, 1, 3, 4, 5, 6] rfl, hN, hS, by rw [hfe, gX9_workTeam_21_s, if_neg c_2, if_neg c_3, if_neg k_4, if_pos k_5], ⟨invY_w1 hI _ _, hI.tback (vp_lt (fm_in6 p0)) hi1 hi2 hi3 c_2⟩⟩
          · refine nwY_callU (As := [.int p1]) (rest := []) S (kX3_workFor l D C A ad nh nv na Z21 ((Z21 13 ((fJ9_floorMod_7cf53 p0 6 : Int32).toNatClampNeg) ((x5 : Int32).toNatClampNeg) : Int32).toNatClampNeg) (hI.pl (vp_lt (fm_in6 p0)) (hI.tlin (vp_lt (fm_in6 p0)) hi1 hi2 c_2) c_3) p1 k_4 k_5) (va_cwO 1 hts gX9_workTeam_X3_workFor_u264X3 rfl rfl rfl (List.mem_cons_of_mem _ (List.mem_append_left _ (List.mem_append_left _ (List.mem_append_left _ (List.mem_append_left _ (List.mem_append_left _ (List.mem_append_left _ (List.mem_of_getElem? (i := 22) rfl)))))))) (by decide +kernel) ⟨Nat.le_of_ble_eq_true rfl, Nat.le_of_ble_eq_true rfl⟩) hK ((nw_recvH hK hN (h := (Z21 13 ((fJ9_floorMod_7cf53 p0 6 : Int32).toNatClampNeg) ((x5 : Int32).toNatClampNeg) : Int32).toNatClampNeg) (hI.pl (vp_lt (fm_in6 p0)) (hI.tlin (vp_lt (fm_in6 p0)) hi1 hi2 c_2) c_3)).2.2 k_4 k_5) hN hA hS rfl hl.1 rfl (Nat.le_of_ble_eq_true rfl) dX9_workTeam_49 ⟨Nat.le_of_ble_eq_true rfl, Nat.le_of_ble_eq_true rfl⟩ (fun H locs hN hS => ?_)
            refine lv_istore (lv' := [(4, .int ((fX3_workFor Z21 ((Z21 13 ((fJ9_floorMod_7cf53 p0 6 : Int32).toNatClampNeg) ((x5 : Int32).toNatClampNeg) : Int32).toNatClampNeg) p1).1)), (6, .ref (ad 20 ((Z21 13 ((fJ9_floorMod_7cf53 p0 6 : Int32).toNatClampNeg) ((x5 : Int32).toNatClampNeg) : Int32).toNatClampNeg))), (5, .int x5), (3, .ref (ad 12 ((fJ9_floorMod_7cf53 p0 6 : Int32).toNatClampNeg))), (0, .ref (ad 0 0)), (1, .int p0), (2, .int p1)]) hx hb dX9_workTeam_52 hl (by decide) rfl (fun ls hl => ?_)
            refine lv_iinc (v := x5 + 1) (lv' := [(5, .int (x5 + 1)), (4, .int ((fX3_workFor Z21 ((Z21 13 ((fJ9_floorMod_7cf53 p0 6 : Int32).toNatClampNeg) ((x5 : Int32).toNatClampNeg) : Int32).toNatClampNeg) p1).1)), (6, .ref (ad 20 ((Z21 13 ((fJ9_floorMod_7cf53 p0 6 : Int32).toNatClampNeg) ((x5 : Int32).toNatClampNeg) : Int32).toNatClampNeg))), (3, .ref (ad 12 ((fJ9_floorMod_7cf53 p0 6 : Int32).toNatClampNeg))), (0, .ref (ad 0 0)), (1, .int p0), (2, .int p1)]) hx hb dX9_workTeam_54 hl (k := 2) rfl rfl (by decide) rfl (fun ls hl => ?_)
            refine lv_goto (tgt := 21) hx hb dX9_workTeam_57 (by decide) ?_
            exact ih n (x5 + 1, (fX3_workFor Z21 ((Z21 13 ((fJ9_floorMod_7cf53 p0 6 : Int32).toNatClampNeg) ((x5 : Int32).toNatClampNeg) : Int32).toNatClampNeg) p1).1, (fX3_workFor Z21 ((Z21 13 ((fJ9_floorMod_7cf53 p0 6 : Int32).toNatClampNeg) ((x5 : Int32).toNatClampNeg) : Int32).toNatClampNeg) p1).2) _ _ _ (by omega) ⟨lv_sub hl [0, 1, 3, 4, 5, 6] rfl, hN, hS, by rw [hfe, gX9_workTeam_21_s, if_neg c_2, if_neg c_3, if_neg k_4, if_neg k_5], ⟨invY_w3 hI _ _, hI.tback (vp_lt (fm_in6 p0)) hi1 hi2 hi3 c_2⟩⟩
  · refine lv_iconst (v := 1) hx hb dX9_workTeam_13 (by decide) ?_
    have hf : fX9_workTeam Y p0 p1 = (1, Y) := by unfold fX9_workTeam; rw [if_pos c_1]
    exact W.iret (v := 1) hx hb hr (fun t ht _ => by rw [hf]; exact nw_end hS hN ht) hS.2.2 dX9_workTeam_14
set_option maxHeartbeats 4000000 in
set_option maxRecDepth 100000 in
theorem kX9_faultOf (l : Launch) (D : va_G) (C : Nat → ClassId) (A : Nat → Prop) (ad : Nat → Nat → Nat) (nh nv na : Nat) (Y : Nat → Nat → Nat → Int32) (p0 p1 p2 p3 : Int32) (kk : Nat) (hI : InvY nh nv na kk Y) : Met l yX9_faultOf wsX9_faultOf ({ frames := 3, cells := 0, slots := 0, locals := 69 }) (va_Pc [.ref (ad 0 0), .int p0, .int p1, .int p2, .int p3] (PW D C A (nw D (enY C) (domY nh nv na) A ad Y))) (nQ A (some (.int (fX9_faultOf Y p0 p1 p2 p3).1)) (nw D (enY C) (domY nh nv na) A ad (fX9_faultOf Y p0 p1 p2 p3).2)) 0 0 A := by
  refine Met.ofW (cc := cX9_faultOf) (maxL := 5) (ret := (some .int)) (by decide) rfl ?_
  intro p e s m args below meth c s₁ B hml hv
  obtain ⟨rfl, hK, hN, hA⟩ := hv
  have hx := B.exec
  have hb := B.bytes
  have hr := B.returns
  have hts := atoms_spec (ws := wsX9_faultOf) B.pre
  have hown : s.vm.findClass RX9 = some m.cls := findClass_of_methodNamed B.named
  have hlocks := B.notSynchronized
  have S : CallFix p m c cX9_faultOf 5 s _ wsX9_faultOf RX9 := ⟨hx, hb, hml, hown, hts⟩
  have hin9 : ∀ w ∈ wsX90, w ∈ wsX9_faultOf := (fun _ h => List.mem_cons_of_mem _ (List.mem_append_left _ (List.mem_append_left _ (List.mem_append_left _ (List.mem_append_left _ (List.mem_append_left _ (List.mem_append_right _ (h))))))))
  have hin6 : ∀ w ∈ wsX60, w ∈ wsX9_faultOf := (fun _ h => List.mem_cons_of_mem _ (List.mem_append_left _ (List.mem_append_left _ (List.mem_append_left _ (List.mem_append_right _ (h))))))
  have hin4 : ∀ w ∈ wsX40, w ∈ wsX9_faultOf := (fun _ h => List.mem_cons_of_mem _ (List.mem_append_left _ (List.mem_append_left _ (List.mem_append_right _ (h)))))
  have hin5 : ∀ w ∈ wsX50, w ∈ wsX9_faultOf := (fun _ h => List.mem_cons_of_mem _ (List.mem_append_left _ (List.mem_append_right _ (h))))
  have hin7 : ∀ w ∈ wsX70, w ∈ wsX9_faultOf := (fun _ h => List.mem_cons_of_mem _ (List.mem_append_left _ (List.mem_append_left _ (List.mem_append_left _ (List.mem_append_left _ (List.mem_append_right _ (h)))))))
  have hin0 : ∀ w ∈ wsX00, w ∈ wsX9_faultOf := (fun _ h => List.mem_cons_of_mem _ (List.mem_append_right _ (h)))
  have hin1 : ∀ w ∈ wsX10, w ∈ wsX9_faultOf := (fun _ h => List.mem_cons_of_mem _ (List.mem_append_left _ (List.mem_append_left _ (List.mem_append_left _ (List.mem_append_left _ (List.mem_append_left _ (List.mem_append_left _ (List.mem_append_left _ (List.mem_append_left _ (List.mem_append_right _ (h)))))))))))
  have hin2 : ∀ w ∈ wsX20, w ∈ wsX9_faultOf := (fun _ h => List.mem_cons_of_mem _ (List.mem_append_left _ (List.mem_append_left _ (List.mem_append_left _ (List.mem_append_left _ (List.mem_append_left _ (List.mem_append_left _ (List.mem_append_left _ (List.mem_append_right _ (h))))))))))
  have hin3 : ∀ w ∈ wsX30, w ∈ wsX9_faultOf := (fun _ h => List.mem_cons_of_mem _ (List.mem_append_left _ (List.mem_append_left _ (List.mem_append_left _ (List.mem_append_left _ (List.mem_append_left _ (List.mem_append_left _ (List.mem_append_right _ (h)))))))))
  have hS : va_S A s.heap s.heap [] := va_S.rf
  have hl := lv_entry ([.ref (ad 0 0), .int p0, .int p1, .int p2, .int p3]) (n := 5) (Nat.le_of_ble_eq_true rfl)
  rw [lg_entry_eq]
  generalize (lg_sl ([.ref (ad 0 0), .int p0, .int p1, .int p2, .int p3]) ++ List.replicate (5 - (lg_sl ([.ref (ad 0 0), .int p0, .int p1, .int p2, .int p3])).length) Slot.unset).toArray = ls at hl ⊢
  have hl : lv_has ls 5 [(0, .ref (ad 0 0)), (1, .int p0), (2, .int p1), (3, .int p2), (4, .int p3)] := hl
  refine lv_iload_n hx hb dX9_faultOf_0 rfl (lv_at hl 1 rfl) ?_
  by_cases c_1 : p0 = 0
  · refine lv_tableIn (x := p0) (off := 83) (tgt := 84) hx hb dX9_faultOf_1 (by rw [c_1]; decide) (by rw [c_1]; decide) (by rw [c_1]; rfl) (by decide) ?_
    refine lv_aload_n hx hb dX9_faultOf_84 rfl (lv_at hl 0 rfl) ?_
    refine lv_iload_n hx hb dX9_faultOf_85 rfl (lv_at hl 2 rfl) ?_
    refine lv_iload_n hx hb dX9_faultOf_86 rfl (lv_at hl 3 rfl) ?_
    refine nwY_calli (As := [.int p1, .int p2]) (rest := []) S (kX9_feedHorse l D C A ad nh nv na Y p1 p2 kk hI) gX9_faultOf_X9_feedHorse rfl ⟨rfl, rfl⟩ hqX9_feedHorse ⟨Nat.le_of_ble_eq_true rfl, Nat.le_of_ble_eq_true rfl⟩ hK (nw_recv hK hN (k := 0) (i := 0) ⟨by decide, rfl⟩ rfl rfl) hN hA hS rfl hl.1 rfl (Nat.le_of_ble_eq_true rfl) dX9_faultOf_87 ⟨Nat.le_of_ble_eq_true rfl, Nat.le_of_ble_eq_true rfl⟩ (fun H locs hN hS => ?_)
    have hf : fX9_faultOf Y p0 p1 p2 p3 = ((fX9_feedHorse Y p1 p2).1, (fX9_feedHorse Y p1 p2).2) := by unfold fX9_faultOf; rw [if_pos c_1]
    exact W.iret (v := (fX9_feedHorse Y p1 p2).1) hx hb hr (fun t ht _ => by rw [hf]; exact nw_end hS hN ht) hS.2.2 dX9_faultOf_90
  · by_cases c_2 : p0 = 1
    · refine lv_tableIn (x := p0) (off := 90) (tgt := 91) hx hb dX9_faultOf_1 (by rw [c_2]; decide) (by rw [c_2]; decide) (by rw [c_2]; rfl) (by decide) ?_
      refine lv_aload_n hx hb dX9_faultOf_91 rfl (lv_at hl 0 rfl) ?_
      refine lv_iload_n hx hb dX9_faultOf_92 rfl (lv_at hl 2 rfl) ?_
      refine nwY_calli (As := [.int p1]) (rest := []) S (kX9_askStrength l D C A ad nh nv na Y p1 kk hI) gX9_faultOf_X9_askStrength rfl ⟨rfl, rfl⟩ hqX9_askStrength ⟨Nat.le_of_ble_eq_true rfl, Nat.le_of_ble_eq_true rfl⟩ hK (nw_recv hK hN (k := 0) (i := 0) ⟨by decide, rfl⟩ rfl rfl) hN hA hS rfl hl.1 rfl (Nat.le_of_ble_eq_true rfl) dX9_faultOf_93 ⟨Nat.le_of_ble_eq_true rfl, Nat.le_of_ble_eq_true rfl⟩ (fun H locs hN hS => ?_)
      have hf : fX9_faultOf Y p0 p1 p2 p3 = ((fX9_askStrength Y p1).1, (fX9_askStrength Y p1).2) := by unfold fX9_faultOf; rw [if_neg c_1, if_pos c_2]
      exact W.iret (v := (fX9_askStrength Y p1).1) hx hb hr (fun t ht _ => by rw [hf]; exact nw_end hS hN ht) hS.2.2 dX9_faultOf_96
    · by_cases c_3 : p0 = 2
      · refine lv_tableIn (x := p0) (off := 96) (tgt := 97) hx hb dX9_faultOf_1 (by rw [c_3]; decide) (by rw [c_3]; decide) (by rw [c_3]; rfl) (by decide) ?_
        refine lv_aload_n hx hb dX9_faultOf_97 rfl (lv_at hl 0 rfl) ?_
        refine lv_iload_n hx hb dX9_faultOf_98 rfl (lv_at hl 2 rfl) ?_
        refine lv_iload_n hx hb dX9_faultOf_99 rfl (lv_at hl 3 rfl) ?_
        refine nwY_calli (As := [.int p1, .int p2]) (rest := []) S (kX9_coverHorse l D C A ad nh nv na Y p1 p2 kk hI) gX9_faultOf_X9_coverHorse rfl ⟨rfl, rfl⟩ hqX9_coverHorse ⟨Nat.le_of_ble_eq_true rfl, Nat.le_of_ble_eq_true rfl⟩ hK (nw_recv hK hN (k := 0) (i := 0) ⟨by decide, rfl⟩ rfl rfl) hN hA hS rfl hl.1 rfl (Nat.le_of_ble_eq_true rfl) dX9_faultOf_100 ⟨Nat.le_of_ble_eq_true rfl, Nat.le_of_ble_eq_true rfl⟩ (fun H locs hN hS => ?_)
        have hf : fX9_faultOf Y p0 p1 p2 p3 = ((fX9_coverHorse Y p1 p2).1, (fX9_coverHorse Y p1 p2).2) := by unfold fX9_faultOf; rw [if_neg c_1, if_neg c_2, if_pos c_3]
        exact W.iret (v := (fX9_coverHorse Y p1 p2).1) hx hb hr (fun t ht _ => by rw [hf]; exact nw_end hS hN ht) hS.2.2 dX9_faultOf_103
      · by_cases c_4 : p0 = 3
        · refine lv_tableIn (x := p0) (off := 103) (tgt := 104) hx hb dX9_faultOf_1 (by rw [c_4]; decide) (by rw [c_4]; decide) (by rw [c_4]; rfl) (by decide) ?_
          refine lv_aload_n hx hb dX9_faultOf_104 rfl (lv_at hl 0 rfl) ?_
          refine lv_iload_n hx hb dX9_faultOf_105 rfl (lv_at hl 2 rfl) ?_
          refine nwY_calli (As := [.int p1]) (rest := []) S (kX9_groomHorse l D C A ad nh nv na Y p1 kk hI) gX9_faultOf_X9_groomHorse rfl ⟨rfl, rfl⟩ hqX9_groomHorse ⟨Nat.le_of_ble_eq_true rfl, Nat.le_of_ble_eq_true rfl⟩ hK (nw_recv hK hN (k := 0) (i := 0) ⟨by decide, rfl⟩ rfl rfl) hN hA hS rfl hl.1 rfl (Nat.le_of_ble_eq_true rfl) dX9_faultOf_106 ⟨Nat.le_of_ble_eq_true rfl, Nat.le_of_ble_eq_true rfl⟩ (fun H locs hN hS => ?_)
          have hf : fX9_faultOf Y p0 p1 p2 p3 = ((fX9_groomHorse Y p1).1, (fX9_groomHorse Y p1).2) := by unfold fX9_faultOf; rw [if_neg c_1, if_neg c_2, if_neg c_3, if_pos c_4]
          exact W.iret (v := (fX9_groomHorse Y p1).1) hx hb hr (fun t ht _ => by rw [hf]; exact nw_end hS hN ht) hS.2.2 dX9_faultOf_109
        · by_cases c_5 : p0 = 4
          · refine lv_tableIn (x := p0) (off := 109) (tgt := 110) hx hb dX9_faultOf_1 (by rw [c_5]; decide) (by rw [c_5]; decide) (by rw [c_5]; rfl) (by decide) ?_
            refine lv_aload_n hx hb dX9_faultOf_110 rfl (lv_at hl 0 rfl) ?_
            refine lv_iload_n hx hb dX9_faultOf_111 rfl (lv_at hl 2 rfl) ?_
            refine lv_iload_n hx hb dX9_faultOf_112 rfl (lv_at hl 3 rfl) ?_
            refine nwY_calli (As := [.int p1, .int p2]) (rest := []) S (kX9_workInShed l D C A ad nh nv na Y p1 p2 kk hI) gX9_faultOf_X9_workInShed rfl ⟨rfl, rfl⟩ hqX9_workInShed ⟨Nat.le_of_ble_eq_true rfl, Nat.le_of_ble_eq_true rfl⟩ hK (nw_recv hK hN (k := 0) (i := 0) ⟨by decide, rfl⟩ rfl rfl) hN hA hS rfl hl.1 rfl (Nat.le_of_ble_eq_true rfl) dX9_faultOf_113 ⟨Nat.le_of_ble_eq_true rfl, Nat.le_of_ble_eq_true rfl⟩ (fun H locs hN hS => ?_)
            have hf : fX9_faultOf Y p0 p1 p2 p3 = ((fX9_workInShed Y p1 p2).1, (fX9_workInShed Y p1 p2).2) := by unfold fX9_faultOf; rw [if_neg c_1, if_neg c_2, if_neg c_3, if_neg c_4, if_pos c_5]
            exact W.iret (v := (fX9_workInShed Y p1 p2).1) hx hb hr (fun t ht _ => by rw [hf]; exact nw_end hS hN ht) hS.2.2 dX9_faultOf_116
          · by_cases c_6 : p0 = 5
            · refine lv_tableIn (x := p0) (off := 116) (tgt := 117) hx hb dX9_faultOf_1 (by rw [c_6]; decide) (by rw [c_6]; decide) (by rw [c_6]; rfl) (by decide) ?_
              refine lv_aload_n hx hb dX9_faultOf_117 rfl (lv_at hl 0 rfl) ?_
              refine lv_iload_n hx hb dX9_faultOf_118 rfl (lv_at hl 2 rfl) ?_
              refine nwY_calli (As := [.int p1]) (rest := []) S (kX9_askStrengthInShed l D C A ad nh nv na Y p1 kk hI) gX9_faultOf_X9_askStrengthInShed rfl ⟨rfl, rfl⟩ hqX9_askStrengthInShed ⟨Nat.le_of_ble_eq_true rfl, Nat.le_of_ble_eq_true rfl⟩ hK (nw_recv hK hN (k := 0) (i := 0) ⟨by decide, rfl⟩ rfl rfl) hN hA hS rfl hl.1 rfl (Nat.le_of_ble_eq_true rfl) dX9_faultOf_119 ⟨Nat.le_of_ble_eq_true rfl, Nat.le_of_ble_eq_true rfl⟩ (fun H locs hN hS => ?_)
              have hf : fX9_faultOf Y p0 p1 p2 p3 = ((fX9_askStrengthInShed Y p1).1, (fX9_askStrengthInShed Y p1).2) := by unfold fX9_faultOf; rw [if_neg c_1, if_neg c_2, if_neg c_3, if_neg c_4, if_neg c_5, if_pos c_6]
              exact W.iret (v := (fX9_askStrengthInShed Y p1).1) hx hb hr (fun t ht _ => by rw [hf]; exact nw_end hS hN ht) hS.2.2 dX9_faultOf_122
            · by_cases c_7 : p0 = 6
              · refine lv_tableIn (x := p0) (off := 122) (tgt := 123) hx hb dX9_faultOf_1 (by rw [c_7]; decide) (by rw [c_7]; decide) (by rw [c_7]; rfl) (by decide) ?_
                refine lv_aload_n hx hb dX9_faultOf_123 rfl (lv_at hl 0 rfl) ?_
                refine lv_iload_n hx hb dX9_faultOf_124 rfl (lv_at hl 2 rfl) ?_
                refine nwY_calli (As := [.int p1]) (rest := []) S (kX9_askRugOfHunter l D C A ad nh nv na Y p1 kk hI) gX9_faultOf_X9_askRugOfHunter rfl ⟨rfl, rfl⟩ hqX9_askRugOfHunter ⟨Nat.le_of_ble_eq_true rfl, Nat.le_of_ble_eq_true rfl⟩ hK (nw_recv hK hN (k := 0) (i := 0) ⟨by decide, rfl⟩ rfl rfl) hN hA hS rfl hl.1 rfl (Nat.le_of_ble_eq_true rfl) dX9_faultOf_125 ⟨Nat.le_of_ble_eq_true rfl, Nat.le_of_ble_eq_true rfl⟩ (fun H locs hN hS => ?_)
                have hf : fX9_faultOf Y p0 p1 p2 p3 = ((fX9_askRugOfHunter Y p1).1, (fX9_askRugOfHunter Y p1).2) := by unfold fX9_faultOf; rw [if_neg c_1, if_neg c_2, if_neg c_3, if_neg c_4, if_neg c_5, if_neg c_6, if_pos c_7]
                exact W.iret (v := (fX9_askRugOfHunter Y p1).1) hx hb hr (fun t ht _ => by rw [hf]; exact nw_end hS hN ht) hS.2.2 dX9_faultOf_128
              · by_cases c_8 : p0 = 7
                · refine lv_tableIn (x := p0) (off := 128) (tgt := 129) hx hb dX9_faultOf_1 (by rw [c_8]; decide) (by rw [c_8]; decide) (by rw [c_8]; rfl) (by decide) ?_
                  refine lv_aload_n hx hb dX9_faultOf_129 rfl (lv_at hl 0 rfl) ?_
                  refine lv_iload_n hx hb dX9_faultOf_130 rfl (lv_at hl 2 rfl) ?_
                  refine lv_iload_n hx hb dX9_faultOf_131 rfl (lv_at hl 3 rfl) ?_
                  refine lv_iload hx hb dX9_faultOf_132 (lv_at hl 4 rfl) ?_
                  refine nwY_calli (As := [.int p1, .int p2, .int p3]) (rest := []) S (kX9_formTeam l D C A ad nh nv na Y p1 p2 p3 kk hI) gX9_faultOf_X9_formTeam rfl ⟨rfl, rfl⟩ hqX9_formTeam ⟨Nat.le_of_ble_eq_true rfl, Nat.le_of_ble_eq_true rfl⟩ hK (nw_recv hK hN (k := 0) (i := 0) ⟨by decide, rfl⟩ rfl rfl) hN hA hS rfl hl.1 rfl (Nat.le_of_ble_eq_true rfl) dX9_faultOf_134 ⟨Nat.le_of_ble_eq_true rfl, Nat.le_of_ble_eq_true rfl⟩ (fun H locs hN hS => ?_)
                  have hf : fX9_faultOf Y p0 p1 p2 p3 = ((fX9_formTeam Y p1 p2 p3).1, (fX9_formTeam Y p1 p2 p3).2) := by unfold fX9_faultOf; rw [if_neg c_1, if_neg c_2, if_neg c_3, if_neg c_4, if_neg c_5, if_neg c_6, if_neg c_7, if_pos c_8]
                  exact W.iret (v := (fX9_formTeam Y p1 p2 p3).1) hx hb hr (fun t ht _ => by rw [hf]; exact nw_end hS hN ht) hS.2.2 dX9_faultOf_137
                · by_cases c_9 : p0 = 8
                  · refine lv_tableIn (x := p0) (off := 137) (tgt := 138) hx hb dX9_faultOf_1 (by rw [c_9]; decide) (by rw [c_9]; decide) (by rw [c_9]; rfl) (by decide) ?_
                    refine lv_aload_n hx hb dX9_faultOf_138 rfl (lv_at hl 0 rfl) ?_
                    refine lv_iload_n hx hb dX9_faultOf_139 rfl (lv_at hl 2 rfl) ?_
                    refine lv_iload_n hx hb dX9_faultOf_140 rfl (lv_at hl 3 rfl) ?_
                    refine lv_iload hx hb dX9_faultOf_141 (lv_at hl 4 rfl) ?_
                    refine nwY_calli (As := [.int p1, .int p2, .int p3]) (rest := []) S (kX9_putInTeam l D C A ad nh nv na Y p1 p2 p3 kk hI) gX9_faultOf_X9_putInTeam rfl ⟨rfl, rfl⟩ hqX9_putInTeam ⟨Nat.le_of_ble_eq_true rfl, Nat.le_of_ble_eq_true rfl⟩ hK (nw_recv hK hN (k := 0) (i := 0) ⟨by decide, rfl⟩ rfl rfl) hN hA hS rfl hl.1 rfl (Nat.le_of_ble_eq_true rfl) dX9_faultOf_143 ⟨Nat.le_of_ble_eq_true rfl, Nat.le_of_ble_eq_true rfl⟩ (fun H locs hN hS => ?_)
                    have hf : fX9_faultOf Y p0 p1 p2 p3 = ((fX9_putInTeam Y p1 p2 p3).1, (fX9_putInTeam Y p1 p2 p3).2) := by unfold fX9_faultOf; rw [if_neg c_1, if_neg c_2, if_neg c_3, if_neg c_4, if_neg c_5, if_neg c_6, if_neg c_7, if_neg c_8, if_pos c_9]
                    exact W.iret (v := (fX9_putInTeam Y p1 p2 p3).1) hx hb hr (fun t ht _ => by rw [hf]; exact nw_end hS hN ht) hS.2.2 dX9_faultOf_146
                  · by_cases c_10 : p0 = 9
                    · refine lv_tableIn (x := p0) (off := 146) (tgt := 147) hx hb dX9_faultOf_1 (by rw [c_10]; decide) (by rw [c_10]; decide) (by rw [c_10]; rfl) (by decide) ?_
                      refine lv_aload_n hx hb dX9_faultOf_147 rfl (lv_at hl 0 rfl) ?_
                      refine lv_iload_n hx hb dX9_faultOf_148 rfl (lv_at hl 2 rfl) ?_
                      refine lv_iload_n hx hb dX9_faultOf_149 rfl (lv_at hl 3 rfl) ?_
                      refine lv_iload hx hb dX9_faultOf_150 (lv_at hl 4 rfl) ?_
                      refine nwY_calli (As := [.int p1, .int p2, .int p3]) (rest := []) S (kX9_takeFromTeam l D C A ad nh nv na Y p1 p2 p3 kk hI) gX9_faultOf_X9_takeFromTeam rfl ⟨rfl, rfl⟩ hqX9_takeFromTeam ⟨Nat.le_of_ble_eq_true rfl, Nat.le_of_ble_eq_true rfl⟩ hK (nw_recv hK hN (k := 0) (i := 0) ⟨by decide, rfl⟩ rfl rfl) hN hA hS rfl hl.1 rfl (Nat.le_of_ble_eq_true rfl) dX9_faultOf_152 ⟨Nat.le_of_ble_eq_true rfl, Nat.le_of_ble_eq_true rfl⟩ (fun H locs hN hS => ?_)
                      have hf : fX9_faultOf Y p0 p1 p2 p3 = ((fX9_takeFromTeam Y p1 p2 p3).1, (fX9_takeFromTeam Y p1 p2 p3).2) := by unfold fX9_faultOf; rw [if_neg c_1, if_neg c_2, if_neg c_3, if_neg c_4, if_neg c_5, if_neg c_6, if_neg c_7, if_neg c_8, if_neg c_9, if_pos c_10]
                      exact W.iret (v := (fX9_takeFromTeam Y p1 p2 p3).1) hx hb hr (fun t ht _ => by rw [hf]; exact nw_end hS hN ht) hS.2.2 dX9_faultOf_155
                    · by_cases c_11 : p0 = 10
                      · refine lv_tableIn (x := p0) (off := 155) (tgt := 156) hx hb dX9_faultOf_1 (by rw [c_11]; decide) (by rw [c_11]; decide) (by rw [c_11]; rfl) (by decide) ?_
                        refine lv_aload_n hx hb dX9_faultOf_156 rfl (lv_at hl 0 rfl) ?_
                        refine lv_iload_n hx hb dX9_faultOf_157 rfl (lv_at hl 2 rfl) ?_
                        refine nwY_calli (As := [.int p1]) (rest := []) S (kX9_askPlaces l D C A ad nh nv na Y p1 kk hI) gX9_faultOf_X9_askPlaces rfl ⟨rfl, rfl⟩ hqX9_askPlaces ⟨Nat.le_of_ble_eq_true rfl, Nat.le_of_ble_eq_true rfl⟩ hK (nw_recv hK hN (k := 0) (i := 0) ⟨by decide, rfl⟩ rfl rfl) hN hA hS rfl hl.1 rfl (Nat.le_of_ble_eq_true rfl) dX9_faultOf_158 ⟨Nat.le_of_ble_eq_true rfl, Nat.le_of_ble_eq_true rfl⟩ (fun H locs hN hS => ?_)
                        have hf : fX9_faultOf Y p0 p1 p2 p3 = ((fX9_askPlaces Y p1).1, (fX9_askPlaces Y p1).2) := by unfold fX9_faultOf; rw [if_neg c_1, if_neg c_2, if_neg c_3, if_neg c_4, if_neg c_5, if_neg c_6, if_neg c_7, if_neg c_8, if_neg c_9, if_neg c_10, if_pos c_11]
                        exact W.iret (v := (fX9_askPlaces Y p1).1) hx hb hr (fun t ht _ => by rw [hf]; exact nw_end hS hN ht) hS.2.2 dX9_faultOf_161
                      · by_cases c_12 : p0 = 11
                        · refine lv_tableIn (x := p0) (off := 161) (tgt := 162) hx hb dX9_faultOf_1 (by rw [c_12]; decide) (by rw [c_12]; decide) (by rw [c_12]; rfl) (by decide) ?_
                          refine lv_aload_n hx hb dX9_faultOf_162 rfl (lv_at hl 0 rfl) ?_
                          refine lv_iload_n hx hb dX9_faultOf_163 rfl (lv_at hl 2 rfl) ?_
                          refine lv_iload_n hx hb dX9_faultOf_164 rfl (lv_at hl 3 rfl) ?_
                          refine nwY_calli (As := [.int p1, .int p2]) (rest := []) S (kX9_workTeam l D C A ad nh nv na Y p1 p2 kk hI) gX9_faultOf_X9_workTeam rfl ⟨rfl, rfl⟩ hqX9_workTeam ⟨Nat.le_of_ble_eq_true rfl, Nat.le_of_ble_eq_true rfl⟩ hK (nw_recv hK hN (k := 0) (i := 0) ⟨by decide, rfl⟩ rfl rfl) hN hA hS rfl hl.1 rfl (Nat.le_of_ble_eq_true rfl) dX9_faultOf_165 ⟨Nat.le_of_ble_eq_true rfl, Nat.le_of_ble_eq_true rfl⟩ (fun H locs hN hS => ?_)
                          have hf : fX9_faultOf Y p0 p1 p2 p3 = ((fX9_workTeam Y p1 p2).1, (fX9_workTeam Y p1 p2).2) := by unfold fX9_faultOf; rw [if_neg c_1, if_neg c_2, if_neg c_3, if_neg c_4, if_neg c_5, if_neg c_6, if_neg c_7, if_neg c_8, if_neg c_9, if_neg c_10, if_neg c_11, if_pos c_12]
                          exact W.iret (v := (fX9_workTeam Y p1 p2).1) hx hb hr (fun t ht _ => by rw [hf]; exact nw_end hS hN ht) hS.2.2 dX9_faultOf_168
                        · by_cases c_13 : p0 = 12
                          · refine lv_tableIn (x := p0) (off := 168) (tgt := 169) hx hb dX9_faultOf_1 (by rw [c_13]; decide) (by rw [c_13]; decide) (by rw [c_13]; rfl) (by decide) ?_
                            refine lv_aload_n hx hb dX9_faultOf_169 rfl (lv_at hl 0 rfl) ?_
                            refine lv_iload_n hx hb dX9_faultOf_170 rfl (lv_at hl 2 rfl) ?_
                            refine lv_iload_n hx hb dX9_faultOf_171 rfl (lv_at hl 3 rfl) ?_
                            refine nwY_calli (As := [.int p1, .int p2]) (rest := []) S (kX9_openLedger l D C A ad nh nv na Y p1 p2 kk hI) gX9_faultOf_X9_openLedger rfl ⟨rfl, rfl⟩ hqX9_openLedger ⟨Nat.le_of_ble_eq_true rfl, Nat.le_of_ble_eq_true rfl⟩ hK (nw_recv hK hN (k := 0) (i := 0) ⟨by decide, rfl⟩ rfl rfl) hN hA hS rfl hl.1 rfl (Nat.le_of_ble_eq_true rfl) dX9_faultOf_172 ⟨Nat.le_of_ble_eq_true rfl, Nat.le_of_ble_eq_true rfl⟩ (fun H locs hN hS => ?_)
                            have hf : fX9_faultOf Y p0 p1 p2 p3 = ((fX9_openLedger Y p1 p2).1, (fX9_openLedger Y p1 p2).2) := by unfold fX9_faultOf; rw [if_neg c_1, if_neg c_2, if_neg c_3, if_neg c_4, if_neg c_5, if_neg c_6, if_neg c_7, if_neg c_8, if_neg c_9, if_neg c_10, if_neg c_11, if_neg c_12, if_pos c_13]
                            exact W.iret (v := (fX9_openLedger Y p1 p2).1) hx hb hr (fun t ht _ => by rw [hf]; exact nw_end hS hN ht) hS.2.2 dX9_faultOf_175
                          · by_cases c_14 : p0 = 13
                            · refine lv_tableIn (x := p0) (off := 175) (tgt := 176) hx hb dX9_faultOf_1 (by rw [c_14]; decide) (by rw [c_14]; decide) (by rw [c_14]; rfl) (by decide) ?_
                              refine lv_aload_n hx hb dX9_faultOf_176 rfl (lv_at hl 0 rfl) ?_
                              refine lv_iload_n hx hb dX9_faultOf_177 rfl (lv_at hl 2 rfl) ?_
                              refine lv_iload_n hx hb dX9_faultOf_178 rfl (lv_at hl 3 rfl) ?_
                              refine lv_iload hx hb dX9_faultOf_179 (lv_at hl 4 rfl) ?_
                              refine nwY_calli (As := [.int p1, .int p2, .int p3]) (rest := []) S (kX9_addInLedger l D C A ad nh nv na Y p1 p2 p3 kk hI) gX9_faultOf_X9_addInLedger rfl ⟨rfl, rfl⟩ hqX9_addInLedger ⟨Nat.le_of_ble_eq_true rfl, Nat.le_of_ble_eq_true rfl⟩ hK (nw_recv hK hN (k := 0) (i := 0) ⟨by decide, rfl⟩ rfl rfl) hN hA hS rfl hl.1 rfl (Nat.le_of_ble_eq_true rfl) dX9_faultOf_181 ⟨Nat.le_of_ble_eq_true rfl, Nat.le_of_ble_eq_true rfl⟩ (fun H locs hN hS => ?_)
                              have hf : fX9_faultOf Y p0 p1 p2 p3 = ((fX9_addInLedger Y p1 p2 p3).1, (fX9_addInLedger Y p1 p2 p3).2) := by unfold fX9_faultOf; rw [if_neg c_1, if_neg c_2, if_neg c_3, if_neg c_4, if_neg c_5, if_neg c_6, if_neg c_7, if_neg c_8, if_neg c_9, if_neg c_10, if_neg c_11, if_neg c_12, if_neg c_13, if_pos c_14]
                              exact W.iret (v := (fX9_addInLedger Y p1 p2 p3).1) hx hb hr (fun t ht _ => by rw [hf]; exact nw_end hS hN ht) hS.2.2 dX9_faultOf_184
                            · by_cases c_15 : p0 = 14
                              · refine lv_tableIn (x := p0) (off := 184) (tgt := 185) hx hb dX9_faultOf_1 (by rw [c_15]; decide) (by rw [c_15]; decide) (by rw [c_15]; rfl) (by decide) ?_
                                refine lv_aload_n hx hb dX9_faultOf_185 rfl (lv_at hl 0 rfl) ?_
                                refine lv_iload_n hx hb dX9_faultOf_186 rfl (lv_at hl 2 rfl) ?_
                                refine nwY_calli (As := [.int p1]) (rest := []) S (kX9_sumLedger l D C A ad nh nv na Y p1 kk hI) gX9_faultOf_X9_sumLedger rfl ⟨rfl, rfl⟩ hqX9_sumLedger ⟨Nat.le_of_ble_eq_true rfl, Nat.le_of_ble_eq_true rfl⟩ hK (nw_recv hK hN (k := 0) (i := 0) ⟨by decide, rfl⟩ rfl rfl) hN hA hS rfl hl.1 rfl (Nat.le_of_ble_eq_true rfl) dX9_faultOf_187 ⟨Nat.le_of_ble_eq_true rfl, Nat.le_of_ble_eq_true rfl⟩ (fun H locs hN hS => ?_)
                                have hf : fX9_faultOf Y p0 p1 p2 p3 = ((fX9_sumLedger Y p1).1, (fX9_sumLedger Y p1).2) := by unfold fX9_faultOf; rw [if_neg c_1, if_neg c_2, if_neg c_3, if_neg c_4, if_neg c_5, if_neg c_6, if_neg c_7, if_neg c_8, if_neg c_9, if_neg c_10, if_neg c_11, if_neg c_12, if_neg c_13, if_neg c_14, if_pos c_15]
                                exact W.iret (v := (fX9_sumLedger Y p1).1) hx hb hr (fun t ht _ => by rw [hf]; exact nw_end hS hN ht) hS.2.2 dX9_faultOf_190
                              · by_cases c_16 : p0 = 15
                                · refine lv_tableIn (x := p0) (off := 190) (tgt := 191) hx hb dX9_faultOf_1 (by rw [c_16]; decide) (by rw [c_16]; decide) (by rw [c_16]; rfl) (by decide) ?_
                                  refine lv_aload_n hx hb dX9_faultOf_191 rfl (lv_at hl 0 rfl) ?_
                                  refine lv_iload_n hx hb dX9_faultOf_192 rfl (lv_at hl 2 rfl) ?_
                                  refine lv_iload_n hx hb dX9_faultOf_193 rfl (lv_at hl 3 rfl) ?_
                                  refine lv_iload hx hb dX9_faultOf_194 (lv_at hl 4 rfl) ?_
                                  refine nwY_calli (As := [.int p1, .int p2, .int p3]) (rest := []) S (kX9_setTable l D C A ad nh nv na Y p1 p2 p3 kk hI) gX9_faultOf_X9_setTable rfl ⟨rfl, rfl⟩ hqX9_setTable ⟨Nat.le_of_ble_eq_true rfl, Nat.le_of_ble_eq_true rfl⟩ hK (nw_recv hK hN (k := 0) (i := 0) ⟨by decide, rfl⟩ rfl rfl) hN hA hS rfl hl.1 rfl (Nat.le_of_ble_eq_true rfl) dX9_faultOf_196 ⟨Nat.le_of_ble_eq_true rfl, Nat.le_of_ble_eq_true rfl⟩ (fun H locs hN hS => ?_)
                                  have hf : fX9_faultOf Y p0 p1 p2 p3 = ((fX9_setTable Y p1 p2 p3).1, (fX9_setTable Y p1 p2 p3).2) := by unfold fX9_faultOf; rw [if_neg c_1, if_neg c_2, if_neg c_3, if_neg c_4, if_neg c_5, if_neg c_6, if_neg c_7, if_neg c_8, if_neg c_9, if_neg c_10, if_neg c_11, if_neg c_12, if_neg c_13, if_neg c_14, if_neg c_15, if_pos c_16]
                                  exact W.iret (v := (fX9_setTable Y p1 p2 p3).1) hx hb hr (fun t ht _ => by rw [hf]; exact nw_end hS hN ht) hS.2.2 dX9_faultOf_199
                                · by_cases c_17 : p0 = 16
                                  · refine lv_tableIn (x := p0) (off := 199) (tgt := 200) hx hb dX9_faultOf_1 (by rw [c_17]; decide) (by rw [c_17]; decide) (by rw [c_17]; rfl) (by decide) ?_
                                    refine lv_aload_n hx hb dX9_faultOf_200 rfl (lv_at hl 0 rfl) ?_
                                    refine lv_iload_n hx hb dX9_faultOf_201 rfl (lv_at hl 2 rfl) ?_
                                    refine lv_iload_n hx hb dX9_faultOf_202 rfl (lv_at hl 3 rfl) ?_
                                    refine lv_iload hx hb dX9_faultOf_203 (lv_at hl 4 rfl) ?_
                                    refine nwY_calli (As := [.int p1, .int p2, .int p3]) (rest := []) S (kX9_markTable l D C A ad nh nv na Y p1 p2 p3 kk hI) gX9_faultOf_X9_markTable rfl ⟨rfl, rfl⟩ hqX9_markTable ⟨Nat.le_of_ble_eq_true rfl, Nat.le_of_ble_eq_true rfl⟩ hK (nw_recv hK hN (k := 0) (i := 0) ⟨by decide, rfl⟩ rfl rfl) hN hA hS rfl hl.1 rfl (Nat.le_of_ble_eq_true rfl) dX9_faultOf_205 ⟨Nat.le_of_ble_eq_true rfl, Nat.le_of_ble_eq_true rfl⟩ (fun H locs hN hS => ?_)
                                    have hf : fX9_faultOf Y p0 p1 p2 p3 = ((fX9_markTable Y p1 p2 p3).1, (fX9_markTable Y p1 p2 p3).2) := by unfold fX9_faultOf; rw [if_neg c_1, if_neg c_2, if_neg c_3, if_neg c_4, if_neg c_5, if_neg c_6, if_neg c_7, if_neg c_8, if_neg c_9, if_neg c_10, if_neg c_11, if_neg c_12, if_neg c_13, if_neg c_14, if_neg c_15, if_neg c_16, if_pos c_17]
                                    exact W.iret (v := (fX9_markTable Y p1 p2 p3).1) hx hb hr (fun t ht _ => by rw [hf]; exact nw_end hS hN ht) hS.2.2 dX9_faultOf_208
                                  · refine lv_tableOut (x := p0) (tgt := 209) hx hb dX9_faultOf_1 (by have q0 := lv_neT (a := 0) c_1 (by decide); have q1 := lv_neT (a := 1) c_2 (by decide); have q2 := lv_neT (a := 2) c_3 (by decide); have q3 := lv_neT (a := 3) c_4 (by decide); have q4 := lv_neT (a := 4) c_5 (by decide); have q5 := lv_neT (a := 5) c_6 (by decide); have q6 := lv_neT (a := 6) c_7 (by decide); have q7 := lv_neT (a := 7) c_8 (by decide); have q8 := lv_neT (a := 8) c_9 (by decide); have q9 := lv_neT (a := 9) c_10 (by decide); have q10 := lv_neT (a := 10) c_11 (by decide); have q11 := lv_neT (a := 11) c_12 (by decide); have q12 := lv_neT (a := 12) c_13 (by decide); have q13 := lv_neT (a := 13) c_14 (by decide); have q14 := lv_neT (a := 14) c_15 (by decide); have q15 := lv_neT (a := 15) c_16 (by decide); have q16 := lv_neT (a := 16) c_17 (by decide); omega) (by decide) ?_
                                    refine lv_aload_n hx hb dX9_faultOf_209 rfl (lv_at hl 0 rfl) ?_
                                    refine lv_iload_n hx hb dX9_faultOf_210 rfl (lv_at hl 2 rfl) ?_
                                    refine nwY_calli (As := [.int p1]) (rest := []) S (kX9_raiseAlarm l D C A ad nh nv na Y p1 kk hI) gX9_faultOf_X9_raiseAlarm rfl ⟨rfl, rfl⟩ hqX9_raiseAlarm ⟨Nat.le_of_ble_eq_true rfl, Nat.le_of_ble_eq_true rfl⟩ hK (nw_recv hK hN (k := 0) (i := 0) ⟨by decide, rfl⟩ rfl rfl) hN hA hS rfl hl.1 rfl (Nat.le_of_ble_eq_true rfl) dX9_faultOf_211 ⟨Nat.le_of_ble_eq_true rfl, Nat.le_of_ble_eq_true rfl⟩ (fun H locs hN hS => ?_)
                                    have hf : fX9_faultOf Y p0 p1 p2 p3 = ((fX9_raiseAlarm Y p1).1, (fX9_raiseAlarm Y p1).2) := by unfold fX9_faultOf; rw [if_neg c_1, if_neg c_2, if_neg c_3, if_neg c_4, if_neg c_5, if_neg c_6, if_neg c_7, if_neg c_8, if_neg c_9, if_neg c_10, if_neg c_11, if_neg c_12, if_neg c_13, if_neg c_14, if_neg c_15, if_neg c_16, if_neg c_17]
                                    exact W.iret (v := (fX9_raiseAlarm Y p1).1) hx hb hr (fun t ht _ => by rw [hf]; exact nw_end hS hN ht) hS.2.2 dX9_faultOf_214
set_option maxHeartbeats 4000000 in
set_option maxRecDepth 100000 in
theorem kX9_perform (l : Launch) (D : va_G) (C : Nat → ClassId) (A : Nat → Prop) (ad : Nat → Nat → Nat) (nh nv na : Nat) (Y : Nat → Nat → Nat → Int32) (p0 p1 p2 p3 : Int32) (kk : Nat) (hI : InvY nh nv na kk Y) : Met l yX9_perform wsX9_perform ({ frames := 4, cells := 0, slots := 0, locals := 93 }) (va_Pc [.ref (ad 0 0), .int p0, .int p1, .int p2, .int p3] (PW D C A (nw D (enY C) (domY nh nv na) A ad Y))) (nQ A (some (.int (fX9_perform Y p0 p1 p2 p3).1)) (nw D (enY C) (domY nh nv na) A ad (fX9_perform Y p0 p1 p2 p3).2)) 0 0 A := by
  refine Met.ofW (cc := cX9_perform) (maxL := 6) (ret := (some .int)) (by decide) rfl ?_
  intro p e s m args below meth c s₁ B hml hv
  obtain ⟨rfl, hK, hN, hA⟩ := hv
  have hx := B.exec
  have hb := B.bytes
  have hr := B.returns
  have hts := atoms_spec (ws := wsX9_perform) B.pre
  have hown : s.vm.findClass RX9 = some m.cls := findClass_of_methodNamed B.named
  have hlocks := B.notSynchronized
  have S : CallFix p m c cX9_perform 6 s _ wsX9_perform RX9 := ⟨hx, hb, hml, hown, hts⟩
  have hin9 : ∀ w ∈ wsX90, w ∈ wsX9_perform := (fun _ h => List.mem_cons_of_mem _ (List.mem_append_left _ (List.mem_append_left _ (List.mem_append_left _ (List.mem_append_left _ (List.mem_append_left _ (List.mem_append_left _ (List.mem_append_left _ (List.mem_append_left _ (List.mem_append_right _ (h)))))))))))
  have hin6 : ∀ w ∈ wsX60, w ∈ wsX9_perform := (fun _ h => List.mem_cons_of_mem _ (List.mem_append_left _ (List.mem_append_left _ (List.mem_append_left _ (List.mem_append_right _ (h))))))
  have hin4 : ∀ w ∈ wsX40, w ∈ wsX9_perform := (fun _ h => List.mem_cons_of_mem _ (List.mem_append_left _ (List.mem_append_left _ (List.mem_append_right _ (h)))))
  have hin5 : ∀ w ∈ wsX50, w ∈ wsX9_perform := (fun _ h => List.mem_cons_of_mem _ (List.mem_append_left _ (List.mem_append_right _ (h))))
  have hin7 : ∀ w ∈ wsX70, w ∈ wsX9_perform := (fun _ h => List.mem_cons_of_mem _ (List.mem_append_left _ (List.mem_append_left _ (List.mem_append_left _ (List.mem_append_left _ (List.mem_append_right _ (h)))))))
  have hin0 : ∀ w ∈ wsX00, w ∈ wsX9_perform := (fun _ h => List.mem_cons_of_mem _ (List.mem_append_right _ (h)))
  have hin1 : ∀ w ∈ wsX10, w ∈ wsX9_perform := (fun _ h => List.mem_cons_of_mem _ (List.mem_append_left _ (List.mem_append_left _ (List.mem_append_left _ (List.mem_append_left _ (List.mem_append_left _ (List.mem_append_left _ (List.mem_append_left _ (List.mem_append_right _ (h))))))))))
  have hin2 : ∀ w ∈ wsX20, w ∈ wsX9_perform := (fun _ h => List.mem_cons_of_mem _ (List.mem_append_left _ (List.mem_append_left _ (List.mem_append_left _ (List.mem_append_left _ (List.mem_append_left _ (List.mem_append_left _ (List.mem_append_right _ (h)))))))))
  have hin3 : ∀ w ∈ wsX30, w ∈ wsX9_perform := (fun _ h => List.mem_cons_of_mem _ (List.mem_append_left _ (List.mem_append_left _ (List.mem_append_left _ (List.mem_append_left _ (List.mem_append_left _ (List.mem_append_right _ (h))))))))
  have hS : va_S A s.heap s.heap [] := va_S.rf
  have hl := lv_entry ([.ref (ad 0 0), .int p0, .int p1, .int p2, .int p3]) (n := 6) (Nat.le_of_ble_eq_true rfl)
  rw [lg_entry_eq]
  generalize (lg_sl ([.ref (ad 0 0), .int p0, .int p1, .int p2, .int p3]) ++ List.replicate (6 - (lg_sl ([.ref (ad 0 0), .int p0, .int p1, .int p2, .int p3])).length) Slot.unset).toArray = ls at hl ⊢
  have hl : lv_has ls 6 [(0, .ref (ad 0 0)), (1, .int p0), (2, .int p1), (3, .int p2), (4, .int p3)] := hl
  refine lv_aload_n hx hb dX9_perform_0 rfl (lv_at hl 0 rfl) ?_
  refine lv_iload_n hx hb dX9_perform_1 rfl (lv_at hl 1 rfl) ?_
  refine lv_iload_n hx hb dX9_perform_2 rfl (lv_at hl 2 rfl) ?_
  refine lv_iload_n hx hb dX9_perform_3 rfl (lv_at hl 3 rfl) ?_
  refine lv_iload hx hb dX9_perform_4 (lv_at hl 4 rfl) ?_
  refine nwY_calli (As := [.int p0, .int p1, .int p2, .int p3]) (rest := []) S (kX9_faultOf l D C A ad nh nv na Y p0 p1 p2 p3 kk hI) gX9_perform_X9_faultOf rfl ⟨rfl, rfl⟩ hqX9_faultOf ⟨Nat.le_of_ble_eq_true rfl, Nat.le_of_ble_eq_true rfl⟩ hK (nw_recv hK hN (k := 0) (i := 0) ⟨by decide, rfl⟩ rfl rfl) hN hA hS rfl hl.1 rfl (Nat.le_of_ble_eq_true rfl) dX9_perform_6 ⟨Nat.le_of_ble_eq_true rfl, Nat.le_of_ble_eq_true rfl⟩ (fun H locs hN hS => ?_)
  refine lv_istore (lv' := [(5, .int ((fX9_faultOf Y p0 p1 p2 p3).1)), (0, .ref (ad 0 0)), (1, .int p0), (2, .int p1), (3, .int p2), (4, .int p3)]) hx hb dX9_perform_9 hl (by decide) rfl (fun ls hl => ?_)
  refine lv_aload_n hx hb dX9_perform_11 rfl (lv_at hl 1 rfl) ?_
  refine nw_get S hK hN (k := 0) (i := 0) ⟨by decide, rfl⟩ rfl rfl hin9 15 (by decide) (index := 57) (ref := "RidingYard") (List.mem_cons_of_mem _ (List.mem_append_left _ (List.mem_append_left _ (List.mem_append_left _ (List.mem_append_left _ (List.mem_append_left _ (List.mem_append_left _ (List.mem_append_left _ (List.mem_append_left _ (List.mem_append_left _ (List.mem_append_left _ (List.mem_of_getElem? (i := 0) rfl)))))))))))) (fun _ h => h) (v := .ref (ad 11 0)) rfl dX9_perform_12 ?_
  refine lv_iload hx hb dX9_perform_15 (lv_at hl 0 rfl) ?_
  refine lv_dup2_11 hx hb dX9_perform_17 rfl rfl ?_
  refine nw_iald S hK hN (k := 11) (i := 0) ⟨by decide, rfl⟩ rfl (x := (fX9_faultOf Y p0 p1 p2 p3).1) (fault_rng _ _ _ _ _) dX9_perform_18 ?_
  refine lv_iconst (v := 1) hx hb dX9_perform_19 (by decide) ?_
  refine lv_iadd hx hb dX9_perform_20 ?_
  refine nw_iast S hK hN hS (k := 11) (i := 0) ⟨by decide, rfl⟩ (fun _ => rfl) (x := (fX9_faultOf Y p0 p1 p2 p3).1) (v := (((fX9_faultOf Y p0 p1 p2 p3).2) 11 0 (((fX9_faultOf Y p0 p1 p2 p3).1 : Int32).toNatClampNeg)) + 1) (fault_rng _ _ _ _ _) dX9_perform_21 (fun H locs hN hz hS => ?_)
  refine lv_iload hx hb dX9_perform_22 (lv_at hl 0 rfl) ?_
  have hf : fX9_perform Y p0 p1 p2 p3 = ((fX9_faultOf Y p0 p1 p2 p3).1, u3 ((fX9_faultOf Y p0 p1 p2 p3).2) 11 0 (((fX9_faultOf Y p0 p1 p2 p3).1 : Int32).toNatClampNeg) ((((fX9_faultOf Y p0 p1 p2 p3).2) 11 0 (((fX9_faultOf Y p0 p1 p2 p3).1 : Int32).toNatClampNeg)) + 1)) := rfl
  exact W.iret (v := (fX9_faultOf Y p0 p1 p2 p3).1) hx hb hr (fun t ht _ => by rw [hf]; exact nw_end hS hN ht) hS.2.2 dX9_perform_24
