set_option maxHeartbeats 4000000 in
set_option maxRecDepth 100000 in
theorem kX9_putDown (l : Launch) (D : va_G) (C : Nat → ClassId) (A : Nat → Prop) (ad : Nat → Nat → Nat) (nh nv na : Nat) (Y : Nat → Nat → Nat → Int32) (p0 p1 : Int32) (kk : Nat) (hI : InvY nh nv na kk Y) : Met l yX9_putDown wsX9_putDown ({ frames := 0, cells := 0, slots := 0, locals := 0 }) (va_Pc [.ref (ad 0 0), .int p0, .int p1] (PW D C A (nw D (enY C) (domY nh nv na) A ad Y))) (nQ A none (nw D (enY C) (domY nh nv na) A ad (fX9_putDown Y p0 p1))) 0 0 A := by
  refine Met.ofW (cc := cX9_putDown) (maxL := 3) (ret := none) (by decide) rfl ?_
  intro p e s m args below meth c s₁ B hml hv
  obtain ⟨rfl, hK, hN, hA⟩ := hv
  have hx := B.exec
  have hb := B.bytes
  have hr := B.returns
  have hts := atoms_spec (ws := wsX9_putDown) B.pre
  have hown : s.vm.findClass RX9 = some m.cls := findClass_of_methodNamed B.named
  have hlocks := B.notSynchronized
  have S : CallFix p m c cX9_putDown 3 s _ wsX9_putDown RX9 := ⟨hx, hb, hml, hown, hts⟩
  have hin9 : ∀ w ∈ wsX90, w ∈ wsX9_putDown := (fun _ h => List.mem_cons_of_mem _ (List.mem_append_right _ (h)))
  have hS : va_S A s.heap s.heap [] := va_S.rf
  have hl := lv_entry ([.ref (ad 0 0), .int p0, .int p1]) (n := 3) (Nat.le_of_ble_eq_true rfl)
  rw [lg_entry_eq]
  generalize (lg_sl ([.ref (ad 0 0), .int p0, .int p1]) ++ List.replicate (3 - (lg_sl ([.ref (ad 0 0), .int p0, .int p1])).length) Slot.unset).toArray = ls at hl ⊢
  have hl : lv_has ls 3 [(0, .ref (ad 0 0)), (1, .int p0), (2, .int p1)] := hl
  refine lv_aload_n hx hb dX9_putDown_0 rfl (lv_at hl 0 rfl) ?_
  refine nw_get S hK hN (k := 0) (i := 0) ⟨by decide, rfl⟩ rfl rfl hin9 13 (by decide) (index := 127) (ref := "RidingYard") (List.mem_cons_of_mem _ (List.mem_append_left _ (List.mem_of_getElem? (i := 0) rfl))) (fun _ h => h) (v := .int (Y 0 0 13)) rfl dX9_putDown_1 ?_
  refine lv_bipush (v := 40) hx hb dX9_putDown_4 (by decide) ?_
  refine lv_icmp_ge (x := Y 0 0 13) (y := 40) (tgt := 39) hx hb dX9_putDown_6 (by decide) (fun c_1 => ?_) (fun c_1 => ?_)
  · refine lv_aload_n hx hb dX9_putDown_39 rfl (lv_at hl 0 rfl) ?_
    refine lv_dup hx hb dX9_putDown_40 rfl ?_
    refine nw_get S hK hN (k := 0) (i := 0) ⟨by decide, rfl⟩ rfl rfl hin9 14 (by decide) (index := 149) (ref := "RidingYard") (List.mem_cons_of_mem _ (List.mem_append_left _ (List.mem_of_getElem? (i := 3) rfl))) (fun _ h => h) (v := .int (Y 0 0 14)) rfl dX9_putDown_41 ?_
    refine lv_iconst (v := 1) hx hb dX9_putDown_44 (by decide) ?_
    refine lv_iadd hx hb dX9_putDown_45 ?_
    refine nw_put S hK hN hS (k := 0) (i := 0) ⟨by decide, rfl⟩ rfl rfl hin9 tyX9_ok nmX9 14 (by decide) (index := 149) (ref := "RidingYard") (List.mem_cons_of_mem _ (List.mem_append_left _ (List.mem_of_getElem? (i := 3) rfl))) (fun _ h => h) rfl ((Y 0 0 14) + 1) rfl rfl rfl (Nat.le_of_ble_eq_true rfl) dX9_putDown_46 (fun H locs hN hz hS => ?_)
    have hf : fX9_putDown Y p0 p1 = u3 Y 0 0 14 ((Y 0 0 14) + 1) := by unfold fX9_putDown; rw [if_pos c_1]
    exact W.vret hx hb hr (fun t ht _ => by rw [hf]; exact nw_end hS hN ht) hS.2.2 dX9_putDown_49
  · refine lv_aload_n hx hb dX9_putDown_9 rfl (lv_at hl 0 rfl) ?_
    refine nw_get S hK hN (k := 0) (i := 0) ⟨by decide, rfl⟩ rfl rfl hin9 11 (by decide) (index := 50) (ref := "RidingYard") (List.mem_cons_of_mem _ (List.mem_append_left _ (List.mem_of_getElem? (i := 1) rfl))) (fun _ h => h) (v := .ref (ad 9 0)) rfl dX9_putDown_10 ?_
    refine lv_aload_n hx hb dX9_putDown_13 rfl (lv_at hl 0 rfl) ?_
    refine nw_get S hK hN (k := 0) (i := 0) ⟨by decide, rfl⟩ rfl rfl hin9 13 (by decide) (index := 127) (ref := "RidingYard") (List.mem_cons_of_mem _ (List.mem_append_left _ (List.mem_of_getElem? (i := 0) rfl))) (fun _ h => h) (v := .int (Y 0 0 13)) rfl dX9_putDown_14 ?_
    refine lv_iload_n hx hb dX9_putDown_17 rfl (lv_at hl 1 rfl) ?_
    refine nw_iast S hK hN hS (k := 9) (i := 0) ⟨by decide, rfl⟩ (fun _ => rfl) (x := Y 0 0 13) (v := p0) (hI.pd c_1) dX9_putDown_18 (fun H locs hN hz hS => ?_)
    refine lv_aload_n hx hb dX9_putDown_19 rfl (lv_at hl 0 rfl) ?_
    refine nw_get S hK hN (k := 0) (i := 0) ⟨by decide, rfl⟩ rfl rfl hin9 12 (by decide) (index := 54) (ref := "RidingYard") (List.mem_cons_of_mem _ (List.mem_append_left _ (List.mem_of_getElem? (i := 2) rfl))) (fun _ h => h) (v := .ref (ad 10 0)) rfl dX9_putDown_20 ?_
    refine lv_aload_n hx hb dX9_putDown_23 rfl (lv_at hl 0 rfl) ?_
    refine nw_get S hK hN (k := 0) (i := 0) ⟨by decide, rfl⟩ rfl rfl hin9 13 (by decide) (index := 127) (ref := "RidingYard") (List.mem_cons_of_mem _ (List.mem_append_left _ (List.mem_of_getElem? (i := 0) rfl))) (fun _ h => h) (v := .int (Y 0 0 13)) rfl dX9_putDown_24 ?_
    refine lv_iload_n hx hb dX9_putDown_27 rfl (lv_at hl 2 rfl) ?_
    refine nw_iast S hK hN hS (k := 10) (i := 0) ⟨by decide, rfl⟩ (fun _ => rfl) (x := Y 0 0 13) (v := p1) (hI.pd c_1) dX9_putDown_28 (fun H locs hN hz hS => ?_)
    refine lv_aload_n hx hb dX9_putDown_29 rfl (lv_at hl 0 rfl) ?_
    refine lv_dup hx hb dX9_putDown_30 rfl ?_
    refine nw_get S hK hN (k := 0) (i := 0) ⟨by decide, rfl⟩ rfl rfl hin9 13 (by decide) (index := 127) (ref := "RidingYard") (List.mem_cons_of_mem _ (List.mem_append_left _ (List.mem_of_getElem? (i := 0) rfl))) (fun _ h => h) (v := .int (Y 0 0 13)) rfl dX9_putDown_31 ?_
    refine lv_iconst (v := 1) hx hb dX9_putDown_34 (by decide) ?_
    refine lv_iadd hx hb dX9_putDown_35 ?_
    refine nw_put S hK hN hS (k := 0) (i := 0) ⟨by decide, rfl⟩ rfl rfl hin9 tyX9_ok nmX9 13 (by decide) (index := 127) (ref := "RidingYard") (List.mem_cons_of_mem _ (List.mem_append_left _ (List.mem_of_getElem? (i := 0) rfl))) (fun _ h => h) rfl ((Y 0 0 13) + 1) rfl rfl rfl (Nat.le_of_ble_eq_true rfl) dX9_putDown_36 (fun H locs hN hz hS => ?_)
    refine lv_aload_n hx hb dX9_putDown_39 rfl (lv_at hl 0 rfl) ?_
    refine lv_dup hx hb dX9_putDown_40 rfl ?_
    refine nw_get S hK hN (k := 0) (i := 0) ⟨by decide, rfl⟩ rfl rfl hin9 14 (by decide) (index := 149) (ref := "RidingYard") (List.mem_cons_of_mem _ (List.mem_append_left _ (List.mem_of_getElem? (i := 3) rfl))) (fun _ h => h) (v := .int (Y 0 0 14)) rfl dX9_putDown_41 ?_
    refine lv_iconst (v := 1) hx hb dX9_putDown_44 (by decide) ?_
    refine lv_iadd hx hb dX9_putDown_45 ?_
    refine nw_put S hK hN hS (k := 0) (i := 0) ⟨by decide, rfl⟩ rfl rfl hin9 tyX9_ok nmX9 14 (by decide) (index := 149) (ref := "RidingYard") (List.mem_cons_of_mem _ (List.mem_append_left _ (List.mem_of_getElem? (i := 3) rfl))) (fun _ h => h) rfl ((Y 0 0 14) + 1) rfl rfl rfl (Nat.le_of_ble_eq_true rfl) dX9_putDown_46 (fun H locs hN hz hS => ?_)
    have hf : fX9_putDown Y p0 p1 = u3 (u3 (u3 (u3 Y 9 0 ((Y 0 0 13 : Int32).toNatClampNeg) p0) 10 0 ((Y 0 0 13 : Int32).toNatClampNeg) p1) 0 0 13 ((Y 0 0 13) + 1)) 0 0 14 ((Y 0 0 14) + 1) := by unfold fX9_putDown; rw [if_neg c_1]
    exact W.vret hx hb hr (fun t ht _ => by rw [hf]; exact nw_end hS hN ht) hS.2.2 dX9_putDown_49
set_option maxHeartbeats 4000000 in
set_option maxRecDepth 100000 in
theorem kX9_act (l : Launch) (D : va_G) (C : Nat → ClassId) (A : Nat → Prop) (ad : Nat → Nat → Nat) (nh nv na : Nat) (Y : Nat → Nat → Nat → Int32) (p0 p1 p2 p3 : Int32) (kk : Nat) (hI : InvY nh nv na kk Y) : Met l yX9_act wsX9_act ({ frames := 5, cells := 0, slots := 0, locals := 118 }) (va_Pc [.ref (ad 0 0), .int p0, .int p1, .int p2, .int p3] (PW D C A (nw D (enY C) (domY nh nv na) A ad Y))) (nQ A (some (.int (fX9_act Y p0 p1 p2 p3).1)) (nw D (enY C) (domY nh nv na) A ad (fX9_act Y p0 p1 p2 p3).2)) 0 0 A := by
  refine Met.ofW (cc := cX9_act) (maxL := 6) (ret := (some .int)) (by decide) rfl ?_
  intro p e s m args below meth c s₁ B hml hv
  obtain ⟨rfl, hK, hN, hA⟩ := hv
  have hx := B.exec
  have hb := B.bytes
  have hr := B.returns
  have hts := atoms_spec (ws := wsX9_act) B.pre
  have hown : s.vm.findClass RX9 = some m.cls := findClass_of_methodNamed B.named
  have hlocks := B.notSynchronized
  have S : CallFix p m c cX9_act 6 s _ wsX9_act RX9 := ⟨hx, hb, hml, hown, hts⟩
  have hin9 : ∀ w ∈ wsX90, w ∈ wsX9_act := (fun _ h => List.mem_cons_of_mem _ (List.mem_append_left _ (List.mem_append_left _ (List.mem_append_left _ (List.mem_append_left _ (List.mem_append_left _ (List.mem_append_left _ (List.mem_append_left _ (List.mem_append_left _ (List.mem_append_right _ (h)))))))))))
  have hin6 : ∀ w ∈ wsX60, w ∈ wsX9_act := (fun _ h => List.mem_cons_of_mem _ (List.mem_append_left _ (List.mem_append_left _ (List.mem_append_left _ (List.mem_append_right _ (h))))))
  have hin4 : ∀ w ∈ wsX40, w ∈ wsX9_act := (fun _ h => List.mem_cons_of_mem _ (List.mem_append_left _ (List.mem_append_left _ (List.mem_append_right _ (h)))))
  have hin5 : ∀ w ∈ wsX50, w ∈ wsX9_act := (fun _ h => List.mem_cons_of_mem _ (List.mem_append_left _ (List.mem_append_right _ (h))))
  have hin7 : ∀ w ∈ wsX70, w ∈ wsX9_act := (fun _ h => List.mem_cons_of_mem _ (List.mem_append_left _ (List.mem_append_left _ (List.mem_append_left _ (List.mem_append_left _ (List.mem_append_right _ (h)))))))
  have hin0 : ∀ w ∈ wsX00, w ∈ wsX9_act := (fun _ h => List.mem_cons_of_mem _ (List.mem_append_right _ (h)))
  have hin1 : ∀ w ∈ wsX10, w ∈ wsX9_act := (fun _ h => List.mem_cons_of_mem _ (List.mem_append_left _ (List.mem_append_left _ (List.mem_append_left _ (List.mem_append_left _ (List.mem_append_left _ (List.mem_append_left _ (List.mem_append_left _ (List.mem_append_right _ (h))))))))))
  have hin2 : ∀ w ∈ wsX20, w ∈ wsX9_act := (fun _ h => List.mem_cons_of_mem _ (List.mem_append_left _ (List.mem_append_left _ (List.mem_append_left _ (List.mem_append_left _ (List.mem_append_left _ (List.mem_append_left _ (List.mem_append_right _ (h)))))))))
  have hin3 : ∀ w ∈ wsX30, w ∈ wsX9_act := (fun _ h => List.mem_cons_of_mem _ (List.mem_append_left _ (List.mem_append_left _ (List.mem_append_left _ (List.mem_append_left _ (List.mem_append_left _ (List.mem_append_right _ (h))))))))
  have hS : va_S A s.heap s.heap [] := va_S.rf
  have hl := lv_entry ([.ref (ad 0 0), .int p0, .int p1, .int p2, .int p3]) (n := 6) (Nat.le_of_ble_eq_true rfl)
  rw [lg_entry_eq]
  generalize (lg_sl ([.ref (ad 0 0), .int p0, .int p1, .int p2, .int p3]) ++ List.replicate (6 - (lg_sl ([.ref (ad 0 0), .int p0, .int p1, .int p2, .int p3])).length) Slot.unset).toArray = ls at hl ⊢
  have hl : lv_has ls 6 [(0, .ref (ad 0 0)), (1, .int p0), (2, .int p1), (3, .int p2), (4, .int p3)] := hl
  refine lv_iload_n hx hb dX9_act_0 rfl (lv_at hl 1 rfl) ?_
  refine lv_bipush (v := 18) hx hb dX9_act_1 (by decide) ?_
  refine nw_callS (As := [.int p0, .int 18]) (rest := []) S (kX9_within l p0 18) gX9_act_X9_within rfl ⟨rfl, rfl⟩ hqX9_within ⟨Nat.le_of_ble_eq_true rfl, Nat.le_of_ble_eq_true rfl⟩ rfl hl.1 rfl (Nat.le_of_ble_eq_true rfl) dX9_act_3 ⟨Nat.le_of_ble_eq_true rfl, Nat.le_of_ble_eq_true rfl⟩ ?_
  refine lv_if_ne (x := fX9_within p0 18) (tgt := 12) hx hb dX9_act_6 (by decide) (fun c_1 => ?_) (fun c_1 => ?_)
  · refine lv_aload_n hx hb dX9_act_12 rfl (lv_at hl 0 rfl) ?_
    refine lv_iload_n hx hb dX9_act_13 rfl (lv_at hl 1 rfl) ?_
    refine lv_iload_n hx hb dX9_act_14 rfl (lv_at hl 2 rfl) ?_
    refine lv_iload_n hx hb dX9_act_15 rfl (lv_at hl 3 rfl) ?_
    refine lv_iload hx hb dX9_act_16 (lv_at hl 4 rfl) ?_
    refine nwY_calli (As := [.int p0, .int p1, .int p2, .int p3]) (rest := []) S (kX9_perform l D C A ad nh nv na Y p0 p1 p2 p3 kk hI) gX9_act_X9_perform rfl ⟨rfl, rfl⟩ hqX9_perform ⟨Nat.le_of_ble_eq_true rfl, Nat.le_of_ble_eq_true rfl⟩ hK (nw_recv hK hN (k := 0) (i := 0) ⟨by decide, rfl⟩ rfl rfl) hN hA hS rfl hl.1 rfl (Nat.le_of_ble_eq_true rfl) dX9_act_18 ⟨Nat.le_of_ble_eq_true rfl, Nat.le_of_ble_eq_true rfl⟩ (fun H locs hN hS => ?_)
    refine lv_istore (lv' := [(5, .int ((fX9_perform Y p0 p1 p2 p3).1)), (0, .ref (ad 0 0)), (1, .int p0), (2, .int p1), (3, .int p2), (4, .int p3)]) hx hb dX9_act_21 hl (by decide) rfl (fun ls hl => ?_)
    refine lv_iload hx hb dX9_act_23 (lv_at hl 0 rfl) ?_
    refine lv_if_ne (x := (fX9_perform Y p0 p1 p2 p3).1) (tgt := 32) hx hb dX9_act_25 (by decide) (fun c_2 => ?_) (fun c_2 => ?_)
    · refine lv_bipush (v := (-10)) hx hb dX9_act_32 (by decide) ?_
      refine lv_iload hx hb dX9_act_34 (lv_at hl 0 rfl) ?_
      refine lv_isub hx hb dX9_act_36 ?_
      have hf : fX9_act Y p0 p1 p2 p3 = ((-10) - ((fX9_perform Y p0 p1 p2 p3).1), (fX9_perform Y p0 p1 p2 p3).2) := by unfold fX9_act; rw [if_neg c_1, if_neg c_2]
      exact W.iret (v := (-10) - ((fX9_perform Y p0 p1 p2 p3).1)) hx hb hr (fun t ht _ => by rw [hf]; exact nw_end hS hN ht) hS.2.2 dX9_act_37
    · refine lv_iconst (v := 1) hx hb dX9_act_28 (by decide) ?_
      refine lv_goto (tgt := 37) hx hb dX9_act_29 (by decide) ?_
      have hf : fX9_act Y p0 p1 p2 p3 = (1, (fX9_perform Y p0 p1 p2 p3).2) := by unfold fX9_act; rw [if_neg c_1, if_pos c_2]
      exact W.iret (v := 1) hx hb hr (fun t ht _ => by rw [hf]; exact nw_end hS hN ht) hS.2.2 dX9_act_37
  · refine lv_ldc (v := (-1000000001)) hx hb hown (hts (.constant RX9 67 (-1000000001)) (List.mem_cons_of_mem _ (List.mem_append_left _ (List.mem_append_left _ (List.mem_append_left _ (List.mem_append_left _ (List.mem_append_left _ (List.mem_append_left _ (List.mem_append_left _ (List.mem_append_left _ (List.mem_append_left _ (List.mem_append_left _ (List.mem_of_getElem? (i := 0) rfl))))))))))))) dX9_act_9 ?_
    have hf : fX9_act Y p0 p1 p2 p3 = ((-1000000001), Y) := by unfold fX9_act; rw [if_pos c_1]
    exact W.iret (v := (-1000000001)) hx hb hr (fun t ht _ => by rw [hf]; exact nw_end hS hN ht) hS.2.2 dX9_act_11
set_option maxHeartbeats 4000000 in
set_option maxRecDepth 100000 in
theorem kX9_came (l : Launch) (D : va_G) (C : Nat → ClassId) (A : Nat → Prop) (ad : Nat → Nat → Nat) (nh nv na : Nat) (Y : Nat → Nat → Nat → Int32) : Met l yX9_came wsX9_came ({ frames := 0, cells := 0, slots := 0, locals := 0 }) (va_Pc [.ref (ad 0 0)] (PW D C A (nw D (enY C) (domY nh nv na) A ad Y))) (nQ A (some (.int (fX9_came Y).1)) (nw D (enY C) (domY nh nv na) A ad (fX9_came Y).2)) 0 0 A := by
  refine Met.ofW (cc := cX9_came) (maxL := 1) (ret := (some .int)) (by decide) rfl ?_
  intro p e s m args below meth c s₁ B hml hv
  obtain ⟨rfl, hK, hN, hA⟩ := hv
  have hx := B.exec
  have hb := B.bytes
  have hr := B.returns
  have hts := atoms_spec (ws := wsX9_came) B.pre
  have hown : s.vm.findClass RX9 = some m.cls := findClass_of_methodNamed B.named
  have hlocks := B.notSynchronized
  have S : CallFix p m c cX9_came 1 s _ wsX9_came RX9 := ⟨hx, hb, hml, hown, hts⟩
  have hin9 : ∀ w ∈ wsX90, w ∈ wsX9_came := (fun _ h => List.mem_cons_of_mem _ (List.mem_append_right _ (h)))
  have hS : va_S A s.heap s.heap [] := va_S.rf
  have hl := lv_entry ([.ref (ad 0 0)]) (n := 1) (Nat.le_of_ble_eq_true rfl)
  rw [lg_entry_eq]
  generalize (lg_sl ([.ref (ad 0 0)]) ++ List.replicate (1 - (lg_sl ([.ref (ad 0 0)])).length) Slot.unset).toArray = ls at hl ⊢
  have hl : lv_has ls 1 [(0, .ref (ad 0 0))] := hl
  refine lv_aload_n hx hb dX9_came_0 rfl (lv_at hl 0 rfl) ?_
  refine nw_get S hK hN (k := 0) (i := 0) ⟨by decide, rfl⟩ rfl rfl hin9 16 (by decide) (index := 118) (ref := "RidingYard") (List.mem_cons_of_mem _ (List.mem_append_left _ (List.mem_of_getElem? (i := 0) rfl))) (fun _ h => h) (v := .int (Y 0 0 16)) rfl dX9_came_1 ?_
  have hf : fX9_came Y = (Y 0 0 16, Y) := rfl
  exact W.iret (v := Y 0 0 16) hx hb hr (fun t ht _ => by rw [hf]; exact nw_end hS hN ht) hS.2.2 dX9_came_4
set_option maxHeartbeats 4000000 in
set_option maxRecDepth 100000 in
theorem kX9_task (l : Launch) (D : va_G) (C : Nat → ClassId) (A : Nat → Prop) (ad : Nat → Nat → Nat) (nh nv na : Nat) (Y : Nat → Nat → Nat → Int32) (p0 p1 p2 p3 : Int32) (kk : Nat) (hI : InvY nh nv na kk Y) : Met l yX9_task wsX9_task ({ frames := 1, cells := 0, slots := 0, locals := 21 }) (va_Pc [.ref (ad 0 0), .int p0, .int p1, .int p2, .int p3] (PW D C A (nw D (enY C) (domY nh nv na) A ad Y))) (nQ A (some (.int (fX9_task Y p0 p1 p2 p3).1)) (nw D (enY C) (domY nh nv na) A ad (fX9_task Y p0 p1 p2 p3).2)) 0 0 A := by
  refine Met.ofW (cc := cX9_task) (maxL := 6) (ret := (some .int)) (by decide) rfl ?_
  intro p e s m args below meth c s₁ B hml hv
  obtain ⟨rfl, hK, hN, hA⟩ := hv
  have hx := B.exec
  have hb := B.bytes
  have hr := B.returns
  have hts := atoms_spec (ws := wsX9_task) B.pre
  have hown : s.vm.findClass RX9 = some m.cls := findClass_of_methodNamed B.named
  have hlocks := B.notSynchronized
  have S : CallFix p m c cX9_task 6 s _ wsX9_task RX9 := ⟨hx, hb, hml, hown, hts⟩
  have hin9 : ∀ w ∈ wsX90, w ∈ wsX9_task := (fun _ h => List.mem_cons_of_mem _ (List.mem_append_right _ (h)))
  have hS : va_S A s.heap s.heap [] := va_S.rf
  have hl := lv_entry ([.ref (ad 0 0), .int p0, .int p1, .int p2, .int p3]) (n := 6) (Nat.le_of_ble_eq_true rfl)
  rw [lg_entry_eq]
  generalize (lg_sl ([.ref (ad 0 0), .int p0, .int p1, .int p2, .int p3]) ++ List.replicate (6 - (lg_sl ([.ref (ad 0 0), .int p0, .int p1, .int p2, .int p3])).length) Slot.unset).toArray = ls at hl ⊢
  have hl : lv_has ls 6 [(0, .ref (ad 0 0)), (1, .int p0), (2, .int p1), (3, .int p2), (4, .int p3)] := hl
  refine lv_iload_n hx hb dX9_task_0 rfl (lv_at hl 1 rfl) ?_
  refine lv_bipush (v := 18) hx hb dX9_task_1 (by decide) ?_
  refine nw_callS (As := [.int p0, .int 18]) (rest := []) S (kX9_within l p0 18) gX9_task_X9_within rfl ⟨rfl, rfl⟩ hqX9_within ⟨Nat.le_of_ble_eq_true rfl, Nat.le_of_ble_eq_true rfl⟩ rfl hl.1 rfl (Nat.le_of_ble_eq_true rfl) dX9_task_3 ⟨Nat.le_of_ble_eq_true rfl, Nat.le_of_ble_eq_true rfl⟩ ?_
  refine lv_if_ne (x := fX9_within p0 18) (tgt := 12) hx hb dX9_task_6 (by decide) (fun c_1 => ?_) (fun c_1 => ?_)
  · refine lv_aload_n hx hb dX9_task_12 rfl (lv_at hl 0 rfl) ?_
    refine nw_get S hK hN (k := 0) (i := 0) ⟨by decide, rfl⟩ rfl rfl hin9 10 (by decide) (index := 121) (ref := "RidingYard") (List.mem_cons_of_mem _ (List.mem_append_left _ (List.mem_of_getElem? (i := 1) rfl))) (fun _ h => h) (v := .int (Y 0 0 10)) rfl dX9_task_13 ?_
    refine lv_bipush (v := 20) hx hb dX9_task_16 (by decide) ?_
    refine lv_icmp_lt (x := Y 0 0 10) (y := 20) (tgt := 24) hx hb dX9_task_18 (by decide) (fun c_2 => ?_) (fun c_2 => ?_)
    · refine lv_aload_n hx hb dX9_task_24 rfl (lv_at hl 0 rfl) ?_
      refine nw_get S hK hN (k := 0) (i := 0) ⟨by decide, rfl⟩ rfl rfl hin9 9 (by decide) (index := 47) (ref := "RidingYard") (List.mem_cons_of_mem _ (List.mem_append_left _ (List.mem_of_getElem? (i := 3) rfl))) (fun _ h => h) (v := .ref (ad 7 0)) rfl dX9_task_25 ?_
      refine lv_aload_n hx hb dX9_task_28 rfl (lv_at hl 0 rfl) ?_
      refine nw_get S hK hN (k := 0) (i := 0) ⟨by decide, rfl⟩ rfl rfl hin9 10 (by decide) (index := 121) (ref := "RidingYard") (List.mem_cons_of_mem _ (List.mem_append_left _ (List.mem_of_getElem? (i := 1) rfl))) (fun _ h => h) (v := .int (Y 0 0 10)) rfl dX9_task_29 ?_
      refine nw_aald S hK hN (k := 7) (i := 0) ⟨by decide, rfl⟩ 8 rfl rfl rfl (x := Y 0 0 10) (hI.tc c_2) dX9_task_32 (v := .ref (ad 8 ((Y 0 0 10 : Int32).toNatClampNeg))) rfl ?_
      refine lv_astore (lv' := [(5, .ref (ad 8 ((Y 0 0 10 : Int32).toNatClampNeg))), (0, .ref (ad 0 0)), (1, .int p0), (2, .int p1), (3, .int p2), (4, .int p3)]) hx hb dX9_task_33 hl (by decide) rfl (fun ls hl => ?_)
      refine lv_aload hx hb dX9_task_35 (lv_at hl 0 rfl) ?_
      refine lv_iconst (v := 0) hx hb dX9_task_37 (by decide) ?_
      refine lv_iload_n hx hb dX9_task_38 rfl (lv_at hl 2 rfl) ?_
      refine nw_iast S hK hN hS (k := 8) (i := ((Y 0 0 10 : Int32).toNatClampNeg)) (vp_lt (hI.tc c_2)) (fun _ => rfl) (x := 0) (v := p0) (vp_in_nI (n := 0) (N := 4) (by decide) (by decide)) dX9_task_39 (fun H locs hN hz hS => ?_)
      refine lv_aload hx hb dX9_task_40 (lv_at hl 0 rfl) ?_
      refine lv_iconst (v := 1) hx hb dX9_task_42 (by decide) ?_
      refine lv_iload_n hx hb dX9_task_43 rfl (lv_at hl 3 rfl) ?_
      refine nw_iast S hK hN hS (k := 8) (i := ((Y 0 0 10 : Int32).toNatClampNeg)) (vp_lt (hI.tc c_2)) (fun _ => rfl) (x := 1) (v := p1) (vp_in_nI (n := 1) (N := 4) (by decide) (by decide)) dX9_task_44 (fun H locs hN hz hS => ?_)
      refine lv_aload hx hb dX9_task_45 (lv_at hl 0 rfl) ?_
      refine lv_iconst (v := 2) hx hb dX9_task_47 (by decide) ?_
      refine lv_iload_n hx hb dX9_task_48 rfl (lv_at hl 4 rfl) ?_
      refine nw_iast S hK hN hS (k := 8) (i := ((Y 0 0 10 : Int32).toNatClampNeg)) (vp_lt (hI.tc c_2)) (fun _ => rfl) (x := 2) (v := p2) (vp_in_nI (n := 2) (N := 4) (by decide) (by decide)) dX9_task_49 (fun H locs hN hz hS => ?_)
      refine lv_aload hx hb dX9_task_50 (lv_at hl 0 rfl) ?_
      refine lv_iconst (v := 3) hx hb dX9_task_52 (by decide) ?_
      refine lv_iload hx hb dX9_task_53 (lv_at hl 5 rfl) ?_
      refine nw_iast S hK hN hS (k := 8) (i := ((Y 0 0 10 : Int32).toNatClampNeg)) (vp_lt (hI.tc c_2)) (fun _ => rfl) (x := 3) (v := p3) (vp_in_nI (n := 3) (N := 4) (by decide) (by decide)) dX9_task_55 (fun H locs hN hz hS => ?_)
      refine lv_aload_n hx hb dX9_task_56 rfl (lv_at hl 1 rfl) ?_
      refine lv_dup hx hb dX9_task_57 rfl ?_
      refine nw_get S hK hN (k := 0) (i := 0) ⟨by decide, rfl⟩ rfl rfl hin9 10 (by decide) (index := 121) (ref := "RidingYard") (List.mem_cons_of_mem _ (List.mem_append_left _ (List.mem_of_getElem? (i := 1) rfl))) (fun _ h => h) (v := .int (Y 0 0 10)) rfl dX9_task_58 ?_
      refine lv_iconst (v := 1) hx hb dX9_task_61 (by decide) ?_
      refine lv_iadd hx hb dX9_task_62 ?_
      refine nw_put S hK hN hS (k := 0) (i := 0) ⟨by decide, rfl⟩ rfl rfl hin9 tyX9_ok nmX9 10 (by decide) (index := 121) (ref := "RidingYard") (List.mem_cons_of_mem _ (List.mem_append_left _ (List.mem_of_getElem? (i := 1) rfl))) (fun _ h => h) rfl ((Y 0 0 10) + 1) rfl rfl rfl (Nat.le_of_ble_eq_true rfl) dX9_task_63 (fun H locs hN hz hS => ?_)
      refine lv_aload_n hx hb dX9_task_66 rfl (lv_at hl 1 rfl) ?_
      refine nw_get S hK hN (k := 0) (i := 0) ⟨by decide, rfl⟩ rfl rfl hin9 10 (by decide) (index := 121) (ref := "RidingYard") (List.mem_cons_of_mem _ (List.mem_append_left _ (List.mem_of_getElem? (i := 1) rfl))) (fun _ h => h) (v := .int ((Y 0 0 10) + 1)) rfl dX9_task_67 ?_
      have hf : fX9_task Y p0 p1 p2 p3 = ((Y 0 0 10) + 1, u3 (u3 (u3 (u3 (u3 Y 8 ((Y 0 0 10 : Int32).toNatClampNeg) ((0 : Int32).toNatClampNeg) p0) 8 ((Y 0 0 10 : Int32).toNatClampNeg) ((1 : Int32).toNatClampNeg) p1) 8 ((Y 0 0 10 : Int32).toNatClampNeg) ((2 : Int32).toNatClampNeg) p2) 8 ((Y 0 0 10 : Int32).toNatClampNeg) ((3 : Int32).toNatClampNeg) p3) 0 0 10 ((Y 0 0 10) + 1)) := by unfold fX9_task; rw [if_neg c_1, if_pos c_2]
      exact W.iret (v := (Y 0 0 10) + 1) hx hb hr (fun t ht _ => by rw [hf]; exact nw_end hS hN ht) hS.2.2 dX9_task_70
    · refine lv_ldc (v := (-1000000003)) hx hb hown (hts (.constant RX9 72 (-1000000003)) (List.mem_cons_of_mem _ (List.mem_append_left _ (List.mem_of_getElem? (i := 2) rfl)))) dX9_task_21 ?_
      have hf : fX9_task Y p0 p1 p2 p3 = ((-1000000003), Y) := by unfold fX9_task; rw [if_neg c_1, if_neg c_2]
      exact W.iret (v := (-1000000003)) hx hb hr (fun t ht _ => by rw [hf]; exact nw_end hS hN ht) hS.2.2 dX9_task_23
  · refine lv_ldc (v := (-1000000001)) hx hb hown (hts (.constant RX9 67 (-1000000001)) (List.mem_cons_of_mem _ (List.mem_append_left _ (List.mem_of_getElem? (i := 0) rfl)))) dX9_task_9 ?_
    have hf : fX9_task Y p0 p1 p2 p3 = ((-1000000001), Y) := by unfold fX9_task; rw [if_pos c_1]
    exact W.iret (v := (-1000000001)) hx hb hr (fun t ht _ => by rw [hf]; exact nw_end hS hN ht) hS.2.2 dX9_task_11
set_option maxHeartbeats 4000000 in
set_option maxRecDepth 100000 in
theorem kX9_clear (l : Launch) (D : va_G) (C : Nat → ClassId) (A : Nat → Prop) (ad : Nat → Nat → Nat) (nh nv na : Nat) (Y : Nat → Nat → Nat → Int32) : Met l yX9_clear wsX9_clear ({ frames := 0, cells := 0, slots := 0, locals := 0 }) (va_Pc [.ref (ad 0 0)] (PW D C A (nw D (enY C) (domY nh nv na) A ad Y))) (nQ A (some (.int (fX9_clear Y).1)) (nw D (enY C) (domY nh nv na) A ad (fX9_clear Y).2)) 0 0 A := by
  refine Met.ofW (cc := cX9_clear) (maxL := 2) (ret := (some .int)) (by decide) rfl ?_
  intro p e s m args below meth c s₁ B hml hv
  obtain ⟨rfl, hK, hN, hA⟩ := hv
  have hx := B.exec
  have hb := B.bytes
  have hr := B.returns
  have hts := atoms_spec (ws := wsX9_clear) B.pre
  have hown : s.vm.findClass RX9 = some m.cls := findClass_of_methodNamed B.named
  have hlocks := B.notSynchronized
  have S : CallFix p m c cX9_clear 2 s _ wsX9_clear RX9 := ⟨hx, hb, hml, hown, hts⟩
  have hin9 : ∀ w ∈ wsX90, w ∈ wsX9_clear := (fun _ h => List.mem_cons_of_mem _ (List.mem_append_right _ (h)))
  have hS : va_S A s.heap s.heap [] := va_S.rf
  have hl := lv_entry ([.ref (ad 0 0)]) (n := 2) (Nat.le_of_ble_eq_true rfl)
  rw [lg_entry_eq]
  generalize (lg_sl ([.ref (ad 0 0)]) ++ List.replicate (2 - (lg_sl ([.ref (ad 0 0)])).length) Slot.unset).toArray = ls at hl ⊢
  have hl : lv_has ls 2 [(0, .ref (ad 0 0))] := hl
  refine lv_aload_n hx hb dX9_clear_0 rfl (lv_at hl 0 rfl) ?_
  refine nw_get S hK hN (k := 0) (i := 0) ⟨by decide, rfl⟩ rfl rfl hin9 10 (by decide) (index := 121) (ref := "RidingYard") (List.mem_cons_of_mem _ (List.mem_append_left _ (List.mem_of_getElem? (i := 0) rfl))) (fun _ h => h) (v := .int (Y 0 0 10)) rfl dX9_clear_1 ?_
  refine lv_istore_n (lv' := [(1, .int (Y 0 0 10)), (0, .ref (ad 0 0))]) hx hb dX9_clear_4 rfl hl (by decide) rfl (fun ls hl => ?_)
  refine lv_aload_n hx hb dX9_clear_5 rfl (lv_at hl 1 rfl) ?_
  refine lv_iconst (v := 0) hx hb dX9_clear_6 (by decide) ?_
  refine nw_put S hK hN hS (k := 0) (i := 0) ⟨by decide, rfl⟩ rfl rfl hin9 tyX9_ok nmX9 10 (by decide) (index := 121) (ref := "RidingYard") (List.mem_cons_of_mem _ (List.mem_append_left _ (List.mem_of_getElem? (i := 0) rfl))) (fun _ h => h) rfl 0 rfl rfl rfl (Nat.le_of_ble_eq_true rfl) dX9_clear_7 (fun H locs hN hz hS => ?_)
  refine lv_iload_n hx hb dX9_clear_10 rfl (lv_at hl 0 rfl) ?_
  have hf : fX9_clear Y = (Y 0 0 10, u3 Y 0 0 10 0) := rfl
  exact W.iret (v := Y 0 0 10) hx hb hr (fun t ht _ => by rw [hf]; exact nw_end hS hN ht) hS.2.2 dX9_clear_11
set_option maxHeartbeats 4000000 in
set_option maxRecDepth 100000 in
theorem kX9_book (l : Launch) (D : va_G) (C : Nat → ClassId) (A : Nat → Prop) (ad : Nat → Nat → Nat) (nh nv na : Nat) (Y : Nat → Nat → Nat → Int32) (p0 p1 : Int32) (kk : Nat) (hI : InvY nh nv na kk Y) : Met l yX9_book wsX9_book ({ frames := 1, cells := 0, slots := 0, locals := 21 }) (va_Pc [.ref (ad 0 0), .int p0, .int p1] (PW D C A (nw D (enY C) (domY nh nv na) A ad Y))) (nQ A (some (.int (fX9_book Y p0 p1).1)) (nw D (enY C) (domY nh nv na) A ad (fX9_book Y p0 p1).2)) 0 0 A := by
  refine Met.ofW (cc := cX9_book) (maxL := 3) (ret := (some .int)) (by decide) rfl ?_
  intro p e s m args below meth c s₁ B hml hv
  obtain ⟨rfl, hK, hN, hA⟩ := hv
  have hx := B.exec
  have hb := B.bytes
  have hr := B.returns
  have hts := atoms_spec (ws := wsX9_book) B.pre
  have hown : s.vm.findClass RX9 = some m.cls := findClass_of_methodNamed B.named
  have hlocks := B.notSynchronized
  have S : CallFix p m c cX9_book 3 s _ wsX9_book RX9 := ⟨hx, hb, hml, hown, hts⟩
  have hin9 : ∀ w ∈ wsX90, w ∈ wsX9_book := (fun _ h => List.mem_cons_of_mem _ (List.mem_append_right _ (h)))
  have hS : va_S A s.heap s.heap [] := va_S.rf
  have hl := lv_entry ([.ref (ad 0 0), .int p0, .int p1]) (n := 3) (Nat.le_of_ble_eq_true rfl)
  rw [lg_entry_eq]
  generalize (lg_sl ([.ref (ad 0 0), .int p0, .int p1]) ++ List.replicate (3 - (lg_sl ([.ref (ad 0 0), .int p0, .int p1])).length) Slot.unset).toArray = ls at hl ⊢
  have hl : lv_has ls 3 [(0, .ref (ad 0 0)), (1, .int p0), (2, .int p1)] := hl
  refine lv_iload_n hx hb dX9_book_0 rfl (lv_at hl 1 rfl) ?_
  refine lv_aload_n hx hb dX9_book_1 rfl (lv_at hl 0 rfl) ?_
  refine nw_get S hK hN (k := 0) (i := 0) ⟨by decide, rfl⟩ rfl rfl hin9 13 (by decide) (index := 127) (ref := "RidingYard") (List.mem_cons_of_mem _ (List.mem_append_left _ (List.mem_of_getElem? (i := 0) rfl))) (fun _ h => h) (v := .int (Y 0 0 13)) rfl dX9_book_2 ?_
  refine nw_callS (As := [.int p0, .int (Y 0 0 13)]) (rest := []) S (kX9_within l p0 (Y 0 0 13)) gX9_book_X9_within rfl ⟨rfl, rfl⟩ hqX9_within ⟨Nat.le_of_ble_eq_true rfl, Nat.le_of_ble_eq_true rfl⟩ rfl hl.1 rfl (Nat.le_of_ble_eq_true rfl) dX9_book_5 ⟨Nat.le_of_ble_eq_true rfl, Nat.le_of_ble_eq_true rfl⟩ ?_
  refine lv_if_ne (x := fX9_within p0 (Y 0 0 13)) (tgt := 14) hx hb dX9_book_8 (by decide) (fun c_1 => ?_) (fun c_1 => ?_)
  · refine lv_iload_n hx hb dX9_book_14 rfl (lv_at hl 2 rfl) ?_
    by_cases c_2 : p1 = 0
    · refine lv_lookup (x := p1) (tgt := 40) (off := 25) hx hb dX9_book_15 (by decide) (by rw [c_2]; decide) (by decide) ?_
      refine lv_aload_n hx hb dX9_book_40 rfl (lv_at hl 0 rfl) ?_
      refine nw_get S hK hN (k := 0) (i := 0) ⟨by decide, rfl⟩ rfl rfl hin9 11 (by decide) (index := 50) (ref := "RidingYard") (List.mem_cons_of_mem _ (List.mem_append_left _ (List.mem_of_getElem? (i := 2) rfl))) (fun _ h => h) (v := .ref (ad 9 0)) rfl dX9_book_41 ?_
      refine lv_iload_n hx hb dX9_book_44 rfl (lv_at hl 1 rfl) ?_
      refine nw_iald S hK hN (k := 9) (i := 0) ⟨by decide, rfl⟩ rfl (x := p0) (hI.bk c_1) dX9_book_45 ?_
      have hf : fX9_book Y p0 p1 = (Y 9 0 ((p0 : Int32).toNatClampNeg), Y) := by unfold fX9_book; rw [if_neg c_1, if_pos c_2]
      exact W.iret (v := Y 9 0 ((p0 : Int32).toNatClampNeg)) hx hb hr (fun t ht _ => by rw [hf]; exact nw_end hS hN ht) hS.2.2 dX9_book_46
    · by_cases c_3 : p1 = 1
      · refine lv_lookup (x := p1) (tgt := 47) (off := 32) hx hb dX9_book_15 (by decide) (by rw [c_3]; decide) (by decide) ?_
        refine lv_aload_n hx hb dX9_book_47 rfl (lv_at hl 0 rfl) ?_
        refine nw_get S hK hN (k := 0) (i := 0) ⟨by decide, rfl⟩ rfl rfl hin9 12 (by decide) (index := 54) (ref := "RidingYard") (List.mem_cons_of_mem _ (List.mem_append_left _ (List.mem_of_getElem? (i := 3) rfl))) (fun _ h => h) (v := .ref (ad 10 0)) rfl dX9_book_48 ?_
        refine lv_iload_n hx hb dX9_book_51 rfl (lv_at hl 1 rfl) ?_
        refine nw_iald S hK hN (k := 10) (i := 0) ⟨by decide, rfl⟩ rfl (x := p0) (hI.bk c_1) dX9_book_52 ?_
        have hf : fX9_book Y p0 p1 = (Y 10 0 ((p0 : Int32).toNatClampNeg), Y) := by unfold fX9_book; rw [if_neg c_1, if_neg c_2, if_pos c_3]
        exact W.iret (v := Y 10 0 ((p0 : Int32).toNatClampNeg)) hx hb hr (fun t ht _ => by rw [hf]; exact nw_end hS hN ht) hS.2.2 dX9_book_53
      · refine lv_lookup (tgt := 54) (off := 39) hx hb dX9_book_15 (by decide) (by rw [lv_osw c_2 (by decide)]; rw [lv_osw c_3 (by decide)]; rfl) (by decide) ?_
        refine lv_ldc (v := (-1000000001)) hx hb hown (hts (.constant RX9 67 (-1000000001)) (List.mem_cons_of_mem _ (List.mem_append_left _ (List.mem_of_getElem? (i := 1) rfl)))) dX9_book_54 ?_
        have hf : fX9_book Y p0 p1 = ((-1000000001), Y) := by unfold fX9_book; rw [if_neg c_1, if_neg c_2, if_neg c_3]
        exact W.iret (v := (-1000000001)) hx hb hr (fun t ht _ => by rw [hf]; exact nw_end hS hN ht) hS.2.2 dX9_book_56
  · refine lv_ldc (v := (-1000000001)) hx hb hown (hts (.constant RX9 67 (-1000000001)) (List.mem_cons_of_mem _ (List.mem_append_left _ (List.mem_of_getElem? (i := 1) rfl)))) dX9_book_11 ?_
    have hf : fX9_book Y p0 p1 = ((-1000000001), Y) := by unfold fX9_book; rw [if_pos c_1]
    exact W.iret (v := (-1000000001)) hx hb hr (fun t ht _ => by rw [hf]; exact nw_end hS hN ht) hS.2.2 dX9_book_13
set_option maxHeartbeats 4000000 in
set_option maxRecDepth 100000 in
theorem kX9_horseTells (l : Launch) (D : va_G) (C : Nat → ClassId) (A : Nat → Prop) (ad : Nat → Nat → Nat) (nh nv na : Nat) (Y : Nat → Nat → Nat → Int32) (p0 p1 : Int32) (kk : Nat) (hI : InvY nh nv na kk Y) : Met l yX9_horseTells wsX9_horseTells ({ frames := 1, cells := 0, slots := 0, locals := 21 }) (va_Pc [.ref (ad 0 0), .int p0, .int p1] (PW D C A (nw D (enY C) (domY nh nv na) A ad Y))) (nQ A (some (.int (fX9_horseTells Y p0 p1).1)) (nw D (enY C) (domY nh nv na) A ad (fX9_horseTells Y p0 p1).2)) 0 0 A := by
  refine Met.ofW (cc := cX9_horseTells) (maxL := 4) (ret := (some .int)) (by decide) rfl ?_
  intro p e s m args below meth c s₁ B hml hv
  obtain ⟨rfl, hK, hN, hA⟩ := hv
  have hx := B.exec
  have hb := B.bytes
  have hr := B.returns
  have hts := atoms_spec (ws := wsX9_horseTells) B.pre
  have hown : s.vm.findClass RX9 = some m.cls := findClass_of_methodNamed B.named
  have hlocks := B.notSynchronized
  have S : CallFix p m c cX9_horseTells 4 s _ wsX9_horseTells RX9 := ⟨hx, hb, hml, hown, hts⟩
  have hin9 : ∀ w ∈ wsX90, w ∈ wsX9_horseTells := (fun _ h => List.mem_cons_of_mem _ (List.mem_append_left _ (List.mem_append_left _ (List.mem_append_left _ (List.mem_append_right _ (h))))))
  have hin1 : ∀ w ∈ wsX10, w ∈ wsX9_horseTells := (fun _ h => List.mem_cons_of_mem _ (List.mem_append_left _ (List.mem_append_left _ (List.mem_append_right _ (h)))))
  have hin2 : ∀ w ∈ wsX20, w ∈ wsX9_horseTells := (fun _ h => List.mem_cons_of_mem _ (List.mem_append_left _ (List.mem_append_right _ (h))))
  have hin3 : ∀ w ∈ wsX30, w ∈ wsX9_horseTells := (fun _ h => List.mem_cons_of_mem _ (List.mem_append_right _ (h)))
  have hS : va_S A s.heap s.heap [] := va_S.rf
  have hl := lv_entry ([.ref (ad 0 0), .int p0, .int p1]) (n := 4) (Nat.le_of_ble_eq_true rfl)
  rw [lg_entry_eq]
  generalize (lg_sl ([.ref (ad 0 0), .int p0, .int p1]) ++ List.replicate (4 - (lg_sl ([.ref (ad 0 0), .int p0, .int p1])).length) Slot.unset).toArray = ls at hl ⊢
  have hl : lv_has ls 4 [(0, .ref (ad 0 0)), (1, .int p0), (2, .int p1)] := hl
  refine lv_iload_n hx hb dX9_horseTells_0 rfl (lv_at hl 1 rfl) ?_
  refine lv_bipush (v := 10) hx hb dX9_horseTells_1 (by decide) ?_
  refine nw_callS (As := [.int p0, .int 10]) (rest := []) S (kX9_within l p0 10) gX9_horseTells_X9_within rfl ⟨rfl, rfl⟩ hqX9_within ⟨Nat.le_of_ble_eq_true rfl, Nat.le_of_ble_eq_true rfl⟩ rfl hl.1 rfl (Nat.le_of_ble_eq_true rfl) dX9_horseTells_3 ⟨Nat.le_of_ble_eq_true rfl, Nat.le_of_ble_eq_true rfl⟩ ?_
  refine lv_if_ne (x := fX9_within p0 10) (tgt := 12) hx hb dX9_horseTells_6 (by decide) (fun c_1 => ?_) (fun c_1 => ?_)
  · refine lv_aload_n hx hb dX9_horseTells_12 rfl (lv_at hl 0 rfl) ?_
    refine nw_get S hK hN (k := 0) (i := 0) ⟨by decide, rfl⟩ rfl rfl hin9 0 (by decide) (index := 11) (ref := "RidingYard") (List.mem_cons_of_mem _ (List.mem_append_left _ (List.mem_append_left _ (List.mem_append_left _ (List.mem_append_left _ (List.mem_append_left _ (List.mem_of_getElem? (i := 1) rfl))))))) (fun _ h => h) (v := .ref (ad 1 0)) rfl dX9_horseTells_13 ?_
    refine lv_iload_n hx hb dX9_horseTells_16 rfl (lv_at hl 1 rfl) ?_
    by_cases c_2 : (Y 1 0 ((p0 : Int32).toNatClampNeg)) < 0
    · refine nw_aald S hK hN (k := 1) (i := 0) ⟨by decide, rfl⟩ 2 rfl rfl rfl (x := p0) (wi_in c_1 (by decide)) dX9_horseTells_17 (v := .null) (oH_n c_2) ?_
      refine lv_astore_nN (lv' := [(3, .null), (0, .ref (ad 0 0)), (1, .int p0), (2, .int p1)]) hx hb dX9_horseTells_18 rfl hl (by decide) rfl (fun ls hl => ?_)
      refine lv_aload_nN hx hb dX9_horseTells_19 rfl (lv_at hl 0 rfl) ?_
      refine lv_ifnonnullN hx hb dX9_horseTells_20 ?_
      refine lv_ldc (v := (-1000000001)) hx hb hown (hts (.constant RX9 67 (-1000000001)) (List.mem_cons_of_mem _ (List.mem_append_left _ (List.mem_append_left _ (List.mem_append_left _ (List.mem_append_left _ (List.mem_append_left _ (List.mem_of_getElem? (i := 0) rfl)))))))) dX9_horseTells_23 ?_
      have hf : fX9_horseTells Y p0 p1 = ((-1000000001), Y) := by unfold fX9_horseTells; rw [if_neg c_1, if_pos c_2]
      exact W.iret (v := (-1000000001)) hx hb hr (fun t ht _ => by rw [hf]; exact nw_end hS hN ht) hS.2.2 dX9_horseTells_25
    · refine nw_aald S hK hN (k := 1) (i := 0) ⟨by decide, rfl⟩ 2 rfl rfl rfl (x := p0) (wi_in c_1 (by decide)) dX9_horseTells_17 (v := .ref (ad 20 ((Y 1 0 ((p0 : Int32).toNatClampNeg) : Int32).toNatClampNeg))) (oH_s c_2) ?_
      refine lv_astore_n (lv' := [(3, .ref (ad 20 ((Y 1 0 ((p0 : Int32).toNatClampNeg) : Int32).toNatClampNeg))), (0, .ref (ad 0 0)), (1, .int p0), (2, .int p1)]) hx hb dX9_horseTells_18 rfl hl (by decide) rfl (fun ls hl => ?_)
      refine lv_aload_n hx hb dX9_horseTells_19 rfl (lv_at hl 0 rfl) ?_
      refine lv_ifnonnull (tgt := 26) hx hb dX9_horseTells_20 (by decide) ?_
      refine lv_iload_n hx hb dX9_horseTells_26 rfl (lv_at hl 3 rfl) ?_
      by_cases c_3 : p1 = 0
      · refine lv_tableIn (x := p1) (off := 37) (tgt := 64) hx hb dX9_horseTells_27 (by rw [c_3]; decide) (by rw [c_3]; decide) (by rw [c_3]; rfl) (by decide) ?_
        refine lv_aload_n hx hb dX9_horseTells_64 rfl (lv_at hl 0 rfl) ?_
        by_cases k_4 : (Y 20 ((Y 1 0 ((p0 : Int32).toNatClampNeg) : Int32).toNatClampNeg) 5) = 0
        · refine nwY_calli (As := []) (rest := []) S (kX2_kindNumber l D C A ad nh nv na Y ((Y 1 0 ((p0 : Int32).toNatClampNeg) : Int32).toNatClampNeg) (hI.st (wi_in c_1 (by decide)) c_2) ) gX9_horseTells_X2_kindNumber rfl ⟨rfl, rfl⟩ hqX2_kindNumber ⟨Nat.le_of_ble_eq_true rfl, Nat.le_of_ble_eq_true rfl⟩ hK ((nw_recvH hK hN (h := (Y 1 0 ((p0 : Int32).toNatClampNeg) : Int32).toNatClampNeg) (hI.st (wi_in c_1 (by decide)) c_2)).1 k_4) hN hA hS rfl hl.1 rfl (Nat.le_of_ble_eq_true rfl) dX9_horseTells_65 ⟨Nat.le_of_ble_eq_true rfl, Nat.le_of_ble_eq_true rfl⟩ (fun H locs hN hS => ?_)
          have hf : fX9_horseTells Y p0 p1 = (0, Y) := by unfold fX9_horseTells; rw [if_neg c_1, if_neg c_2, if_pos c_3, if_pos k_4]
          exact W.iret (v := 0) hx hb hr (fun t ht _ => by rw [hf]; exact nw_end hS hN ht) hS.2.2 dX9_horseTells_68
        · by_cases k_5 : (Y 20 ((Y 1 0 ((p0 : Int32).toNatClampNeg) : Int32).toNatClampNeg) 5) = 1
          · refine nwY_callU (As := []) (rest := []) S (kX1_kindNumber l D C A ad nh nv na Y ((Y 1 0 ((p0 : Int32).toNatClampNeg) : Int32).toNatClampNeg) (hI.st (wi_in c_1 (by decide)) c_2) ) (va_cwO 0 hts gX9_horseTells_X1_kindNumber_u130X1 rfl rfl rfl (List.mem_cons_of_mem _ (List.mem_append_left _ (List.mem_append_left _ (List.mem_append_left _ (List.mem_append_left _ (List.mem_append_left _ (List.mem_of_getElem? (i := 18) rfl))))))) (by decide +kernel) ⟨Nat.le_of_ble_eq_true rfl, Nat.le_of_ble_eq_true rfl⟩) hK ((nw_recvH hK hN (h := (Y 1 0 ((p0 : Int32).toNatClampNeg) : Int32).toNatClampNeg) (hI.st (wi_in c_1 (by decide)) c_2)).2.1 k_5) hN hA hS rfl hl.1 rfl (Nat.le_of_ble_eq_true rfl) dX9_horseTells_65 ⟨Nat.le_of_ble_eq_true rfl, Nat.le_of_ble_eq_true rfl⟩ (fun H locs hN hS => ?_)
            have hf : fX9_horseTells Y p0 p1 = (1, Y) := by unfold fX9_horseTells; rw [if_neg c_1, if_neg c_2, if_pos c_3, if_neg k_4, if_pos k_5]
            exact W.iret (v := 1) hx hb hr (fun t ht _ => by rw [hf]; exact nw_end hS hN ht) hS.2.2 dX9_horseTells_68
          · refine nwY_callU (As := []) (rest := []) S (kX3_kindNumber l D C A ad nh nv na Y ((Y 1 0 ((p0 : Int32).toNatClampNeg) : Int32).toNatClampNeg) (hI.st (wi_in c_1 (by decide)) c_2) ) (va_cwO 0 hts gX9_horseTells_X3_kindNumber_u130X3 rfl rfl rfl (List.mem_cons_of_mem _ (List.mem_append_left _ (List.mem_append_left _ (List.mem_append_left _ (List.mem_append_left _ (List.mem_append_left _ (List.mem_of_getElem? (i := 18) rfl))))))) (by decide +kernel) ⟨Nat.le_of_ble_eq_true rfl, Nat.le_of_ble_eq_true rfl⟩) hK ((nw_recvH hK hN (h := (Y 1 0 ((p0 : Int32).toNatClampNeg) : Int32).toNatClampNeg) (hI.st (wi_in c_1 (by decide)) c_2)).2.2 k_4 k_5) hN hA hS rfl hl.1 rfl (Nat.le_of_ble_eq_true rfl) dX9_horseTells_65 ⟨Nat.le_of_ble_eq_true rfl, Nat.le_of_ble_eq_true rfl⟩ (fun H locs hN hS => ?_)
            have hf : fX9_horseTells Y p0 p1 = (2, Y) := by unfold fX9_horseTells; rw [if_neg c_1, if_neg c_2, if_pos c_3, if_neg k_4, if_neg k_5]
            exact W.iret (v := 2) hx hb hr (fun t ht _ => by rw [hf]; exact nw_end hS hN ht) hS.2.2 dX9_horseTells_68
      · by_cases c_6 : p1 = 1
        · refine lv_tableIn (x := p1) (off := 42) (tgt := 69) hx hb dX9_horseTells_27 (by rw [c_6]; decide) (by rw [c_6]; decide) (by rw [c_6]; rfl) (by decide) ?_
          refine lv_aload_n hx hb dX9_horseTells_69 rfl (lv_at hl 0 rfl) ?_
          refine nw_getH S hK hN (h := (Y 1 0 ((p0 : Int32).toNatClampNeg) : Int32).toNatClampNeg) (hI.st (wi_in c_1 (by decide)) c_2) hin1 hin2 hin3 0 (by decide) (index := 134) (ref := "RidingYard$Horse") (List.mem_cons_of_mem _ (List.mem_append_left _ (List.mem_append_left _ (List.mem_append_left _ (List.mem_append_left _ (List.mem_append_left _ (List.mem_of_getElem? (i := 2) rfl))))))) (fun _ h => h) dX9_horseTells_70 ?_
          have hf : fX9_horseTells Y p0 p1 = (Y 20 ((Y 1 0 ((p0 : Int32).toNatClampNeg) : Int32).toNatClampNeg) 0, Y) := by unfold fX9_horseTells; rw [if_neg c_1, if_neg c_2, if_neg c_3, if_pos c_6]
          exact W.iret (v := Y 20 ((Y 1 0 ((p0 : Int32).toNatClampNeg) : Int32).toNatClampNeg) 0) hx hb hr (fun t ht _ => by rw [hf]; exact nw_end hS hN ht) hS.2.2 dX9_horseTells_73
        · by_cases c_7 : p1 = 2
          · refine lv_tableIn (x := p1) (off := 47) (tgt := 74) hx hb dX9_horseTells_27 (by rw [c_7]; decide) (by rw [c_7]; decide) (by rw [c_7]; rfl) (by decide) ?_
            refine lv_aload_n hx hb dX9_horseTells_74 rfl (lv_at hl 0 rfl) ?_
            refine nw_getH S hK hN (h := (Y 1 0 ((p0 : Int32).toNatClampNeg) : Int32).toNatClampNeg) (hI.st (wi_in c_1 (by decide)) c_2) hin1 hin2 hin3 1 (by decide) (index := 137) (ref := "RidingYard$Horse") (List.mem_cons_of_mem _ (List.mem_append_left _ (List.mem_append_left _ (List.mem_append_left _ (List.mem_append_left _ (List.mem_append_left _ (List.mem_of_getElem? (i := 3) rfl))))))) (fun _ h => h) dX9_horseTells_75 ?_
            have hf : fX9_horseTells Y p0 p1 = (Y 20 ((Y 1 0 ((p0 : Int32).toNatClampNeg) : Int32).toNatClampNeg) 1, Y) := by unfold fX9_horseTells; rw [if_neg c_1, if_neg c_2, if_neg c_3, if_neg c_6, if_pos c_7]
            exact W.iret (v := Y 20 ((Y 1 0 ((p0 : Int32).toNatClampNeg) : Int32).toNatClampNeg) 1) hx hb hr (fun t ht _ => by rw [hf]; exact nw_end hS hN ht) hS.2.2 dX9_horseTells_78
          · by_cases c_8 : p1 = 3
            · refine lv_tableIn (x := p1) (off := 52) (tgt := 79) hx hb dX9_horseTells_27 (by rw [c_8]; decide) (by rw [c_8]; decide) (by rw [c_8]; rfl) (by decide) ?_
              refine lv_aload_n hx hb dX9_horseTells_79 rfl (lv_at hl 0 rfl) ?_
              refine nw_getH S hK hN (h := (Y 1 0 ((p0 : Int32).toNatClampNeg) : Int32).toNatClampNeg) (hI.st (wi_in c_1 (by decide)) c_2) hin1 hin2 hin3 2 (by decide) (index := 140) (ref := "RidingYard$Horse") (List.mem_cons_of_mem _ (List.mem_append_left _ (List.mem_append_left _ (List.mem_append_left _ (List.mem_append_left _ (List.mem_append_left _ (List.mem_of_getElem? (i := 4) rfl))))))) (fun _ h => h) dX9_horseTells_80 ?_
              have hf : fX9_horseTells Y p0 p1 = (Y 20 ((Y 1 0 ((p0 : Int32).toNatClampNeg) : Int32).toNatClampNeg) 2, Y) := by unfold fX9_horseTells; rw [if_neg c_1, if_neg c_2, if_neg c_3, if_neg c_6, if_neg c_7, if_pos c_8]
              exact W.iret (v := Y 20 ((Y 1 0 ((p0 : Int32).toNatClampNeg) : Int32).toNatClampNeg) 2) hx hb hr (fun t ht _ => by rw [hf]; exact nw_end hS hN ht) hS.2.2 dX9_horseTells_83
            · by_cases c_9 : p1 = 4
              · refine lv_tableIn (x := p1) (off := 57) (tgt := 84) hx hb dX9_horseTells_27 (by rw [c_9]; decide) (by rw [c_9]; decide) (by rw [c_9]; rfl) (by decide) ?_
                refine lv_aload_n hx hb dX9_horseTells_84 rfl (lv_at hl 0 rfl) ?_
                refine nw_getH S hK hN (h := (Y 1 0 ((p0 : Int32).toNatClampNeg) : Int32).toNatClampNeg) (hI.st (wi_in c_1 (by decide)) c_2) hin1 hin2 hin3 3 (by decide) (index := 143) (ref := "RidingYard$Horse") (List.mem_cons_of_mem _ (List.mem_append_left _ (List.mem_append_left _ (List.mem_append_left _ (List.mem_append_left _ (List.mem_append_left _ (List.mem_of_getElem? (i := 5) rfl))))))) (fun _ h => h) dX9_horseTells_85 ?_
                have hf : fX9_horseTells Y p0 p1 = (Y 20 ((Y 1 0 ((p0 : Int32).toNatClampNeg) : Int32).toNatClampNeg) 3, Y) := by unfold fX9_horseTells; rw [if_neg c_1, if_neg c_2, if_neg c_3, if_neg c_6, if_neg c_7, if_neg c_8, if_pos c_9]
                exact W.iret (v := Y 20 ((Y 1 0 ((p0 : Int32).toNatClampNeg) : Int32).toNatClampNeg) 3) hx hb hr (fun t ht _ => by rw [hf]; exact nw_end hS hN ht) hS.2.2 dX9_horseTells_88
              · by_cases c_10 : p1 = 5
                · refine lv_tableIn (x := p1) (off := 62) (tgt := 89) hx hb dX9_horseTells_27 (by rw [c_10]; decide) (by rw [c_10]; decide) (by rw [c_10]; rfl) (by decide) ?_
                  refine lv_aload_n hx hb dX9_horseTells_89 rfl (lv_at hl 0 rfl) ?_
                  refine nw_getH S hK hN (h := (Y 1 0 ((p0 : Int32).toNatClampNeg) : Int32).toNatClampNeg) (hI.st (wi_in c_1 (by decide)) c_2) hin1 hin2 hin3 4 (by decide) (index := 146) (ref := "RidingYard$Horse") (List.mem_cons_of_mem _ (List.mem_append_left _ (List.mem_append_left _ (List.mem_append_left _ (List.mem_append_left _ (List.mem_append_left _ (List.mem_of_getElem? (i := 6) rfl))))))) (fun _ h => h) dX9_horseTells_90 ?_
                  have hf : fX9_horseTells Y p0 p1 = (Y 20 ((Y 1 0 ((p0 : Int32).toNatClampNeg) : Int32).toNatClampNeg) 4, Y) := by unfold fX9_horseTells; rw [if_neg c_1, if_neg c_2, if_neg c_3, if_neg c_6, if_neg c_7, if_neg c_8, if_neg c_9, if_pos c_10]
                  exact W.iret (v := Y 20 ((Y 1 0 ((p0 : Int32).toNatClampNeg) : Int32).toNatClampNeg) 4) hx hb hr (fun t ht _ => by rw [hf]; exact nw_end hS hN ht) hS.2.2 dX9_horseTells_93
                · refine lv_tableOut (x := p1) (tgt := 94) hx hb dX9_horseTells_27 (by have q0 := lv_neT (a := 0) c_3 (by decide); have q1 := lv_neT (a := 1) c_6 (by decide); have q2 := lv_neT (a := 2) c_7 (by decide); have q3 := lv_neT (a := 3) c_8 (by decide); have q4 := lv_neT (a := 4) c_9 (by decide); have q5 := lv_neT (a := 5) c_10 (by decide); omega) (by decide) ?_
                  refine lv_ldc (v := (-1000000001)) hx hb hown (hts (.constant RX9 67 (-1000000001)) (List.mem_cons_of_mem _ (List.mem_append_left _ (List.mem_append_left _ (List.mem_append_left _ (List.mem_append_left _ (List.mem_append_left _ (List.mem_of_getElem? (i := 0) rfl)))))))) dX9_horseTells_94 ?_
                  have hf : fX9_horseTells Y p0 p1 = ((-1000000001), Y) := by unfold fX9_horseTells; rw [if_neg c_1, if_neg c_2, if_neg c_3, if_neg c_6, if_neg c_7, if_neg c_8, if_neg c_9, if_neg c_10]
                  exact W.iret (v := (-1000000001)) hx hb hr (fun t ht _ => by rw [hf]; exact nw_end hS hN ht) hS.2.2 dX9_horseTells_96
  · refine lv_ldc (v := (-1000000001)) hx hb hown (hts (.constant RX9 67 (-1000000001)) (List.mem_cons_of_mem _ (List.mem_append_left _ (List.mem_append_left _ (List.mem_append_left _ (List.mem_append_left _ (List.mem_append_left _ (List.mem_of_getElem? (i := 0) rfl)))))))) dX9_horseTells_9 ?_
    have hf : fX9_horseTells Y p0 p1 = ((-1000000001), Y) := by unfold fX9_horseTells; rw [if_pos c_1]
    exact W.iret (v := (-1000000001)) hx hb hr (fun t ht _ => by rw [hf]; exact nw_end hS hN ht) hS.2.2 dX9_horseTells_11
set_option maxHeartbeats 4000000 in
set_option maxRecDepth 100000 in
theorem kX9_shed (l : Launch) (D : va_G) (C : Nat → ClassId) (A : Nat → Prop) (ad : Nat → Nat → Nat) (nh nv na : Nat) (Y : Nat → Nat → Nat → Int32) (p0 : Int32) (kk : Nat) (hI : InvY nh nv na kk Y) : Met l yX9_shed wsX9_shed ({ frames := 1, cells := 0, slots := 0, locals := 21 }) (va_Pc [.ref (ad 0 0), .int p0] (PW D C A (nw D (enY C) (domY nh nv na) A ad Y))) (nQ A (some (.int (fX9_shed Y p0).1)) (nw D (enY C) (domY nh nv na) A ad (fX9_shed Y p0).2)) 0 0 A := by
  refine Met.ofW (cc := cX9_shed) (maxL := 3) (ret := (some .int)) (by decide) rfl ?_
  intro p e s m args below meth c s₁ B hml hv
  obtain ⟨rfl, hK, hN, hA⟩ := hv
  have hx := B.exec
  have hb := B.bytes
  have hr := B.returns
  have hts := atoms_spec (ws := wsX9_shed) B.pre
  have hown : s.vm.findClass RX9 = some m.cls := findClass_of_methodNamed B.named
  have hlocks := B.notSynchronized
  have S : CallFix p m c cX9_shed 3 s _ wsX9_shed RX9 := ⟨hx, hb, hml, hown, hts⟩
  have hin9 : ∀ w ∈ wsX90, w ∈ wsX9_shed := (fun _ h => List.mem_cons_of_mem _ (List.mem_append_right _ (h)))
  have hS : va_S A s.heap s.heap [] := va_S.rf
  have hl := lv_entry ([.ref (ad 0 0), .int p0]) (n := 3) (Nat.le_of_ble_eq_true rfl)
  rw [lg_entry_eq]
  generalize (lg_sl ([.ref (ad 0 0), .int p0]) ++ List.replicate (3 - (lg_sl ([.ref (ad 0 0), .int p0])).length) Slot.unset).toArray = ls at hl ⊢
  have hl : lv_has ls 3 [(0, .ref (ad 0 0)), (1, .int p0)] := hl
  refine lv_iload_n hx hb dX9_shed_0 rfl (lv_at hl 1 rfl) ?_
  refine lv_bipush (v := 6) hx hb dX9_shed_1 (by decide) ?_
  refine nw_callS (As := [.int p0, .int 6]) (rest := []) S (kX9_within l p0 6) gX9_shed_X9_within rfl ⟨rfl, rfl⟩ hqX9_within ⟨Nat.le_of_ble_eq_true rfl, Nat.le_of_ble_eq_true rfl⟩ rfl hl.1 rfl (Nat.le_of_ble_eq_true rfl) dX9_shed_3 ⟨Nat.le_of_ble_eq_true rfl, Nat.le_of_ble_eq_true rfl⟩ ?_
  refine lv_if_ne (x := fX9_within p0 6) (tgt := 12) hx hb dX9_shed_6 (by decide) (fun c_1 => ?_) (fun c_1 => ?_)
  · refine lv_aload_n hx hb dX9_shed_12 rfl (lv_at hl 0 rfl) ?_
    refine nw_get S hK hN (k := 0) (i := 0) ⟨by decide, rfl⟩ rfl rfl hin9 1 (by decide) (index := 17) (ref := "RidingYard") (List.mem_cons_of_mem _ (List.mem_append_left _ (List.mem_of_getElem? (i := 1) rfl))) (fun _ h => h) (v := .ref (ad 2 0)) rfl dX9_shed_13 ?_
    refine lv_iload_n hx hb dX9_shed_16 rfl (lv_at hl 1 rfl) ?_
    by_cases c_2 : (Y 2 0 ((p0 : Int32).toNatClampNeg)) < 0
    · refine nw_aald S hK hN (k := 2) (i := 0) ⟨by decide, rfl⟩ 3 rfl rfl rfl (x := p0) (wi_in c_1 (by decide)) dX9_shed_17 (v := .null) (oW_n c_2) ?_
      refine lv_astore_nN (lv' := [(2, .null), (0, .ref (ad 0 0)), (1, .int p0)]) hx hb dX9_shed_18 rfl hl (by decide) rfl (fun ls hl => ?_)
      refine lv_aload_nN hx hb dX9_shed_19 rfl (lv_at hl 0 rfl) ?_
      refine lv_ifnonnullN hx hb dX9_shed_20 ?_
      refine lv_iconst (v := 0) hx hb dX9_shed_23 (by decide) ?_
      have hf : fX9_shed Y p0 = (0, Y) := by unfold fX9_shed; rw [if_neg c_1, if_pos c_2]
      exact W.iret (v := 0) hx hb hr (fun t ht _ => by rw [hf]; exact nw_end hS hN ht) hS.2.2 dX9_shed_24
    · by_cases c_3 : (Y 2 0 ((p0 : Int32).toNatClampNeg)) < 100
      · refine nw_aald S hK hN (k := 2) (i := 0) ⟨by decide, rfl⟩ 3 rfl rfl rfl (x := p0) (wi_in c_1 (by decide)) dX9_shed_17 (v := .ref (ad 20 ((Y 2 0 ((p0 : Int32).toNatClampNeg) : Int32).toNatClampNeg))) (oW_h c_2 c_3) ?_
        refine lv_astore_n (lv' := [(2, .ref (ad 20 ((Y 2 0 ((p0 : Int32).toNatClampNeg) : Int32).toNatClampNeg))), (0, .ref (ad 0 0)), (1, .int p0)]) hx hb dX9_shed_18 rfl hl (by decide) rfl (fun ls hl => ?_)
        refine lv_aload_n hx hb dX9_shed_19 rfl (lv_at hl 0 rfl) ?_
        refine lv_ifnonnull (tgt := 25) hx hb dX9_shed_20 (by decide) ?_
        refine lv_aload_n hx hb dX9_shed_25 rfl (lv_at hl 0 rfl) ?_
        refine nw_instH S hK hN (h := (Y 2 0 ((p0 : Int32).toNatClampNeg) : Int32).toNatClampNeg) (hI.sh (wi_in c_1 (by decide)) c_2 c_3) (index := 9) (List.mem_cons_of_mem _ (List.mem_append_left _ (List.mem_of_getElem? (i := 2) rfl))) dX9_shed_26 ?_
        refine lv_if_eq (x := 1) (tgt := 36) hx hb dX9_shed_29 (by decide) (fun c_4 => by first | exact absurd (by decide) c_4 | exact absurd c_4 (by decide)) (fun c_4 => ?_)
        refine lv_iconst (v := 1) hx hb dX9_shed_32 (by decide) ?_
        refine lv_goto (tgt := 37) hx hb dX9_shed_33 (by decide) ?_
        have hf : fX9_shed Y p0 = (1, Y) := by unfold fX9_shed; rw [if_neg c_1, if_neg c_2, if_pos c_3]
        exact W.iret (v := 1) hx hb hr (fun t ht _ => by rw [hf]; exact nw_end hS hN ht) hS.2.2 dX9_shed_37
      · refine nw_aald S hK hN (k := 2) (i := 0) ⟨by decide, rfl⟩ 3 rfl rfl rfl (x := p0) (wi_in c_1 (by decide)) dX9_shed_17 (v := .ref (ad 21 ((Y 2 0 ((p0 : Int32).toNatClampNeg) : Int32).toNatClampNeg - 100))) (oW_w c_2 c_3) ?_
        refine lv_astore_n (lv' := [(2, .ref (ad 21 ((Y 2 0 ((p0 : Int32).toNatClampNeg) : Int32).toNatClampNeg - 100))), (0, .ref (ad 0 0)), (1, .int p0)]) hx hb dX9_shed_18 rfl hl (by decide) rfl (fun ls hl => ?_)
        refine lv_aload_n hx hb dX9_shed_19 rfl (lv_at hl 0 rfl) ?_
        refine lv_ifnonnull (tgt := 25) hx hb dX9_shed_20 (by decide) ?_
        refine lv_aload_n hx hb dX9_shed_25 rfl (lv_at hl 0 rfl) ?_
        refine nw_instW S hK hN (h := ((Y 2 0 ((p0 : Int32).toNatClampNeg) : Int32).toNatClampNeg - 100)) (hI.sw (wi_in c_1 (by decide)) c_2 c_3) (index := 9) (List.mem_cons_of_mem _ (List.mem_append_left _ (List.mem_of_getElem? (i := 2) rfl))) dX9_shed_26 ?_
        refine lv_if_eq (x := 0) (tgt := 36) hx hb dX9_shed_29 (by decide) (fun c_5 => ?_) (fun c_5 => by first | exact absurd (by decide) c_5 | exact absurd c_5 (by decide))
        refine lv_iconst (v := 2) hx hb dX9_shed_36 (by decide) ?_
        have hf : fX9_shed Y p0 = (2, Y) := by unfold fX9_shed; rw [if_neg c_1, if_neg c_2, if_neg c_3]
        exact W.iret (v := 2) hx hb hr (fun t ht _ => by rw [hf]; exact nw_end hS hN ht) hS.2.2 dX9_shed_37
  · refine lv_ldc (v := (-1000000001)) hx hb hown (hts (.constant RX9 67 (-1000000001)) (List.mem_cons_of_mem _ (List.mem_append_left _ (List.mem_of_getElem? (i := 0) rfl)))) dX9_shed_9 ?_
    have hf : fX9_shed Y p0 = ((-1000000001), Y) := by unfold fX9_shed; rw [if_pos c_1]
    exact W.iret (v := (-1000000001)) hx hb hr (fun t ht _ => by rw [hf]; exact nw_end hS hN ht) hS.2.2 dX9_shed_11
set_option maxHeartbeats 4000000 in
set_option maxRecDepth 100000 in
theorem kX9_same (l : Launch) (D : va_G) (C : Nat → ClassId) (A : Nat → Prop) (ad : Nat → Nat → Nat) (nh nv na : Nat) (Y : Nat → Nat → Nat → Int32) (p0 p1 : Int32) (kk : Nat) (hI : InvY nh nv na kk Y) : Met l yX9_same wsX9_same ({ frames := 1, cells := 0, slots := 0, locals := 21 }) (va_Pc [.ref (ad 0 0), .int p0, .int p1] (PW D C A (nw D (enY C) (domY nh nv na) A ad Y))) (nQ A (some (.int (fX9_same Y p0 p1).1)) (nw D (enY C) (domY nh nv na) A ad (fX9_same Y p0 p1).2)) 0 0 A := by
  refine Met.ofW (cc := cX9_same) (maxL := 3) (ret := (some .int)) (by decide) rfl ?_
  intro p e s m args below meth c s₁ B hml hv
  obtain ⟨rfl, hK, hN, hA⟩ := hv
  have hx := B.exec
  have hb := B.bytes
  have hr := B.returns
  have hts := atoms_spec (ws := wsX9_same) B.pre
  have hown : s.vm.findClass RX9 = some m.cls := findClass_of_methodNamed B.named
  have hlocks := B.notSynchronized
  have S : CallFix p m c cX9_same 3 s _ wsX9_same RX9 := ⟨hx, hb, hml, hown, hts⟩
  have hin9 : ∀ w ∈ wsX90, w ∈ wsX9_same := (fun _ h => List.mem_cons_of_mem _ (List.mem_append_right _ (h)))
  have hS : va_S A s.heap s.heap [] := va_S.rf
  have hl := lv_entry ([.ref (ad 0 0), .int p0, .int p1]) (n := 3) (Nat.le_of_ble_eq_true rfl)
  rw [lg_entry_eq]
  generalize (lg_sl ([.ref (ad 0 0), .int p0, .int p1]) ++ List.replicate (3 - (lg_sl ([.ref (ad 0 0), .int p0, .int p1])).length) Slot.unset).toArray = ls at hl ⊢
  have hl : lv_has ls 3 [(0, .ref (ad 0 0)), (1, .int p0), (2, .int p1)] := hl
  refine lv_iload_n hx hb dX9_same_0 rfl (lv_at hl 1 rfl) ?_
  refine lv_bipush (v := 10) hx hb dX9_same_1 (by decide) ?_
  refine nw_callS (As := [.int p0, .int 10]) (rest := []) S (kX9_within l p0 10) gX9_same_X9_within rfl ⟨rfl, rfl⟩ hqX9_within ⟨Nat.le_of_ble_eq_true rfl, Nat.le_of_ble_eq_true rfl⟩ rfl hl.1 rfl (Nat.le_of_ble_eq_true rfl) dX9_same_3 ⟨Nat.le_of_ble_eq_true rfl, Nat.le_of_ble_eq_true rfl⟩ ?_
  refine lv_if_eq (x := fX9_within p0 10) (tgt := 18) hx hb dX9_same_6 (by decide) (fun c_1 => ?_) (fun c_1 => ?_)
  · refine lv_ldc (v := (-1000000001)) hx hb hown (hts (.constant RX9 67 (-1000000001)) (List.mem_cons_of_mem _ (List.mem_append_left _ (List.mem_of_getElem? (i := 0) rfl)))) dX9_same_18 ?_
    have hf : fX9_same Y p0 p1 = ((-1000000001), Y) := by unfold fX9_same; rw [if_pos c_1]
    exact W.iret (v := (-1000000001)) hx hb hr (fun t ht _ => by rw [hf]; exact nw_end hS hN ht) hS.2.2 dX9_same_20
  · refine lv_iload_n hx hb dX9_same_9 rfl (lv_at hl 2 rfl) ?_
    refine lv_bipush (v := 10) hx hb dX9_same_10 (by decide) ?_
    refine nw_callS (As := [.int p1, .int 10]) (rest := []) S (kX9_within l p1 10) gX9_same_X9_within rfl ⟨rfl, rfl⟩ hqX9_within ⟨Nat.le_of_ble_eq_true rfl, Nat.le_of_ble_eq_true rfl⟩ rfl hl.1 rfl (Nat.le_of_ble_eq_true rfl) dX9_same_12 ⟨Nat.le_of_ble_eq_true rfl, Nat.le_of_ble_eq_true rfl⟩ ?_
    refine lv_if_ne (x := fX9_within p1 10) (tgt := 21) hx hb dX9_same_15 (by decide) (fun c_2 => ?_) (fun c_2 => ?_)
    · refine lv_aload_n hx hb dX9_same_21 rfl (lv_at hl 0 rfl) ?_
      refine nw_get S hK hN (k := 0) (i := 0) ⟨by decide, rfl⟩ rfl rfl hin9 0 (by decide) (index := 11) (ref := "RidingYard") (List.mem_cons_of_mem _ (List.mem_append_left _ (List.mem_of_getElem? (i := 1) rfl))) (fun _ h => h) (v := .ref (ad 1 0)) rfl dX9_same_22 ?_
      refine lv_iload_n hx hb dX9_same_25 rfl (lv_at hl 1 rfl) ?_
      refine nw_aald S hK hN (k := 1) (i := 0) ⟨by decide, rfl⟩ 2 rfl rfl rfl (x := p0) (wi_in c_1 (by decide)) dX9_same_26 (v := va_rf (oH ad (Y 1 0 ((p0 : Int32).toNatClampNeg)))) rfl ?_
      refine lv_aload_n hx hb dX9_same_27 rfl (lv_at hl 0 rfl) ?_
      refine nw_get S hK hN (k := 0) (i := 0) ⟨by decide, rfl⟩ rfl rfl hin9 0 (by decide) (index := 11) (ref := "RidingYard") (List.mem_cons_of_mem _ (List.mem_append_left _ (List.mem_of_getElem? (i := 1) rfl))) (fun _ h => h) (v := .ref (ad 1 0)) rfl dX9_same_28 ?_
      refine lv_iload_n hx hb dX9_same_31 rfl (lv_at hl 2 rfl) ?_
      refine nw_aald S hK hN (k := 1) (i := 0) ⟨by decide, rfl⟩ 2 rfl rfl rfl (x := p1) (wi_in c_2 (by decide)) dX9_same_32 (v := va_rf (oH ad (Y 1 0 ((p1 : Int32).toNatClampNeg)))) rfl ?_
      refine lv_acmp_ne (rx := oH ad (Y 1 0 ((p0 : Int32).toNatClampNeg))) (ry := oH ad (Y 1 0 ((p1 : Int32).toNatClampNeg))) (tgt := 40) hx hb dX9_same_33 (by decide) (fun e_4 => ?_) (fun e_4 => ?_)
      · have c_3 : ¬ (Y 1 0 ((p0 : Int32).toNatClampNeg)) = (Y 1 0 ((p1 : Int32).toNatClampNeg)) := fun q => e_4 (by rw [q])
        refine lv_iconst (v := 0) hx hb dX9_same_40 (by decide) ?_
        refine nw_callS (As := [.int 0]) (rest := []) S (kX9_oneIf l 0) gX9_same_X9_oneIf rfl ⟨rfl, rfl⟩ hqX9_oneIf ⟨Nat.le_of_ble_eq_true rfl, Nat.le_of_ble_eq_true rfl⟩ rfl hl.1 rfl (Nat.le_of_ble_eq_true rfl) dX9_same_41 ⟨Nat.le_of_ble_eq_true rfl, Nat.le_of_ble_eq_true rfl⟩ ?_
        have hf : fX9_same Y p0 p1 = (fX9_oneIf 0, Y) := by unfold fX9_same; rw [if_neg c_1, if_neg c_2, if_neg c_3]
        exact W.iret (v := fX9_oneIf 0) hx hb hr (fun t ht _ => by rw [hf]; exact nw_end hS hN ht) hS.2.2 dX9_same_44
      · have c_3 : (Y 1 0 ((p0 : Int32).toNatClampNeg)) = (Y 1 0 ((p1 : Int32).toNatClampNeg)) := hI.inj hN (wi_in c_1 (by decide)) (wi_in c_2 (by decide)) e_4
        refine lv_iconst (v := 1) hx hb dX9_same_36 (by decide) ?_
        refine lv_goto (tgt := 41) hx hb dX9_same_37 (by decide) ?_
        refine nw_callS (As := [.int 1]) (rest := []) S (kX9_oneIf l 1) gX9_same_X9_oneIf rfl ⟨rfl, rfl⟩ hqX9_oneIf ⟨Nat.le_of_ble_eq_true rfl, Nat.le_of_ble_eq_true rfl⟩ rfl hl.1 rfl (Nat.le_of_ble_eq_true rfl) dX9_same_41 ⟨Nat.le_of_ble_eq_true rfl, Nat.le_of_ble_eq_true rfl⟩ ?_
        have hf : fX9_same Y p0 p1 = (fX9_oneIf 1, Y) := by unfold fX9_same; rw [if_neg c_1, if_neg c_2, if_pos c_3]
        exact W.iret (v := fX9_oneIf 1) hx hb hr (fun t ht _ => by rw [hf]; exact nw_end hS hN ht) hS.2.2 dX9_same_44
    · refine lv_ldc (v := (-1000000001)) hx hb hown (hts (.constant RX9 67 (-1000000001)) (List.mem_cons_of_mem _ (List.mem_append_left _ (List.mem_of_getElem? (i := 0) rfl)))) dX9_same_18 ?_
      have hf : fX9_same Y p0 p1 = ((-1000000001), Y) := by unfold fX9_same; rw [if_neg c_1, if_pos c_2]
      exact W.iret (v := (-1000000001)) hx hb hr (fun t ht _ => by rw [hf]; exact nw_end hS hN ht) hS.2.2 dX9_same_20
