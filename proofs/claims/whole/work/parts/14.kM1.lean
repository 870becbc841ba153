set_option maxHeartbeats 4000000 in
set_option maxRecDepth 100000 in
theorem kX10_came (l : Launch) (D : va_G) (C : Nat → ClassId) (A : Nat → Prop) (ad : Nat → Nat → Nat) (M : Nat → Nat → Nat → Int32) : Met l yX10_came wsX10_came ({ frames := 0, cells := 0, slots := 0, locals := 0 }) (va_Pc [.ref (ad 0 0)] (PW D C A (nw D (enM C) domM A ad M))) (nQ A (some (.int (fX10_came M).1)) (nw D (enM C) domM A ad (fX10_came M).2)) 0 0 A := by
  refine Met.ofW (cc := cX10_came) (maxL := 1) (ret := (some .int)) (by decide) rfl ?_
  intro p e s m args below meth c s₁ B hml hv
  obtain ⟨rfl, hK, hN, hA⟩ := hv
  have hx := B.exec
  have hb := B.bytes
  have hr := B.returns
  have hts := atoms_spec (ws := wsX10_came) B.pre
  have hown : s.vm.findClass RX10 = some m.cls := findClass_of_methodNamed B.named
  have hlocks := B.notSynchronized
  have S : CallFix p m c cX10_came 1 s _ wsX10_came RX10 := ⟨hx, hb, hml, hown, hts⟩
  have hin10 : ∀ w ∈ wsX100, w ∈ wsX10_came := by decide +kernel
  have hS : va_S A s.heap s.heap [] := va_S.rf
  have hl := lv_entry ([.ref (ad 0 0)]) (n := 1) (Nat.le_of_ble_eq_true rfl)
  rw [lg_entry_eq]
  generalize (lg_sl ([.ref (ad 0 0)]) ++ List.replicate (1 - (lg_sl ([.ref (ad 0 0)])).length) Slot.unset).toArray = ls at hl ⊢
  have hl : lv_has ls 1 [(0, .ref (ad 0 0))] := hl
  refine lv_aload_n hx hb dX10_came_0 rfl (lv_at hl 0 rfl) ?_
  refine nw_get S hK hN (k := 0) (i := 0) ⟨rfl, rfl⟩ rfl rfl hin10 33 (by decide) (index := 158) (ref := "RidingYardModel") (by decide +kernel) (fun _ h => h) (v := .int (M 0 0 33)) rfl dX10_came_1 ?_
  have hf : fX10_came M = (M 0 0 33, M) := rfl
  exact W.iret (v := M 0 0 33) hx hb hr (fun t ht _ => by rw [hf]; exact nw_end hS hN ht) hS.2.2 dX10_came_4
set_option maxHeartbeats 4000000 in
set_option maxRecDepth 100000 in
theorem kX10_task (l : Launch) (D : va_G) (C : Nat → ClassId) (A : Nat → Prop) (ad : Nat → Nat → Nat) (M : Nat → Nat → Nat → Int32) (p0 p1 p2 p3 : Int32) (kk : Nat) (hI : InvM kk M) : Met l yX10_task wsX10_task ({ frames := 1, cells := 0, slots := 0, locals := 22 }) (va_Pc [.ref (ad 0 0), .int p0, .int p1, .int p2, .int p3] (PW D C A (nw D (enM C) domM A ad M))) (nQ A (some (.int (fX10_task M p0 p1 p2 p3).1)) (nw D (enM C) domM A ad (fX10_task M p0 p1 p2 p3).2)) 0 0 A := by
  refine Met.ofW (cc := cX10_task) (maxL := 5) (ret := (some .int)) (by decide) rfl ?_
  intro p e s m args below meth c s₁ B hml hv
  obtain ⟨rfl, hK, hN, hA⟩ := hv
  have hx := B.exec
  have hb := B.bytes
  have hr := B.returns
  have hts := atoms_spec (ws := wsX10_task) B.pre
  have hown : s.vm.findClass RX10 = some m.cls := findClass_of_methodNamed B.named
  have hlocks := B.notSynchronized
  have S : CallFix p m c cX10_task 5 s _ wsX10_task RX10 := ⟨hx, hb, hml, hown, hts⟩
  have hin10 : ∀ w ∈ wsX100, w ∈ wsX10_task := by decide +kernel
  have hS : va_S A s.heap s.heap [] := va_S.rf
  have hl := lv_entry ([.ref (ad 0 0), .int p0, .int p1, .int p2, .int p3]) (n := 5) (Nat.le_of_ble_eq_true rfl)
  rw [lg_entry_eq]
  generalize (lg_sl ([.ref (ad 0 0), .int p0, .int p1, .int p2, .int p3]) ++ List.replicate (5 - (lg_sl ([.ref (ad 0 0), .int p0, .int p1, .int p2, .int p3])).length) Slot.unset).toArray = ls at hl ⊢
  have hl : lv_has ls 5 [(0, .ref (ad 0 0)), (1, .int p0), (2, .int p1), (3, .int p2), (4, .int p3)] := hl
  refine lv_iload_n hx hb dX10_task_0 rfl (lv_at hl 1 rfl) ?_
  refine lv_iconst (v := 0) hx hb dX10_task_1 (by decide) ?_
  refine lv_bipush (v := 17) hx hb dX10_task_2 (by decide) ?_
  refine nw_callP (W.runS (As := [.int p0, .int 0, .int 17]) (rest := []) S (kX10_in l p0 0 17) (va_cwS 3 hts gX10_task_X10_in rfl rfl rfl (by decide +kernel) ⟨Nat.le_of_ble_eq_true rfl, Nat.le_of_ble_eq_true rfl⟩) nw_preP rfl rfl hl.1 rfl (lv_room (Nat.le_of_ble_eq_true rfl)) dX10_task_4 ⟨Nat.le_of_ble_eq_true rfl, Nat.le_of_ble_eq_true rfl⟩) ?_
  refine lv_if_ne (x := fX10_in p0 0 17) (tgt := 13) hx hb dX10_task_7 (by decide) (fun c_1 => ?_) (fun c_1 => ?_)
  · refine lv_aload_n hx hb dX10_task_13 rfl (lv_at hl 0 rfl) ?_
    refine nw_get S hK hN (k := 0) (i := 0) ⟨rfl, rfl⟩ rfl rfl hin10 24 (by decide) (index := 164) (ref := "RidingYardModel") (by decide +kernel) (fun _ h => h) (v := .int (M 0 0 24)) rfl dX10_task_14 ?_
    refine lv_bipush (v := 20) hx hb dX10_task_17 (by decide) ?_
    refine lv_icmp_ne (x := M 0 0 24) (y := 20) (tgt := 25) hx hb dX10_task_19 (by decide) (fun c_2 => ?_) (fun c_2 => ?_)
    · refine lv_aload_n hx hb dX10_task_25 rfl (lv_at hl 0 rfl) ?_
      refine nw_get S hK hN (k := 0) (i := 0) ⟨rfl, rfl⟩ rfl rfl hin10 25 (by decide) (index := 74) (ref := "RidingYardModel") (by decide +kernel) (fun _ h => h) (v := .ref (ad 25 0)) rfl dX10_task_26 ?_
      refine lv_aload_n hx hb dX10_task_29 rfl (lv_at hl 0 rfl) ?_
      refine nw_get S hK hN (k := 0) (i := 0) ⟨rfl, rfl⟩ rfl rfl hin10 24 (by decide) (index := 164) (ref := "RidingYardModel") (by decide +kernel) (fun _ h => h) (v := .int (M 0 0 24)) rfl dX10_task_30 ?_
      refine lv_iload_n hx hb dX10_task_33 rfl (lv_at hl 1 rfl) ?_
      refine nw_iast S hK hN hS (k := 25) (i := 0) ⟨rfl, rfl⟩ (fun _ => rfl) (x := M 0 0 24) (v := p0) (invM_t hI c_2) dX10_task_34 (fun H locs hN hz hS => ?_)
      refine lv_aload_n hx hb dX10_task_35 rfl (lv_at hl 0 rfl) ?_
      refine nw_get S hK hN (k := 0) (i := 0) ⟨rfl, rfl⟩ rfl rfl hin10 26 (by decide) (index := 77) (ref := "RidingYardModel") (by decide +kernel) (fun _ h => h) (v := .ref (ad 26 0)) rfl dX10_task_36 ?_
      refine lv_aload_n hx hb dX10_task_39 rfl (lv_at hl 0 rfl) ?_
      refine nw_get S hK hN (k := 0) (i := 0) ⟨rfl, rfl⟩ rfl rfl hin10 24 (by decide) (index := 164) (ref := "RidingYardModel") (by decide +kernel) (fun _ h => h) (v := .int (M 0 0 24)) rfl dX10_task_40 ?_
      refine lv_iload_n hx hb dX10_task_43 rfl (lv_at hl 2 rfl) ?_
      refine nw_iast S hK hN hS (k := 26) (i := 0) ⟨rfl, rfl⟩ (fun _ => rfl) (x := M 0 0 24) (v := p1) (invM_t hI c_2) dX10_task_44 (fun H locs hN hz hS => ?_)
      refine lv_aload_n hx hb dX10_task_45 rfl (lv_at hl 0 rfl) ?_
      refine nw_get S hK hN (k := 0) (i := 0) ⟨rfl, rfl⟩ rfl rfl hin10 27 (by decide) (index := 80) (ref := "RidingYardModel") (by decide +kernel) (fun _ h => h) (v := .ref (ad 27 0)) rfl dX10_task_46 ?_
      refine lv_aload_n hx hb dX10_task_49 rfl (lv_at hl 0 rfl) ?_
      refine nw_get S hK hN (k := 0) (i := 0) ⟨rfl, rfl⟩ rfl rfl hin10 24 (by decide) (index := 164) (ref := "RidingYardModel") (by decide +kernel) (fun _ h => h) (v := .int (M 0 0 24)) rfl dX10_task_50 ?_
      refine lv_iload_n hx hb dX10_task_53 rfl (lv_at hl 3 rfl) ?_
      refine nw_iast S hK hN hS (k := 27) (i := 0) ⟨rfl, rfl⟩ (fun _ => rfl) (x := M 0 0 24) (v := p2) (invM_t hI c_2) dX10_task_54 (fun H locs hN hz hS => ?_)
      refine lv_aload_n hx hb dX10_task_55 rfl (lv_at hl 0 rfl) ?_
      refine nw_get S hK hN (k := 0) (i := 0) ⟨rfl, rfl⟩ rfl rfl hin10 28 (by decide) (index := 83) (ref := "RidingYardModel") (by decide +kernel) (fun _ h => h) (v := .ref (ad 28 0)) rfl dX10_task_56 ?_
      refine lv_aload_n hx hb dX10_task_59 rfl (lv_at hl 0 rfl) ?_
      refine nw_get S hK hN (k := 0) (i := 0) ⟨rfl, rfl⟩ rfl rfl hin10 24 (by decide) (index := 164) (ref := "RidingYardModel") (by decide +kernel) (fun _ h => h) (v := .int (M 0 0 24)) rfl dX10_task_60 ?_
      refine lv_iload hx hb dX10_task_63 (lv_at hl 4 rfl) ?_
      refine nw_iast S hK hN hS (k := 28) (i := 0) ⟨rfl, rfl⟩ (fun _ => rfl) (x := M 0 0 24) (v := p3) (invM_t hI c_2) dX10_task_65 (fun H locs hN hz hS => ?_)
      refine lv_aload_n hx hb dX10_task_66 rfl (lv_at hl 0 rfl) ?_
      refine lv_dup hx hb dX10_task_67 rfl ?_
      refine nw_get S hK hN (k := 0) (i := 0) ⟨rfl, rfl⟩ rfl rfl hin10 24 (by decide) (index := 164) (ref := "RidingYardModel") (by decide +kernel) (fun _ h => h) (v := .int (M 0 0 24)) rfl dX10_task_68 ?_
      refine lv_iconst (v := 1) hx hb dX10_task_71 (by decide) ?_
      refine lv_iadd hx hb dX10_task_72 ?_
      refine nw_put S hK hN hS (k := 0) (i := 0) ⟨rfl, rfl⟩ rfl rfl hin10 tyX10_ok nmX10 24 (by decide) (index := 164) (ref := "RidingYardModel") (by decide +kernel) (fun _ h => h) rfl ((M 0 0 24) + 1) rfl rfl rfl (by decide) dX10_task_73 (fun H locs hN hz hS => ?_)
      refine lv_aload_n hx hb dX10_task_76 rfl (lv_at hl 0 rfl) ?_
      refine nw_get S hK hN (k := 0) (i := 0) ⟨rfl, rfl⟩ rfl rfl hin10 24 (by decide) (index := 164) (ref := "RidingYardModel") (by decide +kernel) (fun _ h => h) (v := .int ((M 0 0 24) + 1)) rfl dX10_task_77 ?_
      have hf : fX10_task M p0 p1 p2 p3 = ((M 0 0 24) + 1, u3 (u3 (u3 (u3 (u3 M 25 0 ((M 0 0 24 : Int32).toNatClampNeg) p0) 26 0 ((M 0 0 24 : Int32).toNatClampNeg) p1) 27 0 ((M 0 0 24 : Int32).toNatClampNeg) p2) 28 0 ((M 0 0 24 : Int32).toNatClampNeg) p3) 0 0 24 ((M 0 0 24) + 1)) := by unfold fX10_task; rw [if_neg c_1, if_neg c_2]
      exact W.iret (v := (M 0 0 24) + 1) hx hb hr (fun t ht _ => by rw [hf]; exact nw_end hS hN ht) hS.2.2 dX10_task_80
    · refine lv_ldc (v := (-1000000003)) hx hb hown (hts (.constant RX10 104 (-1000000003)) (by decide +kernel)) dX10_task_22 ?_
      have hf : fX10_task M p0 p1 p2 p3 = ((-1000000003), M) := by unfold fX10_task; rw [if_neg c_1, if_pos c_2]
      exact W.iret (v := (-1000000003)) hx hb hr (fun t ht _ => by rw [hf]; exact nw_end hS hN ht) hS.2.2 dX10_task_24
  · refine lv_ldc (v := (-1000000001)) hx hb hown (hts (.constant RX10 99 (-1000000001)) (by decide +kernel)) dX10_task_10 ?_
    have hf : fX10_task M p0 p1 p2 p3 = ((-1000000001), M) := by unfold fX10_task; rw [if_pos c_1]
    exact W.iret (v := (-1000000001)) hx hb hr (fun t ht _ => by rw [hf]; exact nw_end hS hN ht) hS.2.2 dX10_task_12
set_option maxHeartbeats 4000000 in
set_option maxRecDepth 100000 in
theorem kX10_clear (l : Launch) (D : va_G) (C : Nat → ClassId) (A : Nat → Prop) (ad : Nat → Nat → Nat) (M : Nat → Nat → Nat → Int32) : Met l yX10_clear wsX10_clear ({ frames := 0, cells := 0, slots := 0, locals := 0 }) (va_Pc [.ref (ad 0 0)] (PW D C A (nw D (enM C) domM A ad M))) (nQ A (some (.int (fX10_clear M).1)) (nw D (enM C) domM A ad (fX10_clear M).2)) 0 0 A := by
  refine Met.ofW (cc := cX10_clear) (maxL := 2) (ret := (some .int)) (by decide) rfl ?_
  intro p e s m args below meth c s₁ B hml hv
  obtain ⟨rfl, hK, hN, hA⟩ := hv
  have hx := B.exec
  have hb := B.bytes
  have hr := B.returns
  have hts := atoms_spec (ws := wsX10_clear) B.pre
  have hown : s.vm.findClass RX10 = some m.cls := findClass_of_methodNamed B.named
  have hlocks := B.notSynchronized
  have S : CallFix p m c cX10_clear 2 s _ wsX10_clear RX10 := ⟨hx, hb, hml, hown, hts⟩
  have hin10 : ∀ w ∈ wsX100, w ∈ wsX10_clear := by decide +kernel
  have hS : va_S A s.heap s.heap [] := va_S.rf
  have hl := lv_entry ([.ref (ad 0 0)]) (n := 2) (Nat.le_of_ble_eq_true rfl)
  rw [lg_entry_eq]
  generalize (lg_sl ([.ref (ad 0 0)]) ++ List.replicate (2 - (lg_sl ([.ref (ad 0 0)])).length) Slot.unset).toArray = ls at hl ⊢
  have hl : lv_has ls 2 [(0, .ref (ad 0 0))] := hl
  refine lv_aload_n hx hb dX10_clear_0 rfl (lv_at hl 0 rfl) ?_
  refine nw_get S hK hN (k := 0) (i := 0) ⟨rfl, rfl⟩ rfl rfl hin10 24 (by decide) (index := 164) (ref := "RidingYardModel") (by decide +kernel) (fun _ h => h) (v := .int (M 0 0 24)) rfl dX10_clear_1 ?_
  refine lv_istore_n (lv' := [(1, .int (M 0 0 24)), (0, .ref (ad 0 0))]) hx hb dX10_clear_4 rfl hl (by decide) rfl (fun ls hl => ?_)
  refine lv_aload_n hx hb dX10_clear_5 rfl (lv_at hl 1 rfl) ?_
  refine lv_iconst (v := 0) hx hb dX10_clear_6 (by decide) ?_
  refine nw_put S hK hN hS (k := 0) (i := 0) ⟨rfl, rfl⟩ rfl rfl hin10 tyX10_ok nmX10 24 (by decide) (index := 164) (ref := "RidingYardModel") (by decide +kernel) (fun _ h => h) rfl 0 rfl rfl rfl (by decide) dX10_clear_7 (fun H locs hN hz hS => ?_)
  refine lv_iload_n hx hb dX10_clear_10 rfl (lv_at hl 0 rfl) ?_
  have hf : fX10_clear M = (M 0 0 24, u3 M 0 0 24 0) := rfl
  exact W.iret (v := M 0 0 24) hx hb hr (fun t ht _ => by rw [hf]; exact nw_end hS hN ht) hS.2.2 dX10_clear_11
set_option maxHeartbeats 4000000 in
set_option maxRecDepth 100000 in
theorem kX10_book (l : Launch) (D : va_G) (C : Nat → ClassId) (A : Nat → Prop) (ad : Nat → Nat → Nat) (M : Nat → Nat → Nat → Int32) (p0 p1 : Int32) (kk : Nat) (hI : InvM kk M) : Met l yX10_book wsX10_book ({ frames := 1, cells := 0, slots := 0, locals := 22 }) (va_Pc [.ref (ad 0 0), .int p0, .int p1] (PW D C A (nw D (enM C) domM A ad M))) (nQ A (some (.int (fX10_book M p0 p1).1)) (nw D (enM C) domM A ad (fX10_book M p0 p1).2)) 0 0 A := by
  refine Met.ofW (cc := cX10_book) (maxL := 3) (ret := (some .int)) (by decide) rfl ?_
  intro p e s m args below meth c s₁ B hml hv
  obtain ⟨rfl, hK, hN, hA⟩ := hv
  have hx := B.exec
  have hb := B.bytes
  have hr := B.returns
  have hts := atoms_spec (ws := wsX10_book) B.pre
  have hown : s.vm.findClass RX10 = some m.cls := findClass_of_methodNamed B.named
  have hlocks := B.notSynchronized
  have S : CallFix p m c cX10_book 3 s _ wsX10_book RX10 := ⟨hx, hb, hml, hown, hts⟩
  have hin10 : ∀ w ∈ wsX100, w ∈ wsX10_book := by decide +kernel
  have hS : va_S A s.heap s.heap [] := va_S.rf
  have hl := lv_entry ([.ref (ad 0 0), .int p0, .int p1]) (n := 3) (Nat.le_of_ble_eq_true rfl)
  rw [lg_entry_eq]
  generalize (lg_sl ([.ref (ad 0 0), .int p0, .int p1]) ++ List.replicate (3 - (lg_sl ([.ref (ad 0 0), .int p0, .int p1])).length) Slot.unset).toArray = ls at hl ⊢
  have hl : lv_has ls 3 [(0, .ref (ad 0 0)), (1, .int p0), (2, .int p1)] := hl
  refine lv_iload_n hx hb dX10_book_0 rfl (lv_at hl 1 rfl) ?_
  refine lv_iconst (v := 0) hx hb dX10_book_1 (by decide) ?_
  refine lv_aload_n hx hb dX10_book_2 rfl (lv_at hl 0 rfl) ?_
  refine nw_get S hK hN (k := 0) (i := 0) ⟨rfl, rfl⟩ rfl rfl hin10 29 (by decide) (index := 167) (ref := "RidingYardModel") (by decide +kernel) (fun _ h => h) (v := .int (M 0 0 29)) rfl dX10_book_3 ?_
  refine lv_bipush (v := 40) hx hb dX10_book_6 (by decide) ?_
  refine nw_callP (W.runS (As := [.int (M 0 0 29), .int 40]) (rest := [.int 0, .int p0]) S (kX10_least l (M 0 0 29) 40) (va_cwS 2 hts gX10_book_X10_least rfl rfl rfl (by decide +kernel) ⟨Nat.le_of_ble_eq_true rfl, Nat.le_of_ble_eq_true rfl⟩) nw_preP rfl rfl hl.1 rfl (lv_room (Nat.le_of_ble_eq_true rfl)) dX10_book_8 ⟨Nat.le_of_ble_eq_true rfl, Nat.le_of_ble_eq_true rfl⟩) ?_
  refine lv_iconst (v := 1) hx hb dX10_book_11 (by decide) ?_
  refine lv_isub hx hb dX10_book_12 ?_
  refine nw_callP (W.runS (As := [.int p0, .int 0, .int ((fX10_least (M 0 0 29) 40) - 1)]) (rest := []) S (kX10_in l p0 0 ((fX10_least (M 0 0 29) 40) - 1)) (va_cwS 3 hts gX10_book_X10_in rfl rfl rfl (by decide +kernel) ⟨Nat.le_of_ble_eq_true rfl, Nat.le_of_ble_eq_true rfl⟩) nw_preP rfl rfl hl.1 rfl (lv_room (Nat.le_of_ble_eq_true rfl)) dX10_book_13 ⟨Nat.le_of_ble_eq_true rfl, Nat.le_of_ble_eq_true rfl⟩) ?_
  refine lv_if_eq (x := fX10_in p0 0 ((fX10_least (M 0 0 29) 40) - 1)) (tgt := 28) hx hb dX10_book_16 (by decide) (fun c_1 => ?_) (fun c_1 => ?_)
  · refine lv_ldc (v := (-1000000001)) hx hb hown (hts (.constant RX10 99 (-1000000001)) (by decide +kernel)) dX10_book_28 ?_
    have hf : fX10_book M p0 p1 = ((-1000000001), M) := by unfold fX10_book; rw [if_pos c_1]
    exact W.iret (v := (-1000000001)) hx hb hr (fun t ht _ => by rw [hf]; exact nw_end hS hN ht) hS.2.2 dX10_book_30
  · refine lv_iload_n hx hb dX10_book_19 rfl (lv_at hl 2 rfl) ?_
    refine lv_iconst (v := 0) hx hb dX10_book_20 (by decide) ?_
    refine lv_iconst (v := 1) hx hb dX10_book_21 (by decide) ?_
    refine nw_callP (W.runS (As := [.int p1, .int 0, .int 1]) (rest := []) S (kX10_in l p1 0 1) (va_cwS 3 hts gX10_book_X10_in rfl rfl rfl (by decide +kernel) ⟨Nat.le_of_ble_eq_true rfl, Nat.le_of_ble_eq_true rfl⟩) nw_preP rfl rfl hl.1 rfl (lv_room (Nat.le_of_ble_eq_true rfl)) dX10_book_22 ⟨Nat.le_of_ble_eq_true rfl, Nat.le_of_ble_eq_true rfl⟩) ?_
    refine lv_if_ne (x := fX10_in p1 0 1) (tgt := 31) hx hb dX10_book_25 (by decide) (fun c_2 => ?_) (fun c_2 => ?_)
    · refine lv_iload_n hx hb dX10_book_31 rfl (lv_at hl 2 rfl) ?_
      refine lv_if_ne (x := p1) (tgt := 44) hx hb dX10_book_32 (by decide) (fun c_3 => ?_) (fun c_3 => ?_)
      · refine lv_aload_n hx hb dX10_book_44 rfl (lv_at hl 0 rfl) ?_
        refine nw_get S hK hN (k := 0) (i := 0) ⟨rfl, rfl⟩ rfl rfl hin10 31 (by decide) (index := 89) (ref := "RidingYardModel") (by decide +kernel) (fun _ h => h) (v := .ref (ad 31 0)) rfl dX10_book_45 ?_
        refine lv_iload_n hx hb dX10_book_48 rfl (lv_at hl 1 rfl) ?_
        refine nw_iald S hK hN (k := 31) (i := 0) ⟨rfl, rfl⟩ rfl (x := p0) (invM_book hI c_1) dX10_book_49 ?_
        have hf : fX10_book M p0 p1 = (M 31 0 ((p0 : Int32).toNatClampNeg), M) := by unfold fX10_book; rw [if_neg c_1, if_neg c_2, if_neg c_3]
        exact W.iret (v := M 31 0 ((p0 : Int32).toNatClampNeg)) hx hb hr (fun t ht _ => by rw [hf]; exact nw_end hS hN ht) hS.2.2 dX10_book_50
      · refine lv_aload_n hx hb dX10_book_35 rfl (lv_at hl 0 rfl) ?_
        refine nw_get S hK hN (k := 0) (i := 0) ⟨rfl, rfl⟩ rfl rfl hin10 30 (by decide) (index := 86) (ref := "RidingYardModel") (by decide +kernel) (fun _ h => h) (v := .ref (ad 30 0)) rfl dX10_book_36 ?_
        refine lv_iload_n hx hb dX10_book_39 rfl (lv_at hl 1 rfl) ?_
        refine nw_iald S hK hN (k := 30) (i := 0) ⟨rfl, rfl⟩ rfl (x := p0) (invM_book hI c_1) dX10_book_40 ?_
        refine lv_goto (tgt := 50) hx hb dX10_book_41 (by decide) ?_
        have hf : fX10_book M p0 p1 = (M 30 0 ((p0 : Int32).toNatClampNeg), M) := by unfold fX10_book; rw [if_neg c_1, if_neg c_2, if_pos c_3]
        exact W.iret (v := M 30 0 ((p0 : Int32).toNatClampNeg)) hx hb hr (fun t ht _ => by rw [hf]; exact nw_end hS hN ht) hS.2.2 dX10_book_50
    · refine lv_ldc (v := (-1000000001)) hx hb hown (hts (.constant RX10 99 (-1000000001)) (by decide +kernel)) dX10_book_28 ?_
      have hf : fX10_book M p0 p1 = ((-1000000001), M) := by unfold fX10_book; rw [if_neg c_1, if_pos c_2]
      exact W.iret (v := (-1000000001)) hx hb hr (fun t ht _ => by rw [hf]; exact nw_end hS hN ht) hS.2.2 dX10_book_30
set_option maxHeartbeats 4000000 in
set_option maxRecDepth 100000 in
theorem kX10_horseTells (l : Launch) (D : va_G) (C : Nat → ClassId) (A : Nat → Prop) (ad : Nat → Nat → Nat) (M : Nat → Nat → Nat → Int32) (p0 p1 : Int32) (kk : Nat) (hI : InvM kk M) : Met l yX10_horseTells wsX10_horseTells ({ frames := 1, cells := 0, slots := 0, locals := 22 }) (va_Pc [.ref (ad 0 0), .int p0, .int p1] (PW D C A (nw D (enM C) domM A ad M))) (nQ A (some (.int (fX10_horseTells M p0 p1).1)) (nw D (enM C) domM A ad (fX10_horseTells M p0 p1).2)) 0 0 A := by
  refine Met.ofW (cc := cX10_horseTells) (maxL := 4) (ret := (some .int)) (by decide) rfl ?_
  intro p e s m args below meth c s₁ B hml hv
  obtain ⟨rfl, hK, hN, hA⟩ := hv
  have hx := B.exec
  have hb := B.bytes
  have hr := B.returns
  have hts := atoms_spec (ws := wsX10_horseTells) B.pre
  have hown : s.vm.findClass RX10 = some m.cls := findClass_of_methodNamed B.named
  have hlocks := B.notSynchronized
  have S : CallFix p m c cX10_horseTells 4 s _ wsX10_horseTells RX10 := ⟨hx, hb, hml, hown, hts⟩
  have hin10 : ∀ w ∈ wsX100, w ∈ wsX10_horseTells := by decide +kernel
  have hS : va_S A s.heap s.heap [] := va_S.rf
  have hl := lv_entry ([.ref (ad 0 0), .int p0, .int p1]) (n := 4) (Nat.le_of_ble_eq_true rfl)
  rw [lg_entry_eq]
  generalize (lg_sl ([.ref (ad 0 0), .int p0, .int p1]) ++ List.replicate (4 - (lg_sl ([.ref (ad 0 0), .int p0, .int p1])).length) Slot.unset).toArray = ls at hl ⊢
  have hl : lv_has ls 4 [(0, .ref (ad 0 0)), (1, .int p0), (2, .int p1)] := hl
  refine lv_iload_n hx hb dX10_horseTells_0 rfl (lv_at hl 1 rfl) ?_
  refine lv_iconst (v := 0) hx hb dX10_horseTells_1 (by decide) ?_
  refine lv_bipush (v := 9) hx hb dX10_horseTells_2 (by decide) ?_
  refine nw_callP (W.runS (As := [.int p0, .int 0, .int 9]) (rest := []) S (kX10_in l p0 0 9) (va_cwS 3 hts gX10_horseTells_X10_in rfl rfl rfl (by decide +kernel) ⟨Nat.le_of_ble_eq_true rfl, Nat.le_of_ble_eq_true rfl⟩) nw_preP rfl rfl hl.1 rfl (lv_room (Nat.le_of_ble_eq_true rfl)) dX10_horseTells_4 ⟨Nat.le_of_ble_eq_true rfl, Nat.le_of_ble_eq_true rfl⟩) ?_
  refine lv_if_eq (x := fX10_in p0 0 9) (tgt := 28) hx hb dX10_horseTells_7 (by decide) (fun c_1 => ?_) (fun c_1 => ?_)
  · refine lv_ldc (v := (-1000000001)) hx hb hown (hts (.constant RX10 99 (-1000000001)) (by decide +kernel)) dX10_horseTells_28 ?_
    have hf : fX10_horseTells M p0 p1 = ((-1000000001), M) := by unfold fX10_horseTells; rw [if_pos c_1]
    exact W.iret (v := (-1000000001)) hx hb hr (fun t ht _ => by rw [hf]; exact nw_end hS hN ht) hS.2.2 dX10_horseTells_30
  · refine lv_iload_n hx hb dX10_horseTells_10 rfl (lv_at hl 2 rfl) ?_
    refine lv_iconst (v := 0) hx hb dX10_horseTells_11 (by decide) ?_
    refine lv_iconst (v := 5) hx hb dX10_horseTells_12 (by decide) ?_
    refine nw_callP (W.runS (As := [.int p1, .int 0, .int 5]) (rest := []) S (kX10_in l p1 0 5) (va_cwS 3 hts gX10_horseTells_X10_in rfl rfl rfl (by decide +kernel) ⟨Nat.le_of_ble_eq_true rfl, Nat.le_of_ble_eq_true rfl⟩) nw_preP rfl rfl hl.1 rfl (lv_room (Nat.le_of_ble_eq_true rfl)) dX10_horseTells_13 ⟨Nat.le_of_ble_eq_true rfl, Nat.le_of_ble_eq_true rfl⟩) ?_
    refine lv_if_eq (x := fX10_in p1 0 5) (tgt := 28) hx hb dX10_horseTells_16 (by decide) (fun c_2 => ?_) (fun c_2 => ?_)
    · refine lv_ldc (v := (-1000000001)) hx hb hown (hts (.constant RX10 99 (-1000000001)) (by decide +kernel)) dX10_horseTells_28 ?_
      have hf : fX10_horseTells M p0 p1 = ((-1000000001), M) := by unfold fX10_horseTells; rw [if_neg c_1, if_pos c_2]
      exact W.iret (v := (-1000000001)) hx hb hr (fun t ht _ => by rw [hf]; exact nw_end hS hN ht) hS.2.2 dX10_horseTells_30
    · refine lv_aload_n hx hb dX10_horseTells_19 rfl (lv_at hl 0 rfl) ?_
      refine nw_get S hK hN (k := 0) (i := 0) ⟨rfl, rfl⟩ rfl rfl hin10 11 (by decide) (index := 34) (ref := "RidingYardModel") (by decide +kernel) (fun _ h => h) (v := .ref (ad 11 0)) rfl dX10_horseTells_20 ?_
      refine lv_iload_n hx hb dX10_horseTells_23 rfl (lv_at hl 1 rfl) ?_
      refine nw_iald S hK hN (k := 11) (i := 0) ⟨rfl, rfl⟩ rfl (x := p0) (in_in c_1 (by decide)) dX10_horseTells_24 ?_
      refine lv_if_ge (x := M 11 0 ((p0 : Int32).toNatClampNeg)) (tgt := 31) hx hb dX10_horseTells_25 (by decide) (fun c_3 => ?_) (fun c_3 => ?_)
      · refine lv_aload_n hx hb dX10_horseTells_31 rfl (lv_at hl 0 rfl) ?_
        refine nw_get S hK hN (k := 0) (i := 0) ⟨rfl, rfl⟩ rfl rfl hin10 11 (by decide) (index := 34) (ref := "RidingYardModel") (by decide +kernel) (fun _ h => h) (v := .ref (ad 11 0)) rfl dX10_horseTells_32 ?_
        refine lv_iload_n hx hb dX10_horseTells_35 rfl (lv_at hl 1 rfl) ?_
        refine nw_iald S hK hN (k := 11) (i := 0) ⟨rfl, rfl⟩ rfl (x := p0) (in_in c_1 (by decide)) dX10_horseTells_36 ?_
        refine lv_istore_n (lv' := [(3, .int (M 11 0 ((p0 : Int32).toNatClampNeg))), (0, .ref (ad 0 0)), (1, .int p0), (2, .int p1)]) hx hb dX10_horseTells_37 rfl hl (by decide) rfl (fun ls hl => ?_)
        refine lv_iload_n hx hb dX10_horseTells_38 rfl (lv_at hl 3 rfl) ?_
        by_cases c_4 : p1 = 0
        · refine lv_tableIn (x := p1) (off := 33) (tgt := 72) hx hb dX10_horseTells_39 (by rw [c_4]; decide) (by rw [c_4]; decide) (by rw [c_4]; rfl) (by decide) ?_
          refine lv_aload_n hx hb dX10_horseTells_72 rfl (lv_at hl 1 rfl) ?_
          refine nw_get S hK hN (k := 0) (i := 0) ⟨rfl, rfl⟩ rfl rfl hin10 1 (by decide) (index := 7) (ref := "RidingYardModel") (by decide +kernel) (fun _ h => h) (v := .ref (ad 1 0)) rfl dX10_horseTells_73 ?_
          refine lv_iload_n hx hb dX10_horseTells_76 rfl (lv_at hl 0 rfl) ?_
          refine nw_iald S hK hN (k := 1) (i := 0) ⟨rfl, rfl⟩ rfl (x := M 11 0 ((p0 : Int32).toNatClampNeg)) (invM_st hI (in_in c_1 (by decide)) c_3) dX10_horseTells_77 ?_
          have hf : fX10_horseTells M p0 p1 = (M 1 0 ((M 11 0 ((p0 : Int32).toNatClampNeg) : Int32).toNatClampNeg), M) := by unfold fX10_horseTells; rw [if_neg c_1, if_neg c_2, if_pos c_3, if_pos c_4]
          exact W.iret (v := M 1 0 ((M 11 0 ((p0 : Int32).toNatClampNeg) : Int32).toNatClampNeg)) hx hb hr (fun t ht _ => by rw [hf]; exact nw_end hS hN ht) hS.2.2 dX10_horseTells_78
        · by_cases c_5 : p1 = 1
          · refine lv_tableIn (x := p1) (off := 40) (tgt := 79) hx hb dX10_horseTells_39 (by rw [c_5]; decide) (by rw [c_5]; decide) (by rw [c_5]; rfl) (by decide) ?_
            refine lv_aload_n hx hb dX10_horseTells_79 rfl (lv_at hl 1 rfl) ?_
            refine nw_get S hK hN (k := 0) (i := 0) ⟨rfl, rfl⟩ rfl rfl hin10 2 (by decide) (index := 13) (ref := "RidingYardModel") (by decide +kernel) (fun _ h => h) (v := .ref (ad 2 0)) rfl dX10_horseTells_80 ?_
            refine lv_iload_n hx hb dX10_horseTells_83 rfl (lv_at hl 0 rfl) ?_
            refine nw_iald S hK hN (k := 2) (i := 0) ⟨rfl, rfl⟩ rfl (x := M 11 0 ((p0 : Int32).toNatClampNeg)) (invM_st hI (in_in c_1 (by decide)) c_3) dX10_horseTells_84 ?_
            have hf : fX10_horseTells M p0 p1 = (M 2 0 ((M 11 0 ((p0 : Int32).toNatClampNeg) : Int32).toNatClampNeg), M) := by unfold fX10_horseTells; rw [if_neg c_1, if_neg c_2, if_pos c_3, if_neg c_4, if_pos c_5]
            exact W.iret (v := M 2 0 ((M 11 0 ((p0 : Int32).toNatClampNeg) : Int32).toNatClampNeg)) hx hb hr (fun t ht _ => by rw [hf]; exact nw_end hS hN ht) hS.2.2 dX10_horseTells_85
          · by_cases c_6 : p1 = 2
            · refine lv_tableIn (x := p1) (off := 47) (tgt := 86) hx hb dX10_horseTells_39 (by rw [c_6]; decide) (by rw [c_6]; decide) (by rw [c_6]; rfl) (by decide) ?_
              refine lv_aload_n hx hb dX10_horseTells_86 rfl (lv_at hl 1 rfl) ?_
              refine nw_get S hK hN (k := 0) (i := 0) ⟨rfl, rfl⟩ rfl rfl hin10 3 (by decide) (index := 16) (ref := "RidingYardModel") (by decide +kernel) (fun _ h => h) (v := .ref (ad 3 0)) rfl dX10_horseTells_87 ?_
              refine lv_iload_n hx hb dX10_horseTells_90 rfl (lv_at hl 0 rfl) ?_
              refine nw_iald S hK hN (k := 3) (i := 0) ⟨rfl, rfl⟩ rfl (x := M 11 0 ((p0 : Int32).toNatClampNeg)) (invM_st hI (in_in c_1 (by decide)) c_3) dX10_horseTells_91 ?_
              have hf : fX10_horseTells M p0 p1 = (M 3 0 ((M 11 0 ((p0 : Int32).toNatClampNeg) : Int32).toNatClampNeg), M) := by unfold fX10_horseTells; rw [if_neg c_1, if_neg c_2, if_pos c_3, if_neg c_4, if_neg c_5, if_pos c_6]
              exact W.iret (v := M 3 0 ((M 11 0 ((p0 : Int32).toNatClampNeg) : Int32).toNatClampNeg)) hx hb hr (fun t ht _ => by rw [hf]; exact nw_end hS hN ht) hS.2.2 dX10_horseTells_92
            · by_cases c_7 : p1 = 3
              · refine lv_tableIn (x := p1) (off := 54) (tgt := 93) hx hb dX10_horseTells_39 (by rw [c_7]; decide) (by rw [c_7]; decide) (by rw [c_7]; rfl) (by decide) ?_
                refine lv_aload_n hx hb dX10_horseTells_93 rfl (lv_at hl 1 rfl) ?_
                refine nw_get S hK hN (k := 0) (i := 0) ⟨rfl, rfl⟩ rfl rfl hin10 4 (by decide) (index := 19) (ref := "RidingYardModel") (by decide +kernel) (fun _ h => h) (v := .ref (ad 4 0)) rfl dX10_horseTells_94 ?_
                refine lv_iload_n hx hb dX10_horseTells_97 rfl (lv_at hl 0 rfl) ?_
                refine nw_iald S hK hN (k := 4) (i := 0) ⟨rfl, rfl⟩ rfl (x := M 11 0 ((p0 : Int32).toNatClampNeg)) (invM_st hI (in_in c_1 (by decide)) c_3) dX10_horseTells_98 ?_
                have hf : fX10_horseTells M p0 p1 = (M 4 0 ((M 11 0 ((p0 : Int32).toNatClampNeg) : Int32).toNatClampNeg), M) := by unfold fX10_horseTells; rw [if_neg c_1, if_neg c_2, if_pos c_3, if_neg c_4, if_neg c_5, if_neg c_6, if_pos c_7]
                exact W.iret (v := M 4 0 ((M 11 0 ((p0 : Int32).toNatClampNeg) : Int32).toNatClampNeg)) hx hb hr (fun t ht _ => by rw [hf]; exact nw_end hS hN ht) hS.2.2 dX10_horseTells_99
              · by_cases c_8 : p1 = 4
                · refine lv_tableIn (x := p1) (off := 61) (tgt := 100) hx hb dX10_horseTells_39 (by rw [c_8]; decide) (by rw [c_8]; decide) (by rw [c_8]; rfl) (by decide) ?_
                  refine lv_aload_n hx hb dX10_horseTells_100 rfl (lv_at hl 1 rfl) ?_
                  refine nw_get S hK hN (k := 0) (i := 0) ⟨rfl, rfl⟩ rfl rfl hin10 5 (by decide) (index := 22) (ref := "RidingYardModel") (by decide +kernel) (fun _ h => h) (v := .ref (ad 5 0)) rfl dX10_horseTells_101 ?_
                  refine lv_iload_n hx hb dX10_horseTells_104 rfl (lv_at hl 0 rfl) ?_
                  refine nw_iald S hK hN (k := 5) (i := 0) ⟨rfl, rfl⟩ rfl (x := M 11 0 ((p0 : Int32).toNatClampNeg)) (invM_st hI (in_in c_1 (by decide)) c_3) dX10_horseTells_105 ?_
                  have hf : fX10_horseTells M p0 p1 = (M 5 0 ((M 11 0 ((p0 : Int32).toNatClampNeg) : Int32).toNatClampNeg), M) := by unfold fX10_horseTells; rw [if_neg c_1, if_neg c_2, if_pos c_3, if_neg c_4, if_neg c_5, if_neg c_6, if_neg c_7, if_pos c_8]
                  exact W.iret (v := M 5 0 ((M 11 0 ((p0 : Int32).toNatClampNeg) : Int32).toNatClampNeg)) hx hb hr (fun t ht _ => by rw [hf]; exact nw_end hS hN ht) hS.2.2 dX10_horseTells_106
                · refine lv_tableOut (x := p1) (tgt := 107) hx hb dX10_horseTells_39 (by have q0 := lv_neT (a := 0) c_4 (by decide); have q1 := lv_neT (a := 1) c_5 (by decide); have q2 := lv_neT (a := 2) c_6 (by decide); have q3 := lv_neT (a := 3) c_7 (by decide); have q4 := lv_neT (a := 4) c_8 (by decide); omega) (by decide) ?_
                  refine lv_aload_n hx hb dX10_horseTells_107 rfl (lv_at hl 1 rfl) ?_
                  refine nw_get S hK hN (k := 0) (i := 0) ⟨rfl, rfl⟩ rfl rfl hin10 6 (by decide) (index := 25) (ref := "RidingYardModel") (by decide +kernel) (fun _ h => h) (v := .ref (ad 6 0)) rfl dX10_horseTells_108 ?_
                  refine lv_iload_n hx hb dX10_horseTells_111 rfl (lv_at hl 0 rfl) ?_
                  refine nw_iald S hK hN (k := 6) (i := 0) ⟨rfl, rfl⟩ rfl (x := M 11 0 ((p0 : Int32).toNatClampNeg)) (invM_st hI (in_in c_1 (by decide)) c_3) dX10_horseTells_112 ?_
                  have hf : fX10_horseTells M p0 p1 = (M 6 0 ((M 11 0 ((p0 : Int32).toNatClampNeg) : Int32).toNatClampNeg), M) := by unfold fX10_horseTells; rw [if_neg c_1, if_neg c_2, if_pos c_3, if_neg c_4, if_neg c_5, if_neg c_6, if_neg c_7, if_neg c_8]
                  exact W.iret (v := M 6 0 ((M 11 0 ((p0 : Int32).toNatClampNeg) : Int32).toNatClampNeg)) hx hb hr (fun t ht _ => by rw [hf]; exact nw_end hS hN ht) hS.2.2 dX10_horseTells_113
      · refine lv_ldc (v := (-1000000001)) hx hb hown (hts (.constant RX10 99 (-1000000001)) (by decide +kernel)) dX10_horseTells_28 ?_
        have hf : fX10_horseTells M p0 p1 = ((-1000000001), M) := by unfold fX10_horseTells; rw [if_neg c_1, if_neg c_2, if_neg c_3]
        exact W.iret (v := (-1000000001)) hx hb hr (fun t ht _ => by rw [hf]; exact nw_end hS hN ht) hS.2.2 dX10_horseTells_30
set_option maxHeartbeats 4000000 in
set_option maxRecDepth 100000 in
theorem kX10_shed (l : Launch) (D : va_G) (C : Nat → ClassId) (A : Nat → Prop) (ad : Nat → Nat → Nat) (M : Nat → Nat → Nat → Int32) (p0 : Int32) : Met l yX10_shed wsX10_shed ({ frames := 1, cells := 0, slots := 0, locals := 22 }) (va_Pc [.ref (ad 0 0), .int p0] (PW D C A (nw D (enM C) domM A ad M))) (nQ A (some (.int (fX10_shed M p0).1)) (nw D (enM C) domM A ad (fX10_shed M p0).2)) 0 0 A := by
  refine Met.ofW (cc := cX10_shed) (maxL := 2) (ret := (some .int)) (by decide) rfl ?_
  intro p e s m args below meth c s₁ B hml hv
  obtain ⟨rfl, hK, hN, hA⟩ := hv
  have hx := B.exec
  have hb := B.bytes
  have hr := B.returns
  have hts := atoms_spec (ws := wsX10_shed) B.pre
  have hown : s.vm.findClass RX10 = some m.cls := findClass_of_methodNamed B.named
  have hlocks := B.notSynchronized
  have S : CallFix p m c cX10_shed 2 s _ wsX10_shed RX10 := ⟨hx, hb, hml, hown, hts⟩
  have hin10 : ∀ w ∈ wsX100, w ∈ wsX10_shed := by decide +kernel
  have hS : va_S A s.heap s.heap [] := va_S.rf
  have hl := lv_entry ([.ref (ad 0 0), .int p0]) (n := 2) (Nat.le_of_ble_eq_true rfl)
  rw [lg_entry_eq]
  generalize (lg_sl ([.ref (ad 0 0), .int p0]) ++ List.replicate (2 - (lg_sl ([.ref (ad 0 0), .int p0])).length) Slot.unset).toArray = ls at hl ⊢
  have hl : lv_has ls 2 [(0, .ref (ad 0 0)), (1, .int p0)] := hl
  refine lv_iload_n hx hb dX10_shed_0 rfl (lv_at hl 1 rfl) ?_
  refine lv_iconst (v := 0) hx hb dX10_shed_1 (by decide) ?_
  refine lv_iconst (v := 5) hx hb dX10_shed_2 (by decide) ?_
  refine nw_callP (W.runS (As := [.int p0, .int 0, .int 5]) (rest := []) S (kX10_in l p0 0 5) (va_cwS 3 hts gX10_shed_X10_in rfl rfl rfl (by decide +kernel) ⟨Nat.le_of_ble_eq_true rfl, Nat.le_of_ble_eq_true rfl⟩) nw_preP rfl rfl hl.1 rfl (lv_room (Nat.le_of_ble_eq_true rfl)) dX10_shed_3 ⟨Nat.le_of_ble_eq_true rfl, Nat.le_of_ble_eq_true rfl⟩) ?_
  refine lv_if_ne (x := fX10_in p0 0 5) (tgt := 14) hx hb dX10_shed_6 (by decide) (fun c_1 => ?_) (fun c_1 => ?_)
  · refine lv_aload_n hx hb dX10_shed_14 rfl (lv_at hl 0 rfl) ?_
    refine nw_get S hK hN (k := 0) (i := 0) ⟨rfl, rfl⟩ rfl rfl hin10 12 (by decide) (index := 37) (ref := "RidingYardModel") (by decide +kernel) (fun _ h => h) (v := .ref (ad 12 0)) rfl dX10_shed_15 ?_
    refine lv_iload_n hx hb dX10_shed_18 rfl (lv_at hl 1 rfl) ?_
    refine nw_iald S hK hN (k := 12) (i := 0) ⟨rfl, rfl⟩ rfl (x := p0) (in_in c_1 (by decide)) dX10_shed_19 ?_
    refine lv_if_ge (x := M 12 0 ((p0 : Int32).toNatClampNeg)) (tgt := 27) hx hb dX10_shed_20 (by decide) (fun c_2 => ?_) (fun c_2 => ?_)
    · refine lv_aload_n hx hb dX10_shed_27 rfl (lv_at hl 0 rfl) ?_
      refine nw_get S hK hN (k := 0) (i := 0) ⟨rfl, rfl⟩ rfl rfl hin10 12 (by decide) (index := 37) (ref := "RidingYardModel") (by decide +kernel) (fun _ h => h) (v := .ref (ad 12 0)) rfl dX10_shed_28 ?_
      refine lv_iload_n hx hb dX10_shed_31 rfl (lv_at hl 1 rfl) ?_
      refine nw_iald S hK hN (k := 12) (i := 0) ⟨rfl, rfl⟩ rfl (x := p0) (in_in c_1 (by decide)) dX10_shed_32 ?_
      refine lv_bipush (v := 100) hx hb dX10_shed_33 (by decide) ?_
      refine lv_icmp_ge (x := M 12 0 ((p0 : Int32).toNatClampNeg)) (y := 100) (tgt := 42) hx hb dX10_shed_35 (by decide) (fun c_3 => ?_) (fun c_3 => ?_)
      · refine lv_iconst (v := 2) hx hb dX10_shed_42 (by decide) ?_
        have hf : fX10_shed M p0 = (2, M) := by unfold fX10_shed; rw [if_neg c_1, if_pos c_2, if_pos c_3]
        exact W.iret (v := 2) hx hb hr (fun t ht _ => by rw [hf]; exact nw_end hS hN ht) hS.2.2 dX10_shed_43
      · refine lv_iconst (v := 1) hx hb dX10_shed_38 (by decide) ?_
        refine lv_goto (tgt := 43) hx hb dX10_shed_39 (by decide) ?_
        have hf : fX10_shed M p0 = (1, M) := by unfold fX10_shed; rw [if_neg c_1, if_pos c_2, if_neg c_3]
        exact W.iret (v := 1) hx hb hr (fun t ht _ => by rw [hf]; exact nw_end hS hN ht) hS.2.2 dX10_shed_43
    · refine lv_iconst (v := 0) hx hb dX10_shed_23 (by decide) ?_
      refine lv_goto (tgt := 43) hx hb dX10_shed_24 (by decide) ?_
      have hf : fX10_shed M p0 = (0, M) := by unfold fX10_shed; rw [if_neg c_1, if_neg c_2]
      exact W.iret (v := 0) hx hb hr (fun t ht _ => by rw [hf]; exact nw_end hS hN ht) hS.2.2 dX10_shed_43
  · refine lv_ldc (v := (-1000000001)) hx hb hown (hts (.constant RX10 99 (-1000000001)) (by decide +kernel)) dX10_shed_9 ?_
    refine lv_goto (tgt := 43) hx hb dX10_shed_11 (by decide) ?_
    have hf : fX10_shed M p0 = ((-1000000001), M) := by unfold fX10_shed; rw [if_pos c_1]
    exact W.iret (v := (-1000000001)) hx hb hr (fun t ht _ => by rw [hf]; exact nw_end hS hN ht) hS.2.2 dX10_shed_43
set_option maxHeartbeats 4000000 in
set_option maxRecDepth 100000 in
theorem kX10_same (l : Launch) (D : va_G) (C : Nat → ClassId) (A : Nat → Prop) (ad : Nat → Nat → Nat) (M : Nat → Nat → Nat → Int32) (p0 p1 : Int32) : Met l yX10_same wsX10_same ({ frames := 1, cells := 0, slots := 0, locals := 22 }) (va_Pc [.ref (ad 0 0), .int p0, .int p1] (PW D C A (nw D (enM C) domM A ad M))) (nQ A (some (.int (fX10_same M p0 p1).1)) (nw D (enM C) domM A ad (fX10_same M p0 p1).2)) 0 0 A := by
  refine Met.ofW (cc := cX10_same) (maxL := 3) (ret := (some .int)) (by decide) rfl ?_
  intro p e s m args below meth c s₁ B hml hv
  obtain ⟨rfl, hK, hN, hA⟩ := hv
  have hx := B.exec
  have hb := B.bytes
  have hr := B.returns
  have hts := atoms_spec (ws := wsX10_same) B.pre
  have hown : s.vm.findClass RX10 = some m.cls := findClass_of_methodNamed B.named
  have hlocks := B.notSynchronized
  have S : CallFix p m c cX10_same 3 s _ wsX10_same RX10 := ⟨hx, hb, hml, hown, hts⟩
  have hin10 : ∀ w ∈ wsX100, w ∈ wsX10_same := by decide +kernel
  have hS : va_S A s.heap s.heap [] := va_S.rf
  have hl := lv_entry ([.ref (ad 0 0), .int p0, .int p1]) (n := 3) (Nat.le_of_ble_eq_true rfl)
  rw [lg_entry_eq]
  generalize (lg_sl ([.ref (ad 0 0), .int p0, .int p1]) ++ List.replicate (3 - (lg_sl ([.ref (ad 0 0), .int p0, .int p1])).length) Slot.unset).toArray = ls at hl ⊢
  have hl : lv_has ls 3 [(0, .ref (ad 0 0)), (1, .int p0), (2, .int p1)] := hl
  refine lv_iload_n hx hb dX10_same_0 rfl (lv_at hl 1 rfl) ?_
  refine lv_iconst (v := 0) hx hb dX10_same_1 (by decide) ?_
  refine lv_bipush (v := 9) hx hb dX10_same_2 (by decide) ?_
  refine nw_callP (W.runS (As := [.int p0, .int 0, .int 9]) (rest := []) S (kX10_in l p0 0 9) (va_cwS 3 hts gX10_same_X10_in rfl rfl rfl (by decide +kernel) ⟨Nat.le_of_ble_eq_true rfl, Nat.le_of_ble_eq_true rfl⟩) nw_preP rfl rfl hl.1 rfl (lv_room (Nat.le_of_ble_eq_true rfl)) dX10_same_4 ⟨Nat.le_of_ble_eq_true rfl, Nat.le_of_ble_eq_true rfl⟩) ?_
  refine lv_if_eq (x := fX10_in p0 0 9) (tgt := 20) hx hb dX10_same_7 (by decide) (fun c_1 => ?_) (fun c_1 => ?_)
  · refine lv_ldc (v := (-1000000001)) hx hb hown (hts (.constant RX10 99 (-1000000001)) (by decide +kernel)) dX10_same_20 ?_
    refine lv_goto (tgt := 45) hx hb dX10_same_22 (by decide) ?_
    have hf : fX10_same M p0 p1 = ((-1000000001), M) := by unfold fX10_same; rw [if_pos c_1]
    exact W.iret (v := (-1000000001)) hx hb hr (fun t ht _ => by rw [hf]; exact nw_end hS hN ht) hS.2.2 dX10_same_45
  · refine lv_iload_n hx hb dX10_same_10 rfl (lv_at hl 2 rfl) ?_
    refine lv_iconst (v := 0) hx hb dX10_same_11 (by decide) ?_
    refine lv_bipush (v := 9) hx hb dX10_same_12 (by decide) ?_
    refine nw_callP (W.runS (As := [.int p1, .int 0, .int 9]) (rest := []) S (kX10_in l p1 0 9) (va_cwS 3 hts gX10_same_X10_in rfl rfl rfl (by decide +kernel) ⟨Nat.le_of_ble_eq_true rfl, Nat.le_of_ble_eq_true rfl⟩) nw_preP rfl rfl hl.1 rfl (lv_room (Nat.le_of_ble_eq_true rfl)) dX10_same_14 ⟨Nat.le_of_ble_eq_true rfl, Nat.le_of_ble_eq_true rfl⟩) ?_
    refine lv_if_ne (x := fX10_in p1 0 9) (tgt := 25) hx hb dX10_same_17 (by decide) (fun c_2 => ?_) (fun c_2 => ?_)
    · refine lv_aload_n hx hb dX10_same_25 rfl (lv_at hl 0 rfl) ?_
      refine nw_get S hK hN (k := 0) (i := 0) ⟨rfl, rfl⟩ rfl rfl hin10 11 (by decide) (index := 34) (ref := "RidingYardModel") (by decide +kernel) (fun _ h => h) (v := .ref (ad 11 0)) rfl dX10_same_26 ?_
      refine lv_iload_n hx hb dX10_same_29 rfl (lv_at hl 1 rfl) ?_
      refine nw_iald S hK hN (k := 11) (i := 0) ⟨rfl, rfl⟩ rfl (x := p0) (in_in c_1 (by decide)) dX10_same_30 ?_
      refine lv_aload_n hx hb dX10_same_31 rfl (lv_at hl 0 rfl) ?_
      refine nw_get S hK hN (k := 0) (i := 0) ⟨rfl, rfl⟩ rfl rfl hin10 11 (by decide) (index := 34) (ref := "RidingYardModel") (by decide +kernel) (fun _ h => h) (v := .ref (ad 11 0)) rfl dX10_same_32 ?_
      refine lv_iload_n hx hb dX10_same_35 rfl (lv_at hl 2 rfl) ?_
      refine nw_iald S hK hN (k := 11) (i := 0) ⟨rfl, rfl⟩ rfl (x := p1) (in_in c_2 (by decide)) dX10_same_36 ?_
      refine lv_icmp_ne (x := M 11 0 ((p0 : Int32).toNatClampNeg)) (y := M 11 0 ((p1 : Int32).toNatClampNeg)) (tgt := 44) hx hb dX10_same_37 (by decide) (fun c_3 => ?_) (fun c_3 => ?_)
      · refine lv_iconst (v := 0) hx hb dX10_same_44 (by decide) ?_
        have hf : fX10_same M p0 p1 = (0, M) := by unfold fX10_same; rw [if_neg c_1, if_neg c_2, if_neg c_3]
        exact W.iret (v := 0) hx hb hr (fun t ht _ => by rw [hf]; exact nw_end hS hN ht) hS.2.2 dX10_same_45
      · refine lv_iconst (v := 1) hx hb dX10_same_40 (by decide) ?_
        refine lv_goto (tgt := 45) hx hb dX10_same_41 (by decide) ?_
        have hf : fX10_same M p0 p1 = (1, M) := by unfold fX10_same; rw [if_neg c_1, if_neg c_2, if_pos c_3]
        exact W.iret (v := 1) hx hb hr (fun t ht _ => by rw [hf]; exact nw_end hS hN ht) hS.2.2 dX10_same_45
    · refine lv_ldc (v := (-1000000001)) hx hb hown (hts (.constant RX10 99 (-1000000001)) (by decide +kernel)) dX10_same_20 ?_
      refine lv_goto (tgt := 45) hx hb dX10_same_22 (by decide) ?_
      have hf : fX10_same M p0 p1 = ((-1000000001), M) := by unfold fX10_same; rw [if_neg c_1, if_pos c_2]
      exact W.iret (v := (-1000000001)) hx hb hr (fun t ht _ => by rw [hf]; exact nw_end hS hN ht) hS.2.2 dX10_same_45
set_option maxHeartbeats 4000000 in
set_option maxRecDepth 100000 in
theorem kX10_count (l : Launch) (D : va_G) (C : Nat → ClassId) (A : Nat → Prop) (ad : Nat → Nat → Nat) (M : Nat → Nat → Nat → Int32) (p0 : Int32) : Met l yX10_count wsX10_count ({ frames := 1, cells := 0, slots := 0, locals := 22 }) (va_Pc [.ref (ad 0 0), .int p0] (PW D C A (nw D (enM C) domM A ad M))) (nQ A (some (.int (fX10_count M p0).1)) (nw D (enM C) domM A ad (fX10_count M p0).2)) 0 0 A := by
  refine Met.ofW (cc := cX10_count) (maxL := 2) (ret := (some .int)) (by decide) rfl ?_
  intro p e s m args below meth c s₁ B hml hv
  obtain ⟨rfl, hK, hN, hA⟩ := hv
  have hx := B.exec
  have hb := B.bytes
  have hr := B.returns
  have hts := atoms_spec (ws := wsX10_count) B.pre
  have hown : s.vm.findClass RX10 = some m.cls := findClass_of_methodNamed B.named
  have hlocks := B.notSynchronized
  have S : CallFix p m c cX10_count 2 s _ wsX10_count RX10 := ⟨hx, hb, hml, hown, hts⟩
  have hin10 : ∀ w ∈ wsX100, w ∈ wsX10_count := by decide +kernel
  have hS : va_S A s.heap s.heap [] := va_S.rf
  have hl := lv_entry ([.ref (ad 0 0), .int p0]) (n := 2) (Nat.le_of_ble_eq_true rfl)
  rw [lg_entry_eq]
  generalize (lg_sl ([.ref (ad 0 0), .int p0]) ++ List.replicate (2 - (lg_sl ([.ref (ad 0 0), .int p0])).length) Slot.unset).toArray = ls at hl ⊢
  have hl : lv_has ls 2 [(0, .ref (ad 0 0)), (1, .int p0)] := hl
  refine lv_iload_n hx hb dX10_count_0 rfl (lv_at hl 1 rfl) ?_
  by_cases c_1 : p0 = 0
  · refine lv_tableIn (x := p0) (off := 35) (tgt := 36) hx hb dX10_count_1 (by rw [c_1]; decide) (by rw [c_1]; decide) (by rw [c_1]; rfl) (by decide) ?_
    refine lv_aload_n hx hb dX10_count_36 rfl (lv_at hl 0 rfl) ?_
    refine nw_get S hK hN (k := 0) (i := 0) ⟨rfl, rfl⟩ rfl rfl hin10 0 (by decide) (index := 100) (ref := "RidingYardModel") (by decide +kernel) (fun _ h => h) (v := .int (M 0 0 0)) rfl dX10_count_37 ?_
    have hf : fX10_count M p0 = (M 0 0 0, M) := by unfold fX10_count; rw [if_pos c_1]
    exact W.iret (v := M 0 0 0) hx hb hr (fun t ht _ => by rw [hf]; exact nw_end hS hN ht) hS.2.2 dX10_count_40
  · by_cases c_2 : p0 = 1
    · refine lv_tableIn (x := p0) (off := 40) (tgt := 41) hx hb dX10_count_1 (by rw [c_2]; decide) (by rw [c_2]; decide) (by rw [c_2]; rfl) (by decide) ?_
      refine lv_aload_n hx hb dX10_count_41 rfl (lv_at hl 0 rfl) ?_
      refine nw_get S hK hN (k := 0) (i := 0) ⟨rfl, rfl⟩ rfl rfl hin10 7 (by decide) (index := 105) (ref := "RidingYardModel") (by decide +kernel) (fun _ h => h) (v := .int (M 0 0 7)) rfl dX10_count_42 ?_
      have hf : fX10_count M p0 = (M 0 0 7, M) := by unfold fX10_count; rw [if_neg c_1, if_pos c_2]
      exact W.iret (v := M 0 0 7) hx hb hr (fun t ht _ => by rw [hf]; exact nw_end hS hN ht) hS.2.2 dX10_count_45
    · by_cases c_3 : p0 = 2
      · refine lv_tableIn (x := p0) (off := 45) (tgt := 46) hx hb dX10_count_1 (by rw [c_3]; decide) (by rw [c_3]; decide) (by rw [c_3]; rfl) (by decide) ?_
        refine lv_aload_n hx hb dX10_count_46 rfl (lv_at hl 0 rfl) ?_
        refine nw_get S hK hN (k := 0) (i := 0) ⟨rfl, rfl⟩ rfl rfl hin10 10 (by decide) (index := 112) (ref := "RidingYardModel") (by decide +kernel) (fun _ h => h) (v := .int (M 0 0 10)) rfl dX10_count_47 ?_
        have hf : fX10_count M p0 = (M 0 0 10, M) := by unfold fX10_count; rw [if_neg c_1, if_neg c_2, if_pos c_3]
        exact W.iret (v := M 0 0 10) hx hb hr (fun t ht _ => by rw [hf]; exact nw_end hS hN ht) hS.2.2 dX10_count_50
      · by_cases c_4 : p0 = 3
        · refine lv_tableIn (x := p0) (off := 50) (tgt := 51) hx hb dX10_count_1 (by rw [c_4]; decide) (by rw [c_4]; decide) (by rw [c_4]; rfl) (by decide) ?_
          refine lv_aload_n hx hb dX10_count_51 rfl (lv_at hl 0 rfl) ?_
          refine nw_get S hK hN (k := 0) (i := 0) ⟨rfl, rfl⟩ rfl rfl hin10 24 (by decide) (index := 164) (ref := "RidingYardModel") (by decide +kernel) (fun _ h => h) (v := .int (M 0 0 24)) rfl dX10_count_52 ?_
          have hf : fX10_count M p0 = (M 0 0 24, M) := by unfold fX10_count; rw [if_neg c_1, if_neg c_2, if_neg c_3, if_pos c_4]
          exact W.iret (v := M 0 0 24) hx hb hr (fun t ht _ => by rw [hf]; exact nw_end hS hN ht) hS.2.2 dX10_count_55
        · by_cases c_5 : p0 = 4
          · refine lv_tableIn (x := p0) (off := 55) (tgt := 56) hx hb dX10_count_1 (by rw [c_5]; decide) (by rw [c_5]; decide) (by rw [c_5]; rfl) (by decide) ?_
            refine lv_aload_n hx hb dX10_count_56 rfl (lv_at hl 0 rfl) ?_
            refine nw_get S hK hN (k := 0) (i := 0) ⟨rfl, rfl⟩ rfl rfl hin10 29 (by decide) (index := 167) (ref := "RidingYardModel") (by decide +kernel) (fun _ h => h) (v := .int (M 0 0 29)) rfl dX10_count_57 ?_
            have hf : fX10_count M p0 = (M 0 0 29, M) := by unfold fX10_count; rw [if_neg c_1, if_neg c_2, if_neg c_3, if_neg c_4, if_pos c_5]
            exact W.iret (v := M 0 0 29) hx hb hr (fun t ht _ => by rw [hf]; exact nw_end hS hN ht) hS.2.2 dX10_count_60
          · refine lv_tableOut (x := p0) (tgt := 61) hx hb dX10_count_1 (by have q0 := lv_neT (a := 0) c_1 (by decide); have q1 := lv_neT (a := 1) c_2 (by decide); have q2 := lv_neT (a := 2) c_3 (by decide); have q3 := lv_neT (a := 3) c_4 (by decide); have q4 := lv_neT (a := 4) c_5 (by decide); omega) (by decide) ?_
            refine lv_iload_n hx hb dX10_count_61 rfl (lv_at hl 1 rfl) ?_
            refine lv_bipush (v := 6) hx hb dX10_count_62 (by decide) ?_
            refine lv_bipush (v := 11) hx hb dX10_count_64 (by decide) ?_
            refine nw_callP (W.runS (As := [.int p0, .int 6, .int 11]) (rest := []) S (kX10_in l p0 6 11) (va_cwS 3 hts gX10_count_X10_in rfl rfl rfl (by decide +kernel) ⟨Nat.le_of_ble_eq_true rfl, Nat.le_of_ble_eq_true rfl⟩) nw_preP rfl rfl hl.1 rfl (lv_room (Nat.le_of_ble_eq_true rfl)) dX10_count_66 ⟨Nat.le_of_ble_eq_true rfl, Nat.le_of_ble_eq_true rfl⟩) ?_
            refine lv_if_eq (x := fX10_in p0 6 11) (tgt := 83) hx hb dX10_count_69 (by decide) (fun c_6 => ?_) (fun c_6 => ?_)
            · refine lv_ldc (v := (-1000000002)) hx hb hown (hts (.constant RX10 170 (-1000000002)) (by decide +kernel)) dX10_count_83 ?_
              have hf : fX10_count M p0 = ((-1000000002), M) := by unfold fX10_count; rw [if_neg c_1, if_neg c_2, if_neg c_3, if_neg c_4, if_neg c_5, if_pos c_6]
              exact W.iret (v := (-1000000002)) hx hb hr (fun t ht _ => by rw [hf]; exact nw_end hS hN ht) hS.2.2 dX10_count_85
            · refine lv_aload_n hx hb dX10_count_72 rfl (lv_at hl 0 rfl) ?_
              refine nw_get S hK hN (k := 0) (i := 0) ⟨rfl, rfl⟩ rfl rfl hin10 32 (by decide) (index := 92) (ref := "RidingYardModel") (by decide +kernel) (fun _ h => h) (v := .ref (ad 32 0)) rfl dX10_count_73 ?_
              refine lv_iload_n hx hb dX10_count_76 rfl (lv_at hl 1 rfl) ?_
              refine lv_iconst (v := 5) hx hb dX10_count_77 (by decide) ?_
              refine lv_isub hx hb dX10_count_78 ?_
              refine nw_iald S hK hN (k := 32) (i := 0) ⟨rfl, rfl⟩ rfl (x := p0 - 5) (cnt_in c_6) dX10_count_79 ?_
              refine lv_goto (tgt := 85) hx hb dX10_count_80 (by decide) ?_
              have hf : fX10_count M p0 = (M 32 0 ((p0 - 5 : Int32).toNatClampNeg), M) := by unfold fX10_count; rw [if_neg c_1, if_neg c_2, if_neg c_3, if_neg c_4, if_neg c_5, if_neg c_6]
              exact W.iret (v := M 32 0 ((p0 - 5 : Int32).toNatClampNeg)) hx hb hr (fun t ht _ => by rw [hf]; exact nw_end hS hN ht) hS.2.2 dX10_count_85
set_option maxHeartbeats 4000000 in
set_option maxRecDepth 100000 in
theorem kX10_worksAll (l : Launch) (D : va_G) (C : Nat → ClassId) (A : Nat → Prop) (ad : Nat → Nat → Nat) (M : Nat → Nat → Nat → Int32) (p0 p1 : Int32) (kk : Nat) (hI : InvM kk M) (ht : vp_in p0 6) : Met l yX10_worksAll wsX10_worksAll ({ frames := 1, cells := 0, slots := 0, locals := 23 }) (va_Pc [.ref (ad 0 0), .int p0, .int p1] (PW D C A (nw D (enM C) domM A ad M))) (nQ A (some (.int (fX10_worksAll M p0 p1).1)) (nw D (enM C) domM A ad (fX10_worksAll M p0 p1).2)) 0 0 A := by
  refine Met.ofW (cc := cX10_worksAll) (maxL := 6) (ret := (some .int)) (by decide) rfl ?_
  intro p e s m args below meth c s₁ B hml hv
  obtain ⟨rfl, hK, hN, hA⟩ := hv
  have hx := B.exec
  have hb := B.bytes
  have hr := B.returns
  have hts := atoms_spec (ws := wsX10_worksAll) B.pre
  have hown : s.vm.findClass RX10 = some m.cls := findClass_of_methodNamed B.named
  have hlocks := B.notSynchronized
  have S : CallFix p m c cX10_worksAll 6 s _ wsX10_worksAll RX10 := ⟨hx, hb, hml, hown, hts⟩
  have hin10 : ∀ w ∈ wsX100, w ∈ wsX10_worksAll := by decide +kernel
  have hS : va_S A s.heap s.heap [] := va_S.rf
  have hl := lv_entry ([.ref (ad 0 0), .int p0, .int p1]) (n := 6) (Nat.le_of_ble_eq_true rfl)
  rw [lg_entry_eq]
  generalize (lg_sl ([.ref (ad 0 0), .int p0, .int p1]) ++ List.replicate (6 - (lg_sl ([.ref (ad 0 0), .int p0, .int p1])).length) Slot.unset).toArray = ls at hl ⊢
  have hl : lv_has ls 6 [(0, .ref (ad 0 0)), (1, .int p0), (2, .int p1)] := hl
  refine lv_iconst (v := 0) hx hb dX10_worksAll_0 (by decide) ?_
  refine lv_istore_n (lv' := [(3, .int 0), (0, .ref (ad 0 0)), (1, .int p0), (2, .int p1)]) hx hb dX10_worksAll_1 rfl hl (by decide) rfl (fun ls hl => ?_)
  refine lv_iconst (v := 0) hx hb dX10_worksAll_2 (by decide) ?_
  refine lv_istore (lv' := [(4, .int 0), (3, .int 0), (0, .ref (ad 0 0)), (1, .int p0), (2, .int p1)]) hx hb dX10_worksAll_3 hl (by decide) rfl (fun ls hl => ?_)
  refine lpW (σ := Int32 × Int32 × (Nat → Nat → Nat → Int32)) 9 (0, 0, M) (fun n x H locs ls => lv_has ls 6 [(4, .int x.1), (3, .int x.2.1), (0, .ref (ad 0 0)), (1, .int p0), (2, .int p1)] ∧ nw D (enM C) domM A ad x.2.2 H ∧ va_S A s.heap H locs ∧ fX10_worksAll M p0 p1 = gX10_worksAll_5 p0 p1 n x.1 x.2.1 (x.2.2) ∧ (InvM kk x.2.2 ∧ ∃ i : Nat, x.1 = nI i ∧ i ≤ 8 ∧ i + n = 9)) 5 (fun n x H locs ls hP ih => ?_) ⟨lv_sub hl [0, 1, 2, 3, 4] rfl, hN, hS, rfl, hI, 0, rfl, by omega, rfl⟩
  obtain ⟨x4, x3, Z5⟩ := x
  obtain ⟨hl, hN, hS, hfe, hinv⟩ := hP
  dsimp only at hl hN hfe hinv
  obtain ⟨hZ, i, hi1, hi2, hi3⟩ := hinv
  obtain ⟨n, rfl⟩ : ∃ k, n = k + 1 := ⟨n - 1, by omega⟩
  refine lv_iload hx hb dX10_worksAll_5 (lv_at hl 0 rfl) ?_
  refine lv_aload_n hx hb dX10_worksAll_7 rfl (lv_at hl 2 rfl) ?_
  refine nw_get S hK hN (k := 0) (i := 0) ⟨rfl, rfl⟩ rfl rfl hin10 13 (by decide) (index := 40) (ref := "RidingYardModel") (by decide +kernel) (fun _ h => h) (v := .ref (ad 13 0)) rfl dX10_worksAll_8 ?_
  refine lv_iload_n hx hb dX10_worksAll_11 rfl (lv_at hl 3 rfl) ?_
  refine nw_iald S hK hN (k := 13) (i := 0) ⟨rfl, rfl⟩ rfl (x := p0) (ht) dX10_worksAll_12 ?_
  refine lv_icmp_ge (x := x4) (y := Z5 13 0 ((p0 : Int32).toNatClampNeg)) (tgt := 51) hx hb dX10_worksAll_13 (by decide) (fun c_1 => ?_) (fun c_1 => ?_)
  · refine lv_aload_n hx hb dX10_worksAll_51 rfl (lv_at hl 2 rfl) ?_
    refine lv_iload_n hx hb dX10_worksAll_52 rfl (lv_at hl 1 rfl) ?_
    refine nw_calli (va_runV (As := [.int x3]) (rest := []) S (kX10_come l D C A ad Z5 x3 ) (cwV 1 hts gX10_worksAll_X10_come rfl rfl rfl (by decide +kernel) ⟨Nat.le_of_ble_eq_true rfl, Nat.le_of_ble_eq_true rfl⟩) (nw_preV hK hN hA hS (nw_recv hK hN (k := 0) (i := 0) ⟨rfl, rfl⟩ rfl rfl)) rfl rfl hl.1 rfl (lv_room (Nat.le_of_ble_eq_true rfl)) dX10_worksAll_53 ⟨Nat.le_of_ble_eq_true rfl, Nat.le_of_ble_eq_true rfl⟩) hS (fun H locs hN hz _ hS => ?_)
    have hf : fX10_worksAll M p0 p1 = (0, u3 Z5 0 0 34 x3) := by rw [hfe, gX10_worksAll_5_s, if_pos c_1]
    exact W.iret (v := 0) hx hb hr (fun t ht _ => by rw [hf]; exact nw_end hS hN ht) hS.2.2 dX10_worksAll_56
  · refine lv_aload_n hx hb dX10_worksAll_16 rfl (lv_at hl 2 rfl) ?_
    refine nw_get S hK hN (k := 0) (i := 0) ⟨rfl, rfl⟩ rfl rfl hin10 15 (by decide) (index := 46) (ref := "RidingYardModel") (by decide +kernel) (fun _ h => h) (v := .ref (ad 15 0)) rfl dX10_worksAll_17 ?_
    refine lv_bipush (v := 8) hx hb dX10_worksAll_20 (by decide) ?_
    refine lv_iload_n hx hb dX10_worksAll_22 rfl (lv_at hl 3 rfl) ?_
    refine lv_imul hx hb dX10_worksAll_23 ?_
    refine lv_iload hx hb dX10_worksAll_24 (lv_at hl 0 rfl) ?_
    refine lv_iadd hx hb dX10_worksAll_26 ?_
    refine nw_iald S hK hN (k := 15) (i := 0) ⟨rfl, rfl⟩ rfl (x := (8 * p0) + x4) (wa_idx hZ ht hi1 hi2 c_1) dX10_worksAll_27 ?_
    refine lv_istore (lv' := [(5, .int (Z5 15 0 (((8 * p0) + x4 : Int32).toNatClampNeg))), (4, .int x4), (3, .int x3), (0, .ref (ad 0 0)), (1, .int p0), (2, .int p1)]) hx hb dX10_worksAll_28 hl (by decide) rfl (fun ls hl => ?_)
    refine lv_iload hx hb dX10_worksAll_30 (lv_at hl 0 rfl) ?_
    refine lv_if_ge (x := Z5 15 0 (((8 * p0) + x4 : Int32).toNatClampNeg)) (tgt := 37) hx hb dX10_worksAll_32 (by decide) (fun c_2 => ?_) (fun c_2 => ?_)
    · refine lv_aload_n hx hb dX10_worksAll_37 rfl (lv_at hl 3 rfl) ?_
      refine lv_iload hx hb dX10_worksAll_38 (lv_at hl 0 rfl) ?_
      refine lv_iload_n hx hb dX10_worksAll_40 rfl (lv_at hl 5 rfl) ?_
      refine nw_calli (va_runV (As := [.int (Z5 15 0 (((8 * p0) + x4 : Int32).toNatClampNeg)), .int p1]) (rest := []) S (kX10_work l D C A ad Z5 (Z5 15 0 (((8 * p0) + x4 : Int32).toNatClampNeg)) p1 (wa_x1 hZ ht hi1 hi2 c_1 c_2) (wa_x2 hZ ht hi1 hi2 c_1 c_2)) (cwV 2 hts gX10_worksAll_X10_work rfl rfl rfl (by decide +kernel) ⟨Nat.le_of_ble_eq_true rfl, Nat.le_of_ble_eq_true rfl⟩) (nw_preV hK hN hA hS (nw_recv hK hN (k := 0) (i := 0) ⟨rfl, rfl⟩ rfl rfl)) rfl rfl hl.1 rfl (lv_room (Nat.le_of_ble_eq_true rfl)) dX10_worksAll_41 ⟨Nat.le_of_ble_eq_true rfl, Nat.le_of_ble_eq_true rfl⟩) hS (fun H locs hN hz _ hS => ?_)
      refine lv_istore_n (lv' := [(3, .int ((fX10_work Z5 (Z5 15 0 (((8 * p0) + x4 : Int32).toNatClampNeg)) p1).1)), (5, .int (Z5 15 0 (((8 * p0) + x4 : Int32).toNatClampNeg))), (4, .int x4), (0, .ref (ad 0 0)), (1, .int p0), (2, .int p1)]) hx hb dX10_worksAll_44 rfl hl (by decide) rfl (fun ls hl => ?_)
      refine lv_iinc (v := x4 + 1) (lv' := [(4, .int (x4 + 1)), (3, .int ((fX10_work Z5 (Z5 15 0 (((8 * p0) + x4 : Int32).toNatClampNeg)) p1).1)), (5, .int (Z5 15 0 (((8 * p0) + x4 : Int32).toNatClampNeg))), (0, .ref (ad 0 0)), (1, .int p0), (2, .int p1)]) hx hb dX10_worksAll_45 hl (k := 2) rfl rfl (by decide) rfl (fun ls hl => ?_)
      refine lv_goto (tgt := 5) hx hb dX10_worksAll_48 (by decide) ?_
      exact ih n (x4 + 1, (fX10_work Z5 (Z5 15 0 (((8 * p0) + x4 : Int32).toNatClampNeg)) p1).1, (fX10_work Z5 (Z5 15 0 (((8 * p0) + x4 : Int32).toNatClampNeg)) p1).2) _ _ _ (by omega) ⟨lv_sub hl [0, 1, 3, 4, 5] rfl, hN, hS, by rw [hfe, gX10_worksAll_5_s, if_neg c_1, if_pos c_2], wa_back hZ ht hi1 hi2 hi3 c_1 c_2⟩
    · refine lv_iconst (v := 1) hx hb dX10_worksAll_35 (by decide) ?_
      have hf : fX10_worksAll M p0 p1 = (1, Z5) := by rw [hfe, gX10_worksAll_5_s, if_neg c_1, if_neg c_2]
      exact W.iret (v := 1) hx hb hr (fun t ht _ => by rw [hf]; exact nw_end hS hN ht) hS.2.2 dX10_worksAll_36
set_option maxHeartbeats 4000000 in
set_option maxRecDepth 100000 in
theorem kX10_ofTeam (l : Launch) (D : va_G) (C : Nat → ClassId) (A : Nat → Prop) (ad : Nat → Nat → Nat) (M : Nat → Nat → Nat → Int32) (p0 p1 p2 p3 : Int32) (kk : Nat) (hI : InvM kk M) (ht : vp_in p1 6) : Met l yX10_ofTeam wsX10_ofTeam ({ frames := 2, cells := 0, slots := 0, locals := 48 }) (va_Pc [.ref (ad 0 0), .int p0, .int p1, .int p2, .int p3] (PW D C A (nw D (enM C) domM A ad M))) (nQ A (some (.int (fX10_ofTeam M p0 p1 p2 p3).1)) (nw D (enM C) domM A ad (fX10_ofTeam M p0 p1 p2 p3).2)) 0 0 A := by
  refine Met.ofW (cc := cX10_ofTeam) (maxL := 6) (ret := (some .int)) (by decide) rfl ?_
  intro p e s m args below meth c s₁ B hml hv
  obtain ⟨rfl, hK, hN, hA⟩ := hv
  have hx := B.exec
  have hb := B.bytes
  have hr := B.returns
  have hts := atoms_spec (ws := wsX10_ofTeam) B.pre
  have hown : s.vm.findClass RX10 = some m.cls := findClass_of_methodNamed B.named
  have hlocks := B.notSynchronized
  have S : CallFix p m c cX10_ofTeam 6 s _ wsX10_ofTeam RX10 := ⟨hx, hb, hml, hown, hts⟩
  have hin10 : ∀ w ∈ wsX100, w ∈ wsX10_ofTeam := by decide +kernel
  have hS : va_S A s.heap s.heap [] := va_S.rf
  have hl := lv_entry ([.ref (ad 0 0), .int p0, .int p1, .int p2, .int p3]) (n := 6) (Nat.le_of_ble_eq_true rfl)
  rw [lg_entry_eq]
  generalize (lg_sl ([.ref (ad 0 0), .int p0, .int p1, .int p2, .int p3]) ++ List.replicate (6 - (lg_sl ([.ref (ad 0 0), .int p0, .int p1, .int p2, .int p3])).length) Slot.unset).toArray = ls at hl ⊢
  have hl : lv_has ls 6 [(0, .ref (ad 0 0)), (1, .int p0), (2, .int p1), (3, .int p2), (4, .int p3)] := hl
  refine lv_iload_n hx hb dX10_ofTeam_0 rfl (lv_at hl 1 rfl) ?_
  refine lv_bipush (v := 7) hx hb dX10_ofTeam_1 (by decide) ?_
  refine lv_icmp_ne (x := p0) (y := 7) (tgt := 77) hx hb dX10_ofTeam_3 (by decide) (fun c_1 => ?_) (fun c_1 => ?_)
  · refine lv_aload_n hx hb dX10_ofTeam_77 rfl (lv_at hl 0 rfl) ?_
    refine nw_get S hK hN (k := 0) (i := 0) ⟨rfl, rfl⟩ rfl rfl hin10 13 (by decide) (index := 40) (ref := "RidingYardModel") (by decide +kernel) (fun _ h => h) (v := .ref (ad 13 0)) rfl dX10_ofTeam_78 ?_
    refine lv_iload_n hx hb dX10_ofTeam_81 rfl (lv_at hl 2 rfl) ?_
    refine nw_iald S hK hN (k := 13) (i := 0) ⟨rfl, rfl⟩ rfl (x := p1) (ht) dX10_ofTeam_82 ?_
    refine lv_if_ge (x := M 13 0 ((p1 : Int32).toNatClampNeg)) (tgt := 88) hx hb dX10_ofTeam_83 (by decide) (fun c_2 => ?_) (fun c_2 => ?_)
    · refine lv_iload_n hx hb dX10_ofTeam_88 rfl (lv_at hl 1 rfl) ?_
      refine lv_bipush (v := 10) hx hb dX10_ofTeam_89 (by decide) ?_
      refine lv_icmp_ne (x := p0) (y := 10) (tgt := 105) hx hb dX10_ofTeam_91 (by decide) (fun c_3 => ?_) (fun c_3 => ?_)
      · refine lv_iload_n hx hb dX10_ofTeam_105 rfl (lv_at hl 1 rfl) ?_
        refine lv_bipush (v := 11) hx hb dX10_ofTeam_106 (by decide) ?_
        refine lv_icmp_ne (x := p0) (y := 11) (tgt := 118) hx hb dX10_ofTeam_108 (by decide) (fun c_4 => ?_) (fun c_4 => ?_)
        · refine lv_iload_n hx hb dX10_ofTeam_118 rfl (lv_at hl 3 rfl) ?_
          refine lv_iconst (v := 0) hx hb dX10_ofTeam_119 (by decide) ?_
          refine lv_aload_n hx hb dX10_ofTeam_120 rfl (lv_at hl 0 rfl) ?_
          refine nw_get S hK hN (k := 0) (i := 0) ⟨rfl, rfl⟩ rfl rfl hin10 13 (by decide) (index := 40) (ref := "RidingYardModel") (by decide +kernel) (fun _ h => h) (v := .ref (ad 13 0)) rfl dX10_ofTeam_121 ?_
          refine lv_iload_n hx hb dX10_ofTeam_124 rfl (lv_at hl 2 rfl) ?_
          refine nw_iald S hK hN (k := 13) (i := 0) ⟨rfl, rfl⟩ rfl (x := p1) (ht) dX10_ofTeam_125 ?_
          refine lv_iconst (v := 1) hx hb dX10_ofTeam_126 (by decide) ?_
          refine lv_isub hx hb dX10_ofTeam_127 ?_
          refine nw_callP (W.runS (As := [.int p2, .int 0, .int ((M 13 0 ((p1 : Int32).toNatClampNeg)) - 1)]) (rest := []) S (kX10_in l p2 0 ((M 13 0 ((p1 : Int32).toNatClampNeg)) - 1)) (va_cwS 3 hts gX10_ofTeam_X10_in rfl rfl rfl (by decide +kernel) ⟨Nat.le_of_ble_eq_true rfl, Nat.le_of_ble_eq_true rfl⟩) nw_preP rfl rfl hl.1 rfl (lv_room (Nat.le_of_ble_eq_true rfl)) dX10_ofTeam_128 ⟨Nat.le_of_ble_eq_true rfl, Nat.le_of_ble_eq_true rfl⟩) ?_
          refine lv_if_ne (x := fX10_in p2 0 ((M 13 0 ((p1 : Int32).toNatClampNeg)) - 1)) (tgt := 136) hx hb dX10_ofTeam_131 (by decide) (fun c_5 => ?_) (fun c_5 => ?_)
          · refine lv_iload hx hb dX10_ofTeam_136 (lv_at hl 4 rfl) ?_
            refine lv_bipush (v := 10) hx hb dX10_ofTeam_138 (by decide) ?_
            refine nw_callP (W.runS (As := [.int p3, .int 10]) (rest := []) S (kX10_modulo l p3 10 (by decide)) (va_cwS 2 hts gX10_ofTeam_X10_modulo rfl rfl rfl (by decide +kernel) ⟨Nat.le_of_ble_eq_true rfl, Nat.le_of_ble_eq_true rfl⟩) nw_preP rfl rfl hl.1 rfl (lv_room (Nat.le_of_ble_eq_true rfl)) dX10_ofTeam_140 ⟨Nat.le_of_ble_eq_true rfl, Nat.le_of_ble_eq_true rfl⟩) ?_
            refine lv_istore (lv' := [(5, .int (fX10_modulo p3 10)), (0, .ref (ad 0 0)), (1, .int p0), (2, .int p1), (3, .int p2), (4, .int p3)]) hx hb dX10_ofTeam_143 hl (by decide) rfl (fun ls hl => ?_)
            refine lv_iload_n hx hb dX10_ofTeam_145 rfl (lv_at hl 2 rfl) ?_
            refine lv_bipush (v := 9) hx hb dX10_ofTeam_146 (by decide) ?_
            refine lv_icmp_ne (x := p0) (y := 9) (tgt := 189) hx hb dX10_ofTeam_148 (by decide) (fun c_6 => ?_) (fun c_6 => ?_)
            · refine lv_aload_n hx hb dX10_ofTeam_189 rfl (lv_at hl 1 rfl) ?_
              refine lv_iload_n hx hb dX10_ofTeam_190 rfl (lv_at hl 3 rfl) ?_
              refine lv_aload_n hx hb dX10_ofTeam_191 rfl (lv_at hl 1 rfl) ?_
              refine nw_get S hK hN (k := 0) (i := 0) ⟨rfl, rfl⟩ rfl rfl hin10 11 (by decide) (index := 34) (ref := "RidingYardModel") (by decide +kernel) (fun _ h => h) (v := .ref (ad 11 0)) rfl dX10_ofTeam_192 ?_
              refine lv_iload hx hb dX10_ofTeam_195 (lv_at hl 0 rfl) ?_
              refine nw_iald S hK hN (k := 11) (i := 0) ⟨rfl, rfl⟩ rfl (x := fX10_modulo p3 10) (mod_in10 p3) dX10_ofTeam_197 ?_
              refine nw_calli (va_runV (As := [.int p1, .int (M 11 0 ((fX10_modulo p3 10 : Int32).toNatClampNeg))]) (rest := []) S (kX10_isFor l D C A ad M p1 (M 11 0 ((fX10_modulo p3 10 : Int32).toNatClampNeg)) ht (invM_stm hI p3)) (cwV 2 hts gX10_ofTeam_X10_isFor rfl rfl rfl (by decide +kernel) ⟨Nat.le_of_ble_eq_true rfl, Nat.le_of_ble_eq_true rfl⟩) (nw_preV hK hN hA hS (nw_recv hK hN (k := 0) (i := 0) ⟨rfl, rfl⟩ rfl rfl)) rfl rfl hl.1 rfl (lv_room (Nat.le_of_ble_eq_true rfl)) dX10_ofTeam_198 ⟨Nat.le_of_ble_eq_true rfl, Nat.le_of_ble_eq_true rfl⟩) hS (fun H locs hN hz _ hS => ?_)
              refine lv_if_ne (x := (fX10_isFor M p1 (M 11 0 ((fX10_modulo p3 10 : Int32).toNatClampNeg))).1) (tgt := 206) hx hb dX10_ofTeam_201 (by decide) (fun c_7 => ?_) (fun c_7 => ?_)
              · refine lv_aload_n hx hb dX10_ofTeam_206 rfl (lv_at hl 1 rfl) ?_
                refine nw_get S hK hN (k := 0) (i := 0) ⟨rfl, rfl⟩ rfl rfl hin10 15 (by decide) (index := 46) (ref := "RidingYardModel") (by decide +kernel) (fun _ h => h) (v := .ref (ad 15 0)) rfl dX10_ofTeam_207 ?_
                refine lv_bipush (v := 8) hx hb dX10_ofTeam_210 (by decide) ?_
                refine lv_iload_n hx hb dX10_ofTeam_212 rfl (lv_at hl 3 rfl) ?_
                refine lv_imul hx hb dX10_ofTeam_213 ?_
                refine lv_iload_n hx hb dX10_ofTeam_214 rfl (lv_at hl 4 rfl) ?_
                refine lv_iadd hx hb dX10_ofTeam_215 ?_
                refine lv_aload_n hx hb dX10_ofTeam_216 rfl (lv_at hl 1 rfl) ?_
                refine nw_get S hK hN (k := 0) (i := 0) ⟨rfl, rfl⟩ rfl rfl hin10 11 (by decide) (index := 34) (ref := "RidingYardModel") (by decide +kernel) (fun _ h => h) (v := .ref (ad 11 0)) rfl dX10_ofTeam_217 ?_
                refine lv_iload hx hb dX10_ofTeam_220 (lv_at hl 0 rfl) ?_
                refine nw_iald S hK hN (k := 11) (i := 0) ⟨rfl, rfl⟩ rfl (x := fX10_modulo p3 10) (mod_in10 p3) dX10_ofTeam_222 ?_
                refine nw_iast S hK hN hS (k := 15) (i := 0) ⟨rfl, rfl⟩ (fun _ => rfl) (x := (8 * p1) + p2) (v := ((fX10_isFor M p1 (M 11 0 ((fX10_modulo p3 10 : Int32).toNatClampNeg))).2) 11 0 ((fX10_modulo p3 10 : Int32).toNatClampNeg)) (invM_pl hI ht c_5) dX10_ofTeam_223 (fun H locs hN hz hS => ?_)
                refine lv_aload_n hx hb dX10_ofTeam_224 rfl (lv_at hl 1 rfl) ?_
                refine lv_iconst (v := 1) hx hb dX10_ofTeam_225 (by decide) ?_
                refine nw_calli (va_runV (As := [.int 1]) (rest := []) S (kX10_come l D C A ad (u3 ((fX10_isFor M p1 (M 11 0 ((fX10_modulo p3 10 : Int32).toNatClampNeg))).2) 15 0 (((8 * p1) + p2 : Int32).toNatClampNeg) (((fX10_isFor M p1 (M 11 0 ((fX10_modulo p3 10 : Int32).toNatClampNeg))).2) 11 0 ((fX10_modulo p3 10 : Int32).toNatClampNeg))) 1 ) (cwV 1 hts gX10_ofTeam_X10_come rfl rfl rfl (by decide +kernel) ⟨Nat.le_of_ble_eq_true rfl, Nat.le_of_ble_eq_true rfl⟩) (nw_preV hK hN hA hS (nw_recv hK hN (k := 0) (i := 0) ⟨rfl, rfl⟩ rfl rfl)) rfl rfl hl.1 rfl (lv_room (Nat.le_of_ble_eq_true rfl)) dX10_ofTeam_226 ⟨Nat.le_of_ble_eq_true rfl, Nat.le_of_ble_eq_true rfl⟩) hS (fun H locs hN hz _ hS => ?_)
                have hf : fX10_ofTeam M p0 p1 p2 p3 = (0, u3 (u3 ((fX10_isFor M p1 (M 11 0 ((fX10_modulo p3 10 : Int32).toNatClampNeg))).2) 15 0 (((8 * p1) + p2 : Int32).toNatClampNeg) (((fX10_isFor M p1 (M 11 0 ((fX10_modulo p3 10 : Int32).toNatClampNeg))).2) 11 0 ((fX10_modulo p3 10 : Int32).toNatClampNeg))) 0 0 34 1) := by unfold fX10_ofTeam; rw [if_neg c_1, if_pos c_2, if_neg c_3, if_neg c_4, if_neg c_5, if_neg c_6, if_neg c_7]
                exact W.iret (v := 0) hx hb hr (fun t ht _ => by rw [hf]; exact nw_end hS hN ht) hS.2.2 dX10_ofTeam_229
              · refine lv_iconst (v := 4) hx hb dX10_ofTeam_204 (by decide) ?_
                have hf : fX10_ofTeam M p0 p1 p2 p3 = (4, (fX10_isFor M p1 (M 11 0 ((fX10_modulo p3 10 : Int32).toNatClampNeg))).2) := by unfold fX10_ofTeam; rw [if_neg c_1, if_pos c_2, if_neg c_3, if_neg c_4, if_neg c_5, if_neg c_6, if_pos c_7]
                exact W.iret (v := 4) hx hb hr (fun t ht _ => by rw [hf]; exact nw_end hS hN ht) hS.2.2 dX10_ofTeam_205
            · refine lv_aload_n hx hb dX10_ofTeam_151 rfl (lv_at hl 1 rfl) ?_
              refine nw_get S hK hN (k := 0) (i := 0) ⟨rfl, rfl⟩ rfl rfl hin10 11 (by decide) (index := 34) (ref := "RidingYardModel") (by decide +kernel) (fun _ h => h) (v := .ref (ad 11 0)) rfl dX10_ofTeam_152 ?_
              refine lv_iload hx hb dX10_ofTeam_155 (lv_at hl 0 rfl) ?_
              refine lv_aload_n hx hb dX10_ofTeam_157 rfl (lv_at hl 1 rfl) ?_
              refine nw_get S hK hN (k := 0) (i := 0) ⟨rfl, rfl⟩ rfl rfl hin10 15 (by decide) (index := 46) (ref := "RidingYardModel") (by decide +kernel) (fun _ h => h) (v := .ref (ad 15 0)) rfl dX10_ofTeam_158 ?_
              refine lv_bipush (v := 8) hx hb dX10_ofTeam_161 (by decide) ?_
              refine lv_iload_n hx hb dX10_ofTeam_163 rfl (lv_at hl 3 rfl) ?_
              refine lv_imul hx hb dX10_ofTeam_164 ?_
              refine lv_iload_n hx hb dX10_ofTeam_165 rfl (lv_at hl 4 rfl) ?_
              refine lv_iadd hx hb dX10_ofTeam_166 ?_
              refine nw_iald S hK hN (k := 15) (i := 0) ⟨rfl, rfl⟩ rfl (x := (8 * p1) + p2) (invM_pl hI ht c_5) dX10_ofTeam_167 ?_
              refine nw_iast S hK hN hS (k := 11) (i := 0) ⟨rfl, rfl⟩ (fun _ => rfl) (x := fX10_modulo p3 10) (v := M 15 0 (((8 * p1) + p2 : Int32).toNatClampNeg)) (mod_in10 p3) dX10_ofTeam_168 (fun H locs hN hz hS => ?_)
              refine lv_aload_n hx hb dX10_ofTeam_169 rfl (lv_at hl 1 rfl) ?_
              refine lv_aload_n hx hb dX10_ofTeam_170 rfl (lv_at hl 1 rfl) ?_
              refine nw_get S hK hN (k := 0) (i := 0) ⟨rfl, rfl⟩ rfl rfl hin10 11 (by decide) (index := 34) (ref := "RidingYardModel") (by decide +kernel) (fun _ h => h) (v := .ref (ad 11 0)) rfl dX10_ofTeam_171 ?_
              refine lv_iload hx hb dX10_ofTeam_174 (lv_at hl 0 rfl) ?_
              refine nw_iald S hK hN (k := 11) (i := 0) ⟨rfl, rfl⟩ rfl (x := fX10_modulo p3 10) (mod_in10 p3) dX10_ofTeam_176 ?_
              refine lv_if_lt (x := M 15 0 (((8 * p1) + p2 : Int32).toNatClampNeg)) (tgt := 184) hx hb dX10_ofTeam_177 (by decide) (fun c_8 => ?_) (fun c_8 => ?_)
              · refine lv_iconst (v := 0) hx hb dX10_ofTeam_184 (by decide) ?_
                refine nw_calli (va_runV (As := [.int 0]) (rest := []) S (kX10_come l D C A ad (u3 M 11 0 ((fX10_modulo p3 10 : Int32).toNatClampNeg) (M 15 0 (((8 * p1) + p2 : Int32).toNatClampNeg))) 0 ) (cwV 1 hts gX10_ofTeam_X10_come rfl rfl rfl (by decide +kernel) ⟨Nat.le_of_ble_eq_true rfl, Nat.le_of_ble_eq_true rfl⟩) (nw_preV hK hN hA hS (nw_recv hK hN (k := 0) (i := 0) ⟨rfl, rfl⟩ rfl rfl)) rfl rfl hl.1 rfl (lv_room (Nat.le_of_ble_eq_true rfl)) dX10_ofTeam_185 ⟨Nat.le_of_ble_eq_true rfl, Nat.le_of_ble_eq_true rfl⟩) hS (fun H locs hN hz _ hS => ?_)
                have hf : fX10_ofTeam M p0 p1 p2 p3 = (0, u3 (u3 M 11 0 ((fX10_modulo p3 10 : Int32).toNatClampNeg) (M 15 0 (((8 * p1) + p2 : Int32).toNatClampNeg))) 0 0 34 0) := by unfold fX10_ofTeam; rw [if_neg c_1, if_pos c_2, if_neg c_3, if_neg c_4, if_neg c_5, if_pos c_6, if_pos c_8]
                exact W.iret (v := 0) hx hb hr (fun t ht _ => by rw [hf]; exact nw_end hS hN ht) hS.2.2 dX10_ofTeam_188
              · refine lv_iconst (v := 1) hx hb dX10_ofTeam_180 (by decide) ?_
                refine lv_goto (tgt := 185) hx hb dX10_ofTeam_181 (by decide) ?_
                refine nw_calli (va_runV (As := [.int 1]) (rest := []) S (kX10_come l D C A ad (u3 M 11 0 ((fX10_modulo p3 10 : Int32).toNatClampNeg) (M 15 0 (((8 * p1) + p2 : Int32).toNatClampNeg))) 1 ) (cwV 1 hts gX10_ofTeam_X10_come rfl rfl rfl (by decide +kernel) ⟨Nat.le_of_ble_eq_true rfl, Nat.le_of_ble_eq_true rfl⟩) (nw_preV hK hN hA hS (nw_recv hK hN (k := 0) (i := 0) ⟨rfl, rfl⟩ rfl rfl)) rfl rfl hl.1 rfl (lv_room (Nat.le_of_ble_eq_true rfl)) dX10_ofTeam_185 ⟨Nat.le_of_ble_eq_true rfl, Nat.le_of_ble_eq_true rfl⟩) hS (fun H locs hN hz _ hS => ?_)
                have hf : fX10_ofTeam M p0 p1 p2 p3 = (0, u3 (u3 M 11 0 ((fX10_modulo p3 10 : Int32).toNatClampNeg) (M 15 0 (((8 * p1) + p2 : Int32).toNatClampNeg))) 0 0 34 1) := by unfold fX10_ofTeam; rw [if_neg c_1, if_pos c_2, if_neg c_3, if_neg c_4, if_neg c_5, if_pos c_6, if_neg c_8]
                exact W.iret (v := 0) hx hb hr (fun t ht _ => by rw [hf]; exact nw_end hS hN ht) hS.2.2 dX10_ofTeam_188
          · refine lv_iconst (v := 5) hx hb dX10_ofTeam_134 (by decide) ?_
            have hf : fX10_ofTeam M p0 p1 p2 p3 = (5, M) := by unfold fX10_ofTeam; rw [if_neg c_1, if_pos c_2, if_neg c_3, if_neg c_4, if_pos c_5]
            exact W.iret (v := 5) hx hb hr (fun t ht _ => by rw [hf]; exact nw_end hS hN ht) hS.2.2 dX10_ofTeam_135
        · refine lv_aload_n hx hb dX10_ofTeam_111 rfl (lv_at hl 0 rfl) ?_
          refine lv_iload_n hx hb dX10_ofTeam_112 rfl (lv_at hl 2 rfl) ?_
          refine lv_iload_n hx hb dX10_ofTeam_113 rfl (lv_at hl 3 rfl) ?_
          refine nw_calli (va_runV (As := [.int p1, .int p2]) (rest := []) S (kX10_worksAll l D C A ad M p1 p2 kk hI ht) (cwV 2 hts gX10_ofTeam_X10_worksAll rfl rfl rfl (by decide +kernel) ⟨Nat.le_of_ble_eq_true rfl, Nat.le_of_ble_eq_true rfl⟩) (nw_preV hK hN hA hS (nw_recv hK hN (k := 0) (i := 0) ⟨rfl, rfl⟩ rfl rfl)) rfl rfl hl.1 rfl (lv_room (Nat.le_of_ble_eq_true rfl)) dX10_ofTeam_114 ⟨Nat.le_of_ble_eq_true rfl, Nat.le_of_ble_eq_true rfl⟩) hS (fun H locs hN hz _ hS => ?_)
          have hf : fX10_ofTeam M p0 p1 p2 p3 = ((fX10_worksAll M p1 p2).1, (fX10_worksAll M p1 p2).2) := by unfold fX10_ofTeam; rw [if_neg c_1, if_pos c_2, if_neg c_3, if_pos c_4]
          exact W.iret (v := (fX10_worksAll M p1 p2).1) hx hb hr (fun t ht _ => by rw [hf]; exact nw_end hS hN ht) hS.2.2 dX10_ofTeam_117
      · refine lv_aload_n hx hb dX10_ofTeam_94 rfl (lv_at hl 0 rfl) ?_
        refine lv_aload_n hx hb dX10_ofTeam_95 rfl (lv_at hl 0 rfl) ?_
        refine nw_get S hK hN (k := 0) (i := 0) ⟨rfl, rfl⟩ rfl rfl hin10 13 (by decide) (index := 40) (ref := "RidingYardModel") (by decide +kernel) (fun _ h => h) (v := .ref (ad 13 0)) rfl dX10_ofTeam_96 ?_
        refine lv_iload_n hx hb dX10_ofTeam_99 rfl (lv_at hl 2 rfl) ?_
        refine nw_iald S hK hN (k := 13) (i := 0) ⟨rfl, rfl⟩ rfl (x := p1) (ht) dX10_ofTeam_100 ?_
        refine nw_calli (va_runV (As := [.int (M 13 0 ((p1 : Int32).toNatClampNeg))]) (rest := []) S (kX10_come l D C A ad M (M 13 0 ((p1 : Int32).toNatClampNeg)) ) (cwV 1 hts gX10_ofTeam_X10_come rfl rfl rfl (by decide +kernel) ⟨Nat.le_of_ble_eq_true rfl, Nat.le_of_ble_eq_true rfl⟩) (nw_preV hK hN hA hS (nw_recv hK hN (k := 0) (i := 0) ⟨rfl, rfl⟩ rfl rfl)) rfl rfl hl.1 rfl (lv_room (Nat.le_of_ble_eq_true rfl)) dX10_ofTeam_101 ⟨Nat.le_of_ble_eq_true rfl, Nat.le_of_ble_eq_true rfl⟩) hS (fun H locs hN hz _ hS => ?_)
        have hf : fX10_ofTeam M p0 p1 p2 p3 = (0, u3 M 0 0 34 (M 13 0 ((p1 : Int32).toNatClampNeg))) := by unfold fX10_ofTeam; rw [if_neg c_1, if_pos c_2, if_pos c_3]
        exact W.iret (v := 0) hx hb hr (fun t ht _ => by rw [hf]; exact nw_end hS hN ht) hS.2.2 dX10_ofTeam_104
    · refine lv_iconst (v := 1) hx hb dX10_ofTeam_86 (by decide) ?_
      have hf : fX10_ofTeam M p0 p1 p2 p3 = (1, M) := by unfold fX10_ofTeam; rw [if_neg c_1, if_neg c_2]
      exact W.iret (v := 1) hx hb hr (fun t ht _ => by rw [hf]; exact nw_end hS hN ht) hS.2.2 dX10_ofTeam_87
  · refine lv_iload hx hb dX10_ofTeam_6 (lv_at hl 4 rfl) ?_
    refine lv_if_ge (x := p3) (tgt := 13) hx hb dX10_ofTeam_8 (by decide) (fun c_9 => ?_) (fun c_9 => ?_)
    · refine lv_aload_n hx hb dX10_ofTeam_13 rfl (lv_at hl 0 rfl) ?_
      refine nw_get S hK hN (k := 0) (i := 0) ⟨rfl, rfl⟩ rfl rfl hin10 13 (by decide) (index := 40) (ref := "RidingYardModel") (by decide +kernel) (fun _ h => h) (v := .ref (ad 13 0)) rfl dX10_ofTeam_14 ?_
      refine lv_iload_n hx hb dX10_ofTeam_17 rfl (lv_at hl 2 rfl) ?_
      refine lv_iload hx hb dX10_ofTeam_18 (lv_at hl 4 rfl) ?_
      refine lv_bipush (v := 8) hx hb dX10_ofTeam_20 (by decide) ?_
      refine nw_callP (W.runS (As := [.int p3, .int 8]) (rest := [.int p1, .ref (ad 13 0)]) S (kX10_least l p3 8) (va_cwS 2 hts gX10_ofTeam_X10_least rfl rfl rfl (by decide +kernel) ⟨Nat.le_of_ble_eq_true rfl, Nat.le_of_ble_eq_true rfl⟩) nw_preP rfl rfl hl.1 rfl (lv_room (Nat.le_of_ble_eq_true rfl)) dX10_ofTeam_22 ⟨Nat.le_of_ble_eq_true rfl, Nat.le_of_ble_eq_true rfl⟩) ?_
      refine nw_iast S hK hN hS (k := 13) (i := 0) ⟨rfl, rfl⟩ (fun _ => rfl) (x := p1) (v := fX10_least p3 8) (ht) dX10_ofTeam_25 (fun H locs hN hz hS => ?_)
      refine lv_aload_n hx hb dX10_ofTeam_26 rfl (lv_at hl 0 rfl) ?_
      refine nw_get S hK hN (k := 0) (i := 0) ⟨rfl, rfl⟩ rfl rfl hin10 14 (by decide) (index := 43) (ref := "RidingYardModel") (by decide +kernel) (fun _ h => h) (v := .ref (ad 14 0)) rfl dX10_ofTeam_27 ?_
      refine lv_iload_n hx hb dX10_ofTeam_30 rfl (lv_at hl 2 rfl) ?_
      refine lv_iload_n hx hb dX10_ofTeam_31 rfl (lv_at hl 3 rfl) ?_
      refine lv_iconst (v := 3) hx hb dX10_ofTeam_32 (by decide) ?_
      refine nw_callP (W.runS (As := [.int p2, .int 3]) (rest := [.int p1, .ref (ad 14 0)]) S (kX10_modulo l p2 3 (by decide)) (va_cwS 2 hts gX10_ofTeam_X10_modulo rfl rfl rfl (by decide +kernel) ⟨Nat.le_of_ble_eq_true rfl, Nat.le_of_ble_eq_true rfl⟩) nw_preP rfl rfl hl.1 rfl (lv_room (Nat.le_of_ble_eq_true rfl)) dX10_ofTeam_33 ⟨Nat.le_of_ble_eq_true rfl, Nat.le_of_ble_eq_true rfl⟩) ?_
      refine nw_iast S hK hN hS (k := 14) (i := 0) ⟨rfl, rfl⟩ (fun _ => rfl) (x := p1) (v := fX10_modulo p2 3) (ht) dX10_ofTeam_36 (fun H locs hN hz hS => ?_)
      refine lv_iconst (v := 0) hx hb dX10_ofTeam_37 (by decide) ?_
      refine lv_istore (lv' := [(5, .int 0), (0, .ref (ad 0 0)), (1, .int p0), (2, .int p1), (3, .int p2), (4, .int p3)]) hx hb dX10_ofTeam_38 hl (by decide) rfl (fun ls hl => ?_)
      refine lpW (σ := Int32 × (Nat → Nat → Nat → Int32)) 9 (0, u3 (u3 M 13 0 ((p1 : Int32).toNatClampNeg) (fX10_least p3 8)) 14 0 ((p1 : Int32).toNatClampNeg) (fX10_modulo p2 3)) (fun n x H locs ls => lv_has ls 6 [(5, .int x.1), (0, .ref (ad 0 0)), (1, .int p0), (2, .int p1), (3, .int p2), (4, .int p3)] ∧ nw D (enM C) domM A ad x.2 H ∧ va_S A s.heap H locs ∧ fX10_ofTeam M p0 p1 p2 p3 = gX10_ofTeam_40 p0 p1 p2 p3 n x.1 (x.2) ∧ (∃ i : Nat, x.1 = nI i ∧ i ≤ 8 ∧ i + n = 9)) 40 (fun n x H locs ls hP ih => ?_) ⟨lv_sub hl [0, 1, 2, 3, 4, 5] rfl, hN, hS, by unfold fX10_ofTeam; rw [if_pos c_1, if_pos c_9], 0, rfl, by omega, rfl⟩
      obtain ⟨x5, Z40⟩ := x
      obtain ⟨hl, hN, hS, hfe, hinv⟩ := hP
      dsimp only at hl hN hfe hinv
      obtain ⟨i, hi1, hi2, hi3⟩ := hinv
      obtain ⟨n, rfl⟩ : ∃ k, n = k + 1 := ⟨n - 1, by omega⟩
      refine lv_iload hx hb dX10_ofTeam_40 (lv_at hl 0 rfl) ?_
      refine lv_bipush (v := 8) hx hb dX10_ofTeam_42 (by decide) ?_
      refine lv_icmp_ge (x := x5) (y := 8) (tgt := 66) hx hb dX10_ofTeam_44 (by decide) (fun c_10 => ?_) (fun c_10 => ?_)
      · refine lv_aload_n hx hb dX10_ofTeam_66 rfl (lv_at hl 1 rfl) ?_
        refine lv_aload_n hx hb dX10_ofTeam_67 rfl (lv_at hl 1 rfl) ?_
        refine nw_get S hK hN (k := 0) (i := 0) ⟨rfl, rfl⟩ rfl rfl hin10 13 (by decide) (index := 40) (ref := "RidingYardModel") (by decide +kernel) (fun _ h => h) (v := .ref (ad 13 0)) rfl dX10_ofTeam_68 ?_
        refine lv_iload_n hx hb dX10_ofTeam_71 rfl (lv_at hl 3 rfl) ?_
        refine nw_iald S hK hN (k := 13) (i := 0) ⟨rfl, rfl⟩ rfl (x := p1) (ht) dX10_ofTeam_72 ?_
        refine nw_calli (va_runV (As := [.int (Z40 13 0 ((p1 : Int32).toNatClampNeg))]) (rest := []) S (kX10_come l D C A ad Z40 (Z40 13 0 ((p1 : Int32).toNatClampNeg)) ) (cwV 1 hts gX10_ofTeam_X10_come rfl rfl rfl (by decide +kernel) ⟨Nat.le_of_ble_eq_true rfl, Nat.le_of_ble_eq_true rfl⟩) (nw_preV hK hN hA hS (nw_recv hK hN (k := 0) (i := 0) ⟨rfl, rfl⟩ rfl rfl)) rfl rfl hl.1 rfl (lv_room (Nat.le_of_ble_eq_true rfl)) dX10_ofTeam_73 ⟨Nat.le_of_ble_eq_true rfl, Nat.le_of_ble_eq_true rfl⟩) hS (fun H locs hN hz _ hS => ?_)
        have hf : fX10_ofTeam M p0 p1 p2 p3 = (0, u3 Z40 0 0 34 (Z40 13 0 ((p1 : Int32).toNatClampNeg))) := by rw [hfe, gX10_ofTeam_40_s, if_pos c_10]
        exact W.iret (v := 0) hx hb hr (fun t ht _ => by rw [hf]; exact nw_end hS hN ht) hS.2.2 dX10_ofTeam_76
      · refine lv_aload_n hx hb dX10_ofTeam_47 rfl (lv_at hl 1 rfl) ?_
        refine nw_get S hK hN (k := 0) (i := 0) ⟨rfl, rfl⟩ rfl rfl hin10 15 (by decide) (index := 46) (ref := "RidingYardModel") (by decide +kernel) (fun _ h => h) (v := .ref (ad 15 0)) rfl dX10_ofTeam_48 ?_
        refine lv_bipush (v := 8) hx hb dX10_ofTeam_51 (by decide) ?_
        refine lv_iload_n hx hb dX10_ofTeam_53 rfl (lv_at hl 3 rfl) ?_
        refine lv_imul hx hb dX10_ofTeam_54 ?_
        refine lv_iload hx hb dX10_ofTeam_55 (lv_at hl 0 rfl) ?_
        refine lv_iadd hx hb dX10_ofTeam_57 ?_
        refine lv_iconst (v := (-1)) hx hb dX10_ofTeam_58 (by decide) ?_
        refine nw_iast S hK hN hS (k := 15) (i := 0) ⟨rfl, rfl⟩ (fun _ => rfl) (x := (8 * p1) + x5) (v := (-1)) (ix_in (N := 6) (B := 8) ⟨rfl, by decide, by decide⟩ ht hi1 (cnt_lt (B := 8) hi1 hi3 rfl (by decide) c_10)) dX10_ofTeam_59 (fun H locs hN hz hS => ?_)
        refine lv_iinc (v := x5 + 1) (lv' := [(5, .int (x5 + 1)), (0, .ref (ad 0 0)), (1, .int p0), (2, .int p1), (3, .int p2), (4, .int p3)]) hx hb dX10_ofTeam_60 hl (k := 0) rfl rfl (by decide) rfl (fun ls hl => ?_)
        refine lv_goto (tgt := 40) hx hb dX10_ofTeam_63 (by decide) ?_
        exact ih n (x5 + 1, u3 Z40 15 0 (((8 * p1) + x5 : Int32).toNatClampNeg) (-1)) _ _ _ (by omega) ⟨lv_sub hl [0, 1, 2, 3, 4, 5] rfl, hN, hS, by rw [hfe, gX10_ofTeam_40_s, if_neg c_10], cnt_back (B := 8) hi1 hi3 rfl (by decide) c_10⟩
    · refine lv_iconst (v := 2) hx hb dX10_ofTeam_11 (by decide) ?_
      have hf : fX10_ofTeam M p0 p1 p2 p3 = (2, M) := by unfold fX10_ofTeam; rw [if_pos c_1, if_neg c_9]
      exact W.iret (v := 2) hx hb hr (fun t ht _ => by rw [hf]; exact nw_end hS hN ht) hS.2.2 dX10_ofTeam_12
set_option maxHeartbeats 4000000 in
set_option maxRecDepth 100000 in
theorem kX10_ofLedger (l : Launch) (D : va_G) (C : Nat → ClassId) (A : Nat → Prop) (ad : Nat → Nat → Nat) (M : Nat → Nat → Nat → Int32) (p0 p1 p2 p3 : Int32) (kk : Nat) (hI : InvM kk M) (hl4 : vp_in p1 4) : Met l yX10_ofLedger wsX10_ofLedger ({ frames := 1, cells := 0, slots := 0, locals := 22 }) (va_Pc [.ref (ad 0 0), .int p0, .int p1, .int p2, .int p3] (PW D C A (nw D (enM C) domM A ad M))) (nQ A (some (.int (fX10_ofLedger M p0 p1 p2 p3).1)) (nw D (enM C) domM A ad (fX10_ofLedger M p0 p1 p2 p3).2)) 0 0 A := by
  refine Met.ofW (cc := cX10_ofLedger) (maxL := 7) (ret := (some .int)) (by decide) rfl ?_
  intro p e s m args below meth c s₁ B hml hv
  obtain ⟨rfl, hK, hN, hA⟩ := hv
  have hx := B.exec
  have hb := B.bytes
  have hr := B.returns
  have hts := atoms_spec (ws := wsX10_ofLedger) B.pre
  have hown : s.vm.findClass RX10 = some m.cls := findClass_of_methodNamed B.named
  have hlocks := B.notSynchronized
  have S : CallFix p m c cX10_ofLedger 7 s _ wsX10_ofLedger RX10 := ⟨hx, hb, hml, hown, hts⟩
  have hin10 : ∀ w ∈ wsX100, w ∈ wsX10_ofLedger := by decide +kernel
  have hS : va_S A s.heap s.heap [] := va_S.rf
  have hl := lv_entry ([.ref (ad 0 0), .int p0, .int p1, .int p2, .int p3]) (n := 7) (Nat.le_of_ble_eq_true rfl)
  rw [lg_entry_eq]
  generalize (lg_sl ([.ref (ad 0 0), .int p0, .int p1, .int p2, .int p3]) ++ List.replicate (7 - (lg_sl ([.ref (ad 0 0), .int p0, .int p1, .int p2, .int p3])).length) Slot.unset).toArray = ls at hl ⊢
  have hl : lv_has ls 7 [(0, .ref (ad 0 0)), (1, .int p0), (2, .int p1), (3, .int p2), (4, .int p3)] := hl
  refine lv_iload_n hx hb dX10_ofLedger_0 rfl (lv_at hl 1 rfl) ?_
  refine lv_bipush (v := 12) hx hb dX10_ofLedger_1 (by decide) ?_
  refine lv_icmp_ne (x := p0) (y := 12) (tgt := 64) hx hb dX10_ofLedger_3 (by decide) (fun c_1 => ?_) (fun c_1 => ?_)
  · refine lv_aload_n hx hb dX10_ofLedger_64 rfl (lv_at hl 0 rfl) ?_
    refine nw_get S hK hN (k := 0) (i := 0) ⟨rfl, rfl⟩ rfl rfl hin10 16 (by decide) (index := 49) (ref := "RidingYardModel") (by decide +kernel) (fun _ h => h) (v := .ref (ad 16 0)) rfl dX10_ofLedger_65 ?_
    refine lv_iload_n hx hb dX10_ofLedger_68 rfl (lv_at hl 2 rfl) ?_
    refine nw_iald S hK hN (k := 16) (i := 0) ⟨rfl, rfl⟩ rfl (x := p1) (hl4) dX10_ofLedger_69 ?_
    refine lv_if_ge (x := M 16 0 ((p1 : Int32).toNatClampNeg)) (tgt := 75) hx hb dX10_ofLedger_70 (by decide) (fun c_2 => ?_) (fun c_2 => ?_)
    · refine lv_iload_n hx hb dX10_ofLedger_75 rfl (lv_at hl 1 rfl) ?_
      refine lv_bipush (v := 13) hx hb dX10_ofLedger_76 (by decide) ?_
      refine lv_icmp_ne (x := p0) (y := 13) (tgt := 131) hx hb dX10_ofLedger_78 (by decide) (fun c_3 => ?_) (fun c_3 => ?_)
      · refine lv_iconst (v := 0) hx hb dX10_ofLedger_131 (by decide) ?_
        refine lv_istore (lv' := [(5, .int 0), (0, .ref (ad 0 0)), (1, .int p0), (2, .int p1), (3, .int p2), (4, .int p3)]) hx hb dX10_ofLedger_132 hl (by decide) rfl (fun ls hl => ?_)
        refine lv_iconst (v := 0) hx hb dX10_ofLedger_134 (by decide) ?_
        refine lv_istore (lv' := [(6, .int 0), (5, .int 0), (0, .ref (ad 0 0)), (1, .int p0), (2, .int p1), (3, .int p2), (4, .int p3)]) hx hb dX10_ofLedger_135 hl (by decide) rfl (fun ls hl => ?_)
        refine lpW (σ := Int32 × Int32 × (Nat → Nat → Nat → Int32)) 13 (0, 0, M) (fun n x H locs ls => lv_has ls 7 [(6, .int x.1), (5, .int x.2.1), (0, .ref (ad 0 0)), (1, .int p0), (2, .int p1), (3, .int p2), (4, .int p3)] ∧ nw D (enM C) domM A ad x.2.2 H ∧ va_S A s.heap H locs ∧ fX10_ofLedger M p0 p1 p2 p3 = gX10_ofLedger_137 p0 p1 p2 p3 n x.1 x.2.1 (x.2.2) ∧ (InvM kk x.2.2 ∧ ∃ i : Nat, x.1 = nI i ∧ i ≤ 12 ∧ i + n = 13)) 137 (fun n x H locs ls hP ih => ?_) ⟨lv_sub hl [0, 1, 2, 3, 4, 5, 6] rfl, hN, hS, by unfold fX10_ofLedger; rw [if_neg c_1, if_pos c_2, if_neg c_3], hI, 0, rfl, by omega, rfl⟩
        obtain ⟨x6, x5, Z137⟩ := x
        obtain ⟨hl, hN, hS, hfe, hinv⟩ := hP
        dsimp only at hl hN hfe hinv
        obtain ⟨hZ, i, hi1, hi2, hi3⟩ := hinv
        obtain ⟨n, rfl⟩ : ∃ k, n = k + 1 := ⟨n - 1, by omega⟩
        refine lv_iload hx hb dX10_ofLedger_137 (lv_at hl 0 rfl) ?_
        refine lv_aload_n hx hb dX10_ofLedger_139 rfl (lv_at hl 2 rfl) ?_
        refine nw_get S hK hN (k := 0) (i := 0) ⟨rfl, rfl⟩ rfl rfl hin10 16 (by decide) (index := 49) (ref := "RidingYardModel") (by decide +kernel) (fun _ h => h) (v := .ref (ad 16 0)) rfl dX10_ofLedger_140 ?_
        refine lv_iload_n hx hb dX10_ofLedger_143 rfl (lv_at hl 4 rfl) ?_
        refine nw_iald S hK hN (k := 16) (i := 0) ⟨rfl, rfl⟩ rfl (x := p1) (hl4) dX10_ofLedger_144 ?_
        refine lv_icmp_ge (x := x6) (y := Z137 16 0 ((p1 : Int32).toNatClampNeg)) (tgt := 171) hx hb dX10_ofLedger_145 (by decide) (fun c_4 => ?_) (fun c_4 => ?_)
        · refine lv_aload_n hx hb dX10_ofLedger_171 rfl (lv_at hl 2 rfl) ?_
          refine lv_iload hx hb dX10_ofLedger_172 (lv_at hl 1 rfl) ?_
          refine nw_calli (va_runV (As := [.int x5]) (rest := []) S (kX10_come l D C A ad Z137 x5 ) (cwV 1 hts gX10_ofLedger_X10_come rfl rfl rfl (by decide +kernel) ⟨Nat.le_of_ble_eq_true rfl, Nat.le_of_ble_eq_true rfl⟩) (nw_preV hK hN hA hS (nw_recv hK hN (k := 0) (i := 0) ⟨rfl, rfl⟩ rfl rfl)) rfl rfl hl.1 rfl (lv_room (Nat.le_of_ble_eq_true rfl)) dX10_ofLedger_174 ⟨Nat.le_of_ble_eq_true rfl, Nat.le_of_ble_eq_true rfl⟩) hS (fun H locs hN hz _ hS => ?_)
          have hf : fX10_ofLedger M p0 p1 p2 p3 = (0, u3 Z137 0 0 34 x5) := by rw [hfe, gX10_ofLedger_137_s, if_pos c_4]
          exact W.iret (v := 0) hx hb hr (fun t ht _ => by rw [hf]; exact nw_end hS hN ht) hS.2.2 dX10_ofLedger_177
        · refine lv_iload hx hb dX10_ofLedger_148 (lv_at hl 1 rfl) ?_
          refine lv_aload_n hx hb dX10_ofLedger_150 rfl (lv_at hl 2 rfl) ?_
          refine nw_get S hK hN (k := 0) (i := 0) ⟨rfl, rfl⟩ rfl rfl hin10 17 (by decide) (index := 52) (ref := "RidingYardModel") (by decide +kernel) (fun _ h => h) (v := .ref (ad 17 0)) rfl dX10_ofLedger_151 ?_
          refine lv_bipush (v := 12) hx hb dX10_ofLedger_154 (by decide) ?_
          refine lv_iload_n hx hb dX10_ofLedger_156 rfl (lv_at hl 4 rfl) ?_
          refine lv_imul hx hb dX10_ofLedger_157 ?_
          refine lv_iload hx hb dX10_ofLedger_158 (lv_at hl 0 rfl) ?_
          refine lv_iadd hx hb dX10_ofLedger_160 ?_
          refine nw_iald S hK hN (k := 17) (i := 0) ⟨rfl, rfl⟩ rfl (x := (12 * p1) + x6) (invM_sum hZ hl4 hi1 hi2 c_4) dX10_ofLedger_161 ?_
          refine lv_iadd hx hb dX10_ofLedger_162 ?_
          refine lv_istore (lv' := [(5, .int (x5 + (Z137 17 0 (((12 * p1) + x6 : Int32).toNatClampNeg)))), (6, .int x6), (0, .ref (ad 0 0)), (1, .int p0), (2, .int p1), (3, .int p2), (4, .int p3)]) hx hb dX10_ofLedger_163 hl (by decide) rfl (fun ls hl => ?_)
          refine lv_iinc (v := x6 + 1) (lv' := [(6, .int (x6 + 1)), (5, .int (x5 + (Z137 17 0 (((12 * p1) + x6 : Int32).toNatClampNeg)))), (0, .ref (ad 0 0)), (1, .int p0), (2, .int p1), (3, .int p2), (4, .int p3)]) hx hb dX10_ofLedger_165 hl (k := 1) rfl rfl (by decide) rfl (fun ls hl => ?_)
          refine lv_goto (tgt := 137) hx hb dX10_ofLedger_168 (by decide) ?_
          exact ih n (x6 + 1, x5 + (Z137 17 0 (((12 * p1) + x6 : Int32).toNatClampNeg)), Z137) _ _ _ (by omega) ⟨lv_sub hl [0, 1, 2, 3, 4, 5, 6] rfl, hN, hS, by rw [hfe, gX10_ofLedger_137_s, if_neg c_4], ⟨hZ, sum_back hZ hl4 hi1 hi2 hi3 c_4⟩⟩
      · refine lv_iload_n hx hb dX10_ofLedger_81 rfl (lv_at hl 3 rfl) ?_
        refine lv_iconst (v := 0) hx hb dX10_ofLedger_82 (by decide) ?_
        refine lv_aload_n hx hb dX10_ofLedger_83 rfl (lv_at hl 0 rfl) ?_
        refine nw_get S hK hN (k := 0) (i := 0) ⟨rfl, rfl⟩ rfl rfl hin10 16 (by decide) (index := 49) (ref := "RidingYardModel") (by decide +kernel) (fun _ h => h) (v := .ref (ad 16 0)) rfl dX10_ofLedger_84 ?_
        refine lv_iload_n hx hb dX10_ofLedger_87 rfl (lv_at hl 2 rfl) ?_
        refine nw_iald S hK hN (k := 16) (i := 0) ⟨rfl, rfl⟩ rfl (x := p1) (hl4) dX10_ofLedger_88 ?_
        refine lv_iconst (v := 1) hx hb dX10_ofLedger_89 (by decide) ?_
        refine lv_isub hx hb dX10_ofLedger_90 ?_
        refine nw_callP (W.runS (As := [.int p2, .int 0, .int ((M 16 0 ((p1 : Int32).toNatClampNeg)) - 1)]) (rest := []) S (kX10_in l p2 0 ((M 16 0 ((p1 : Int32).toNatClampNeg)) - 1)) (va_cwS 3 hts gX10_ofLedger_X10_in rfl rfl rfl (by decide +kernel) ⟨Nat.le_of_ble_eq_true rfl, Nat.le_of_ble_eq_true rfl⟩) nw_preP rfl rfl hl.1 rfl (lv_room (Nat.le_of_ble_eq_true rfl)) dX10_ofLedger_91 ⟨Nat.le_of_ble_eq_true rfl, Nat.le_of_ble_eq_true rfl⟩) ?_
        refine lv_if_ne (x := fX10_in p2 0 ((M 16 0 ((p1 : Int32).toNatClampNeg)) - 1)) (tgt := 99) hx hb dX10_ofLedger_94 (by decide) (fun c_5 => ?_) (fun c_5 => ?_)
        · refine lv_aload_n hx hb dX10_ofLedger_99 rfl (lv_at hl 0 rfl) ?_
          refine nw_get S hK hN (k := 0) (i := 0) ⟨rfl, rfl⟩ rfl rfl hin10 17 (by decide) (index := 52) (ref := "RidingYardModel") (by decide +kernel) (fun _ h => h) (v := .ref (ad 17 0)) rfl dX10_ofLedger_100 ?_
          refine lv_bipush (v := 12) hx hb dX10_ofLedger_103 (by decide) ?_
          refine lv_iload_n hx hb dX10_ofLedger_105 rfl (lv_at hl 2 rfl) ?_
          refine lv_imul hx hb dX10_ofLedger_106 ?_
          refine lv_iload_n hx hb dX10_ofLedger_107 rfl (lv_at hl 3 rfl) ?_
          refine lv_iadd hx hb dX10_ofLedger_108 ?_
          refine lv_dup2_11 hx hb dX10_ofLedger_109 rfl rfl ?_
          refine nw_iald S hK hN (k := 17) (i := 0) ⟨rfl, rfl⟩ rfl (x := (12 * p1) + p2) (invM_led hI hl4 c_5) dX10_ofLedger_110 ?_
          refine lv_iload hx hb dX10_ofLedger_111 (lv_at hl 4 rfl) ?_
          refine lv_iadd hx hb dX10_ofLedger_113 ?_
          refine nw_iast S hK hN hS (k := 17) (i := 0) ⟨rfl, rfl⟩ (fun _ => rfl) (x := (12 * p1) + p2) (v := (M 17 0 (((12 * p1) + p2 : Int32).toNatClampNeg)) + p3) (invM_led hI hl4 c_5) dX10_ofLedger_114 (fun H locs hN hz hS => ?_)
          refine lv_aload_n hx hb dX10_ofLedger_115 rfl (lv_at hl 0 rfl) ?_
          refine lv_aload_n hx hb dX10_ofLedger_116 rfl (lv_at hl 0 rfl) ?_
          refine nw_get S hK hN (k := 0) (i := 0) ⟨rfl, rfl⟩ rfl rfl hin10 17 (by decide) (index := 52) (ref := "RidingYardModel") (by decide +kernel) (fun _ h => h) (v := .ref (ad 17 0)) rfl dX10_ofLedger_117 ?_
          refine lv_bipush (v := 12) hx hb dX10_ofLedger_120 (by decide) ?_
          refine lv_iload_n hx hb dX10_ofLedger_122 rfl (lv_at hl 2 rfl) ?_
          refine lv_imul hx hb dX10_ofLedger_123 ?_
          refine lv_iload_n hx hb dX10_ofLedger_124 rfl (lv_at hl 3 rfl) ?_
          refine lv_iadd hx hb dX10_ofLedger_125 ?_
          refine nw_iald S hK hN (k := 17) (i := 0) ⟨rfl, rfl⟩ rfl (x := (12 * p1) + p2) (invM_led hI hl4 c_5) dX10_ofLedger_126 ?_
          refine nw_calli (va_runV (As := [.int ((M 17 0 (((12 * p1) + p2 : Int32).toNatClampNeg)) + p3)]) (rest := []) S (kX10_come l D C A ad (u3 M 17 0 (((12 * p1) + p2 : Int32).toNatClampNeg) ((M 17 0 (((12 * p1) + p2 : Int32).toNatClampNeg)) + p3)) ((M 17 0 (((12 * p1) + p2 : Int32).toNatClampNeg)) + p3) ) (cwV 1 hts gX10_ofLedger_X10_come rfl rfl rfl (by decide +kernel) ⟨Nat.le_of_ble_eq_true rfl, Nat.le_of_ble_eq_true rfl⟩) (nw_preV hK hN hA hS (nw_recv hK hN (k := 0) (i := 0) ⟨rfl, rfl⟩ rfl rfl)) rfl rfl hl.1 rfl (lv_room (Nat.le_of_ble_eq_true rfl)) dX10_ofLedger_127 ⟨Nat.le_of_ble_eq_true rfl, Nat.le_of_ble_eq_true rfl⟩) hS (fun H locs hN hz _ hS => ?_)
          have hf : fX10_ofLedger M p0 p1 p2 p3 = (0, u3 (u3 M 17 0 (((12 * p1) + p2 : Int32).toNatClampNeg) ((M 17 0 (((12 * p1) + p2 : Int32).toNatClampNeg)) + p3)) 0 0 34 ((M 17 0 (((12 * p1) + p2 : Int32).toNatClampNeg)) + p3)) := by unfold fX10_ofLedger; rw [if_neg c_1, if_pos c_2, if_pos c_3, if_neg c_5]
          exact W.iret (v := 0) hx hb hr (fun t ht _ => by rw [hf]; exact nw_end hS hN ht) hS.2.2 dX10_ofLedger_130
        · refine lv_iconst (v := 5) hx hb dX10_ofLedger_97 (by decide) ?_
          have hf : fX10_ofLedger M p0 p1 p2 p3 = (5, M) := by unfold fX10_ofLedger; rw [if_neg c_1, if_pos c_2, if_pos c_3, if_pos c_5]
          exact W.iret (v := 5) hx hb hr (fun t ht _ => by rw [hf]; exact nw_end hS hN ht) hS.2.2 dX10_ofLedger_98
    · refine lv_iconst (v := 1) hx hb dX10_ofLedger_73 (by decide) ?_
      have hf : fX10_ofLedger M p0 p1 p2 p3 = (1, M) := by unfold fX10_ofLedger; rw [if_neg c_1, if_neg c_2]
      exact W.iret (v := 1) hx hb hr (fun t ht _ => by rw [hf]; exact nw_end hS hN ht) hS.2.2 dX10_ofLedger_74
  · refine lv_iload_n hx hb dX10_ofLedger_6 rfl (lv_at hl 3 rfl) ?_
    refine lv_if_ge (x := p2) (tgt := 12) hx hb dX10_ofLedger_7 (by decide) (fun c_6 => ?_) (fun c_6 => ?_)
    · refine lv_aload_n hx hb dX10_ofLedger_12 rfl (lv_at hl 0 rfl) ?_
      refine nw_get S hK hN (k := 0) (i := 0) ⟨rfl, rfl⟩ rfl rfl hin10 16 (by decide) (index := 49) (ref := "RidingYardModel") (by decide +kernel) (fun _ h => h) (v := .ref (ad 16 0)) rfl dX10_ofLedger_13 ?_
      refine lv_iload_n hx hb dX10_ofLedger_16 rfl (lv_at hl 2 rfl) ?_
      refine lv_iload_n hx hb dX10_ofLedger_17 rfl (lv_at hl 3 rfl) ?_
      refine lv_bipush (v := 12) hx hb dX10_ofLedger_18 (by decide) ?_
      refine nw_callP (W.runS (As := [.int p2, .int 12]) (rest := [.int p1, .ref (ad 16 0)]) S (kX10_least l p2 12) (va_cwS 2 hts gX10_ofLedger_X10_least rfl rfl rfl (by decide +kernel) ⟨Nat.le_of_ble_eq_true rfl, Nat.le_of_ble_eq_true rfl⟩) nw_preP rfl rfl hl.1 rfl (lv_room (Nat.le_of_ble_eq_true rfl)) dX10_ofLedger_20 ⟨Nat.le_of_ble_eq_true rfl, Nat.le_of_ble_eq_true rfl⟩) ?_
      refine nw_iast S hK hN hS (k := 16) (i := 0) ⟨rfl, rfl⟩ (fun _ => rfl) (x := p1) (v := fX10_least p2 12) (hl4) dX10_ofLedger_23 (fun H locs hN hz hS => ?_)
      refine lv_iconst (v := 0) hx hb dX10_ofLedger_24 (by decide) ?_
      refine lv_istore (lv' := [(5, .int 0), (0, .ref (ad 0 0)), (1, .int p0), (2, .int p1), (3, .int p2), (4, .int p3)]) hx hb dX10_ofLedger_25 hl (by decide) rfl (fun ls hl => ?_)
      refine lpW (σ := Int32 × (Nat → Nat → Nat → Int32)) 13 (0, u3 M 16 0 ((p1 : Int32).toNatClampNeg) (fX10_least p2 12)) (fun n x H locs ls => lv_has ls 7 [(5, .int x.1), (0, .ref (ad 0 0)), (1, .int p0), (2, .int p1), (3, .int p2), (4, .int p3)] ∧ nw D (enM C) domM A ad x.2 H ∧ va_S A s.heap H locs ∧ fX10_ofLedger M p0 p1 p2 p3 = gX10_ofLedger_27 p0 p1 p2 p3 n x.1 (x.2) ∧ (∃ i : Nat, x.1 = nI i ∧ i ≤ 12 ∧ i + n = 13)) 27 (fun n x H locs ls hP ih => ?_) ⟨lv_sub hl [0, 1, 2, 3, 4, 5] rfl, hN, hS, by unfold fX10_ofLedger; rw [if_pos c_1, if_pos c_6], 0, rfl, by omega, rfl⟩
      obtain ⟨x5, Z27⟩ := x
      obtain ⟨hl, hN, hS, hfe, hinv⟩ := hP
      dsimp only at hl hN hfe hinv
      obtain ⟨i, hi1, hi2, hi3⟩ := hinv
      obtain ⟨n, rfl⟩ : ∃ k, n = k + 1 := ⟨n - 1, by omega⟩
      refine lv_iload hx hb dX10_ofLedger_27 (lv_at hl 0 rfl) ?_
      refine lv_bipush (v := 12) hx hb dX10_ofLedger_29 (by decide) ?_
      refine lv_icmp_ge (x := x5) (y := 12) (tgt := 53) hx hb dX10_ofLedger_31 (by decide) (fun c_7 => ?_) (fun c_7 => ?_)
      · refine lv_aload_n hx hb dX10_ofLedger_53 rfl (lv_at hl 1 rfl) ?_
        refine lv_aload_n hx hb dX10_ofLedger_54 rfl (lv_at hl 1 rfl) ?_
        refine nw_get S hK hN (k := 0) (i := 0) ⟨rfl, rfl⟩ rfl rfl hin10 16 (by decide) (index := 49) (ref := "RidingYardModel") (by decide +kernel) (fun _ h => h) (v := .ref (ad 16 0)) rfl dX10_ofLedger_55 ?_
        refine lv_iload_n hx hb dX10_ofLedger_58 rfl (lv_at hl 3 rfl) ?_
        refine nw_iald S hK hN (k := 16) (i := 0) ⟨rfl, rfl⟩ rfl (x := p1) (hl4) dX10_ofLedger_59 ?_
        refine nw_calli (va_runV (As := [.int (Z27 16 0 ((p1 : Int32).toNatClampNeg))]) (rest := []) S (kX10_come l D C A ad Z27 (Z27 16 0 ((p1 : Int32).toNatClampNeg)) ) (cwV 1 hts gX10_ofLedger_X10_come rfl rfl rfl (by decide +kernel) ⟨Nat.le_of_ble_eq_true rfl, Nat.le_of_ble_eq_true rfl⟩) (nw_preV hK hN hA hS (nw_recv hK hN (k := 0) (i := 0) ⟨rfl, rfl⟩ rfl rfl)) rfl rfl hl.1 rfl (lv_room (Nat.le_of_ble_eq_true rfl)) dX10_ofLedger_60 ⟨Nat.le_of_ble_eq_true rfl, Nat.le_of_ble_eq_true rfl⟩) hS (fun H locs hN hz _ hS => ?_)
        have hf : fX10_ofLedger M p0 p1 p2 p3 = (0, u3 Z27 0 0 34 (Z27 16 0 ((p1 : Int32).toNatClampNeg))) := by rw [hfe, gX10_ofLedger_27_s, if_pos c_7]
        exact W.iret (v := 0) hx hb hr (fun t ht _ => by rw [hf]; exact nw_end hS hN ht) hS.2.2 dX10_ofLedger_63
      · refine lv_aload_n hx hb dX10_ofLedger_34 rfl (lv_at hl 1 rfl) ?_
        refine nw_get S hK hN (k := 0) (i := 0) ⟨rfl, rfl⟩ rfl rfl hin10 17 (by decide) (index := 52) (ref := "RidingYardModel") (by decide +kernel) (fun _ h => h) (v := .ref (ad 17 0)) rfl dX10_ofLedger_35 ?_
        refine lv_bipush (v := 12) hx hb dX10_ofLedger_38 (by decide) ?_
        refine lv_iload_n hx hb dX10_ofLedger_40 rfl (lv_at hl 3 rfl) ?_
        refine lv_imul hx hb dX10_ofLedger_41 ?_
        refine lv_iload hx hb dX10_ofLedger_42 (lv_at hl 0 rfl) ?_
        refine lv_iadd hx hb dX10_ofLedger_44 ?_
        refine lv_iconst (v := 0) hx hb dX10_ofLedger_45 (by decide) ?_
        refine nw_iast S hK hN hS (k := 17) (i := 0) ⟨rfl, rfl⟩ (fun _ => rfl) (x := (12 * p1) + x5) (v := 0) (ix_in (N := 4) (B := 12) ⟨rfl, by decide, by decide⟩ hl4 hi1 (cnt_lt (B := 12) hi1 hi3 rfl (by decide) c_7)) dX10_ofLedger_46 (fun H locs hN hz hS => ?_)
        refine lv_iinc (v := x5 + 1) (lv' := [(5, .int (x5 + 1)), (0, .ref (ad 0 0)), (1, .int p0), (2, .int p1), (3, .int p2), (4, .int p3)]) hx hb dX10_ofLedger_47 hl (k := 0) rfl rfl (by decide) rfl (fun ls hl => ?_)
        refine lv_goto (tgt := 27) hx hb dX10_ofLedger_50 (by decide) ?_
        exact ih n (x5 + 1, u3 Z27 17 0 (((12 * p1) + x5 : Int32).toNatClampNeg) 0) _ _ _ (by omega) ⟨lv_sub hl [0, 1, 2, 3, 4, 5] rfl, hN, hS, by rw [hfe, gX10_ofLedger_27_s, if_neg c_7], cnt_back (B := 12) hi1 hi3 rfl (by decide) c_7⟩
    · refine lv_iconst (v := 2) hx hb dX10_ofLedger_10 (by decide) ?_
      have hf : fX10_ofLedger M p0 p1 p2 p3 = (2, M) := by unfold fX10_ofLedger; rw [if_pos c_1, if_neg c_6]
      exact W.iret (v := 2) hx hb hr (fun t ht _ => by rw [hf]; exact nw_end hS hN ht) hS.2.2 dX10_ofLedger_11
set_option maxHeartbeats 4000000 in
set_option maxRecDepth 100000 in
theorem kX10_ofTable (l : Launch) (D : va_G) (C : Nat → ClassId) (A : Nat → Prop) (ad : Nat → Nat → Nat) (M : Nat → Nat → Nat → Int32) (p0 p1 p2 p3 : Int32) (kk : Nat) (hI : InvM kk M) (ht4 : vp_in p1 4) : Met l yX10_ofTable wsX10_ofTable ({ frames := 1, cells := 0, slots := 0, locals := 22 }) (va_Pc [.ref (ad 0 0), .int p0, .int p1, .int p2, .int p3] (PW D C A (nw D (enM C) domM A ad M))) (nQ A (some (.int (fX10_ofTable M p0 p1 p2 p3).1)) (nw D (enM C) domM A ad (fX10_ofTable M p0 p1 p2 p3).2)) 0 0 A := by
  refine Met.ofW (cc := cX10_ofTable) (maxL := 6) (ret := (some .int)) (by decide) rfl ?_
  intro p e s m args below meth c s₁ B hml hv
  obtain ⟨rfl, hK, hN, hA⟩ := hv
  have hx := B.exec
  have hb := B.bytes
  have hr := B.returns
  have hts := atoms_spec (ws := wsX10_ofTable) B.pre
  have hown : s.vm.findClass RX10 = some m.cls := findClass_of_methodNamed B.named
  have hlocks := B.notSynchronized
  have S : CallFix p m c cX10_ofTable 6 s _ wsX10_ofTable RX10 := ⟨hx, hb, hml, hown, hts⟩
  have hin10 : ∀ w ∈ wsX100, w ∈ wsX10_ofTable := by decide +kernel
  have hS : va_S A s.heap s.heap [] := va_S.rf
  have hl := lv_entry ([.ref (ad 0 0), .int p0, .int p1, .int p2, .int p3]) (n := 6) (Nat.le_of_ble_eq_true rfl)
  rw [lg_entry_eq]
  generalize (lg_sl ([.ref (ad 0 0), .int p0, .int p1, .int p2, .int p3]) ++ List.replicate (6 - (lg_sl ([.ref (ad 0 0), .int p0, .int p1, .int p2, .int p3])).length) Slot.unset).toArray = ls at hl ⊢
  have hl : lv_has ls 6 [(0, .ref (ad 0 0)), (1, .int p0), (2, .int p1), (3, .int p2), (4, .int p3)] := hl
  refine lv_iload_n hx hb dX10_ofTable_0 rfl (lv_at hl 1 rfl) ?_
  refine lv_bipush (v := 15) hx hb dX10_ofTable_1 (by decide) ?_
  refine lv_icmp_ne (x := p0) (y := 15) (tgt := 106) hx hb dX10_ofTable_3 (by decide) (fun c_1 => ?_) (fun c_1 => ?_)
  · refine lv_aload_n hx hb dX10_ofTable_106 rfl (lv_at hl 0 rfl) ?_
    refine nw_get S hK hN (k := 0) (i := 0) ⟨rfl, rfl⟩ rfl rfl hin10 18 (by decide) (index := 55) (ref := "RidingYardModel") (by decide +kernel) (fun _ h => h) (v := .ref (ad 18 0)) rfl dX10_ofTable_107 ?_
    refine lv_iload_n hx hb dX10_ofTable_110 rfl (lv_at hl 2 rfl) ?_
    refine nw_iald S hK hN (k := 18) (i := 0) ⟨rfl, rfl⟩ rfl (x := p1) (ht4) dX10_ofTable_111 ?_
    refine lv_if_ge (x := M 18 0 ((p1 : Int32).toNatClampNeg)) (tgt := 117) hx hb dX10_ofTable_112 (by decide) (fun c_2 => ?_) (fun c_2 => ?_)
    · refine lv_iload_n hx hb dX10_ofTable_117 rfl (lv_at hl 3 rfl) ?_
      refine lv_iconst (v := 0) hx hb dX10_ofTable_118 (by decide) ?_
      refine lv_aload_n hx hb dX10_ofTable_119 rfl (lv_at hl 0 rfl) ?_
      refine nw_get S hK hN (k := 0) (i := 0) ⟨rfl, rfl⟩ rfl rfl hin10 18 (by decide) (index := 55) (ref := "RidingYardModel") (by decide +kernel) (fun _ h => h) (v := .ref (ad 18 0)) rfl dX10_ofTable_120 ?_
      refine lv_iload_n hx hb dX10_ofTable_123 rfl (lv_at hl 2 rfl) ?_
      refine nw_iald S hK hN (k := 18) (i := 0) ⟨rfl, rfl⟩ rfl (x := p1) (ht4) dX10_ofTable_124 ?_
      refine lv_iconst (v := 1) hx hb dX10_ofTable_125 (by decide) ?_
      refine lv_isub hx hb dX10_ofTable_126 ?_
      refine nw_callP (W.runS (As := [.int p2, .int 0, .int ((M 18 0 ((p1 : Int32).toNatClampNeg)) - 1)]) (rest := []) S (kX10_in l p2 0 ((M 18 0 ((p1 : Int32).toNatClampNeg)) - 1)) (va_cwS 3 hts gX10_ofTable_X10_in rfl rfl rfl (by decide +kernel) ⟨Nat.le_of_ble_eq_true rfl, Nat.le_of_ble_eq_true rfl⟩) nw_preP rfl rfl hl.1 rfl (lv_room (Nat.le_of_ble_eq_true rfl)) dX10_ofTable_127 ⟨Nat.le_of_ble_eq_true rfl, Nat.le_of_ble_eq_true rfl⟩) ?_
      refine lv_if_ne (x := fX10_in p2 0 ((M 18 0 ((p1 : Int32).toNatClampNeg)) - 1)) (tgt := 135) hx hb dX10_ofTable_130 (by decide) (fun c_3 => ?_) (fun c_3 => ?_)
      · refine lv_aload_n hx hb dX10_ofTable_135 rfl (lv_at hl 0 rfl) ?_
        refine nw_get S hK hN (k := 0) (i := 0) ⟨rfl, rfl⟩ rfl rfl hin10 20 (by decide) (index := 61) (ref := "RidingYardModel") (by decide +kernel) (fun _ h => h) (v := .ref (ad 20 0)) rfl dX10_ofTable_136 ?_
        refine lv_bipush (v := 6) hx hb dX10_ofTable_139 (by decide) ?_
        refine lv_iload_n hx hb dX10_ofTable_141 rfl (lv_at hl 2 rfl) ?_
        refine lv_imul hx hb dX10_ofTable_142 ?_
        refine lv_iload_n hx hb dX10_ofTable_143 rfl (lv_at hl 3 rfl) ?_
        refine lv_iadd hx hb dX10_ofTable_144 ?_
        refine nw_zald S hK hN (k := 20) (i := 0) ⟨rfl, rfl⟩ rfl (x := (6 * p1) + p2) (invM_row hI ht4 c_3) dX10_ofTable_145 ?_
        refine lv_if_ne (x := M 20 0 (((6 * p1) + p2 : Int32).toNatClampNeg)) (tgt := 151) hx hb dX10_ofTable_146 (by decide) (fun c_4 => ?_) (fun c_4 => ?_)
        · refine lv_iload hx hb dX10_ofTable_151 (lv_at hl 4 rfl) ?_
          refine lv_iconst (v := 0) hx hb dX10_ofTable_153 (by decide) ?_
          refine lv_aload_n hx hb dX10_ofTable_154 rfl (lv_at hl 0 rfl) ?_
          refine nw_get S hK hN (k := 0) (i := 0) ⟨rfl, rfl⟩ rfl rfl hin10 19 (by decide) (index := 58) (ref := "RidingYardModel") (by decide +kernel) (fun _ h => h) (v := .ref (ad 19 0)) rfl dX10_ofTable_155 ?_
          refine lv_iload_n hx hb dX10_ofTable_158 rfl (lv_at hl 2 rfl) ?_
          refine nw_iald S hK hN (k := 19) (i := 0) ⟨rfl, rfl⟩ rfl (x := p1) (ht4) dX10_ofTable_159 ?_
          refine lv_iconst (v := 1) hx hb dX10_ofTable_160 (by decide) ?_
          refine lv_isub hx hb dX10_ofTable_161 ?_
          refine nw_callP (W.runS (As := [.int p3, .int 0, .int ((M 19 0 ((p1 : Int32).toNatClampNeg)) - 1)]) (rest := []) S (kX10_in l p3 0 ((M 19 0 ((p1 : Int32).toNatClampNeg)) - 1)) (va_cwS 3 hts gX10_ofTable_X10_in rfl rfl rfl (by decide +kernel) ⟨Nat.le_of_ble_eq_true rfl, Nat.le_of_ble_eq_true rfl⟩) nw_preP rfl rfl hl.1 rfl (lv_room (Nat.le_of_ble_eq_true rfl)) dX10_ofTable_162 ⟨Nat.le_of_ble_eq_true rfl, Nat.le_of_ble_eq_true rfl⟩) ?_
          refine lv_if_ne (x := fX10_in p3 0 ((M 19 0 ((p1 : Int32).toNatClampNeg)) - 1)) (tgt := 170) hx hb dX10_ofTable_165 (by decide) (fun c_5 => ?_) (fun c_5 => ?_)
          · refine lv_bipush (v := 36) hx hb dX10_ofTable_170 (by decide) ?_
            refine lv_iload_n hx hb dX10_ofTable_172 rfl (lv_at hl 2 rfl) ?_
            refine lv_imul hx hb dX10_ofTable_173 ?_
            refine lv_bipush (v := 6) hx hb dX10_ofTable_174 (by decide) ?_
            refine lv_iload_n hx hb dX10_ofTable_176 rfl (lv_at hl 3 rfl) ?_
            refine lv_imul hx hb dX10_ofTable_177 ?_
            refine lv_iadd hx hb dX10_ofTable_178 ?_
            refine lv_iload hx hb dX10_ofTable_179 (lv_at hl 4 rfl) ?_
            refine lv_iadd hx hb dX10_ofTable_181 ?_
            refine lv_istore (lv' := [(5, .int (((36 * p1) + (6 * p2)) + p3)), (0, .ref (ad 0 0)), (1, .int p0), (2, .int p1), (3, .int p2), (4, .int p3)]) hx hb dX10_ofTable_182 hl (by decide) rfl (fun ls hl => ?_)
            refine lv_aload_n hx hb dX10_ofTable_184 rfl (lv_at hl 1 rfl) ?_
            refine nw_get S hK hN (k := 0) (i := 0) ⟨rfl, rfl⟩ rfl rfl hin10 21 (by decide) (index := 65) (ref := "RidingYardModel") (by decide +kernel) (fun _ h => h) (v := .ref (ad 21 0)) rfl dX10_ofTable_185 ?_
            refine lv_iload hx hb dX10_ofTable_188 (lv_at hl 0 rfl) ?_
            refine lv_dup2_11 hx hb dX10_ofTable_190 rfl rfl ?_
            refine nw_iald S hK hN (k := 21) (i := 0) ⟨rfl, rfl⟩ rfl (x := ((36 * p1) + (6 * p2)) + p3) (invM_cell hI ht4 c_3 c_5) dX10_ofTable_191 ?_
            refine lv_iconst (v := 1) hx hb dX10_ofTable_192 (by decide) ?_
            refine lv_iadd hx hb dX10_ofTable_193 ?_
            refine nw_iast S hK hN hS (k := 21) (i := 0) ⟨rfl, rfl⟩ (fun _ => rfl) (x := ((36 * p1) + (6 * p2)) + p3) (v := (M 21 0 ((((36 * p1) + (6 * p2)) + p3 : Int32).toNatClampNeg)) + 1) (invM_cell hI ht4 c_3 c_5) dX10_ofTable_194 (fun H locs hN hz hS => ?_)
            refine lv_aload_n hx hb dX10_ofTable_195 rfl (lv_at hl 1 rfl) ?_
            refine lv_aload_n hx hb dX10_ofTable_196 rfl (lv_at hl 1 rfl) ?_
            refine nw_get S hK hN (k := 0) (i := 0) ⟨rfl, rfl⟩ rfl rfl hin10 21 (by decide) (index := 65) (ref := "RidingYardModel") (by decide +kernel) (fun _ h => h) (v := .ref (ad 21 0)) rfl dX10_ofTable_197 ?_
            refine lv_iload hx hb dX10_ofTable_200 (lv_at hl 0 rfl) ?_
            refine nw_iald S hK hN (k := 21) (i := 0) ⟨rfl, rfl⟩ rfl (x := ((36 * p1) + (6 * p2)) + p3) (invM_cell hI ht4 c_3 c_5) dX10_ofTable_202 ?_
            refine nw_calli (va_runV (As := [.int ((M 21 0 ((((36 * p1) + (6 * p2)) + p3 : Int32).toNatClampNeg)) + 1)]) (rest := []) S (kX10_come l D C A ad (u3 M 21 0 ((((36 * p1) + (6 * p2)) + p3 : Int32).toNatClampNeg) ((M 21 0 ((((36 * p1) + (6 * p2)) + p3 : Int32).toNatClampNeg)) + 1)) ((M 21 0 ((((36 * p1) + (6 * p2)) + p3 : Int32).toNatClampNeg)) + 1) ) (cwV 1 hts gX10_ofTable_X10_come rfl rfl rfl (by decide +kernel) ⟨Nat.le_of_ble_eq_true rfl, Nat.le_of_ble_eq_true rfl⟩) (nw_preV hK hN hA hS (nw_recv hK hN (k := 0) (i := 0) ⟨rfl, rfl⟩ rfl rfl)) rfl rfl hl.1 rfl (lv_room (Nat.le_of_ble_eq_true rfl)) dX10_ofTable_203 ⟨Nat.le_of_ble_eq_true rfl, Nat.le_of_ble_eq_true rfl⟩) hS (fun H locs hN hz _ hS => ?_)
            have hf : fX10_ofTable M p0 p1 p2 p3 = (0, u3 (u3 M 21 0 ((((36 * p1) + (6 * p2)) + p3 : Int32).toNatClampNeg) ((M 21 0 ((((36 * p1) + (6 * p2)) + p3 : Int32).toNatClampNeg)) + 1)) 0 0 34 ((M 21 0 ((((36 * p1) + (6 * p2)) + p3 : Int32).toNatClampNeg)) + 1)) := by unfold fX10_ofTable; rw [if_neg c_1, if_pos c_2, if_neg c_3, if_neg c_4, if_neg c_5]
            exact W.iret (v := 0) hx hb hr (fun t ht _ => by rw [hf]; exact nw_end hS hN ht) hS.2.2 dX10_ofTable_206
          · refine lv_iconst (v := 5) hx hb dX10_ofTable_168 (by decide) ?_
            have hf : fX10_ofTable M p0 p1 p2 p3 = (5, M) := by unfold fX10_ofTable; rw [if_neg c_1, if_pos c_2, if_neg c_3, if_neg c_4, if_pos c_5]
            exact W.iret (v := 5) hx hb hr (fun t ht _ => by rw [hf]; exact nw_end hS hN ht) hS.2.2 dX10_ofTable_169
        · refine lv_iconst (v := 1) hx hb dX10_ofTable_149 (by decide) ?_
          have hf : fX10_ofTable M p0 p1 p2 p3 = (1, M) := by unfold fX10_ofTable; rw [if_neg c_1, if_pos c_2, if_neg c_3, if_pos c_4]
          exact W.iret (v := 1) hx hb hr (fun t ht _ => by rw [hf]; exact nw_end hS hN ht) hS.2.2 dX10_ofTable_150
      · refine lv_iconst (v := 5) hx hb dX10_ofTable_133 (by decide) ?_
        have hf : fX10_ofTable M p0 p1 p2 p3 = (5, M) := by unfold fX10_ofTable; rw [if_neg c_1, if_pos c_2, if_pos c_3]
        exact W.iret (v := 5) hx hb hr (fun t ht _ => by rw [hf]; exact nw_end hS hN ht) hS.2.2 dX10_ofTable_134
    · refine lv_iconst (v := 1) hx hb dX10_ofTable_115 (by decide) ?_
      have hf : fX10_ofTable M p0 p1 p2 p3 = (1, M) := by unfold fX10_ofTable; rw [if_neg c_1, if_neg c_2]
      exact W.iret (v := 1) hx hb hr (fun t ht _ => by rw [hf]; exact nw_end hS hN ht) hS.2.2 dX10_ofTable_116
  · refine lv_iload_n hx hb dX10_ofTable_6 rfl (lv_at hl 3 rfl) ?_
    refine lv_if_lt (x := p2) (tgt := 15) hx hb dX10_ofTable_7 (by decide) (fun c_6 => ?_) (fun c_6 => ?_)
    · refine lv_iconst (v := 2) hx hb dX10_ofTable_15 (by decide) ?_
      have hf : fX10_ofTable M p0 p1 p2 p3 = (2, M) := by unfold fX10_ofTable; rw [if_pos c_1, if_pos c_6]
      exact W.iret (v := 2) hx hb hr (fun t ht _ => by rw [hf]; exact nw_end hS hN ht) hS.2.2 dX10_ofTable_16
    · refine lv_iload hx hb dX10_ofTable_10 (lv_at hl 4 rfl) ?_
      refine lv_if_ge (x := p3) (tgt := 17) hx hb dX10_ofTable_12 (by decide) (fun c_7 => ?_) (fun c_7 => ?_)
      · refine lv_aload_n hx hb dX10_ofTable_17 rfl (lv_at hl 0 rfl) ?_
        refine nw_get S hK hN (k := 0) (i := 0) ⟨rfl, rfl⟩ rfl rfl hin10 18 (by decide) (index := 55) (ref := "RidingYardModel") (by decide +kernel) (fun _ h => h) (v := .ref (ad 18 0)) rfl dX10_ofTable_18 ?_
        refine lv_iload_n hx hb dX10_ofTable_21 rfl (lv_at hl 2 rfl) ?_
        refine lv_iload_n hx hb dX10_ofTable_22 rfl (lv_at hl 3 rfl) ?_
        refine lv_bipush (v := 6) hx hb dX10_ofTable_23 (by decide) ?_
        refine nw_callP (W.runS (As := [.int p2, .int 6]) (rest := [.int p1, .ref (ad 18 0)]) S (kX10_least l p2 6) (va_cwS 2 hts gX10_ofTable_X10_least rfl rfl rfl (by decide +kernel) ⟨Nat.le_of_ble_eq_true rfl, Nat.le_of_ble_eq_true rfl⟩) nw_preP rfl rfl hl.1 rfl (lv_room (Nat.le_of_ble_eq_true rfl)) dX10_ofTable_25 ⟨Nat.le_of_ble_eq_true rfl, Nat.le_of_ble_eq_true rfl⟩) ?_
        refine nw_iast S hK hN hS (k := 18) (i := 0) ⟨rfl, rfl⟩ (fun _ => rfl) (x := p1) (v := fX10_least p2 6) (ht4) dX10_ofTable_28 (fun H locs hN hz hS => ?_)
        refine lv_aload_n hx hb dX10_ofTable_29 rfl (lv_at hl 0 rfl) ?_
        refine nw_get S hK hN (k := 0) (i := 0) ⟨rfl, rfl⟩ rfl rfl hin10 19 (by decide) (index := 58) (ref := "RidingYardModel") (by decide +kernel) (fun _ h => h) (v := .ref (ad 19 0)) rfl dX10_ofTable_30 ?_
        refine lv_iload_n hx hb dX10_ofTable_33 rfl (lv_at hl 2 rfl) ?_
        refine lv_iload hx hb dX10_ofTable_34 (lv_at hl 4 rfl) ?_
        refine lv_bipush (v := 6) hx hb dX10_ofTable_36 (by decide) ?_
        refine nw_callP (W.runS (As := [.int p3, .int 6]) (rest := [.int p1, .ref (ad 19 0)]) S (kX10_least l p3 6) (va_cwS 2 hts gX10_ofTable_X10_least rfl rfl rfl (by decide +kernel) ⟨Nat.le_of_ble_eq_true rfl, Nat.le_of_ble_eq_true rfl⟩) nw_preP rfl rfl hl.1 rfl (lv_room (Nat.le_of_ble_eq_true rfl)) dX10_ofTable_38 ⟨Nat.le_of_ble_eq_true rfl, Nat.le_of_ble_eq_true rfl⟩) ?_
        refine nw_iast S hK hN hS (k := 19) (i := 0) ⟨rfl, rfl⟩ (fun _ => rfl) (x := p1) (v := fX10_least p3 6) (ht4) dX10_ofTable_41 (fun H locs hN hz hS => ?_)
        refine lv_iconst (v := 0) hx hb dX10_ofTable_42 (by decide) ?_
        refine lv_istore (lv' := [(5, .int 0), (0, .ref (ad 0 0)), (1, .int p0), (2, .int p1), (3, .int p2), (4, .int p3)]) hx hb dX10_ofTable_43 hl (by decide) rfl (fun ls hl => ?_)
        refine lpW (σ := Int32 × (Nat → Nat → Nat → Int32)) 7 (0, u3 (u3 M 18 0 ((p1 : Int32).toNatClampNeg) (fX10_least p2 6)) 19 0 ((p1 : Int32).toNatClampNeg) (fX10_least p3 6)) (fun n x H locs ls => lv_has ls 6 [(5, .int x.1), (0, .ref (ad 0 0)), (1, .int p0), (2, .int p1), (3, .int p2), (4, .int p3)] ∧ nw D (enM C) domM A ad x.2 H ∧ va_S A s.heap H locs ∧ fX10_ofTable M p0 p1 p2 p3 = gX10_ofTable_45 p0 p1 p2 p3 n x.1 (x.2) ∧ (∃ i : Nat, x.1 = nI i ∧ i ≤ 6 ∧ i + n = 7)) 45 (fun n x H locs ls hP ih => ?_) ⟨lv_sub hl [0, 1, 2, 3, 4, 5] rfl, hN, hS, by unfold fX10_ofTable; rw [if_pos c_1, if_neg c_6, if_pos c_7], 0, rfl, by omega, rfl⟩
        obtain ⟨x5, Z45⟩ := x
        obtain ⟨hl, hN, hS, hfe, hinv⟩ := hP
        dsimp only at hl hN hfe hinv
        obtain ⟨i, hi1, hi2, hi3⟩ := hinv
        obtain ⟨n, rfl⟩ : ∃ k, n = k + 1 := ⟨n - 1, by omega⟩
        refine lv_iload hx hb dX10_ofTable_45 (lv_at hl 0 rfl) ?_
        refine lv_bipush (v := 6) hx hb dX10_ofTable_47 (by decide) ?_
        refine lv_icmp_ge (x := x5) (y := 6) (tgt := 71) hx hb dX10_ofTable_49 (by decide) (fun c_8 => ?_) (fun c_8 => ?_)
        · refine lv_iconst (v := 0) hx hb dX10_ofTable_71 (by decide) ?_
          refine lv_istore (lv' := [(5, .int 0), (0, .ref (ad 0 0)), (1, .int p0), (2, .int p1), (3, .int p2), (4, .int p3)]) hx hb dX10_ofTable_72 hl (by decide) rfl (fun ls hl => ?_)
          refine lpW (σ := Int32 × (Nat → Nat → Nat → Int32)) 37 (0, Z45) (fun n x H locs ls => lv_has ls 6 [(5, .int x.1), (0, .ref (ad 0 0)), (1, .int p0), (2, .int p1), (3, .int p2), (4, .int p3)] ∧ nw D (enM C) domM A ad x.2 H ∧ va_S A s.heap H locs ∧ fX10_ofTable M p0 p1 p2 p3 = gX10_ofTable_74 p0 p1 p2 p3 n x.1 (x.2) ∧ (∃ i : Nat, x.1 = nI i ∧ i ≤ 36 ∧ i + n = 37)) 74 (fun n x H locs ls hP ih => ?_) ⟨lv_sub hl [0, 1, 2, 3, 4, 5] rfl, hN, hS, by rw [hfe, gX10_ofTable_45_s, if_pos c_8], 0, rfl, by omega, rfl⟩
          obtain ⟨x5, Z74⟩ := x
          obtain ⟨hl, hN, hS, hfe, hinv⟩ := hP
          dsimp only at hl hN hfe hinv
          obtain ⟨i, hi1, hi2, hi3⟩ := hinv
          obtain ⟨n, rfl⟩ : ∃ k, n = k + 1 := ⟨n - 1, by omega⟩
          refine lv_iload hx hb dX10_ofTable_74 (lv_at hl 0 rfl) ?_
          refine lv_bipush (v := 36) hx hb dX10_ofTable_76 (by decide) ?_
          refine lv_icmp_ge (x := x5) (y := 36) (tgt := 100) hx hb dX10_ofTable_78 (by decide) (fun c_9 => ?_) (fun c_9 => ?_)
          · refine lv_aload_n hx hb dX10_ofTable_100 rfl (lv_at hl 1 rfl) ?_
            refine lv_iconst (v := 1) hx hb dX10_ofTable_101 (by decide) ?_
            refine nw_calli (va_runV (As := [.int 1]) (rest := []) S (kX10_come l D C A ad Z74 1 ) (cwV 1 hts gX10_ofTable_X10_come rfl rfl rfl (by decide +kernel) ⟨Nat.le_of_ble_eq_true rfl, Nat.le_of_ble_eq_true rfl⟩) (nw_preV hK hN hA hS (nw_recv hK hN (k := 0) (i := 0) ⟨rfl, rfl⟩ rfl rfl)) rfl rfl hl.1 rfl (lv_room (Nat.le_of_ble_eq_true rfl)) dX10_ofTable_102 ⟨Nat.le_of_ble_eq_true rfl, Nat.le_of_ble_eq_true rfl⟩) hS (fun H locs hN hz _ hS => ?_)
            have hf : fX10_ofTable M p0 p1 p2 p3 = (0, u3 Z74 0 0 34 1) := by rw [hfe, gX10_ofTable_74_s, if_pos c_9]
            exact W.iret (v := 0) hx hb hr (fun t ht _ => by rw [hf]; exact nw_end hS hN ht) hS.2.2 dX10_ofTable_105
          · refine lv_aload_n hx hb dX10_ofTable_81 rfl (lv_at hl 1 rfl) ?_
            refine nw_get S hK hN (k := 0) (i := 0) ⟨rfl, rfl⟩ rfl rfl hin10 21 (by decide) (index := 65) (ref := "RidingYardModel") (by decide +kernel) (fun _ h => h) (v := .ref (ad 21 0)) rfl dX10_ofTable_82 ?_
            refine lv_bipush (v := 36) hx hb dX10_ofTable_85 (by decide) ?_
            refine lv_iload_n hx hb dX10_ofTable_87 rfl (lv_at hl 3 rfl) ?_
            refine lv_imul hx hb dX10_ofTable_88 ?_
            refine lv_iload hx hb dX10_ofTable_89 (lv_at hl 0 rfl) ?_
            refine lv_iadd hx hb dX10_ofTable_91 ?_
            refine lv_iconst (v := 0) hx hb dX10_ofTable_92 (by decide) ?_
            refine nw_iast S hK hN hS (k := 21) (i := 0) ⟨rfl, rfl⟩ (fun _ => rfl) (x := (36 * p1) + x5) (v := 0) (ix_in (N := 4) (B := 36) ⟨rfl, by decide, by decide⟩ ht4 hi1 (cnt_lt (B := 36) hi1 hi3 rfl (by decide) c_9)) dX10_ofTable_93 (fun H locs hN hz hS => ?_)
            refine lv_iinc (v := x5 + 1) (lv' := [(5, .int (x5 + 1)), (0, .ref (ad 0 0)), (1, .int p0), (2, .int p1), (3, .int p2), (4, .int p3)]) hx hb dX10_ofTable_94 hl (k := 0) rfl rfl (by decide) rfl (fun ls hl => ?_)
            refine lv_goto (tgt := 74) hx hb dX10_ofTable_97 (by decide) ?_
            exact ih n (x5 + 1, u3 Z74 21 0 (((36 * p1) + x5 : Int32).toNatClampNeg) 0) _ _ _ (by omega) ⟨lv_sub hl [0, 1, 2, 3, 4, 5] rfl, hN, hS, by rw [hfe, gX10_ofTable_74_s, if_neg c_9], cnt_back (B := 36) hi1 hi3 rfl (by decide) c_9⟩
        · refine lv_aload_n hx hb dX10_ofTable_52 rfl (lv_at hl 1 rfl) ?_
          refine nw_get S hK hN (k := 0) (i := 0) ⟨rfl, rfl⟩ rfl rfl hin10 20 (by decide) (index := 61) (ref := "RidingYardModel") (by decide +kernel) (fun _ h => h) (v := .ref (ad 20 0)) rfl dX10_ofTable_53 ?_
          refine lv_bipush (v := 6) hx hb dX10_ofTable_56 (by decide) ?_
          refine lv_iload_n hx hb dX10_ofTable_58 rfl (lv_at hl 3 rfl) ?_
          refine lv_imul hx hb dX10_ofTable_59 ?_
          refine lv_iload hx hb dX10_ofTable_60 (lv_at hl 0 rfl) ?_
          refine lv_iadd hx hb dX10_ofTable_62 ?_
          refine lv_iconst (v := 1) hx hb dX10_ofTable_63 (by decide) ?_
          refine nw_zast S hK hN hS (k := 20) (i := 0) ⟨rfl, rfl⟩ (fun _ => rfl) (x := (6 * p1) + x5) (v := 1) (ix_in (N := 4) (B := 6) ⟨rfl, by decide, by decide⟩ ht4 hi1 (cnt_lt (B := 6) hi1 hi3 rfl (by decide) c_8)) rfl dX10_ofTable_64 (fun H locs hN hz hS => ?_)
          refine lv_iinc (v := x5 + 1) (lv' := [(5, .int (x5 + 1)), (0, .ref (ad 0 0)), (1, .int p0), (2, .int p1), (3, .int p2), (4, .int p3)]) hx hb dX10_ofTable_65 hl (k := 0) rfl rfl (by decide) rfl (fun ls hl => ?_)
          refine lv_goto (tgt := 45) hx hb dX10_ofTable_68 (by decide) ?_
          exact ih n (x5 + 1, u3 Z45 20 0 (((6 * p1) + x5 : Int32).toNatClampNeg) 1) _ _ _ (by omega) ⟨lv_sub hl [0, 1, 2, 3, 4, 5] rfl, hN, hS, by rw [hfe, gX10_ofTable_45_s, if_neg c_8], cnt_back (B := 6) hi1 hi3 rfl (by decide) c_8⟩
      · refine lv_iconst (v := 2) hx hb dX10_ofTable_15 (by decide) ?_
        have hf : fX10_ofTable M p0 p1 p2 p3 = (2, M) := by unfold fX10_ofTable; rw [if_pos c_1, if_neg c_6, if_neg c_7]
        exact W.iret (v := 2) hx hb hr (fun t ht _ => by rw [hf]; exact nw_end hS hN ht) hS.2.2 dX10_ofTable_16
