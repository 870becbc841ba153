set_option maxHeartbeats 4000000 in
set_option maxRecDepth 100000 in
theorem kX10_task (l : Launch) (D : va_G) (C : Nat → ClassId) (A : Nat → Prop) (ad : Nat → Nat → Nat) (M : Nat → Nat → Nat → Int32) (p0 p1 p2 p3 : Int32) (kk : Nat) (hI : InvM kk M) : Met l yX10_task wsX10_task ({ frames := 1, cells := 0, slots := 0, locals := 22 }) (va_Pc [.ref (ad 0 0), .int p0, .int p1, .int p2, .int p3] (PW D C A (nw D (enM C) domM A ad M))) (nQ A (some (.int (fX10_task M p0 p1 p2 p3).1)) (nw D (enM C) domM A ad (fX10_task M p0 p1 p2 p3).2)) 0 0 A := by
  refine Met.ofW (cc := cX10_task) (maxL := 5) (ret := (some .int)) (by decide) rfl ?_
  intro p e s m args below meth c s₁ B hml hv
  obtain ⟨rfl, hK, hN, hA⟩ := hv
  have hx := B.exec
  have hb := B.bytes
  have hr := B.returns
  have hts := atoms_spec (ws := wsX10_task) B.pre
  have hown : s.vm.findClass RX10 = some m.cls := findClass_of_methodNamed B.named
  have hlocks := B.notSynchronized
  have S : CallFix p m c cX10_task 5 s _ wsX10_task RX10 := ⟨hx, hb, hml, hown, hts⟩
  have hin10 : ∀ w ∈ wsX100, w ∈ wsX10_task := (fun _ h => List.mem_cons_of_mem _ (List.mem_append_right _ (h)))
  have hS : va_S A s.heap s.heap [] := va_S.rf
  have hl := lv_entry ([.ref (ad 0 0), .int p0, .int p1, .int p2, .int p3]) (n := 5) (Nat.le_of_ble_eq_true rfl)
  rw [lg_entry_eq]
  generalize (lg_sl ([.ref (ad 0 0), .int p0, .int p1, .int p2, .int p3]) ++ List.replicate (5 - (lg_sl ([.ref (ad 0 0), .int p0, .int p1, .int p2, .int p3])).length) Slot.unset).toArray = ls at hl ⊢
  have hl : lv_has ls 5 [(0, .ref (ad 0 0)), (1, .int p0), (2, .int p1), (3, .int p2), (4, .int p3)] := hl
  refine lv_iload_n hx hb dX10_task_0 rfl (lv_at hl 1 rfl) ?_
  refine lv_iconst (v := 0) hx hb dX10_task_1 (by decide) ?_
  refine lv_bipush (v := 17) hx hb dX10_task_2 (by decide) ?_
  refine nw_callS (As := [.int p0, .int 0, .int 17]) (rest := []) S (kX10_in l p0 0 17) gX10_task_X10_in rfl ⟨rfl, rfl⟩ hqX10_in ⟨Nat.le_of_ble_eq_true rfl, Nat.le_of_ble_eq_true rfl⟩ rfl hl.1 rfl (Nat.le_of_ble_eq_true rfl) dX10_task_4 ⟨Nat.le_of_ble_eq_true rfl, Nat.le_of_ble_eq_true rfl⟩ ?_
  refine lv_if_ne (x := fX10_in p0 0 17) (tgt := 13) hx hb dX10_task_7 (by decide) (fun c_1 => ?_) (fun c_1 => ?_)
  · refine lv_aload_n hx hb dX10_task_13 rfl (lv_at hl 0 rfl) ?_
    refine nwM_get S hK hN hin10 24 (by decide) (index := 164) (List.mem_cons_of_mem _ (List.mem_append_left _ (List.mem_of_getElem? (i := 1) rfl))) rfl (v := .int (M 0 0 24)) rfl dX10_task_14 ?_
    refine lv_bipush (v := 20) hx hb dX10_task_17 (by decide) ?_
    refine lv_icmp_ne (x := M 0 0 24) (y := 20) (tgt := 25) hx hb dX10_task_19 (by decide) (fun c_2 => ?_) (fun c_2 => ?_)
    · refine lv_aload_n hx hb dX10_task_25 rfl (lv_at hl 0 rfl) ?_
      refine nwM_get S hK hN hin10 25 (by decide) (index := 74) (List.mem_cons_of_mem _ (List.mem_append_left _ (List.mem_of_getElem? (i := 3) rfl))) rfl (v := .ref (ad 25 0)) rfl dX10_task_26 ?_
      refine lv_aload_n hx hb dX10_task_29 rfl (lv_at hl 0 rfl) ?_
      refine nwM_get S hK hN hin10 24 (by decide) (index := 164) (List.mem_cons_of_mem _ (List.mem_append_left _ (List.mem_of_getElem? (i := 1) rfl))) rfl (v := .int (M 0 0 24)) rfl dX10_task_30 ?_
      refine lv_iload_n hx hb dX10_task_33 rfl (lv_at hl 1 rfl) ?_
      refine nw_iast S hK hN hS (k := 25) (i := 0) ⟨rfl, rfl⟩ (fun _ => rfl) (x := M 0 0 24) (v := p0) (invM_t hI c_2) dX10_task_34 (fun H locs hN hz hS => ?_)
      refine lv_aload_n hx hb dX10_task_35 rfl (lv_at hl 0 rfl) ?_
      refine nwM_get S hK hN hin10 26 (by decide) (index := 77) (List.mem_cons_of_mem _ (List.mem_append_left _ (List.mem_of_getElem? (i := 4) rfl))) rfl (v := .ref (ad 26 0)) rfl dX10_task_36 ?_
      refine lv_aload_n hx hb dX10_task_39 rfl (lv_at hl 0 rfl) ?_
      refine nwM_get S hK hN hin10 24 (by decide) (index := 164) (List.mem_cons_of_mem _ (List.mem_append_left _ (List.mem_of_getElem? (i := 1) rfl))) rfl (v := .int (M 0 0 24)) rfl dX10_task_40 ?_
      refine lv_iload_n hx hb dX10_task_43 rfl (lv_at hl 2 rfl) ?_
      refine nw_iast S hK hN hS (k := 26) (i := 0) ⟨rfl, rfl⟩ (fun _ => rfl) (x := M 0 0 24) (v := p1) (invM_t hI c_2) dX10_task_44 (fun H locs hN hz hS => ?_)
      refine lv_aload_n hx hb dX10_task_45 rfl (lv_at hl 0 rfl) ?_
      refine nwM_get S hK hN hin10 27 (by decide) (index := 80) (List.mem_cons_of_mem _ (List.mem_append_left _ (List.mem_of_getElem? (i := 5) rfl))) rfl (v := .ref (ad 27 0)) rfl dX10_task_46 ?_
      refine lv_aload_n hx hb dX10_task_49 rfl (lv_at hl 0 rfl) ?_
      refine nwM_get S hK hN hin10 24 (by decide) (index := 164) (List.mem_cons_of_mem _ (List.mem_append_left _ (List.mem_of_getElem? (i := 1) rfl))) rfl (v := .int (M 0 0 24)) rfl dX10_task_50 ?_
      refine lv_iload_n hx hb dX10_task_53 rfl (lv_at hl 3 rfl) ?_
      refine nw_iast S hK hN hS (k := 27) (i := 0) ⟨rfl, rfl⟩ (fun _ => rfl) (x := M 0 0 24) (v := p2) (invM_t hI c_2) dX10_task_54 (fun H locs hN hz hS => ?_)
      refine lv_aload_n hx hb dX10_task_55 rfl (lv_at hl 0 rfl) ?_
      refine nwM_get S hK hN hin10 28 (by decide) (index := 83) (List.mem_cons_of_mem _ (List.mem_append_left _ (List.mem_of_getElem? (i := 6) rfl))) rfl (v := .ref (ad 28 0)) rfl dX10_task_56 ?_
      refine lv_aload_n hx hb dX10_task_59 rfl (lv_at hl 0 rfl) ?_
      refine nwM_get S hK hN hin10 24 (by decide) (index := 164) (List.mem_cons_of_mem _ (List.mem_append_left _ (List.mem_of_getElem? (i := 1) rfl))) rfl (v := .int (M 0 0 24)) rfl dX10_task_60 ?_
      refine lv_iload hx hb dX10_task_63 (lv_at hl 4 rfl) ?_
      refine nw_iast S hK hN hS (k := 28) (i := 0) ⟨rfl, rfl⟩ (fun _ => rfl) (x := M 0 0 24) (v := p3) (invM_t hI c_2) dX10_task_65 (fun H locs hN hz hS => ?_)
      refine lv_aload_n hx hb dX10_task_66 rfl (lv_at hl 0 rfl) ?_
      refine lv_dup hx hb dX10_task_67 rfl ?_
      refine nwM_get S hK hN hin10 24 (by decide) (index := 164) (List.mem_cons_of_mem _ (List.mem_append_left _ (List.mem_of_getElem? (i := 1) rfl))) rfl (v := .int (M 0 0 24)) rfl dX10_task_68 ?_
      refine lv_iconst (v := 1) hx hb dX10_task_71 (by decide) ?_
      refine lv_iadd hx hb dX10_task_72 ?_
      refine nwM_put S hK hN hS hin10 24 (by decide) (index := 164) (List.mem_cons_of_mem _ (List.mem_append_left _ (List.mem_of_getElem? (i := 1) rfl))) rfl rfl rfl ((M 0 0 24) + 1) (obM_24 _ _ _) dX10_task_73 (fun H locs hN hz hS => ?_)
      refine lv_aload_n hx hb dX10_task_76 rfl (lv_at hl 0 rfl) ?_
      refine nwM_get S hK hN hin10 24 (by decide) (index := 164) (List.mem_cons_of_mem _ (List.mem_append_left _ (List.mem_of_getElem? (i := 1) rfl))) rfl (v := .int ((M 0 0 24) + 1)) rfl dX10_task_77 ?_
      have hf : fX10_task M p0 p1 p2 p3 = ((M 0 0 24) + 1, u3 (u3 (u3 (u3 (u3 M 25 0 ((M 0 0 24 : Int32).toNatClampNeg) p0) 26 0 ((M 0 0 24 : Int32).toNatClampNeg) p1) 27 0 ((M 0 0 24 : Int32).toNatClampNeg) p2) 28 0 ((M 0 0 24 : Int32).toNatClampNeg) p3) 0 0 24 ((M 0 0 24) + 1)) := by unfold fX10_task; rw [if_neg c_1, if_neg c_2]
      exact W.iret (v := (M 0 0 24) + 1) hx hb hr (fun t ht _ => by rw [hf]; exact nw_end hS hN ht) hS.2.2 dX10_task_80
    · refine lv_ldc (v := (-1000000003)) hx hb hown (hts (.constant RX10 104 (-1000000003)) (List.mem_cons_of_mem _ (List.mem_append_left _ (List.mem_of_getElem? (i := 2) rfl)))) dX10_task_22 ?_
      have hf : fX10_task M p0 p1 p2 p3 = ((-1000000003), M) := by unfold fX10_task; rw [if_neg c_1, if_pos c_2]
      exact W.iret (v := (-1000000003)) hx hb hr (fun t ht _ => by rw [hf]; exact nw_end hS hN ht) hS.2.2 dX10_task_24
  · refine lv_ldc (v := (-1000000001)) hx hb hown (hts (.constant RX10 99 (-1000000001)) (List.mem_cons_of_mem _ (List.mem_append_left _ (List.mem_of_getElem? (i := 0) rfl)))) dX10_task_10 ?_
    have hf : fX10_task M p0 p1 p2 p3 = ((-1000000001), M) := by unfold fX10_task; rw [if_pos c_1]
    exact W.iret (v := (-1000000001)) hx hb hr (fun t ht _ => by rw [hf]; exact nw_end hS hN ht) hS.2.2 dX10_task_12
set_option maxHeartbeats 4000000 in
set_option maxRecDepth 100000 in
theorem kX10_clear (l : Launch) (D : va_G) (C : Nat → ClassId) (A : Nat → Prop) (ad : Nat → Nat → Nat) (M : Nat → Nat → Nat → Int32) : Met l yX10_clear wsX10_clear ({ frames := 0, cells := 0, slots := 0, locals := 0 }) (va_Pc [.ref (ad 0 0)] (PW D C A (nw D (enM C) domM A ad M))) (nQ A (some (.int (fX10_clear M).1)) (nw D (enM C) domM A ad (fX10_clear M).2)) 0 0 A := by
  refine Met.ofW (cc := cX10_clear) (maxL := 2) (ret := (some .int)) (by decide) rfl ?_
  intro p e s m args below meth c s₁ B hml hv
  obtain ⟨rfl, hK, hN, hA⟩ := hv
  have hx := B.exec
  have hb := B.bytes
  have hr := B.returns
  have hts := atoms_spec (ws := wsX10_clear) B.pre
  have hown : s.vm.findClass RX10 = some m.cls := findClass_of_methodNamed B.named
  have hlocks := B.notSynchronized
  have S : CallFix p m c cX10_clear 2 s _ wsX10_clear RX10 := ⟨hx, hb, hml, hown, hts⟩
  have hin10 : ∀ w ∈ wsX100, w ∈ wsX10_clear := (fun _ h => List.mem_cons_of_mem _ (List.mem_append_right _ (h)))
  have hS : va_S A s.heap s.heap [] := va_S.rf
  have hl := lv_entry ([.ref (ad 0 0)]) (n := 2) (Nat.le_of_ble_eq_true rfl)
  rw [lg_entry_eq]
  generalize (lg_sl ([.ref (ad 0 0)]) ++ List.replicate (2 - (lg_sl ([.ref (ad 0 0)])).length) Slot.unset).toArray = ls at hl ⊢
  have hl : lv_has ls 2 [(0, .ref (ad 0 0))] := hl
  refine lv_aload_n hx hb dX10_clear_0 rfl (lv_at hl 0 rfl) ?_
  refine nwM_get S hK hN hin10 24 (by decide) (index := 164) (List.mem_cons_of_mem _ (List.mem_append_left _ (List.mem_of_getElem? (i := 0) rfl))) rfl (v := .int (M 0 0 24)) rfl dX10_clear_1 ?_
  refine lv_istore_n (lv' := [(1, .int (M 0 0 24)), (0, .ref (ad 0 0))]) hx hb dX10_clear_4 rfl hl (by decide) rfl (fun ls hl => ?_)
  refine lv_aload_n hx hb dX10_clear_5 rfl (lv_at hl 1 rfl) ?_
  refine lv_iconst (v := 0) hx hb dX10_clear_6 (by decide) ?_
  refine nwM_put S hK hN hS hin10 24 (by decide) (index := 164) (List.mem_cons_of_mem _ (List.mem_append_left _ (List.mem_of_getElem? (i := 0) rfl))) rfl rfl rfl 0 (obM_24 _ _ _) dX10_clear_7 (fun H locs hN hz hS => ?_)
  refine lv_iload_n hx hb dX10_clear_10 rfl (lv_at hl 0 rfl) ?_
  have hf : fX10_clear M = (M 0 0 24, u3 M 0 0 24 0) := rfl
  exact W.iret (v := M 0 0 24) hx hb hr (fun t ht _ => by rw [hf]; exact nw_end hS hN ht) hS.2.2 dX10_clear_11
set_option maxHeartbeats 4000000 in
set_option maxRecDepth 100000 in
theorem kX10_book (l : Launch) (D : va_G) (C : Nat → ClassId) (A : Nat → Prop) (ad : Nat → Nat → Nat) (M : Nat → Nat → Nat → Int32) (p0 p1 : Int32) (kk : Nat) (hI : InvM kk M) : Met l yX10_book wsX10_book ({ frames := 1, cells := 0, slots := 0, locals := 22 }) (va_Pc [.ref (ad 0 0), .int p0, .int p1] (PW D C A (nw D (enM C) domM A ad M))) (nQ A (some (.int (fX10_book M p0 p1).1)) (nw D (enM C) domM A ad (fX10_book M p0 p1).2)) 0 0 A := by
  refine Met.ofW (cc := cX10_book) (maxL := 3) (ret := (some .int)) (by decide) rfl ?_
  intro p e s m args below meth c s₁ B hml hv
  obtain ⟨rfl, hK, hN, hA⟩ := hv
  have hx := B.exec
  have hb := B.bytes
  have hr := B.returns
  have hts := atoms_spec (ws := wsX10_book) B.pre
  have hown : s.vm.findClass RX10 = some m.cls := findClass_of_methodNamed B.named
  have hlocks := B.notSynchronized
  have S : CallFix p m c cX10_book 3 s _ wsX10_book RX10 := ⟨hx, hb, hml, hown, hts⟩
  have hin10 : ∀ w ∈ wsX100, w ∈ wsX10_book := (fun _ h => List.mem_cons_of_mem _ (List.mem_append_right _ (h)))
  have hS : va_S A s.heap s.heap [] := va_S.rf
  have hl := lv_entry ([.ref (ad 0 0), .int p0, .int p1]) (n := 3) (Nat.le_of_ble_eq_true rfl)
  rw [lg_entry_eq]
  generalize (lg_sl ([.ref (ad 0 0), .int p0, .int p1]) ++ List.replicate (3 - (lg_sl ([.ref (ad 0 0), .int p0, .int p1])).length) Slot.unset).toArray = ls at hl ⊢
  have hl : lv_has ls 3 [(0, .ref (ad 0 0)), (1, .int p0), (2, .int p1)] := hl
  refine lv_iload_n hx hb dX10_book_0 rfl (lv_at hl 1 rfl) ?_
  refine lv_iconst (v := 0) hx hb dX10_book_1 (by decide) ?_
  refine lv_aload_n hx hb dX10_book_2 rfl (lv_at hl 0 rfl) ?_
  refine nwM_get S hK hN hin10 29 (by decide) (index := 167) (List.mem_cons_of_mem _ (List.mem_append_left _ (List.mem_of_getElem? (i := 0) rfl))) rfl (v := .int (M 0 0 29)) rfl dX10_book_3 ?_
  refine lv_bipush (v := 40) hx hb dX10_book_6 (by decide) ?_
  refine nw_callS (As := [.int (M 0 0 29), .int 40]) (rest := [.int 0, .int p0]) S (kX10_least l (M 0 0 29) 40) gX10_book_X10_least rfl ⟨rfl, rfl⟩ hqX10_least ⟨Nat.le_of_ble_eq_true rfl, Nat.le_of_ble_eq_true rfl⟩ rfl hl.1 rfl (Nat.le_of_ble_eq_true rfl) dX10_book_8 ⟨Nat.le_of_ble_eq_true rfl, Nat.le_of_ble_eq_true rfl⟩ ?_
  refine lv_iconst (v := 1) hx hb dX10_book_11 (by decide) ?_
  refine lv_isub hx hb dX10_book_12 ?_
  refine nw_callS (As := [.int p0, .int 0, .int ((fX10_least (M 0 0 29) 40) - 1)]) (rest := []) S (kX10_in l p0 0 ((fX10_least (M 0 0 29) 40) - 1)) gX10_book_X10_in rfl ⟨rfl, rfl⟩ hqX10_in ⟨Nat.le_of_ble_eq_true rfl, Nat.le_of_ble_eq_true rfl⟩ rfl hl.1 rfl (Nat.le_of_ble_eq_true rfl) dX10_book_13 ⟨Nat.le_of_ble_eq_true rfl, Nat.le_of_ble_eq_true rfl⟩ ?_
  refine lv_if_eq (x := fX10_in p0 0 ((fX10_least (M 0 0 29) 40) - 1)) (tgt := 28) hx hb dX10_book_16 (by decide) (fun c_1 => ?_) (fun c_1 => ?_)
  · refine lv_ldc (v := (-1000000001)) hx hb hown (hts (.constant RX10 99 (-1000000001)) (List.mem_cons_of_mem _ (List.mem_append_left _ (List.mem_of_getElem? (i := 1) rfl)))) dX10_book_28 ?_
    have hf : fX10_book M p0 p1 = ((-1000000001), M) := by unfold fX10_book; rw [if_pos c_1]
    exact W.iret (v := (-1000000001)) hx hb hr (fun t ht _ => by rw [hf]; exact nw_end hS hN ht) hS.2.2 dX10_book_30
  · refine lv_iload_n hx hb dX10_book_19 rfl (lv_at hl 2 rfl) ?_
    refine lv_iconst (v := 0) hx hb dX10_book_20 (by decide) ?_
    refine lv_iconst (v := 1) hx hb dX10_book_21 (by decide) ?_
    refine nw_callS (As := [.int p1, .int 0, .int 1]) (rest := []) S (kX10_in l p1 0 1) gX10_book_X10_in rfl ⟨rfl, rfl⟩ hqX10_in ⟨Nat.le_of_ble_eq_true rfl, Nat.le_of_ble_eq_true rfl⟩ rfl hl.1 rfl (Nat.le_of_ble_eq_true rfl) dX10_book_22 ⟨Nat.le_of_ble_eq_true rfl, Nat.le_of_ble_eq_true rfl⟩ ?_
    refine lv_if_ne (x := fX10_in p1 0 1) (tgt := 31) hx hb dX10_book_25 (by decide) (fun c_2 => ?_) (fun c_2 => ?_)
    · refine lv_iload_n hx hb dX10_book_31 rfl (lv_at hl 2 rfl) ?_
      refine lv_if_ne (x := p1) (tgt := 44) hx hb dX10_book_32 (by decide) (fun c_3 => ?_) (fun c_3 => ?_)
      · refine lv_aload_n hx hb dX10_book_44 rfl (lv_at hl 0 rfl) ?_
        refine nwM_get S hK hN hin10 31 (by decide) (index := 89) (List.mem_cons_of_mem _ (List.mem_append_left _ (List.mem_of_getElem? (i := 3) rfl))) rfl (v := .ref (ad 31 0)) rfl dX10_book_45 ?_
        refine lv_iload_n hx hb dX10_book_48 rfl (lv_at hl 1 rfl) ?_
        refine nw_iald S hK hN (k := 31) (i := 0) ⟨rfl, rfl⟩ rfl (x := p0) (invM_book hI c_1) dX10_book_49 ?_
        have hf : fX10_book M p0 p1 = (M 31 0 ((p0 : Int32).toNatClampNeg), M) := by unfold fX10_book; rw [if_neg c_1, if_neg c_2, if_neg c_3]
        exact W.iret (v := M 31 0 ((p0 : Int32).toNatClampNeg)) hx hb hr (fun t ht _ => by rw [hf]; exact nw_end hS hN ht) hS.2.2 dX10_book_50
      · refine lv_aload_n hx hb dX10_book_35 rfl (lv_at hl 0 rfl) ?_
        refine nwM_get S hK hN hin10 30 (by decide) (index := 86) (List.mem_cons_of_mem _ (List.mem_append_left _ (List.mem_of_getElem? (i := 2) rfl))) rfl (v := .ref (ad 30 0)) rfl dX10_book_36 ?_
        refine lv_iload_n hx hb dX10_book_39 rfl (lv_at hl 1 rfl) ?_
        refine nw_iald S hK hN (k := 30) (i := 0) ⟨rfl, rfl⟩ rfl (x := p0) (invM_book hI c_1) dX10_book_40 ?_
        refine lv_goto (tgt := 50) hx hb dX10_book_41 (by decide) ?_
        have hf : fX10_book M p0 p1 = (M 30 0 ((p0 : Int32).toNatClampNeg), M) := by unfold fX10_book; rw [if_neg c_1, if_neg c_2, if_pos c_3]
        exact W.iret (v := M 30 0 ((p0 : Int32).toNatClampNeg)) hx hb hr (fun t ht _ => by rw [hf]; exact nw_end hS hN ht) hS.2.2 dX10_book_50
    · refine lv_ldc (v := (-1000000001)) hx hb hown (hts (.constant RX10 99 (-1000000001)) (List.mem_cons_of_mem _ (List.mem_append_left _ (List.mem_of_getElem? (i := 1) rfl)))) dX10_book_28 ?_
      have hf : fX10_book M p0 p1 = ((-1000000001), M) := by unfold fX10_book; rw [if_neg c_1, if_pos c_2]
      exact W.iret (v := (-1000000001)) hx hb hr (fun t ht _ => by rw [hf]; exact nw_end hS hN ht) hS.2.2 dX10_book_30
set_option maxHeartbeats 4000000 in
set_option maxRecDepth 100000 in
theorem kX10_horseTells (l : Launch) (D : va_G) (C : Nat → ClassId) (A : Nat → Prop) (ad : Nat → Nat → Nat) (M : Nat → Nat → Nat → Int32) (p0 p1 : Int32) (kk : Nat) (hI : InvM kk M) : Met l yX10_horseTells wsX10_horseTells ({ frames := 1, cells := 0, slots := 0, locals := 22 }) (va_Pc [.ref (ad 0 0), .int p0, .int p1] (PW D C A (nw D (enM C) domM A ad M))) (nQ A (some (.int (fX10_horseTells M p0 p1).1)) (nw D (enM C) domM A ad (fX10_horseTells M p0 p1).2)) 0 0 A := by
  refine Met.ofW (cc := cX10_horseTells) (maxL := 4) (ret := (some .int)) (by decide) rfl ?_
  intro p e s m args below meth c s₁ B hml hv
  obtain ⟨rfl, hK, hN, hA⟩ := hv
  have hx := B.exec
  have hb := B.bytes
  have hr := B.returns
  have hts := atoms_spec (ws := wsX10_horseTells) B.pre
  have hown : s.vm.findClass RX10 = some m.cls := findClass_of_methodNamed B.named
  have hlocks := B.notSynchronized
  have S : CallFix p m c cX10_horseTells 4 s _ wsX10_horseTells RX10 := ⟨hx, hb, hml, hown, hts⟩
  have hin10 : ∀ w ∈ wsX100, w ∈ wsX10_horseTells := (fun _ h => List.mem_cons_of_mem _ (List.mem_append_right _ (h)))
  have hS : va_S A s.heap s.heap [] := va_S.rf
  have hl := lv_entry ([.ref (ad 0 0), .int p0, .int p1]) (n := 4) (Nat.le_of_ble_eq_true rfl)
  rw [lg_entry_eq]
  generalize (lg_sl ([.ref (ad 0 0), .int p0, .int p1]) ++ List.replicate (4 - (lg_sl ([.ref (ad 0 0), .int p0, .int p1])).length) Slot.unset).toArray = ls at hl ⊢
  have hl : lv_has ls 4 [(0, .ref (ad 0 0)), (1, .int p0), (2, .int p1)] := hl
  refine lv_iload_n hx hb dX10_horseTells_0 rfl (lv_at hl 1 rfl) ?_
  refine lv_iconst (v := 0) hx hb dX10_horseTells_1 (by decide) ?_
  refine lv_bipush (v := 9) hx hb dX10_horseTells_2 (by decide) ?_
  refine nw_callS (As := [.int p0, .int 0, .int 9]) (rest := []) S (kX10_in l p0 0 9) gX10_horseTells_X10_in rfl ⟨rfl, rfl⟩ hqX10_in ⟨Nat.le_of_ble_eq_true rfl, Nat.le_of_ble_eq_true rfl⟩ rfl hl.1 rfl (Nat.le_of_ble_eq_true rfl) dX10_horseTells_4 ⟨Nat.le_of_ble_eq_true rfl, Nat.le_of_ble_eq_true rfl⟩ ?_
  refine lv_if_eq (x := fX10_in p0 0 9) (tgt := 28) hx hb dX10_horseTells_7 (by decide) (fun c_1 => ?_) (fun c_1 => ?_)
  · refine lv_ldc (v := (-1000000001)) hx hb hown (hts (.constant RX10 99 (-1000000001)) (List.mem_cons_of_mem _ (List.mem_append_left _ (List.mem_of_getElem? (i := 1) rfl)))) dX10_horseTells_28 ?_
    have hf : fX10_horseTells M p0 p1 = ((-1000000001), M) := by unfold fX10_horseTells; rw [if_pos c_1]
    exact W.iret (v := (-1000000001)) hx hb hr (fun t ht _ => by rw [hf]; exact nw_end hS hN ht) hS.2.2 dX10_horseTells_30
  · refine lv_iload_n hx hb dX10_horseTells_10 rfl (lv_at hl 2 rfl) ?_
    refine lv_iconst (v := 0) hx hb dX10_horseTells_11 (by decide) ?_
    refine lv_iconst (v := 5) hx hb dX10_horseTells_12 (by decide) ?_
    refine nw_callS (As := [.int p1, .int 0, .int 5]) (rest := []) S (kX10_in l p1 0 5) gX10_horseTells_X10_in rfl ⟨rfl, rfl⟩ hqX10_in ⟨Nat.le_of_ble_eq_true rfl, Nat.le_of_ble_eq_true rfl⟩ rfl hl.1 rfl (Nat.le_of_ble_eq_true rfl) dX10_horseTells_13 ⟨Nat.le_of_ble_eq_true rfl, Nat.le_of_ble_eq_true rfl⟩ ?_
    refine lv_if_eq (x := fX10_in p1 0 5) (tgt := 28) hx hb dX10_horseTells_16 (by decide) (fun c_2 => ?_) (fun c_2 => ?_)
    · refine lv_ldc (v := (-1000000001)) hx hb hown (hts (.constant RX10 99 (-1000000001)) (List.mem_cons_of_mem _ (List.mem_append_left _ (List.mem_of_getElem? (i := 1) rfl)))) dX10_horseTells_28 ?_
      have hf : fX10_horseTells M p0 p1 = ((-1000000001), M) := by unfold fX10_horseTells; rw [if_neg c_1, if_pos c_2]
      exact W.iret (v := (-1000000001)) hx hb hr (fun t ht _ => by rw [hf]; exact nw_end hS hN ht) hS.2.2 dX10_horseTells_30
    · refine lv_aload_n hx hb dX10_horseTells_19 rfl (lv_at hl 0 rfl) ?_
      refine nwM_get S hK hN hin10 11 (by decide) (index := 34) (List.mem_cons_of_mem _ (List.mem_append_left _ (List.mem_of_getElem? (i := 0) rfl))) rfl (v := .ref (ad 11 0)) rfl dX10_horseTells_20 ?_
      refine lv_iload_n hx hb dX10_horseTells_23 rfl (lv_at hl 1 rfl) ?_
      refine nw_iald S hK hN (k := 11) (i := 0) ⟨rfl, rfl⟩ rfl (x := p0) (in_in c_1 (by decide)) dX10_horseTells_24 ?_
      refine lv_if_ge (x := M 11 0 ((p0 : Int32).toNatClampNeg)) (tgt := 31) hx hb dX10_horseTells_25 (by decide) (fun c_3 => ?_) (fun c_3 => ?_)
      · refine lv_aload_n hx hb dX10_horseTells_31 rfl (lv_at hl 0 rfl) ?_
        refine nwM_get S hK hN hin10 11 (by decide) (index := 34) (List.mem_cons_of_mem _ (List.mem_append_left _ (List.mem_of_getElem? (i := 0) rfl))) rfl (v := .ref (ad 11 0)) rfl dX10_horseTells_32 ?_
        refine lv_iload_n hx hb dX10_horseTells_35 rfl (lv_at hl 1 rfl) ?_
        refine nw_iald S hK hN (k := 11) (i := 0) ⟨rfl, rfl⟩ rfl (x := p0) (in_in c_1 (by decide)) dX10_horseTells_36 ?_
        refine lv_istore_n (lv' := [(3, .int (M 11 0 ((p0 : Int32).toNatClampNeg))), (0, .ref (ad 0 0)), (1, .int p0), (2, .int p1)]) hx hb dX10_horseTells_37 rfl hl (by decide) rfl (fun ls hl => ?_)
        refine lv_iload_n hx hb dX10_horseTells_38 rfl (lv_at hl 3 rfl) ?_
        by_cases c_4 : p1 = 0
        · refine lv_tableIn (x := p1) (off := 33) (tgt := 72) hx hb dX10_horseTells_39 (by rw [c_4]; decide) (by rw [c_4]; decide) (by rw [c_4]; rfl) (by decide) ?_
          refine lv_aload_n hx hb dX10_horseTells_72 rfl (lv_at hl 1 rfl) ?_
          refine nwM_get S hK hN hin10 1 (by decide) (index := 7) (List.mem_cons_of_mem _ (List.mem_append_left _ (List.mem_of_getElem? (i := 2) rfl))) rfl (v := .ref (ad 1 0)) rfl dX10_horseTells_73 ?_
          refine lv_iload_n hx hb dX10_horseTells_76 rfl (lv_at hl 0 rfl) ?_
          refine nw_iald S hK hN (k := 1) (i := 0) ⟨rfl, rfl⟩ rfl (x := M 11 0 ((p0 : Int32).toNatClampNeg)) (invM_st hI (in_in c_1 (by decide)) c_3) dX10_horseTells_77 ?_
          have hf : fX10_horseTells M p0 p1 = (M 1 0 ((M 11 0 ((p0 : Int32).toNatClampNeg) : Int32).toNatClampNeg), M) := by unfold fX10_horseTells; rw [if_neg c_1, if_neg c_2, if_pos c_3, if_pos c_4]
          exact W.iret (v := M 1 0 ((M 11 0 ((p0 : Int32).toNatClampNeg) : Int32).toNatClampNeg)) hx hb hr (fun t ht _ => by rw [hf]; exact nw_end hS hN ht) hS.2.2 dX10_horseTells_78
        · by_cases c_5 : p1 = 1
          · refine lv_tableIn (x := p1) (off := 40) (tgt := 79) hx hb dX10_horseTells_39 (by rw [c_5]; decide) (by rw [c_5]; decide) (by rw [c_5]; rfl) (by decide) ?_
            refine lv_aload_n hx hb dX10_horseTells_79 rfl (lv_at hl 1 rfl) ?_
            refine nwM_get S hK hN hin10 2 (by decide) (index := 13) (List.mem_cons_of_mem _ (List.mem_append_left _ (List.mem_of_getElem? (i := 3) rfl))) rfl (v := .ref (ad 2 0)) rfl dX10_horseTells_80 ?_
            refine lv_iload_n hx hb dX10_horseTells_83 rfl (lv_at hl 0 rfl) ?_
            refine nw_iald S hK hN (k := 2) (i := 0) ⟨rfl, rfl⟩ rfl (x := M 11 0 ((p0 : Int32).toNatClampNeg)) (invM_st hI (in_in c_1 (by decide)) c_3) dX10_horseTells_84 ?_
            have hf : fX10_horseTells M p0 p1 = (M 2 0 ((M 11 0 ((p0 : Int32).toNatClampNeg) : Int32).toNatClampNeg), M) := by unfold fX10_horseTells; rw [if_neg c_1, if_neg c_2, if_pos c_3, if_neg c_4, if_pos c_5]
            exact W.iret (v := M 2 0 ((M 11 0 ((p0 : Int32).toNatClampNeg) : Int32).toNatClampNeg)) hx hb hr (fun t ht _ => by rw [hf]; exact nw_end hS hN ht) hS.2.2 dX10_horseTells_85
          · by_cases c_6 : p1 = 2
            · refine lv_tableIn (x := p1) (off := 47) (tgt := 86) hx hb dX10_horseTells_39 (by rw [c_6]; decide) (by rw [c_6]; decide) (by rw [c_6]; rfl) (by decide) ?_
              refine lv_aload_n hx hb dX10_horseTells_86 rfl (lv_at hl 1 rfl) ?_
              refine nwM_get S hK hN hin10 3 (by decide) (index := 16) (List.mem_cons_of_mem _ (List.mem_append_left _ (List.mem_of_getElem? (i := 4) rfl))) rfl (v := .ref (ad 3 0)) rfl dX10_horseTells_87 ?_
              refine lv_iload_n hx hb dX10_horseTells_90 rfl (lv_at hl 0 rfl) ?_
              refine nw_iald S hK hN (k := 3) (i := 0) ⟨rfl, rfl⟩ rfl (x := M 11 0 ((p0 : Int32).toNatClampNeg)) (invM_st hI (in_in c_1 (by decide)) c_3) dX10_horseTells_91 ?_
              have hf : fX10_horseTells M p0 p1 = (M 3 0 ((M 11 0 ((p0 : Int32).toNatClampNeg) : Int32).toNatClampNeg), M) := by unfold fX10_horseTells; rw [if_neg c_1, if_neg c_2, if_pos c_3, if_neg c_4, if_neg c_5, if_pos c_6]
              exact W.iret (v := M 3 0 ((M 11 0 ((p0 : Int32).toNatClampNeg) : Int32).toNatClampNeg)) hx hb hr (fun t ht _ => by rw [hf]; exact nw_end hS hN ht) hS.2.2 dX10_horseTells_92
            · by_cases c_7 : p1 = 3
              · refine lv_tableIn (x := p1) (off := 54) (tgt := 93) hx hb dX10_horseTells_39 (by rw [c_7]; decide) (by rw [c_7]; decide) (by rw [c_7]; rfl) (by decide) ?_
                refine lv_aload_n hx hb dX10_horseTells_93 rfl (lv_at hl 1 rfl) ?_
                refine nwM_get S hK hN hin10 4 (by decide) (index := 19) (List.mem_cons_of_mem _ (List.mem_append_left _ (List.mem_of_getElem? (i := 5) rfl))) rfl (v := .ref (ad 4 0)) rfl dX10_horseTells_94 ?_
                refine lv_iload_n hx hb dX10_horseTells_97 rfl (lv_at hl 0 rfl) ?_
                refine nw_iald S hK hN (k := 4) (i := 0) ⟨rfl, rfl⟩ rfl (x := M 11 0 ((p0 : Int32).toNatClampNeg)) (invM_st hI (in_in c_1 (by decide)) c_3) dX10_horseTells_98 ?_
                have hf : fX10_horseTells M p0 p1 = (M 4 0 ((M 11 0 ((p0 : Int32).toNatClampNeg) : Int32).toNatClampNeg), M) := by unfold fX10_horseTells; rw [if_neg c_1, if_neg c_2, if_pos c_3, if_neg c_4, if_neg c_5, if_neg c_6, if_pos c_7]
                exact W.iret (v := M 4 0 ((M 11 0 ((p0 : Int32).toNatClampNeg) : Int32).toNatClampNeg)) hx hb hr (fun t ht _ => by rw [hf]; exact nw_end hS hN ht) hS.2.2 dX10_horseTells_99
              · by_cases c_8 : p1 = 4
                · refine lv_tableIn (x := p1) (off := 61) (tgt := 100) hx hb dX10_horseTells_39 (by rw [c_8]; decide) (by rw [c_8]; decide) (by rw [c_8]; rfl) (by decide) ?_
                  refine lv_aload_n hx hb dX10_horseTells_100 rfl (lv_at hl 1 rfl) ?_
                  refine nwM_get S hK hN hin10 5 (by decide) (index := 22) (List.mem_cons_of_mem _ (List.mem_append_left _ (List.mem_of_getElem? (i := 6) rfl))) rfl (v := .ref (ad 5 0)) rfl dX10_horseTells_101 ?_
                  refine lv_iload_n hx hb dX10_horseTells_104 rfl (lv_at hl 0 rfl) ?_
                  refine nw_iald S hK hN (k := 5) (i := 0) ⟨rfl, rfl⟩ rfl (x := M 11 0 ((p0 : Int32).toNatClampNeg)) (invM_st hI (in_in c_1 (by decide)) c_3) dX10_horseTells_105 ?_
                  have hf : fX10_horseTells M p0 p1 = (M 5 0 ((M 11 0 ((p0 : Int32).toNatClampNeg) : Int32).toNatClampNeg), M) := by unfold fX10_horseTells; rw [if_neg c_1, if_neg c_2, if_pos c_3, if_neg c_4, if_neg c_5, if_neg c_6, if_neg c_7, if_pos c_8]
                  exact W.iret (v := M 5 0 ((M 11 0 ((p0 : Int32).toNatClampNeg) : Int32).toNatClampNeg)) hx hb hr (fun t ht _ => by rw [hf]; exact nw_end hS hN ht) hS.2.2 dX10_horseTells_106
                · refine lv_tableOut (x := p1) (tgt := 107) hx hb dX10_horseTells_39 (by have q0 := lv_neT (a := 0) c_4 (by decide); have q1 := lv_neT (a := 1) c_5 (by decide); have q2 := lv_neT (a := 2) c_6 (by decide); have q3 := lv_neT (a := 3) c_7 (by decide); have q4 := lv_neT (a := 4) c_8 (by decide); omega) (by decide) ?_
                  refine lv_aload_n hx hb dX10_horseTells_107 rfl (lv_at hl 1 rfl) ?_
                  refine nwM_get S hK hN hin10 6 (by decide) (index := 25) (List.mem_cons_of_mem _ (List.mem_append_left _ (List.mem_of_getElem? (i := 7) rfl))) rfl (v := .ref (ad 6 0)) rfl dX10_horseTells_108 ?_
                  refine lv_iload_n hx hb dX10_horseTells_111 rfl (lv_at hl 0 rfl) ?_
                  refine nw_iald S hK hN (k := 6) (i := 0) ⟨rfl, rfl⟩ rfl (x := M 11 0 ((p0 : Int32).toNatClampNeg)) (invM_st hI (in_in c_1 (by decide)) c_3) dX10_horseTells_112 ?_
                  have hf : fX10_horseTells M p0 p1 = (M 6 0 ((M 11 0 ((p0 : Int32).toNatClampNeg) : Int32).toNatClampNeg), M) := by unfold fX10_horseTells; rw [if_neg c_1, if_neg c_2, if_pos c_3, if_neg c_4, if_neg c_5, if_neg c_6, if_neg c_7, if_neg c_8]
                  exact W.iret (v := M 6 0 ((M 11 0 ((p0 : Int32).toNatClampNeg) : Int32).toNatClampNeg)) hx hb hr (fun t ht _ => by rw [hf]; exact nw_end hS hN ht) hS.2.2 dX10_horseTells_113
      · refine lv_ldc (v := (-1000000001)) hx hb hown (hts (.constant RX10 99 (-1000000001)) (List.mem_cons_of_mem _ (List.mem_append_left _ (List.mem_of_getElem? (i := 1) rfl)))) dX10_horseTells_28 ?_
        have hf : fX10_horseTells M p0 p1 = ((-1000000001), M) := by unfold fX10_horseTells; rw [if_neg c_1, if_neg c_2, if_neg c_3]
        exact W.iret (v := (-1000000001)) hx hb hr (fun t ht _ => by rw [hf]; exact nw_end hS hN ht) hS.2.2 dX10_horseTells_30
set_option maxHeartbeats 4000000 in
set_option maxRecDepth 100000 in
theorem kX10_shed (l : Launch) (D : va_G) (C : Nat → ClassId) (A : Nat → Prop) (ad : Nat → Nat → Nat) (M : Nat → Nat → Nat → Int32) (p0 : Int32) : Met l yX10_shed wsX10_shed ({ frames := 1, cells := 0, slots := 0, locals := 22 }) (va_Pc [.ref (ad 0 0), .int p0] (PW D C A (nw D (enM C) domM A ad M))) (nQ A (some (.int (fX10_shed M p0).1)) (nw D (enM C) domM A ad (fX10_shed M p0).2)) 0 0 A := by
  refine Met.ofW (cc := cX10_shed) (maxL := 2) (ret := (some .int)) (by decide) rfl ?_
  intro p e s m args below meth c s₁ B hml hv
  obtain ⟨rfl, hK, hN, hA⟩ := hv
  have hx := B.exec
  have hb := B.bytes
  have hr := B.returns
  have hts := atoms_spec (ws := wsX10_shed) B.pre
  have hown : s.vm.findClass RX10 = some m.cls := findClass_of_methodNamed B.named
  have hlocks := B.notSynchronized
  have S : CallFix p m c cX10_shed 2 s _ wsX10_shed RX10 := ⟨hx, hb, hml, hown, hts⟩
  have hin10 : ∀ w ∈ wsX100, w ∈ wsX10_shed := (fun _ h => List.mem_cons_of_mem _ (List.mem_append_right _ (h)))
  have hS : va_S A s.heap s.heap [] := va_S.rf
  have hl := lv_entry ([.ref (ad 0 0), .int p0]) (n := 2) (Nat.le_of_ble_eq_true rfl)
  rw [lg_entry_eq]
  generalize (lg_sl ([.ref (ad 0 0), .int p0]) ++ List.replicate (2 - (lg_sl ([.ref (ad 0 0), .int p0])).length) Slot.unset).toArray = ls at hl ⊢
  have hl : lv_has ls 2 [(0, .ref (ad 0 0)), (1, .int p0)] := hl
  refine lv_iload_n hx hb dX10_shed_0 rfl (lv_at hl 1 rfl) ?_
  refine lv_iconst (v := 0) hx hb dX10_shed_1 (by decide) ?_
  refine lv_iconst (v := 5) hx hb dX10_shed_2 (by decide) ?_
  refine nw_callS (As := [.int p0, .int 0, .int 5]) (rest := []) S (kX10_in l p0 0 5) gX10_shed_X10_in rfl ⟨rfl, rfl⟩ hqX10_in ⟨Nat.le_of_ble_eq_true rfl, Nat.le_of_ble_eq_true rfl⟩ rfl hl.1 rfl (Nat.le_of_ble_eq_true rfl) dX10_shed_3 ⟨Nat.le_of_ble_eq_true rfl, Nat.le_of_ble_eq_true rfl⟩ ?_
  refine lv_if_ne (x := fX10_in p0 0 5) (tgt := 14) hx hb dX10_shed_6 (by decide) (fun c_1 => ?_) (fun c_1 => ?_)
  · refine lv_aload_n hx hb dX10_shed_14 rfl (lv_at hl 0 rfl) ?_
    refine nwM_get S hK hN hin10 12 (by decide) (index := 37) (List.mem_cons_of_mem _ (List.mem_append_left _ (List.mem_of_getElem? (i := 1) rfl))) rfl (v := .ref (ad 12 0)) rfl dX10_shed_15 ?_
    refine lv_iload_n hx hb dX10_shed_18 rfl (lv_at hl 1 rfl) ?_
    refine nw_iald S hK hN (k := 12) (i := 0) ⟨rfl, rfl⟩ rfl (x := p0) (in_in c_1 (by decide)) dX10_shed_19 ?_
    refine lv_if_ge (x := M 12 0 ((p0 : Int32).toNatClampNeg)) (tgt := 27) hx hb dX10_shed_20 (by decide) (fun c_2 => ?_) (fun c_2 => ?_)
    · refine lv_aload_n hx hb dX10_shed_27 rfl (lv_at hl 0 rfl) ?_
      refine nwM_get S hK hN hin10 12 (by decide) (index := 37) (List.mem_cons_of_mem _ (List.mem_append_left _ (List.mem_of_getElem? (i := 1) rfl))) rfl (v := .ref (ad 12 0)) rfl dX10_shed_28 ?_
      refine lv_iload_n hx hb dX10_shed_31 rfl (lv_at hl 1 rfl) ?_
      refine nw_iald S hK hN (k := 12) (i := 0) ⟨rfl, rfl⟩ rfl (x := p0) (in_in c_1 (by decide)) dX10_shed_32 ?_
      refine lv_bipush (v := 100) hx hb dX10_shed_33 (by decide) ?_
      refine lv_icmp_ge (x := M 12 0 ((p0 : Int32).toNatClampNeg)) (y := 100) (tgt := 42) hx hb dX10_shed_35 (by decide) (fun c_3 => ?_) (fun c_3 => ?_)
      · refine lv_iconst (v := 2) hx hb dX10_shed_42 (by decide) ?_
        have hf : fX10_shed M p0 = (2, M) := by unfold fX10_shed; rw [if_neg c_1, if_pos c_2, if_pos c_3]
        exact W.iret (v := 2) hx hb hr (fun t ht _ => by rw [hf]; exact nw_end hS hN ht) hS.2.2 dX10_shed_43
      · refine lv_iconst (v := 1) hx hb dX10_shed_38 (by decide) ?_
        refine lv_goto (tgt := 43) hx hb dX10_shed_39 (by decide) ?_
        have hf : fX10_shed M p0 = (1, M) := by unfold fX10_shed; rw [if_neg c_1, if_pos c_2, if_neg c_3]
        exact W.iret (v := 1) hx hb hr (fun t ht _ => by rw [hf]; exact nw_end hS hN ht) hS.2.2 dX10_shed_43
    · refine lv_iconst (v := 0) hx hb dX10_shed_23 (by decide) ?_
      refine lv_goto (tgt := 43) hx hb dX10_shed_24 (by decide) ?_
      have hf : fX10_shed M p0 = (0, M) := by unfold fX10_shed; rw [if_neg c_1, if_neg c_2]
      exact W.iret (v := 0) hx hb hr (fun t ht _ => by rw [hf]; exact nw_end hS hN ht) hS.2.2 dX10_shed_43
  · refine lv_ldc (v := (-1000000001)) hx hb hown (hts (.constant RX10 99 (-1000000001)) (List.mem_cons_of_mem _ (List.mem_append_left _ (List.mem_of_getElem? (i := 0) rfl)))) dX10_shed_9 ?_
    refine lv_goto (tgt := 43) hx hb dX10_shed_11 (by decide) ?_
    have hf : fX10_shed M p0 = ((-1000000001), M) := by unfold fX10_shed; rw [if_pos c_1]
    exact W.iret (v := (-1000000001)) hx hb hr (fun t ht _ => by rw [hf]; exact nw_end hS hN ht) hS.2.2 dX10_shed_43
set_option maxHeartbeats 4000000 in
set_option maxRecDepth 100000 in
theorem kX10_same (l : Launch) (D : va_G) (C : Nat → ClassId) (A : Nat → Prop) (ad : Nat → Nat → Nat) (M : Nat → Nat → Nat → Int32) (p0 p1 : Int32) : Met l yX10_same wsX10_same ({ frames := 1, cells := 0, slots := 0, locals := 22 }) (va_Pc [.ref (ad 0 0), .int p0, .int p1] (PW D C A (nw D (enM C) domM A ad M))) (nQ A (some (.int (fX10_same M p0 p1).1)) (nw D (enM C) domM A ad (fX10_same M p0 p1).2)) 0 0 A := by
  refine Met.ofW (cc := cX10_same) (maxL := 3) (ret := (some .int)) (by decide) rfl ?_
  intro p e s m args below meth c s₁ B hml hv
  obtain ⟨rfl, hK, hN, hA⟩ := hv
  have hx := B.exec
  have hb := B.bytes
  have hr := B.returns
  have hts := atoms_spec (ws := wsX10_same) B.pre
  have hown : s.vm.findClass RX10 = some m.cls := findClass_of_methodNamed B.named
  have hlocks := B.notSynchronized
  have S : CallFix p m c cX10_same 3 s _ wsX10_same RX10 := ⟨hx, hb, hml, hown, hts⟩
  have hin10 : ∀ w ∈ wsX100, w ∈ wsX10_same := (fun _ h => List.mem_cons_of_mem _ (List.mem_append_right _ (h)))
  have hS : va_S A s.heap s.heap [] := va_S.rf
  have hl := lv_entry ([.ref (ad 0 0), .int p0, .int p1]) (n := 3) (Nat.le_of_ble_eq_true rfl)
  rw [lg_entry_eq]
  generalize (lg_sl ([.ref (ad 0 0), .int p0, .int p1]) ++ List.replicate (3 - (lg_sl ([.ref (ad 0 0), .int p0, .int p1])).length) Slot.unset).toArray = ls at hl ⊢
  have hl : lv_has ls 3 [(0, .ref (ad 0 0)), (1, .int p0), (2, .int p1)] := hl
  refine lv_iload_n hx hb dX10_same_0 rfl (lv_at hl 1 rfl) ?_
  refine lv_iconst (v := 0) hx hb dX10_same_1 (by decide) ?_
  refine lv_bipush (v := 9) hx hb dX10_same_2 (by decide) ?_
  refine nw_callS (As := [.int p0, .int 0, .int 9]) (rest := []) S (kX10_in l p0 0 9) gX10_same_X10_in rfl ⟨rfl, rfl⟩ hqX10_in ⟨Nat.le_of_ble_eq_true rfl, Nat.le_of_ble_eq_true rfl⟩ rfl hl.1 rfl (Nat.le_of_ble_eq_true rfl) dX10_same_4 ⟨Nat.le_of_ble_eq_true rfl, Nat.le_of_ble_eq_true rfl⟩ ?_
  refine lv_if_eq (x := fX10_in p0 0 9) (tgt := 20) hx hb dX10_same_7 (by decide) (fun c_1 => ?_) (fun c_1 => ?_)
  · refine lv_ldc (v := (-1000000001)) hx hb hown (hts (.constant RX10 99 (-1000000001)) (List.mem_cons_of_mem _ (List.mem_append_left _ (List.mem_of_getElem? (i := 0) rfl)))) dX10_same_20 ?_
    refine lv_goto (tgt := 45) hx hb dX10_same_22 (by decide) ?_
    have hf : fX10_same M p0 p1 = ((-1000000001), M) := by unfold fX10_same; rw [if_pos c_1]
    exact W.iret (v := (-1000000001)) hx hb hr (fun t ht _ => by rw [hf]; exact nw_end hS hN ht) hS.2.2 dX10_same_45
  · refine lv_iload_n hx hb dX10_same_10 rfl (lv_at hl 2 rfl) ?_
    refine lv_iconst (v := 0) hx hb dX10_same_11 (by decide) ?_
    refine lv_bipush (v := 9) hx hb dX10_same_12 (by decide) ?_
    refine nw_callS (As := [.int p1, .int 0, .int 9]) (rest := []) S (kX10_in l p1 0 9) gX10_same_X10_in rfl ⟨rfl, rfl⟩ hqX10_in ⟨Nat.le_of_ble_eq_true rfl, Nat.le_of_ble_eq_true rfl⟩ rfl hl.1 rfl (Nat.le_of_ble_eq_true rfl) dX10_same_14 ⟨Nat.le_of_ble_eq_true rfl, Nat.le_of_ble_eq_true rfl⟩ ?_
    refine lv_if_ne (x := fX10_in p1 0 9) (tgt := 25) hx hb dX10_same_17 (by decide) (fun c_2 => ?_) (fun c_2 => ?_)
    · refine lv_aload_n hx hb dX10_same_25 rfl (lv_at hl 0 rfl) ?_
      refine nwM_get S hK hN hin10 11 (by decide) (index := 34) (List.mem_cons_of_mem _ (List.mem_append_left _ (List.mem_of_getElem? (i := 1) rfl))) rfl (v := .ref (ad 11 0)) rfl dX10_same_26 ?_
      refine lv_iload_n hx hb dX10_same_29 rfl (lv_at hl 1 rfl) ?_
      refine nw_iald S hK hN (k := 11) (i := 0) ⟨rfl, rfl⟩ rfl (x := p0) (in_in c_1 (by decide)) dX10_same_30 ?_
      refine lv_aload_n hx hb dX10_same_31 rfl (lv_at hl 0 rfl) ?_
      refine nwM_get S hK hN hin10 11 (by decide) (index := 34) (List.mem_cons_of_mem _ (List.mem_append_left _ (List.mem_of_getElem? (i := 1) rfl))) rfl (v := .ref (ad 11 0)) rfl dX10_same_32 ?_
      refine lv_iload_n hx hb dX10_same_35 rfl (lv_at hl 2 rfl) ?_
      refine nw_iald S hK hN (k := 11) (i := 0) ⟨rfl, rfl⟩ rfl (x := p1) (in_in c_2 (by decide)) dX10_same_36 ?_
      refine lv_icmp_ne (x := M 11 0 ((p0 : Int32).toNatClampNeg)) (y := M 11 0 ((p1 : Int32).toNatClampNeg)) (tgt := 44) hx hb dX10_same_37 (by decide) (fun c_3 => ?_) (fun c_3 => ?_)
      · refine lv_iconst (v := 0) hx hb dX10_same_44 (by decide) ?_
        have hf : fX10_same M p0 p1 = (0, M) := by unfold fX10_same; rw [if_neg c_1, if_neg c_2, if_neg c_3]
        exact W.iret (v := 0) hx hb hr (fun t ht _ => by rw [hf]; exact nw_end hS hN ht) hS.2.2 dX10_same_45
      · refine lv_iconst (v := 1) hx hb dX10_same_40 (by decide) ?_
        refine lv_goto (tgt := 45) hx hb dX10_same_41 (by decide) ?_
        have hf : fX10_same M p0 p1 = (1, M) := by unfold fX10_same; rw [if_neg c_1, if_neg c_2, if_pos c_3]
        exact W.iret (v := 1) hx hb hr (fun t ht _ => by rw [hf]; exact nw_end hS hN ht) hS.2.2 dX10_same_45
    · refine lv_ldc (v := (-1000000001)) hx hb hown (hts (.constant RX10 99 (-1000000001)) (List.mem_cons_of_mem _ (List.mem_append_left _ (List.mem_of_getElem? (i := 0) rfl)))) dX10_same_20 ?_
      refine lv_goto (tgt := 45) hx hb dX10_same_22 (by decide) ?_
      have hf : fX10_same M p0 p1 = ((-1000000001), M) := by unfold fX10_same; rw [if_neg c_1, if_pos c_2]
      exact W.iret (v := (-1000000001)) hx hb hr (fun t ht _ => by rw [hf]; exact nw_end hS hN ht) hS.2.2 dX10_same_45
set_option maxHeartbeats 4000000 in
set_option maxRecDepth 100000 in
theorem kX10_count (l : Launch) (D : va_G) (C : Nat → ClassId) (A : Nat → Prop) (ad : Nat → Nat → Nat) (M : Nat → Nat → Nat → Int32) (p0 : Int32) : Met l yX10_count wsX10_count ({ frames := 1, cells := 0, slots := 0, locals := 22 }) (va_Pc [.ref (ad 0 0), .int p0] (PW D C A (nw D (enM C) domM A ad M))) (nQ A (some (.int (fX10_count M p0).1)) (nw D (enM C) domM A ad (fX10_count M p0).2)) 0 0 A := by
  refine Met.ofW (cc := cX10_count) (maxL := 2) (ret := (some .int)) (by decide) rfl ?_
  intro p e s m args below meth c s₁ B hml hv
  obtain ⟨rfl, hK, hN, hA⟩ := hv
  have hx := B.exec
  have hb := B.bytes
  have hr := B.returns
  have hts := atoms_spec (ws := wsX10_count) B.pre
  have hown : s.vm.findClass RX10 = some m.cls := findClass_of_methodNamed B.named
  have hlocks := B.notSynchronized
  have S : CallFix p m c cX10_count 2 s _ wsX10_count RX10 := ⟨hx, hb, hml, hown, hts⟩
  have hin10 : ∀ w ∈ wsX100, w ∈ wsX10_count := (fun _ h => List.mem_cons_of_mem _ (List.mem_append_right _ (h)))
  have hS : va_S A s.heap s.heap [] := va_S.rf
  have hl := lv_entry ([.ref (ad 0 0), .int p0]) (n := 2) (Nat.le_of_ble_eq_true rfl)
  rw [lg_entry_eq]
  generalize (lg_sl ([.ref (ad 0 0), .int p0]) ++ List.replicate (2 - (lg_sl ([.ref (ad 0 0), .int p0])).length) Slot.unset).toArray = ls at hl ⊢
  have hl : lv_has ls 2 [(0, .ref (ad 0 0)), (1, .int p0)] := hl
  refine lv_iload_n hx hb dX10_count_0 rfl (lv_at hl 1 rfl) ?_
  by_cases c_1 : p0 = 0
  · refine lv_tableIn (x := p0) (off := 35) (tgt := 36) hx hb dX10_count_1 (by rw [c_1]; decide) (by rw [c_1]; decide) (by rw [c_1]; rfl) (by decide) ?_
    refine lv_aload_n hx hb dX10_count_36 rfl (lv_at hl 0 rfl) ?_
    refine nwM_get S hK hN hin10 0 (by decide) (index := 100) (List.mem_cons_of_mem _ (List.mem_append_left _ (List.mem_of_getElem? (i := 0) rfl))) rfl (v := .int (M 0 0 0)) rfl dX10_count_37 ?_
    have hf : fX10_count M p0 = (M 0 0 0, M) := by unfold fX10_count; rw [if_pos c_1]
    exact W.iret (v := M 0 0 0) hx hb hr (fun t ht _ => by rw [hf]; exact nw_end hS hN ht) hS.2.2 dX10_count_40
  · by_cases c_2 : p0 = 1
    · refine lv_tableIn (x := p0) (off := 40) (tgt := 41) hx hb dX10_count_1 (by rw [c_2]; decide) (by rw [c_2]; decide) (by rw [c_2]; rfl) (by decide) ?_
      refine lv_aload_n hx hb dX10_count_41 rfl (lv_at hl 0 rfl) ?_
      refine nwM_get S hK hN hin10 7 (by decide) (index := 105) (List.mem_cons_of_mem _ (List.mem_append_left _ (List.mem_of_getElem? (i := 1) rfl))) rfl (v := .int (M 0 0 7)) rfl dX10_count_42 ?_
      have hf : fX10_count M p0 = (M 0 0 7, M) := by unfold fX10_count; rw [if_neg c_1, if_pos c_2]
      exact W.iret (v := M 0 0 7) hx hb hr (fun t ht _ => by rw [hf]; exact nw_end hS hN ht) hS.2.2 dX10_count_45
    · by_cases c_3 : p0 = 2
      · refine lv_tableIn (x := p0) (off := 45) (tgt := 46) hx hb dX10_count_1 (by rw [c_3]; decide) (by rw [c_3]; decide) (by rw [c_3]; rfl) (by decide) ?_
        refine lv_aload_n hx hb dX10_count_46 rfl (lv_at hl 0 rfl) ?_
        refine nwM_get S hK hN hin10 10 (by decide) (index := 112) (List.mem_cons_of_mem _ (List.mem_append_left _ (List.mem_of_getElem? (i := 2) rfl))) rfl (v := .int (M 0 0 10)) rfl dX10_count_47 ?_
        have hf : fX10_count M p0 = (M 0 0 10, M) := by unfold fX10_count; rw [if_neg c_1, if_neg c_2, if_pos c_3]
        exact W.iret (v := M 0 0 10) hx hb hr (fun t ht _ => by rw [hf]; exact nw_end hS hN ht) hS.2.2 dX10_count_50
      · by_cases c_4 : p0 = 3
        · refine lv_tableIn (x := p0) (off := 50) (tgt := 51) hx hb dX10_count_1 (by rw [c_4]; decide) (by rw [c_4]; decide) (by rw [c_4]; rfl) (by decide) ?_
          refine lv_aload_n hx hb dX10_count_51 rfl (lv_at hl 0 rfl) ?_
          refine nwM_get S hK hN hin10 24 (by decide) (index := 164) (List.mem_cons_of_mem _ (List.mem_append_left _ (List.mem_of_getElem? (i := 3) rfl))) rfl (v := .int (M 0 0 24)) rfl dX10_count_52 ?_
          have hf : fX10_count M p0 = (M 0 0 24, M) := by unfold fX10_count; rw [if_neg c_1, if_neg c_2, if_neg c_3, if_pos c_4]
          exact W.iret (v := M 0 0 24) hx hb hr (fun t ht _ => by rw [hf]; exact nw_end hS hN ht) hS.2.2 dX10_count_55
        · by_cases c_5 : p0 = 4
          · refine lv_tableIn (x := p0) (off := 55) (tgt := 56) hx hb dX10_count_1 (by rw [c_5]; decide) (by rw [c_5]; decide) (by rw [c_5]; rfl) (by decide) ?_
            refine lv_aload_n hx hb dX10_count_56 rfl (lv_at hl 0 rfl) ?_
            refine nwM_get S hK hN hin10 29 (by decide) (index := 167) (List.mem_cons_of_mem _ (List.mem_append_left _ (List.mem_of_getElem? (i := 4) rfl))) rfl (v := .int (M 0 0 29)) rfl dX10_count_57 ?_
            have hf : fX10_count M p0 = (M 0 0 29, M) := by unfold fX10_count; rw [if_neg c_1, if_neg c_2, if_neg c_3, if_neg c_4, if_pos c_5]
            exact W.iret (v := M 0 0 29) hx hb hr (fun t ht _ => by rw [hf]; exact nw_end hS hN ht) hS.2.2 dX10_count_60
          · refine lv_tableOut (x := p0) (tgt := 61) hx hb dX10_count_1 (by have q0 := lv_neT (a := 0) c_1 (by decide); have q1 := lv_neT (a := 1) c_2 (by decide); have q2 := lv_neT (a := 2) c_3 (by decide); have q3 := lv_neT (a := 3) c_4 (by decide); have q4 := lv_neT (a := 4) c_5 (by decide); omega) (by decide) ?_
            refine lv_iload_n hx hb dX10_count_61 rfl (lv_at hl 1 rfl) ?_
            refine lv_bipush (v := 6) hx hb dX10_count_62 (by decide) ?_
            refine lv_bipush (v := 11) hx hb dX10_count_64 (by decide) ?_
            refine nw_callS (As := [.int p0, .int 6, .int 11]) (rest := []) S (kX10_in l p0 6 11) gX10_count_X10_in rfl ⟨rfl, rfl⟩ hqX10_in ⟨Nat.le_of_ble_eq_true rfl, Nat.le_of_ble_eq_true rfl⟩ rfl hl.1 rfl (Nat.le_of_ble_eq_true rfl) dX10_count_66 ⟨Nat.le_of_ble_eq_true rfl, Nat.le_of_ble_eq_true rfl⟩ ?_
            refine lv_if_eq (x := fX10_in p0 6 11) (tgt := 83) hx hb dX10_count_69 (by decide) (fun c_6 => ?_) (fun c_6 => ?_)
            · refine lv_ldc (v := (-1000000002)) hx hb hown (hts (.constant RX10 170 (-1000000002)) (List.mem_cons_of_mem _ (List.mem_append_left _ (List.mem_of_getElem? (i := 6) rfl)))) dX10_count_83 ?_
              have hf : fX10_count M p0 = ((-1000000002), M) := by unfold fX10_count; rw [if_neg c_1, if_neg c_2, if_neg c_3, if_neg c_4, if_neg c_5, if_pos c_6]
              exact W.iret (v := (-1000000002)) hx hb hr (fun t ht _ => by rw [hf]; exact nw_end hS hN ht) hS.2.2 dX10_count_85
            · refine lv_aload_n hx hb dX10_count_72 rfl (lv_at hl 0 rfl) ?_
              refine nwM_get S hK hN hin10 32 (by decide) (index := 92) (List.mem_cons_of_mem _ (List.mem_append_left _ (List.mem_of_getElem? (i := 5) rfl))) rfl (v := .ref (ad 32 0)) rfl dX10_count_73 ?_
              refine lv_iload_n hx hb dX10_count_76 rfl (lv_at hl 1 rfl) ?_
              refine lv_iconst (v := 5) hx hb dX10_count_77 (by decide) ?_
              refine lv_isub hx hb dX10_count_78 ?_
              refine nw_iald S hK hN (k := 32) (i := 0) ⟨rfl, rfl⟩ rfl (x := p0 - 5) (cnt_in c_6) dX10_count_79 ?_
              refine lv_goto (tgt := 85) hx hb dX10_count_80 (by decide) ?_
              have hf : fX10_count M p0 = (M 32 0 ((p0 - 5 : Int32).toNatClampNeg), M) := by unfold fX10_count; rw [if_neg c_1, if_neg c_2, if_neg c_3, if_neg c_4, if_neg c_5, if_neg c_6]
              exact W.iret (v := M 32 0 ((p0 - 5 : Int32).toNatClampNeg)) hx hb hr (fun t ht _ => by rw [hf]; exact nw_end hS hN ht) hS.2.2 dX10_count_85
set_option maxHeartbeats 4000000 in
set_option maxRecDepth 100000 in
theorem kX10_worksAll (l : Launch) (D : va_G) (C : Nat → ClassId) (A : Nat → Prop) (ad : Nat → Nat → Nat) (M : Nat → Nat → Nat → Int32) (p0 p1 : Int32) (kk : Nat) (hI : InvM kk M) (ht : vp_in p0 6) : Met l yX10_worksAll wsX10_worksAll ({ frames := 1, cells := 0, slots := 0, locals := 23 }) (va_Pc [.ref (ad 0 0), .int p0, .int p1] (PW D C A (nw D (enM C) domM A ad M))) (nQ A (some (.int (fX10_worksAll M p0 p1).1)) (nw D (enM C) domM A ad (fX10_worksAll M p0 p1).2)) 0 0 A := by
  refine Met.ofW (cc := cX10_worksAll) (maxL := 6) (ret := (some .int)) (by decide) rfl ?_
  intro p e s m args below meth c s₁ B hml hv
  obtain ⟨rfl, hK, hN, hA⟩ := hv
  have hx := B.exec
  have hb := B.bytes
  have hr := B.returns
  have hts := atoms_spec (ws := wsX10_worksAll) B.pre
  have hown : s.vm.findClass RX10 = some m.cls := findClass_of_methodNamed B.named
  have hlocks := B.notSynchronized
  have S : CallFix p m c cX10_worksAll 6 s _ wsX10_worksAll RX10 := ⟨hx, hb, hml, hown, hts⟩
  have hin10 : ∀ w ∈ wsX100, w ∈ wsX10_worksAll := (fun _ h => List.mem_cons_of_mem _ (List.mem_append_right _ (h)))
  have hS : va_S A s.heap s.heap [] := va_S.rf
  have hl := lv_entry ([.ref (ad 0 0), .int p0, .int p1]) (n := 6) (Nat.le_of_ble_eq_true rfl)
  rw [lg_entry_eq]
  generalize (lg_sl ([.ref (ad 0 0), .int p0, .int p1]) ++ List.replicate (6 - (lg_sl ([.ref (ad 0 0), .int p0, .int p1])).length) Slot.unset).toArray = ls at hl ⊢
  have hl : lv_has ls 6 [(0, .ref (ad 0 0)), (1, .int p0), (2, .int p1)] := hl
  refine lv_iconst (v := 0) hx hb dX10_worksAll_0 (by decide) ?_
  refine lv_istore_n (lv' := [(3, .int 0), (0, .ref (ad 0 0)), (1, .int p0), (2, .int p1)]) hx hb dX10_worksAll_1 rfl hl (by decide) rfl (fun ls hl => ?_)
  refine lv_iconst (v := 0) hx hb dX10_worksAll_2 (by decide) ?_
  refine lv_istore (lv' := [(4, .int 0), (3, .int 0), (0, .ref (ad 0 0)), (1, .int p0), (2, .int p1)]) hx hb dX10_worksAll_3 hl (by decide) rfl (fun ls hl => ?_)
  refine lpW (σ := Int32 × Int32 × (Nat → Nat → Nat → Int32)) 9 (0, 0, M) (fun n x H locs ls => lv_has ls 6 [(4, .int x.1), (3, .int x.2.1), (0, .ref (ad 0 0)), (1, .int p0), (2, .int p1)] ∧ nw D (enM C) domM A ad x.2.2 H ∧ va_S A s.heap H locs ∧ fX10_worksAll M p0 p1 = gX10_worksAll_5 p0 p1 n x.1 x.2.1 (x.2.2) ∧ (InvM kk x.2.2 ∧ ∃ i : Nat, x.1 = nI i ∧ i ≤ 8 ∧ i + n = 9)) 5 (fun n x H locs ls hP ih => ?_) ⟨lv_sub hl [0, 1, 2, 3, 4] rfl, hN, hS, rfl, hI, 0, rfl, by omega, rfl⟩
  obtain ⟨x4, x3, Z5⟩ := x
  obtain ⟨hl, hN, hS, hfe, hinv⟩ := hP
  dsimp only at hl hN hfe hinv
  obtain ⟨hZ, i, hi1, hi2, hi3⟩ := hinv
  obtain ⟨n, rfl⟩ : ∃ k, n = k + 1 := ⟨n - 1, by omega⟩
  refine lv_iload hx hb dX10_worksAll_5 (lv_at hl 0 rfl) ?_
  refine lv_aload_n hx hb dX10_worksAll_7 rfl (lv_at hl 2 rfl) ?_
  refine nwM_get S hK hN hin10 13 (by decide) (index := 40) (List.mem_cons_of_mem _ (List.mem_append_left _ (List.mem_of_getElem? (i := 0) rfl))) rfl (v := .ref (ad 13 0)) rfl dX10_worksAll_8 ?_
  refine lv_iload_n hx hb dX10_worksAll_11 rfl (lv_at hl 3 rfl) ?_
  refine nw_iald S hK hN (k := 13) (i := 0) ⟨rfl, rfl⟩ rfl (x := p0) (ht) dX10_worksAll_12 ?_
  refine lv_icmp_ge (x := x4) (y := Z5 13 0 ((p0 : Int32).toNatClampNeg)) (tgt := 51) hx hb dX10_worksAll_13 (by decide) (fun c_1 => ?_) (fun c_1 => ?_)
  · refine lv_aload_n hx hb dX10_worksAll_51 rfl (lv_at hl 2 rfl) ?_
    refine lv_iload_n hx hb dX10_worksAll_52 rfl (lv_at hl 1 rfl) ?_
    refine nwM_call (As := [.int x3]) (rest := []) S (kX10_come l D C A ad Z5 x3 ) gX10_worksAll_X10_come rfl ⟨rfl, rfl⟩ hqX10_come ⟨Nat.le_of_ble_eq_true rfl, Nat.le_of_ble_eq_true rfl⟩ hK hN hN hA hS rfl hl.1 rfl (Nat.le_of_ble_eq_true rfl) dX10_worksAll_53 ⟨Nat.le_of_ble_eq_true rfl, Nat.le_of_ble_eq_true rfl⟩ (fun H locs hN hS => ?_)
    have hf : fX10_worksAll M p0 p1 = (0, u3 Z5 0 0 34 x3) := by rw [hfe, gX10_worksAll_5_s, if_pos c_1]
    exact W.iret (v := 0) hx hb hr (fun t ht _ => by rw [hf]; exact nw_end hS hN ht) hS.2.2 dX10_worksAll_56
  · refine lv_aload_n hx hb dX10_worksAll_16 rfl (lv_at hl 2 rfl) ?_
    refine nwM_get S hK hN hin10 15 (by decide) (index := 46) (List.mem_cons_of_mem _ (List.mem_append_left _ (List.mem_of_getElem? (i := 1) rfl))) rfl (v := .ref (ad 15 0)) rfl dX10_worksAll_17 ?_
    refine lv_bipush (v := 8) hx hb dX10_worksAll_20 (by decide) ?_
    refine lv_iload_n hx hb dX10_worksAll_22 rfl (lv_at hl 3 rfl) ?_
    refine lv_imul hx hb dX10_worksAll_23 ?_
    refine lv_iload hx hb dX10_worksAll_24 (lv_at hl 0 rfl) ?_
    refine lv_iadd hx hb dX10_worksAll_26 ?_
    refine nw_iald S hK hN (k := 15) (i := 0) ⟨rfl, rfl⟩ rfl (x := (8 * p0) + x4) (wa_idx hZ ht hi1 hi2 c_1) dX10_worksAll_27 ?_
    refine lv_istore (lv' := [(5, .int (Z5 15 0 (((8 * p0) + x4 : Int32).toNatClampNeg))), (4, .int x4), (3, .int x3), (0, .ref (ad 0 0)), (1, .int p0), (2, .int p1)]) hx hb dX10_worksAll_28 hl (by decide) rfl (fun ls hl => ?_)
    refine lv_iload hx hb dX10_worksAll_30 (lv_at hl 0 rfl) ?_
    refine lv_if_ge (x := Z5 15 0 (((8 * p0) + x4 : Int32).toNatClampNeg)) (tgt := 37) hx hb dX10_worksAll_32 (by decide) (fun c_2 => ?_) (fun c_2 => ?_)
    · refine lv_aload_n hx hb dX10_worksAll_37 rfl (lv_at hl 3 rfl) ?_
      refine lv_iload hx hb dX10_worksAll_38 (lv_at hl 0 rfl) ?_
      refine lv_iload_n hx hb dX10_worksAll_40 rfl (lv_at hl 5 rfl) ?_
      refine nwM_call (As := [.int (Z5 15 0 (((8 * p0) + x4 : Int32).toNatClampNeg)), .int p1]) (rest := []) S (kX10_work l D C A ad Z5 (Z5 15 0 (((8 * p0) + x4 : Int32).toNatClampNeg)) p1 (wa_x1 hZ ht hi1 hi2 c_1 c_2) (wa_x2 hZ ht hi1 hi2 c_1 c_2)) gX10_worksAll_X10_work rfl ⟨rfl, rfl⟩ hqX10_work ⟨Nat.le_of_ble_eq_true rfl, Nat.le_of_ble_eq_true rfl⟩ hK hN hN hA hS rfl hl.1 rfl (Nat.le_of_ble_eq_true rfl) dX10_worksAll_41 ⟨Nat.le_of_ble_eq_true rfl, Nat.le_of_ble_eq_true rfl⟩ (fun H locs hN hS => ?_)
      refine lv_istore_n (lv' := [(3, .int ((fX10_work Z5 (Z5 15 0 (((8 * p0) + x4 : Int32).toNatClampNeg)) p1).1)), (5, .int (Z5 15 0 (((8 * p0) + x4 : Int32).toNatClampNeg))), (4, .int x4), (0, .ref (ad 0 0)), (1, .int p0), (2, .int p1)]) hx hb dX10_worksAll_44 rfl hl (by decide) rfl (fun ls hl => ?_)
      refine lv_iinc (v := x4 + 1) (lv' := [(4, .int (x4 + 1)), (3, .int ((fX10_work Z5 (Z5 15 0 (((8 * p0) + x4 : Int32).toNatClampNeg)) p1).1)), (5, .int (Z5 15 0 (((8 * p0) + x4 : Int32).toNatClampNeg))), (0, .ref (ad 0 0)), (1, .int p0), (2, .int p1)]) hx hb dX10_worksAll_45 hl (k := 2) rfl rfl (by decide) rfl (fun ls hl => ?_)
      refine lv_goto (tgt := 5) hx hb dX10_worksAll_48 (by decide) ?_
      exact ih n (x4 + 1, (fX10_work Z5 (Z5 15 0 (((8 * p0) + x4 : Int32).toNatClampNeg)) p1).1, (fX10_work Z5 (Z5 15 0 (((8 * p0) + x4 : Int32).toNatClampNeg)) p1).2) _ _ _ (by omega) ⟨lv_sub hl [0, 1, 3, 4, 5] rfl, hN, hS, by rw [hfe, gX10_worksAll_5_s, if_neg c_1, if_pos c_2], wa_back hZ ht hi1 hi2 hi3 c_1 c_2⟩
    · refine lv_iconst (v := 1) hx hb dX10_worksAll_35 (by decide) ?_
      have hf : fX10_worksAll M p0 p1 = (1, Z5) := by rw [hfe, gX10_worksAll_5_s, if_neg c_1, if_neg c_2]
      exact W.iret (v := 1) hx hb hr (fun t ht _ => by rw [hf]; exact nw_end hS hN ht) hS.2.2 dX10_worksAll_36
