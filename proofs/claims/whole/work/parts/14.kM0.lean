set_option maxHeartbeats 4000000 in
set_option maxRecDepth 100000 in
theorem kX10_come (l : Launch) (D : va_G) (C : Nat → ClassId) (A : Nat → Prop) (ad : Nat → Nat → Nat) (M : Nat → Nat → Nat → Int32) (p0 : Int32) : Met l yX10_come wsX10_come ({ frames := 0, cells := 0, slots := 0, locals := 0 }) (va_Pc [.ref (ad 0 0), .int p0] (PW D C A (nw D (enM C) domM A ad M))) (nQ A (some (.int (fX10_come M p0).1)) (nw D (enM C) domM A ad (fX10_come M p0).2)) 0 0 A := by
  refine Met.ofW (cc := cX10_come) (maxL := 2) (ret := (some .int)) (by decide) rfl ?_
  intro p e s m args below meth c s₁ B hml hv
  obtain ⟨rfl, hK, hN, hA⟩ := hv
  have hx := B.exec
  have hb := B.bytes
  have hr := B.returns
  have hts := atoms_spec (ws := wsX10_come) B.pre
  have hown : s.vm.findClass RX10 = some m.cls := findClass_of_methodNamed B.named
  have hlocks := B.notSynchronized
  have S : CallFix p m c cX10_come 2 s _ wsX10_come RX10 := ⟨hx, hb, hml, hown, hts⟩
  have hin10 : ∀ w ∈ wsX100, w ∈ wsX10_come := (fun _ h => List.mem_cons_of_mem _ (List.mem_append_right _ (h)))
  have hS : va_S A s.heap s.heap [] := va_S.rf
  have hl := lv_entry ([.ref (ad 0 0), .int p0]) (n := 2) (Nat.le_of_ble_eq_true rfl)
  rw [lg_entry_eq]
  generalize (lg_sl ([.ref (ad 0 0), .int p0]) ++ List.replicate (2 - (lg_sl ([.ref (ad 0 0), .int p0])).length) Slot.unset).toArray = ls at hl ⊢
  have hl : lv_has ls 2 [(0, .ref (ad 0 0)), (1, .int p0)] := hl
  refine lv_aload_n hx hb dX10_come_0 rfl (lv_at hl 0 rfl) ?_
  refine lv_iload_n hx hb dX10_come_1 rfl (lv_at hl 1 rfl) ?_
  refine nwM_put S hK hN hS hin10 34 (by decide) (index := 115) (List.mem_cons_of_mem _ (List.mem_append_left _ (List.mem_of_getElem? (i := 0) rfl))) rfl rfl rfl p0 (obM_34 _ _ _) dX10_come_2 (fun H locs hN hz hS => ?_)
  refine lv_iconst (v := 0) hx hb dX10_come_5 (by decide) ?_
  have hf : fX10_come M p0 = (0, u3 M 0 0 34 p0) := rfl
  exact W.iret (v := 0) hx hb hr (fun t ht _ => by rw [hf]; exact nw_end hS hN ht) hS.2.2 dX10_come_6
set_option maxHeartbeats 4000000 in
set_option maxRecDepth 100000 in
theorem kX10_isFor (l : Launch) (D : va_G) (C : Nat → ClassId) (A : Nat → Prop) (ad : Nat → Nat → Nat) (M : Nat → Nat → Nat → Int32) (p0 p1 : Int32) (hb1 : vp_in p0 6) (hb2 : ¬ p1 < 0 → vp_in p1 60) : Met l yX10_isFor wsX10_isFor ({ frames := 0, cells := 0, slots := 0, locals := 0 }) (va_Pc [.ref (ad 0 0), .int p0, .int p1] (PW D C A (nw D (enM C) domM A ad M))) (nQ A (some (.int (fX10_isFor M p0 p1).1)) (nw D (enM C) domM A ad (fX10_isFor M p0 p1).2)) 0 0 A := by
  refine Met.ofW (cc := cX10_isFor) (maxL := 3) (ret := (some .boolean)) (by decide) rfl ?_
  intro p e s m args below meth c s₁ B hml hv
  obtain ⟨rfl, hK, hN, hA⟩ := hv
  have hx := B.exec
  have hb := B.bytes
  have hr := B.returns
  have hts := atoms_spec (ws := wsX10_isFor) B.pre
  have hown : s.vm.findClass RX10 = some m.cls := findClass_of_methodNamed B.named
  have hlocks := B.notSynchronized
  have S : CallFix p m c cX10_isFor 3 s _ wsX10_isFor RX10 := ⟨hx, hb, hml, hown, hts⟩
  have hin10 : ∀ w ∈ wsX100, w ∈ wsX10_isFor := (fun _ h => List.mem_cons_of_mem _ (List.mem_append_right _ (h)))
  have hS : va_S A s.heap s.heap [] := va_S.rf
  have hl := lv_entry ([.ref (ad 0 0), .int p0, .int p1]) (n := 3) (Nat.le_of_ble_eq_true rfl)
  rw [lg_entry_eq]
  generalize (lg_sl ([.ref (ad 0 0), .int p0, .int p1]) ++ List.replicate (3 - (lg_sl ([.ref (ad 0 0), .int p0, .int p1])).length) Slot.unset).toArray = ls at hl ⊢
  have hl : lv_has ls 3 [(0, .ref (ad 0 0)), (1, .int p0), (2, .int p1)] := hl
  refine lv_iload_n hx hb dX10_isFor_0 rfl (lv_at hl 2 rfl) ?_
  refine lv_if_lt (x := p1) (tgt := 19) hx hb dX10_isFor_1 (by decide) (fun c_1 => ?_) (fun c_1 => ?_)
  · refine lv_iconst (v := 1) hx hb dX10_isFor_19 (by decide) ?_
    refine lv_goto (tgt := 24) hx hb dX10_isFor_20 (by decide) ?_
    have hf : fX10_isFor M p0 p1 = (1, M) := by unfold fX10_isFor; rw [if_pos c_1]
    exact W.zret (v := 1) hx hb hr rfl (fun t ht _ => by rw [hf]; exact nw_end hS hN ht) hS.2.2 dX10_isFor_24
  · refine lv_aload_n hx hb dX10_isFor_4 rfl (lv_at hl 0 rfl) ?_
    refine nwM_get S hK hN hin10 1 (by decide) (index := 7) (List.mem_cons_of_mem _ (List.mem_append_left _ (List.mem_of_getElem? (i := 0) rfl))) rfl (v := .ref (ad 1 0)) rfl dX10_isFor_5 ?_
    refine lv_iload_n hx hb dX10_isFor_8 rfl (lv_at hl 2 rfl) ?_
    refine nw_iald S hK hN (k := 1) (i := 0) ⟨rfl, rfl⟩ rfl (x := p1) (hb2 c_1) dX10_isFor_9 ?_
    refine lv_aload_n hx hb dX10_isFor_10 rfl (lv_at hl 0 rfl) ?_
    refine nwM_get S hK hN hin10 14 (by decide) (index := 43) (List.mem_cons_of_mem _ (List.mem_append_left _ (List.mem_of_getElem? (i := 1) rfl))) rfl (v := .ref (ad 14 0)) rfl dX10_isFor_11 ?_
    refine lv_iload_n hx hb dX10_isFor_14 rfl (lv_at hl 1 rfl) ?_
    refine nw_iald S hK hN (k := 14) (i := 0) ⟨rfl, rfl⟩ rfl (x := p0) (hb1) dX10_isFor_15 ?_
    refine lv_icmp_lt (x := M 1 0 ((p1 : Int32).toNatClampNeg)) (y := M 14 0 ((p0 : Int32).toNatClampNeg)) (tgt := 23) hx hb dX10_isFor_16 (by decide) (fun c_2 => ?_) (fun c_2 => ?_)
    · refine lv_iconst (v := 0) hx hb dX10_isFor_23 (by decide) ?_
      have hf : fX10_isFor M p0 p1 = (0, M) := by unfold fX10_isFor; rw [if_neg c_1, if_pos c_2]
      exact W.zret (v := 0) hx hb hr rfl (fun t ht _ => by rw [hf]; exact nw_end hS hN ht) hS.2.2 dX10_isFor_24
    · refine lv_iconst (v := 1) hx hb dX10_isFor_19 (by decide) ?_
      refine lv_goto (tgt := 24) hx hb dX10_isFor_20 (by decide) ?_
      have hf : fX10_isFor M p0 p1 = (1, M) := by unfold fX10_isFor; rw [if_neg c_1, if_neg c_2]
      exact W.zret (v := 1) hx hb hr rfl (fun t ht _ => by rw [hf]; exact nw_end hS hN ht) hS.2.2 dX10_isFor_24
set_option maxHeartbeats 4000000 in
set_option maxRecDepth 100000 in
theorem kX10_groom (l : Launch) (D : va_G) (C : Nat → ClassId) (A : Nat → Prop) (ad : Nat → Nat → Nat) (M : Nat → Nat → Nat → Int32) (p0 : Int32) (hbd : vp_in p0 60) : Met l yX10_groom wsX10_groom ({ frames := 0, cells := 0, slots := 0, locals := 0 }) (va_Pc [.ref (ad 0 0), .int p0] (PW D C A (nw D (enM C) domM A ad M))) (nQ A (some (.int (fX10_groom M p0).1)) (nw D (enM C) domM A ad (fX10_groom M p0).2)) 0 0 A := by
  refine Met.ofW (cc := cX10_groom) (maxL := 2) (ret := (some .int)) (by decide) rfl ?_
  intro p e s m args below meth c s₁ B hml hv
  obtain ⟨rfl, hK, hN, hA⟩ := hv
  have hx := B.exec
  have hb := B.bytes
  have hr := B.returns
  have hts := atoms_spec (ws := wsX10_groom) B.pre
  have hown : s.vm.findClass RX10 = some m.cls := findClass_of_methodNamed B.named
  have hlocks := B.notSynchronized
  have S : CallFix p m c cX10_groom 2 s _ wsX10_groom RX10 := ⟨hx, hb, hml, hown, hts⟩
  have hin10 : ∀ w ∈ wsX100, w ∈ wsX10_groom := (fun _ h => List.mem_cons_of_mem _ (List.mem_append_right _ (h)))
  have hS : va_S A s.heap s.heap [] := va_S.rf
  have hl := lv_entry ([.ref (ad 0 0), .int p0]) (n := 2) (Nat.le_of_ble_eq_true rfl)
  rw [lg_entry_eq]
  generalize (lg_sl ([.ref (ad 0 0), .int p0]) ++ List.replicate (2 - (lg_sl ([.ref (ad 0 0), .int p0])).length) Slot.unset).toArray = ls at hl ⊢
  have hl : lv_has ls 2 [(0, .ref (ad 0 0)), (1, .int p0)] := hl
  refine lv_aload_n hx hb dX10_groom_0 rfl (lv_at hl 0 rfl) ?_
  refine nwM_get S hK hN hin10 5 (by decide) (index := 22) (List.mem_cons_of_mem _ (List.mem_append_left _ (List.mem_of_getElem? (i := 0) rfl))) rfl (v := .ref (ad 5 0)) rfl dX10_groom_1 ?_
  refine lv_iload_n hx hb dX10_groom_4 rfl (lv_at hl 1 rfl) ?_
  refine lv_dup2_11 hx hb dX10_groom_5 rfl rfl ?_
  refine nw_iald S hK hN (k := 5) (i := 0) ⟨rfl, rfl⟩ rfl (x := p0) (hbd) dX10_groom_6 ?_
  refine lv_aload_n hx hb dX10_groom_7 rfl (lv_at hl 0 rfl) ?_
  refine nwM_get S hK hN hin10 1 (by decide) (index := 7) (List.mem_cons_of_mem _ (List.mem_append_left _ (List.mem_of_getElem? (i := 1) rfl))) rfl (v := .ref (ad 1 0)) rfl dX10_groom_8 ?_
  refine lv_iload_n hx hb dX10_groom_11 rfl (lv_at hl 1 rfl) ?_
  refine nw_iald S hK hN (k := 1) (i := 0) ⟨rfl, rfl⟩ rfl (x := p0) (hbd) dX10_groom_12 ?_
  refine lv_if_ne (x := M 1 0 ((p0 : Int32).toNatClampNeg)) (tgt := 20) hx hb dX10_groom_13 (by decide) (fun c_1 => ?_) (fun c_1 => ?_)
  · refine lv_iconst (v := 2) hx hb dX10_groom_20 (by decide) ?_
    refine lv_iadd hx hb dX10_groom_21 ?_
    refine nw_iast S hK hN hS (k := 5) (i := 0) ⟨rfl, rfl⟩ (fun _ => rfl) (x := p0) (v := (M 5 0 ((p0 : Int32).toNatClampNeg)) + 2) (hbd) dX10_groom_22 (fun H locs hN hz hS => ?_)
    refine lv_aload_n hx hb dX10_groom_23 rfl (lv_at hl 0 rfl) ?_
    refine nwM_get S hK hN hin10 4 (by decide) (index := 19) (List.mem_cons_of_mem _ (List.mem_append_left _ (List.mem_of_getElem? (i := 2) rfl))) rfl (v := .ref (ad 4 0)) rfl dX10_groom_24 ?_
    refine lv_iload_n hx hb dX10_groom_27 rfl (lv_at hl 1 rfl) ?_
    refine lv_aload_n hx hb dX10_groom_28 rfl (lv_at hl 0 rfl) ?_
    refine nwM_get S hK hN hin10 1 (by decide) (index := 7) (List.mem_cons_of_mem _ (List.mem_append_left _ (List.mem_of_getElem? (i := 1) rfl))) rfl (v := .ref (ad 1 0)) rfl dX10_groom_29 ?_
    refine lv_iload_n hx hb dX10_groom_32 rfl (lv_at hl 1 rfl) ?_
    refine nw_iald S hK hN (k := 1) (i := 0) ⟨rfl, rfl⟩ rfl (x := p0) (hbd) dX10_groom_33 ?_
    refine lv_iconst (v := 2) hx hb dX10_groom_34 (by decide) ?_
    refine lv_icmp_ne (x := M 1 0 ((p0 : Int32).toNatClampNeg)) (y := 2) (tgt := 42) hx hb dX10_groom_35 (by decide) (fun c_2 => ?_) (fun c_2 => ?_)
    · refine lv_aload_n hx hb dX10_groom_42 rfl (lv_at hl 0 rfl) ?_
      refine nwM_get S hK hN hin10 4 (by decide) (index := 19) (List.mem_cons_of_mem _ (List.mem_append_left _ (List.mem_of_getElem? (i := 2) rfl))) rfl (v := .ref (ad 4 0)) rfl dX10_groom_43 ?_
      refine lv_iload_n hx hb dX10_groom_46 rfl (lv_at hl 1 rfl) ?_
      refine nw_iald S hK hN (k := 4) (i := 0) ⟨rfl, rfl⟩ rfl (x := p0) (hbd) dX10_groom_47 ?_
      refine nw_iast S hK hN hS (k := 4) (i := 0) ⟨rfl, rfl⟩ (fun _ => rfl) (x := p0) (v := M 4 0 ((p0 : Int32).toNatClampNeg)) (hbd) dX10_groom_48 (fun H locs hN hz hS => ?_)
      refine lv_aload_n hx hb dX10_groom_49 rfl (lv_at hl 0 rfl) ?_
      refine nwM_get S hK hN hin10 5 (by decide) (index := 22) (List.mem_cons_of_mem _ (List.mem_append_left _ (List.mem_of_getElem? (i := 0) rfl))) rfl (v := .ref (ad 5 0)) rfl dX10_groom_50 ?_
      refine lv_iload_n hx hb dX10_groom_53 rfl (lv_at hl 1 rfl) ?_
      refine nw_iald S hK hN (k := 5) (i := 0) ⟨rfl, rfl⟩ rfl (x := p0) (hbd) dX10_groom_54 ?_
      have hf : fX10_groom M p0 = ((u3 M 5 0 ((p0 : Int32).toNatClampNeg) ((M 5 0 ((p0 : Int32).toNatClampNeg)) + 2)) 5 0 ((p0 : Int32).toNatClampNeg), u3 (u3 M 5 0 ((p0 : Int32).toNatClampNeg) ((M 5 0 ((p0 : Int32).toNatClampNeg)) + 2)) 4 0 ((p0 : Int32).toNatClampNeg) (M 4 0 ((p0 : Int32).toNatClampNeg))) := by unfold fX10_groom; rw [if_neg c_1, if_neg c_2]
      exact W.iret (v := (u3 M 5 0 ((p0 : Int32).toNatClampNeg) ((M 5 0 ((p0 : Int32).toNatClampNeg)) + 2)) 5 0 ((p0 : Int32).toNatClampNeg)) hx hb hr (fun t ht _ => by rw [hf]; exact nw_end hS hN ht) hS.2.2 dX10_groom_55
    · refine lv_iconst (v := 0) hx hb dX10_groom_38 (by decide) ?_
      refine lv_goto (tgt := 48) hx hb dX10_groom_39 (by decide) ?_
      refine nw_iast S hK hN hS (k := 4) (i := 0) ⟨rfl, rfl⟩ (fun _ => rfl) (x := p0) (v := 0) (hbd) dX10_groom_48 (fun H locs hN hz hS => ?_)
      refine lv_aload_n hx hb dX10_groom_49 rfl (lv_at hl 0 rfl) ?_
      refine nwM_get S hK hN hin10 5 (by decide) (index := 22) (List.mem_cons_of_mem _ (List.mem_append_left _ (List.mem_of_getElem? (i := 0) rfl))) rfl (v := .ref (ad 5 0)) rfl dX10_groom_50 ?_
      refine lv_iload_n hx hb dX10_groom_53 rfl (lv_at hl 1 rfl) ?_
      refine nw_iald S hK hN (k := 5) (i := 0) ⟨rfl, rfl⟩ rfl (x := p0) (hbd) dX10_groom_54 ?_
      have hf : fX10_groom M p0 = ((u3 M 5 0 ((p0 : Int32).toNatClampNeg) ((M 5 0 ((p0 : Int32).toNatClampNeg)) + 2)) 5 0 ((p0 : Int32).toNatClampNeg), u3 (u3 M 5 0 ((p0 : Int32).toNatClampNeg) ((M 5 0 ((p0 : Int32).toNatClampNeg)) + 2)) 4 0 ((p0 : Int32).toNatClampNeg) 0) := by unfold fX10_groom; rw [if_neg c_1, if_pos c_2]
      exact W.iret (v := (u3 M 5 0 ((p0 : Int32).toNatClampNeg) ((M 5 0 ((p0 : Int32).toNatClampNeg)) + 2)) 5 0 ((p0 : Int32).toNatClampNeg)) hx hb hr (fun t ht _ => by rw [hf]; exact nw_end hS hN ht) hS.2.2 dX10_groom_55
  · refine lv_iconst (v := 1) hx hb dX10_groom_16 (by decide) ?_
    refine lv_goto (tgt := 21) hx hb dX10_groom_17 (by decide) ?_
    refine lv_iadd hx hb dX10_groom_21 ?_
    refine nw_iast S hK hN hS (k := 5) (i := 0) ⟨rfl, rfl⟩ (fun _ => rfl) (x := p0) (v := (M 5 0 ((p0 : Int32).toNatClampNeg)) + 1) (hbd) dX10_groom_22 (fun H locs hN hz hS => ?_)
    refine lv_aload_n hx hb dX10_groom_23 rfl (lv_at hl 0 rfl) ?_
    refine nwM_get S hK hN hin10 4 (by decide) (index := 19) (List.mem_cons_of_mem _ (List.mem_append_left _ (List.mem_of_getElem? (i := 2) rfl))) rfl (v := .ref (ad 4 0)) rfl dX10_groom_24 ?_
    refine lv_iload_n hx hb dX10_groom_27 rfl (lv_at hl 1 rfl) ?_
    refine lv_aload_n hx hb dX10_groom_28 rfl (lv_at hl 0 rfl) ?_
    refine nwM_get S hK hN hin10 1 (by decide) (index := 7) (List.mem_cons_of_mem _ (List.mem_append_left _ (List.mem_of_getElem? (i := 1) rfl))) rfl (v := .ref (ad 1 0)) rfl dX10_groom_29 ?_
    refine lv_iload_n hx hb dX10_groom_32 rfl (lv_at hl 1 rfl) ?_
    refine nw_iald S hK hN (k := 1) (i := 0) ⟨rfl, rfl⟩ rfl (x := p0) (hbd) dX10_groom_33 ?_
    refine lv_iconst (v := 2) hx hb dX10_groom_34 (by decide) ?_
    refine lv_icmp_ne (x := M 1 0 ((p0 : Int32).toNatClampNeg)) (y := 2) (tgt := 42) hx hb dX10_groom_35 (by decide) (fun c_3 => ?_) (fun c_3 => ?_)
    · refine lv_aload_n hx hb dX10_groom_42 rfl (lv_at hl 0 rfl) ?_
      refine nwM_get S hK hN hin10 4 (by decide) (index := 19) (List.mem_cons_of_mem _ (List.mem_append_left _ (List.mem_of_getElem? (i := 2) rfl))) rfl (v := .ref (ad 4 0)) rfl dX10_groom_43 ?_
      refine lv_iload_n hx hb dX10_groom_46 rfl (lv_at hl 1 rfl) ?_
      refine nw_iald S hK hN (k := 4) (i := 0) ⟨rfl, rfl⟩ rfl (x := p0) (hbd) dX10_groom_47 ?_
      refine nw_iast S hK hN hS (k := 4) (i := 0) ⟨rfl, rfl⟩ (fun _ => rfl) (x := p0) (v := M 4 0 ((p0 : Int32).toNatClampNeg)) (hbd) dX10_groom_48 (fun H locs hN hz hS => ?_)
      refine lv_aload_n hx hb dX10_groom_49 rfl (lv_at hl 0 rfl) ?_
      refine nwM_get S hK hN hin10 5 (by decide) (index := 22) (List.mem_cons_of_mem _ (List.mem_append_left _ (List.mem_of_getElem? (i := 0) rfl))) rfl (v := .ref (ad 5 0)) rfl dX10_groom_50 ?_
      refine lv_iload_n hx hb dX10_groom_53 rfl (lv_at hl 1 rfl) ?_
      refine nw_iald S hK hN (k := 5) (i := 0) ⟨rfl, rfl⟩ rfl (x := p0) (hbd) dX10_groom_54 ?_
      have hf : fX10_groom M p0 = ((u3 M 5 0 ((p0 : Int32).toNatClampNeg) ((M 5 0 ((p0 : Int32).toNatClampNeg)) + 1)) 5 0 ((p0 : Int32).toNatClampNeg), u3 (u3 M 5 0 ((p0 : Int32).toNatClampNeg) ((M 5 0 ((p0 : Int32).toNatClampNeg)) + 1)) 4 0 ((p0 : Int32).toNatClampNeg) (M 4 0 ((p0 : Int32).toNatClampNeg))) := by unfold fX10_groom; rw [if_pos c_1, if_neg c_3]
      exact W.iret (v := (u3 M 5 0 ((p0 : Int32).toNatClampNeg) ((M 5 0 ((p0 : Int32).toNatClampNeg)) + 1)) 5 0 ((p0 : Int32).toNatClampNeg)) hx hb hr (fun t ht _ => by rw [hf]; exact nw_end hS hN ht) hS.2.2 dX10_groom_55
    · refine lv_iconst (v := 0) hx hb dX10_groom_38 (by decide) ?_
      refine lv_goto (tgt := 48) hx hb dX10_groom_39 (by decide) ?_
      refine nw_iast S hK hN hS (k := 4) (i := 0) ⟨rfl, rfl⟩ (fun _ => rfl) (x := p0) (v := 0) (hbd) dX10_groom_48 (fun H locs hN hz hS => ?_)
      refine lv_aload_n hx hb dX10_groom_49 rfl (lv_at hl 0 rfl) ?_
      refine nwM_get S hK hN hin10 5 (by decide) (index := 22) (List.mem_cons_of_mem _ (List.mem_append_left _ (List.mem_of_getElem? (i := 0) rfl))) rfl (v := .ref (ad 5 0)) rfl dX10_groom_50 ?_
      refine lv_iload_n hx hb dX10_groom_53 rfl (lv_at hl 1 rfl) ?_
      refine nw_iald S hK hN (k := 5) (i := 0) ⟨rfl, rfl⟩ rfl (x := p0) (hbd) dX10_groom_54 ?_
      have hf : fX10_groom M p0 = ((u3 M 5 0 ((p0 : Int32).toNatClampNeg) ((M 5 0 ((p0 : Int32).toNatClampNeg)) + 1)) 5 0 ((p0 : Int32).toNatClampNeg), u3 (u3 M 5 0 ((p0 : Int32).toNatClampNeg) ((M 5 0 ((p0 : Int32).toNatClampNeg)) + 1)) 4 0 ((p0 : Int32).toNatClampNeg) 0) := by unfold fX10_groom; rw [if_pos c_1, if_pos c_3]
      exact W.iret (v := (u3 M 5 0 ((p0 : Int32).toNatClampNeg) ((M 5 0 ((p0 : Int32).toNatClampNeg)) + 1)) 5 0 ((p0 : Int32).toNatClampNeg)) hx hb hr (fun t ht _ => by rw [hf]; exact nw_end hS hN ht) hS.2.2 dX10_groom_55
set_option maxHeartbeats 4000000 in
set_option maxRecDepth 100000 in
theorem kX10_work (l : Launch) (D : va_G) (C : Nat → ClassId) (A : Nat → Prop) (ad : Nat → Nat → Nat) (M : Nat → Nat → Nat → Int32) (p0 p1 : Int32) (hb1 : ¬ p0 < 100 → vp_in (p0 - 100) 60) (hb2 : p0 < 100 → vp_in p0 60) : Met l yX10_work wsX10_work ({ frames := 0, cells := 0, slots := 0, locals := 0 }) (va_Pc [.ref (ad 0 0), .int p0, .int p1] (PW D C A (nw D (enM C) domM A ad M))) (nQ A (some (.int (fX10_work M p0 p1).1)) (nw D (enM C) domM A ad (fX10_work M p0 p1).2)) 0 0 A := by
  refine Met.ofW (cc := cX10_work) (maxL := 4) (ret := (some .int)) (by decide) rfl ?_
  intro p e s m args below meth c s₁ B hml hv
  obtain ⟨rfl, hK, hN, hA⟩ := hv
  have hx := B.exec
  have hb := B.bytes
  have hr := B.returns
  have hts := atoms_spec (ws := wsX10_work) B.pre
  have hown : s.vm.findClass RX10 = some m.cls := findClass_of_methodNamed B.named
  have hlocks := B.notSynchronized
  have S : CallFix p m c cX10_work 4 s _ wsX10_work RX10 := ⟨hx, hb, hml, hown, hts⟩
  have hin10 : ∀ w ∈ wsX100, w ∈ wsX10_work := (fun _ h => List.mem_cons_of_mem _ (List.mem_append_right _ (h)))
  have hS : va_S A s.heap s.heap [] := va_S.rf
  have hl := lv_entry ([.ref (ad 0 0), .int p0, .int p1]) (n := 4) (Nat.le_of_ble_eq_true rfl)
  rw [lg_entry_eq]
  generalize (lg_sl ([.ref (ad 0 0), .int p0, .int p1]) ++ List.replicate (4 - (lg_sl ([.ref (ad 0 0), .int p0, .int p1])).length) Slot.unset).toArray = ls at hl ⊢
  have hl : lv_has ls 4 [(0, .ref (ad 0 0)), (1, .int p0), (2, .int p1)] := hl
  refine lv_iload_n hx hb dX10_work_0 rfl (lv_at hl 1 rfl) ?_
  refine lv_bipush (v := 100) hx hb dX10_work_1 (by decide) ?_
  refine lv_icmp_lt (x := p0) (y := 100) (tgt := 35) hx hb dX10_work_3 (by decide) (fun c_1 => ?_) (fun c_1 => ?_)
  · refine lv_aload_n hx hb dX10_work_35 rfl (lv_at hl 0 rfl) ?_
    refine nwM_get S hK hN hin10 6 (by decide) (index := 25) (List.mem_cons_of_mem _ (List.mem_append_left _ (List.mem_of_getElem? (i := 2) rfl))) rfl (v := .ref (ad 6 0)) rfl dX10_work_36 ?_
    refine lv_iload_n hx hb dX10_work_39 rfl (lv_at hl 1 rfl) ?_
    refine lv_dup2_11 hx hb dX10_work_40 rfl rfl ?_
    refine nw_iald S hK hN (k := 6) (i := 0) ⟨rfl, rfl⟩ rfl (x := p0) (hb2 c_1) dX10_work_41 ?_
    refine lv_aload_n hx hb dX10_work_42 rfl (lv_at hl 0 rfl) ?_
    refine nwM_get S hK hN hin10 1 (by decide) (index := 7) (List.mem_cons_of_mem _ (List.mem_append_left _ (List.mem_of_getElem? (i := 3) rfl))) rfl (v := .ref (ad 1 0)) rfl dX10_work_43 ?_
    refine lv_iload_n hx hb dX10_work_46 rfl (lv_at hl 1 rfl) ?_
    refine nw_iald S hK hN (k := 1) (i := 0) ⟨rfl, rfl⟩ rfl (x := p0) (hb2 c_1) dX10_work_47 ?_
    refine lv_if_ne (x := M 1 0 ((p0 : Int32).toNatClampNeg)) (tgt := 55) hx hb dX10_work_48 (by decide) (fun c_2 => ?_) (fun c_2 => ?_)
    · refine lv_aload_n hx hb dX10_work_55 rfl (lv_at hl 0 rfl) ?_
      refine nwM_get S hK hN hin10 1 (by decide) (index := 7) (List.mem_cons_of_mem _ (List.mem_append_left _ (List.mem_of_getElem? (i := 3) rfl))) rfl (v := .ref (ad 1 0)) rfl dX10_work_56 ?_
      refine lv_iload_n hx hb dX10_work_59 rfl (lv_at hl 1 rfl) ?_
      refine nw_iald S hK hN (k := 1) (i := 0) ⟨rfl, rfl⟩ rfl (x := p0) (hb2 c_1) dX10_work_60 ?_
      refine lv_iconst (v := 1) hx hb dX10_work_61 (by decide) ?_
      refine lv_icmp_ne (x := M 1 0 ((p0 : Int32).toNatClampNeg)) (y := 1) (tgt := 71) hx hb dX10_work_62 (by decide) (fun c_3 => ?_) (fun c_3 => ?_)
      · refine lv_iconst (v := 2) hx hb dX10_work_71 (by decide) ?_
        refine lv_iload_n hx hb dX10_work_72 rfl (lv_at hl 2 rfl) ?_
        refine lv_imul hx hb dX10_work_73 ?_
        refine lv_iconst (v := 1) hx hb dX10_work_74 (by decide) ?_
        refine lv_iadd hx hb dX10_work_75 ?_
        refine lv_iadd hx hb dX10_work_76 ?_
        refine nw_iast S hK hN hS (k := 6) (i := 0) ⟨rfl, rfl⟩ (fun _ => rfl) (x := p0) (v := (M 6 0 ((p0 : Int32).toNatClampNeg)) + ((2 * p1) + 1)) (hb2 c_1) dX10_work_77 (fun H locs hN hz hS => ?_)
        refine lv_aload_n hx hb dX10_work_78 rfl (lv_at hl 0 rfl) ?_
        refine nwM_get S hK hN hin10 6 (by decide) (index := 25) (List.mem_cons_of_mem _ (List.mem_append_left _ (List.mem_of_getElem? (i := 2) rfl))) rfl (v := .ref (ad 6 0)) rfl dX10_work_79 ?_
        refine lv_iload_n hx hb dX10_work_82 rfl (lv_at hl 1 rfl) ?_
        refine nw_iald S hK hN (k := 6) (i := 0) ⟨rfl, rfl⟩ rfl (x := p0) (hb2 c_1) dX10_work_83 ?_
        have hf : fX10_work M p0 p1 = ((u3 M 6 0 ((p0 : Int32).toNatClampNeg) ((M 6 0 ((p0 : Int32).toNatClampNeg)) + ((2 * p1) + 1))) 6 0 ((p0 : Int32).toNatClampNeg), u3 M 6 0 ((p0 : Int32).toNatClampNeg) ((M 6 0 ((p0 : Int32).toNatClampNeg)) + ((2 * p1) + 1))) := by unfold fX10_work; rw [if_pos c_1, if_neg c_2, if_neg c_3]
        exact W.iret (v := (u3 M 6 0 ((p0 : Int32).toNatClampNeg) ((M 6 0 ((p0 : Int32).toNatClampNeg)) + ((2 * p1) + 1))) 6 0 ((p0 : Int32).toNatClampNeg)) hx hb hr (fun t ht _ => by rw [hf]; exact nw_end hS hN ht) hS.2.2 dX10_work_84
      · refine lv_iconst (v := 2) hx hb dX10_work_65 (by decide) ?_
        refine lv_iload_n hx hb dX10_work_66 rfl (lv_at hl 2 rfl) ?_
        refine lv_imul hx hb dX10_work_67 ?_
        refine lv_goto (tgt := 76) hx hb dX10_work_68 (by decide) ?_
        refine lv_iadd hx hb dX10_work_76 ?_
        refine nw_iast S hK hN hS (k := 6) (i := 0) ⟨rfl, rfl⟩ (fun _ => rfl) (x := p0) (v := (M 6 0 ((p0 : Int32).toNatClampNeg)) + (2 * p1)) (hb2 c_1) dX10_work_77 (fun H locs hN hz hS => ?_)
        refine lv_aload_n hx hb dX10_work_78 rfl (lv_at hl 0 rfl) ?_
        refine nwM_get S hK hN hin10 6 (by decide) (index := 25) (List.mem_cons_of_mem _ (List.mem_append_left _ (List.mem_of_getElem? (i := 2) rfl))) rfl (v := .ref (ad 6 0)) rfl dX10_work_79 ?_
        refine lv_iload_n hx hb dX10_work_82 rfl (lv_at hl 1 rfl) ?_
        refine nw_iald S hK hN (k := 6) (i := 0) ⟨rfl, rfl⟩ rfl (x := p0) (hb2 c_1) dX10_work_83 ?_
        have hf : fX10_work M p0 p1 = ((u3 M 6 0 ((p0 : Int32).toNatClampNeg) ((M 6 0 ((p0 : Int32).toNatClampNeg)) + (2 * p1))) 6 0 ((p0 : Int32).toNatClampNeg), u3 M 6 0 ((p0 : Int32).toNatClampNeg) ((M 6 0 ((p0 : Int32).toNatClampNeg)) + (2 * p1))) := by unfold fX10_work; rw [if_pos c_1, if_neg c_2, if_pos c_3]
        exact W.iret (v := (u3 M 6 0 ((p0 : Int32).toNatClampNeg) ((M 6 0 ((p0 : Int32).toNatClampNeg)) + (2 * p1))) 6 0 ((p0 : Int32).toNatClampNeg)) hx hb hr (fun t ht _ => by rw [hf]; exact nw_end hS hN ht) hS.2.2 dX10_work_84
    · refine lv_iload_n hx hb dX10_work_51 rfl (lv_at hl 2 rfl) ?_
      refine lv_goto (tgt := 76) hx hb dX10_work_52 (by decide) ?_
      refine lv_iadd hx hb dX10_work_76 ?_
      refine nw_iast S hK hN hS (k := 6) (i := 0) ⟨rfl, rfl⟩ (fun _ => rfl) (x := p0) (v := (M 6 0 ((p0 : Int32).toNatClampNeg)) + p1) (hb2 c_1) dX10_work_77 (fun H locs hN hz hS => ?_)
      refine lv_aload_n hx hb dX10_work_78 rfl (lv_at hl 0 rfl) ?_
      refine nwM_get S hK hN hin10 6 (by decide) (index := 25) (List.mem_cons_of_mem _ (List.mem_append_left _ (List.mem_of_getElem? (i := 2) rfl))) rfl (v := .ref (ad 6 0)) rfl dX10_work_79 ?_
      refine lv_iload_n hx hb dX10_work_82 rfl (lv_at hl 1 rfl) ?_
      refine nw_iald S hK hN (k := 6) (i := 0) ⟨rfl, rfl⟩ rfl (x := p0) (hb2 c_1) dX10_work_83 ?_
      have hf : fX10_work M p0 p1 = ((u3 M 6 0 ((p0 : Int32).toNatClampNeg) ((M 6 0 ((p0 : Int32).toNatClampNeg)) + p1)) 6 0 ((p0 : Int32).toNatClampNeg), u3 M 6 0 ((p0 : Int32).toNatClampNeg) ((M 6 0 ((p0 : Int32).toNatClampNeg)) + p1)) := by unfold fX10_work; rw [if_pos c_1, if_pos c_2]
      exact W.iret (v := (u3 M 6 0 ((p0 : Int32).toNatClampNeg) ((M 6 0 ((p0 : Int32).toNatClampNeg)) + p1)) 6 0 ((p0 : Int32).toNatClampNeg)) hx hb hr (fun t ht _ => by rw [hf]; exact nw_end hS hN ht) hS.2.2 dX10_work_84
  · refine lv_iload_n hx hb dX10_work_6 rfl (lv_at hl 1 rfl) ?_
    refine lv_bipush (v := 100) hx hb dX10_work_7 (by decide) ?_
    refine lv_isub hx hb dX10_work_9 ?_
    refine lv_istore_n (lv' := [(3, .int (p0 - 100)), (0, .ref (ad 0 0)), (1, .int p0), (2, .int p1)]) hx hb dX10_work_10 rfl hl (by decide) rfl (fun ls hl => ?_)
    refine lv_aload_n hx hb dX10_work_11 rfl (lv_at hl 1 rfl) ?_
    refine nwM_get S hK hN hin10 9 (by decide) (index := 31) (List.mem_cons_of_mem _ (List.mem_append_left _ (List.mem_of_getElem? (i := 0) rfl))) rfl (v := .ref (ad 9 0)) rfl dX10_work_12 ?_
    refine lv_iload_n hx hb dX10_work_15 rfl (lv_at hl 0 rfl) ?_
    refine lv_dup2_11 hx hb dX10_work_16 rfl rfl ?_
    refine nw_iald S hK hN (k := 9) (i := 0) ⟨rfl, rfl⟩ rfl (x := p0 - 100) (hb1 c_1) dX10_work_17 ?_
    refine lv_iload_n hx hb dX10_work_18 rfl (lv_at hl 3 rfl) ?_
    refine lv_aload_n hx hb dX10_work_19 rfl (lv_at hl 1 rfl) ?_
    refine nwM_get S hK hN hin10 8 (by decide) (index := 28) (List.mem_cons_of_mem _ (List.mem_append_left _ (List.mem_of_getElem? (i := 1) rfl))) rfl (v := .ref (ad 8 0)) rfl dX10_work_20 ?_
    refine lv_iload_n hx hb dX10_work_23 rfl (lv_at hl 0 rfl) ?_
    refine nw_iald S hK hN (k := 8) (i := 0) ⟨rfl, rfl⟩ rfl (x := p0 - 100) (hb1 c_1) dX10_work_24 ?_
    refine lv_imul hx hb dX10_work_25 ?_
    refine lv_iadd hx hb dX10_work_26 ?_
    refine nw_iast S hK hN hS (k := 9) (i := 0) ⟨rfl, rfl⟩ (fun _ => rfl) (x := p0 - 100) (v := (M 9 0 ((p0 - 100 : Int32).toNatClampNeg)) + (p1 * (M 8 0 ((p0 - 100 : Int32).toNatClampNeg)))) (hb1 c_1) dX10_work_27 (fun H locs hN hz hS => ?_)
    refine lv_aload_n hx hb dX10_work_28 rfl (lv_at hl 1 rfl) ?_
    refine nwM_get S hK hN hin10 9 (by decide) (index := 31) (List.mem_cons_of_mem _ (List.mem_append_left _ (List.mem_of_getElem? (i := 0) rfl))) rfl (v := .ref (ad 9 0)) rfl dX10_work_29 ?_
    refine lv_iload_n hx hb dX10_work_32 rfl (lv_at hl 0 rfl) ?_
    refine nw_iald S hK hN (k := 9) (i := 0) ⟨rfl, rfl⟩ rfl (x := p0 - 100) (hb1 c_1) dX10_work_33 ?_
    have hf : fX10_work M p0 p1 = ((u3 M 9 0 ((p0 - 100 : Int32).toNatClampNeg) ((M 9 0 ((p0 - 100 : Int32).toNatClampNeg)) + (p1 * (M 8 0 ((p0 - 100 : Int32).toNatClampNeg))))) 9 0 ((p0 - 100 : Int32).toNatClampNeg), u3 M 9 0 ((p0 - 100 : Int32).toNatClampNeg) ((M 9 0 ((p0 - 100 : Int32).toNatClampNeg)) + (p1 * (M 8 0 ((p0 - 100 : Int32).toNatClampNeg))))) := by unfold fX10_work; rw [if_neg c_1]
    exact W.iret (v := (u3 M 9 0 ((p0 - 100 : Int32).toNatClampNeg) ((M 9 0 ((p0 - 100 : Int32).toNatClampNeg)) + (p1 * (M 8 0 ((p0 - 100 : Int32).toNatClampNeg))))) 9 0 ((p0 - 100 : Int32).toNatClampNeg)) hx hb hr (fun t ht _ => by rw [hf]; exact nw_end hS hN ht) hS.2.2 dX10_work_34
set_option maxHeartbeats 4000000 in
set_option maxRecDepth 100000 in
theorem kX10_horse (l : Launch) (D : va_G) (C : Nat → ClassId) (A : Nat → Prop) (ad : Nat → Nat → Nat) (M : Nat → Nat → Nat → Int32) (p0 p1 p2 : Int32) (kk : Nat) (hI : InvM kk M) : Met l yX10_horse wsX10_horse ({ frames := 1, cells := 0, slots := 0, locals := 22 }) (va_Pc [.ref (ad 0 0), .int p0, .int p1, .int p2] (PW D C A (nw D (enM C) domM A ad M))) (nQ A (some (.int (fX10_horse M p0 p1 p2).1)) (nw D (enM C) domM A ad (fX10_horse M p0 p1 p2).2)) 0 0 A := by
  refine Met.ofW (cc := cX10_horse) (maxL := 4) (ret := (some .int)) (by decide) rfl ?_
  intro p e s m args below meth c s₁ B hml hv
  obtain ⟨rfl, hK, hN, hA⟩ := hv
  have hx := B.exec
  have hb := B.bytes
  have hr := B.returns
  have hts := atoms_spec (ws := wsX10_horse) B.pre
  have hown : s.vm.findClass RX10 = some m.cls := findClass_of_methodNamed B.named
  have hlocks := B.notSynchronized
  have S : CallFix p m c cX10_horse 4 s _ wsX10_horse RX10 := ⟨hx, hb, hml, hown, hts⟩
  have hin10 : ∀ w ∈ wsX100, w ∈ wsX10_horse := (fun _ h => List.mem_cons_of_mem _ (List.mem_append_right _ (h)))
  have hS : va_S A s.heap s.heap [] := va_S.rf
  have hl := lv_entry ([.ref (ad 0 0), .int p0, .int p1, .int p2]) (n := 4) (Nat.le_of_ble_eq_true rfl)
  rw [lg_entry_eq]
  generalize (lg_sl ([.ref (ad 0 0), .int p0, .int p1, .int p2]) ++ List.replicate (4 - (lg_sl ([.ref (ad 0 0), .int p0, .int p1, .int p2])).length) Slot.unset).toArray = ls at hl ⊢
  have hl : lv_has ls 4 [(0, .ref (ad 0 0)), (1, .int p0), (2, .int p1), (3, .int p2)] := hl
  refine lv_iload_n hx hb dX10_horse_0 rfl (lv_at hl 1 rfl) ?_
  refine lv_iconst (v := 0) hx hb dX10_horse_1 (by decide) ?_
  refine lv_bipush (v := 9) hx hb dX10_horse_2 (by decide) ?_
  refine nw_callS (As := [.int p0, .int 0, .int 9]) (rest := []) S (kX10_in l p0 0 9) gX10_horse_X10_in rfl ⟨rfl, rfl⟩ hqX10_in ⟨Nat.le_of_ble_eq_true rfl, Nat.le_of_ble_eq_true rfl⟩ rfl hl.1 rfl (Nat.le_of_ble_eq_true rfl) dX10_horse_4 ⟨Nat.le_of_ble_eq_true rfl, Nat.le_of_ble_eq_true rfl⟩ ?_
  refine lv_if_eq (x := fX10_in p0 0 9) (tgt := 19) hx hb dX10_horse_7 (by decide) (fun c_1 => ?_) (fun c_1 => ?_)
  · refine lv_ldc (v := (-1000000001)) hx hb hown (hts (.constant RX10 99 (-1000000001)) (List.mem_cons_of_mem _ (List.mem_append_left _ (List.mem_of_getElem? (i := 0) rfl)))) dX10_horse_19 ?_
    have hf : fX10_horse M p0 p1 p2 = ((-1000000001), M) := by unfold fX10_horse; rw [if_pos c_1]
    exact W.iret (v := (-1000000001)) hx hb hr (fun t ht _ => by rw [hf]; exact nw_end hS hN ht) hS.2.2 dX10_horse_21
  · refine lv_iload_n hx hb dX10_horse_10 rfl (lv_at hl 2 rfl) ?_
    refine lv_iconst (v := 0) hx hb dX10_horse_11 (by decide) ?_
    refine lv_iconst (v := 2) hx hb dX10_horse_12 (by decide) ?_
    refine nw_callS (As := [.int p1, .int 0, .int 2]) (rest := []) S (kX10_in l p1 0 2) gX10_horse_X10_in rfl ⟨rfl, rfl⟩ hqX10_in ⟨Nat.le_of_ble_eq_true rfl, Nat.le_of_ble_eq_true rfl⟩ rfl hl.1 rfl (Nat.le_of_ble_eq_true rfl) dX10_horse_13 ⟨Nat.le_of_ble_eq_true rfl, Nat.le_of_ble_eq_true rfl⟩ ?_
    refine lv_if_ne (x := fX10_in p1 0 2) (tgt := 22) hx hb dX10_horse_16 (by decide) (fun c_2 => ?_) (fun c_2 => ?_)
    · refine lv_aload_n hx hb dX10_horse_22 rfl (lv_at hl 0 rfl) ?_
      refine nwM_get S hK hN hin10 0 (by decide) (index := 100) (List.mem_cons_of_mem _ (List.mem_append_left _ (List.mem_of_getElem? (i := 1) rfl))) rfl (v := .int (M 0 0 0)) rfl dX10_horse_23 ?_
      refine lv_bipush (v := 60) hx hb dX10_horse_26 (by decide) ?_
      refine lv_icmp_ne (x := M 0 0 0) (y := 60) (tgt := 34) hx hb dX10_horse_28 (by decide) (fun c_3 => ?_) (fun c_3 => ?_)
      · refine lv_aload_n hx hb dX10_horse_34 rfl (lv_at hl 0 rfl) ?_
        refine nwM_get S hK hN hin10 1 (by decide) (index := 7) (List.mem_cons_of_mem _ (List.mem_append_left _ (List.mem_of_getElem? (i := 3) rfl))) rfl (v := .ref (ad 1 0)) rfl dX10_horse_35 ?_
        refine lv_aload_n hx hb dX10_horse_38 rfl (lv_at hl 0 rfl) ?_
        refine nwM_get S hK hN hin10 0 (by decide) (index := 100) (List.mem_cons_of_mem _ (List.mem_append_left _ (List.mem_of_getElem? (i := 1) rfl))) rfl (v := .int (M 0 0 0)) rfl dX10_horse_39 ?_
        refine lv_iload_n hx hb dX10_horse_42 rfl (lv_at hl 2 rfl) ?_
        refine nw_iast S hK hN hS (k := 1) (i := 0) ⟨rfl, rfl⟩ (fun _ => rfl) (x := M 0 0 0) (v := p1) (invM_h hI c_3) dX10_horse_43 (fun H locs hN hz hS => ?_)
        refine lv_aload_n hx hb dX10_horse_44 rfl (lv_at hl 0 rfl) ?_
        refine nwM_get S hK hN hin10 2 (by decide) (index := 13) (List.mem_cons_of_mem _ (List.mem_append_left _ (List.mem_of_getElem? (i := 4) rfl))) rfl (v := .ref (ad 2 0)) rfl dX10_horse_45 ?_
        refine lv_aload_n hx hb dX10_horse_48 rfl (lv_at hl 0 rfl) ?_
        refine nwM_get S hK hN hin10 0 (by decide) (index := 100) (List.mem_cons_of_mem _ (List.mem_append_left _ (List.mem_of_getElem? (i := 1) rfl))) rfl (v := .int (M 0 0 0)) rfl dX10_horse_49 ?_
        refine lv_iload_n hx hb dX10_horse_52 rfl (lv_at hl 3 rfl) ?_
        refine nw_iast S hK hN hS (k := 2) (i := 0) ⟨rfl, rfl⟩ (fun _ => rfl) (x := M 0 0 0) (v := p2) (invM_h hI c_3) dX10_horse_53 (fun H locs hN hz hS => ?_)
        refine lv_aload_n hx hb dX10_horse_54 rfl (lv_at hl 0 rfl) ?_
        refine nwM_get S hK hN hin10 11 (by decide) (index := 34) (List.mem_cons_of_mem _ (List.mem_append_left _ (List.mem_of_getElem? (i := 5) rfl))) rfl (v := .ref (ad 11 0)) rfl dX10_horse_55 ?_
        refine lv_iload_n hx hb dX10_horse_58 rfl (lv_at hl 1 rfl) ?_
        refine lv_aload_n hx hb dX10_horse_59 rfl (lv_at hl 0 rfl) ?_
        refine nwM_get S hK hN hin10 0 (by decide) (index := 100) (List.mem_cons_of_mem _ (List.mem_append_left _ (List.mem_of_getElem? (i := 1) rfl))) rfl (v := .int (M 0 0 0)) rfl dX10_horse_60 ?_
        refine nw_iast S hK hN hS (k := 11) (i := 0) ⟨rfl, rfl⟩ (fun _ => rfl) (x := p0) (v := M 0 0 0) (in_in c_1 (by decide)) dX10_horse_63 (fun H locs hN hz hS => ?_)
        refine lv_aload_n hx hb dX10_horse_64 rfl (lv_at hl 0 rfl) ?_
        refine lv_dup hx hb dX10_horse_65 rfl ?_
        refine nwM_get S hK hN hin10 0 (by decide) (index := 100) (List.mem_cons_of_mem _ (List.mem_append_left _ (List.mem_of_getElem? (i := 1) rfl))) rfl (v := .int (M 0 0 0)) rfl dX10_horse_66 ?_
        refine lv_iconst (v := 1) hx hb dX10_horse_69 (by decide) ?_
        refine lv_iadd hx hb dX10_horse_70 ?_
        refine nwM_put S hK hN hS hin10 0 (by decide) (index := 100) (List.mem_cons_of_mem _ (List.mem_append_left _ (List.mem_of_getElem? (i := 1) rfl))) rfl rfl rfl ((M 0 0 0) + 1) (obM_0 _ _ _) dX10_horse_71 (fun H locs hN hz hS => ?_)
        refine lv_aload_n hx hb dX10_horse_74 rfl (lv_at hl 0 rfl) ?_
        refine nwM_get S hK hN hin10 0 (by decide) (index := 100) (List.mem_cons_of_mem _ (List.mem_append_left _ (List.mem_of_getElem? (i := 1) rfl))) rfl (v := .int ((M 0 0 0) + 1)) rfl dX10_horse_75 ?_
        refine lv_iconst (v := 1) hx hb dX10_horse_78 (by decide) ?_
        refine lv_isub hx hb dX10_horse_79 ?_
        have hf : fX10_horse M p0 p1 p2 = (((M 0 0 0) + 1) - 1, u3 (u3 (u3 (u3 M 1 0 ((M 0 0 0 : Int32).toNatClampNeg) p1) 2 0 ((M 0 0 0 : Int32).toNatClampNeg) p2) 11 0 ((p0 : Int32).toNatClampNeg) (M 0 0 0)) 0 0 0 ((M 0 0 0) + 1)) := by unfold fX10_horse; rw [if_neg c_1, if_neg c_2, if_neg c_3]
        exact W.iret (v := ((M 0 0 0) + 1) - 1) hx hb hr (fun t ht _ => by rw [hf]; exact nw_end hS hN ht) hS.2.2 dX10_horse_80
      · refine lv_ldc (v := (-1000000003)) hx hb hown (hts (.constant RX10 104 (-1000000003)) (List.mem_cons_of_mem _ (List.mem_append_left _ (List.mem_of_getElem? (i := 2) rfl)))) dX10_horse_31 ?_
        have hf : fX10_horse M p0 p1 p2 = ((-1000000003), M) := by unfold fX10_horse; rw [if_neg c_1, if_neg c_2, if_pos c_3]
        exact W.iret (v := (-1000000003)) hx hb hr (fun t ht _ => by rw [hf]; exact nw_end hS hN ht) hS.2.2 dX10_horse_33
    · refine lv_ldc (v := (-1000000001)) hx hb hown (hts (.constant RX10 99 (-1000000001)) (List.mem_cons_of_mem _ (List.mem_append_left _ (List.mem_of_getElem? (i := 0) rfl)))) dX10_horse_19 ?_
      have hf : fX10_horse M p0 p1 p2 = ((-1000000001), M) := by unfold fX10_horse; rw [if_neg c_1, if_pos c_2]
      exact W.iret (v := (-1000000001)) hx hb hr (fun t ht _ => by rw [hf]; exact nw_end hS hN ht) hS.2.2 dX10_horse_21
set_option maxHeartbeats 4000000 in
set_option maxRecDepth 100000 in
theorem kX10_wagon (l : Launch) (D : va_G) (C : Nat → ClassId) (A : Nat → Prop) (ad : Nat → Nat → Nat) (M : Nat → Nat → Nat → Int32) (p0 p1 : Int32) (kk : Nat) (hI : InvM kk M) : Met l yX10_wagon wsX10_wagon ({ frames := 1, cells := 0, slots := 0, locals := 22 }) (va_Pc [.ref (ad 0 0), .int p0, .int p1] (PW D C A (nw D (enM C) domM A ad M))) (nQ A (some (.int (fX10_wagon M p0 p1).1)) (nw D (enM C) domM A ad (fX10_wagon M p0 p1).2)) 0 0 A := by
  refine Met.ofW (cc := cX10_wagon) (maxL := 3) (ret := (some .int)) (by decide) rfl ?_
  intro p e s m args below meth c s₁ B hml hv
  obtain ⟨rfl, hK, hN, hA⟩ := hv
  have hx := B.exec
  have hb := B.bytes
  have hr := B.returns
  have hts := atoms_spec (ws := wsX10_wagon) B.pre
  have hown : s.vm.findClass RX10 = some m.cls := findClass_of_methodNamed B.named
  have hlocks := B.notSynchronized
  have S : CallFix p m c cX10_wagon 3 s _ wsX10_wagon RX10 := ⟨hx, hb, hml, hown, hts⟩
  have hin10 : ∀ w ∈ wsX100, w ∈ wsX10_wagon := (fun _ h => List.mem_cons_of_mem _ (List.mem_append_right _ (h)))
  have hS : va_S A s.heap s.heap [] := va_S.rf
  have hl := lv_entry ([.ref (ad 0 0), .int p0, .int p1]) (n := 3) (Nat.le_of_ble_eq_true rfl)
  rw [lg_entry_eq]
  generalize (lg_sl ([.ref (ad 0 0), .int p0, .int p1]) ++ List.replicate (3 - (lg_sl ([.ref (ad 0 0), .int p0, .int p1])).length) Slot.unset).toArray = ls at hl ⊢
  have hl : lv_has ls 3 [(0, .ref (ad 0 0)), (1, .int p0), (2, .int p1)] := hl
  refine lv_iload_n hx hb dX10_wagon_0 rfl (lv_at hl 1 rfl) ?_
  refine lv_iconst (v := 0) hx hb dX10_wagon_1 (by decide) ?_
  refine lv_iconst (v := 5) hx hb dX10_wagon_2 (by decide) ?_
  refine nw_callS (As := [.int p0, .int 0, .int 5]) (rest := []) S (kX10_in l p0 0 5) gX10_wagon_X10_in rfl ⟨rfl, rfl⟩ hqX10_in ⟨Nat.le_of_ble_eq_true rfl, Nat.le_of_ble_eq_true rfl⟩ rfl hl.1 rfl (Nat.le_of_ble_eq_true rfl) dX10_wagon_3 ⟨Nat.le_of_ble_eq_true rfl, Nat.le_of_ble_eq_true rfl⟩ ?_
  refine lv_if_ne (x := fX10_in p0 0 5) (tgt := 12) hx hb dX10_wagon_6 (by decide) (fun c_1 => ?_) (fun c_1 => ?_)
  · refine lv_aload_n hx hb dX10_wagon_12 rfl (lv_at hl 0 rfl) ?_
    refine nwM_get S hK hN hin10 7 (by decide) (index := 105) (List.mem_cons_of_mem _ (List.mem_append_left _ (List.mem_of_getElem? (i := 1) rfl))) rfl (v := .int (M 0 0 7)) rfl dX10_wagon_13 ?_
    refine lv_bipush (v := 60) hx hb dX10_wagon_16 (by decide) ?_
    refine lv_icmp_ne (x := M 0 0 7) (y := 60) (tgt := 24) hx hb dX10_wagon_18 (by decide) (fun c_2 => ?_) (fun c_2 => ?_)
    · refine lv_aload_n hx hb dX10_wagon_24 rfl (lv_at hl 0 rfl) ?_
      refine nwM_get S hK hN hin10 8 (by decide) (index := 28) (List.mem_cons_of_mem _ (List.mem_append_left _ (List.mem_of_getElem? (i := 3) rfl))) rfl (v := .ref (ad 8 0)) rfl dX10_wagon_25 ?_
      refine lv_aload_n hx hb dX10_wagon_28 rfl (lv_at hl 0 rfl) ?_
      refine nwM_get S hK hN hin10 7 (by decide) (index := 105) (List.mem_cons_of_mem _ (List.mem_append_left _ (List.mem_of_getElem? (i := 1) rfl))) rfl (v := .int (M 0 0 7)) rfl dX10_wagon_29 ?_
      refine lv_iload_n hx hb dX10_wagon_32 rfl (lv_at hl 2 rfl) ?_
      refine nw_iast S hK hN hS (k := 8) (i := 0) ⟨rfl, rfl⟩ (fun _ => rfl) (x := M 0 0 7) (v := p1) (invM_w hI c_2) dX10_wagon_33 (fun H locs hN hz hS => ?_)
      refine lv_aload_n hx hb dX10_wagon_34 rfl (lv_at hl 0 rfl) ?_
      refine nwM_get S hK hN hin10 12 (by decide) (index := 37) (List.mem_cons_of_mem _ (List.mem_append_left _ (List.mem_of_getElem? (i := 4) rfl))) rfl (v := .ref (ad 12 0)) rfl dX10_wagon_35 ?_
      refine lv_iload_n hx hb dX10_wagon_38 rfl (lv_at hl 1 rfl) ?_
      refine lv_bipush (v := 100) hx hb dX10_wagon_39 (by decide) ?_
      refine lv_aload_n hx hb dX10_wagon_41 rfl (lv_at hl 0 rfl) ?_
      refine nwM_get S hK hN hin10 7 (by decide) (index := 105) (List.mem_cons_of_mem _ (List.mem_append_left _ (List.mem_of_getElem? (i := 1) rfl))) rfl (v := .int (M 0 0 7)) rfl dX10_wagon_42 ?_
      refine lv_iadd hx hb dX10_wagon_45 ?_
      refine nw_iast S hK hN hS (k := 12) (i := 0) ⟨rfl, rfl⟩ (fun _ => rfl) (x := p0) (v := 100 + (M 0 0 7)) (in_in c_1 (by decide)) dX10_wagon_46 (fun H locs hN hz hS => ?_)
      refine lv_aload_n hx hb dX10_wagon_47 rfl (lv_at hl 0 rfl) ?_
      refine lv_dup hx hb dX10_wagon_48 rfl ?_
      refine nwM_get S hK hN hin10 7 (by decide) (index := 105) (List.mem_cons_of_mem _ (List.mem_append_left _ (List.mem_of_getElem? (i := 1) rfl))) rfl (v := .int (M 0 0 7)) rfl dX10_wagon_49 ?_
      refine lv_iconst (v := 1) hx hb dX10_wagon_52 (by decide) ?_
      refine lv_iadd hx hb dX10_wagon_53 ?_
      refine nwM_put S hK hN hS hin10 7 (by decide) (index := 105) (List.mem_cons_of_mem _ (List.mem_append_left _ (List.mem_of_getElem? (i := 1) rfl))) rfl rfl rfl ((M 0 0 7) + 1) (obM_7 _ _ _) dX10_wagon_54 (fun H locs hN hz hS => ?_)
      refine lv_aload_n hx hb dX10_wagon_57 rfl (lv_at hl 0 rfl) ?_
      refine nwM_get S hK hN hin10 7 (by decide) (index := 105) (List.mem_cons_of_mem _ (List.mem_append_left _ (List.mem_of_getElem? (i := 1) rfl))) rfl (v := .int ((M 0 0 7) + 1)) rfl dX10_wagon_58 ?_
      refine lv_iconst (v := 1) hx hb dX10_wagon_61 (by decide) ?_
      refine lv_isub hx hb dX10_wagon_62 ?_
      have hf : fX10_wagon M p0 p1 = (((M 0 0 7) + 1) - 1, u3 (u3 (u3 M 8 0 ((M 0 0 7 : Int32).toNatClampNeg) p1) 12 0 ((p0 : Int32).toNatClampNeg) (100 + (M 0 0 7))) 0 0 7 ((M 0 0 7) + 1)) := by unfold fX10_wagon; rw [if_neg c_1, if_neg c_2]
      exact W.iret (v := ((M 0 0 7) + 1) - 1) hx hb hr (fun t ht _ => by rw [hf]; exact nw_end hS hN ht) hS.2.2 dX10_wagon_63
    · refine lv_ldc (v := (-1000000003)) hx hb hown (hts (.constant RX10 104 (-1000000003)) (List.mem_cons_of_mem _ (List.mem_append_left _ (List.mem_of_getElem? (i := 2) rfl)))) dX10_wagon_21 ?_
      have hf : fX10_wagon M p0 p1 = ((-1000000003), M) := by unfold fX10_wagon; rw [if_neg c_1, if_pos c_2]
      exact W.iret (v := (-1000000003)) hx hb hr (fun t ht _ => by rw [hf]; exact nw_end hS hN ht) hS.2.2 dX10_wagon_23
  · refine lv_ldc (v := (-1000000001)) hx hb hown (hts (.constant RX10 99 (-1000000001)) (List.mem_cons_of_mem _ (List.mem_append_left _ (List.mem_of_getElem? (i := 0) rfl)))) dX10_wagon_9 ?_
    have hf : fX10_wagon M p0 p1 = ((-1000000001), M) := by unfold fX10_wagon; rw [if_pos c_1]
    exact W.iret (v := (-1000000001)) hx hb hr (fun t ht _ => by rw [hf]; exact nw_end hS hN ht) hS.2.2 dX10_wagon_11
set_option maxHeartbeats 4000000 in
set_option maxRecDepth 100000 in
theorem kX10_lead (l : Launch) (D : va_G) (C : Nat → ClassId) (A : Nat → Prop) (ad : Nat → Nat → Nat) (M : Nat → Nat → Nat → Int32) (p0 p1 : Int32) : Met l yX10_lead wsX10_lead ({ frames := 1, cells := 0, slots := 0, locals := 22 }) (va_Pc [.ref (ad 0 0), .int p0, .int p1] (PW D C A (nw D (enM C) domM A ad M))) (nQ A (some (.int (fX10_lead M p0 p1).1)) (nw D (enM C) domM A ad (fX10_lead M p0 p1).2)) 0 0 A := by
  refine Met.ofW (cc := cX10_lead) (maxL := 3) (ret := (some .int)) (by decide) rfl ?_
  intro p e s m args below meth c s₁ B hml hv
  obtain ⟨rfl, hK, hN, hA⟩ := hv
  have hx := B.exec
  have hb := B.bytes
  have hr := B.returns
  have hts := atoms_spec (ws := wsX10_lead) B.pre
  have hown : s.vm.findClass RX10 = some m.cls := findClass_of_methodNamed B.named
  have hlocks := B.notSynchronized
  have S : CallFix p m c cX10_lead 3 s _ wsX10_lead RX10 := ⟨hx, hb, hml, hown, hts⟩
  have hin10 : ∀ w ∈ wsX100, w ∈ wsX10_lead := (fun _ h => List.mem_cons_of_mem _ (List.mem_append_right _ (h)))
  have hS : va_S A s.heap s.heap [] := va_S.rf
  have hl := lv_entry ([.ref (ad 0 0), .int p0, .int p1]) (n := 3) (Nat.le_of_ble_eq_true rfl)
  rw [lg_entry_eq]
  generalize (lg_sl ([.ref (ad 0 0), .int p0, .int p1]) ++ List.replicate (3 - (lg_sl ([.ref (ad 0 0), .int p0, .int p1])).length) Slot.unset).toArray = ls at hl ⊢
  have hl : lv_has ls 3 [(0, .ref (ad 0 0)), (1, .int p0), (2, .int p1)] := hl
  refine lv_iload_n hx hb dX10_lead_0 rfl (lv_at hl 1 rfl) ?_
  refine lv_iconst (v := 0) hx hb dX10_lead_1 (by decide) ?_
  refine lv_bipush (v := 9) hx hb dX10_lead_2 (by decide) ?_
  refine nw_callS (As := [.int p0, .int 0, .int 9]) (rest := []) S (kX10_in l p0 0 9) gX10_lead_X10_in rfl ⟨rfl, rfl⟩ hqX10_in ⟨Nat.le_of_ble_eq_true rfl, Nat.le_of_ble_eq_true rfl⟩ rfl hl.1 rfl (Nat.le_of_ble_eq_true rfl) dX10_lead_4 ⟨Nat.le_of_ble_eq_true rfl, Nat.le_of_ble_eq_true rfl⟩ ?_
  refine lv_if_eq (x := fX10_in p0 0 9) (tgt := 19) hx hb dX10_lead_7 (by decide) (fun c_1 => ?_) (fun c_1 => ?_)
  · refine lv_ldc (v := (-1000000001)) hx hb hown (hts (.constant RX10 99 (-1000000001)) (List.mem_cons_of_mem _ (List.mem_append_left _ (List.mem_of_getElem? (i := 0) rfl)))) dX10_lead_19 ?_
    have hf : fX10_lead M p0 p1 = ((-1000000001), M) := by unfold fX10_lead; rw [if_pos c_1]
    exact W.iret (v := (-1000000001)) hx hb hr (fun t ht _ => by rw [hf]; exact nw_end hS hN ht) hS.2.2 dX10_lead_21
  · refine lv_iload_n hx hb dX10_lead_10 rfl (lv_at hl 2 rfl) ?_
    refine lv_iconst (v := 0) hx hb dX10_lead_11 (by decide) ?_
    refine lv_iconst (v := 5) hx hb dX10_lead_12 (by decide) ?_
    refine nw_callS (As := [.int p1, .int 0, .int 5]) (rest := []) S (kX10_in l p1 0 5) gX10_lead_X10_in rfl ⟨rfl, rfl⟩ hqX10_in ⟨Nat.le_of_ble_eq_true rfl, Nat.le_of_ble_eq_true rfl⟩ rfl hl.1 rfl (Nat.le_of_ble_eq_true rfl) dX10_lead_13 ⟨Nat.le_of_ble_eq_true rfl, Nat.le_of_ble_eq_true rfl⟩ ?_
    refine lv_if_ne (x := fX10_in p1 0 5) (tgt := 22) hx hb dX10_lead_16 (by decide) (fun c_2 => ?_) (fun c_2 => ?_)
    · refine lv_aload_n hx hb dX10_lead_22 rfl (lv_at hl 0 rfl) ?_
      refine nwM_get S hK hN hin10 12 (by decide) (index := 37) (List.mem_cons_of_mem _ (List.mem_append_left _ (List.mem_of_getElem? (i := 1) rfl))) rfl (v := .ref (ad 12 0)) rfl dX10_lead_23 ?_
      refine lv_iload_n hx hb dX10_lead_26 rfl (lv_at hl 2 rfl) ?_
      refine lv_aload_n hx hb dX10_lead_27 rfl (lv_at hl 0 rfl) ?_
      refine nwM_get S hK hN hin10 11 (by decide) (index := 34) (List.mem_cons_of_mem _ (List.mem_append_left _ (List.mem_of_getElem? (i := 2) rfl))) rfl (v := .ref (ad 11 0)) rfl dX10_lead_28 ?_
      refine lv_iload_n hx hb dX10_lead_31 rfl (lv_at hl 1 rfl) ?_
      refine nw_iald S hK hN (k := 11) (i := 0) ⟨rfl, rfl⟩ rfl (x := p0) (in_in c_1 (by decide)) dX10_lead_32 ?_
      refine nw_iast S hK hN hS (k := 12) (i := 0) ⟨rfl, rfl⟩ (fun _ => rfl) (x := p1) (v := M 11 0 ((p0 : Int32).toNatClampNeg)) (in_in c_2 (by decide)) dX10_lead_33 (fun H locs hN hz hS => ?_)
      refine lv_aload_n hx hb dX10_lead_34 rfl (lv_at hl 0 rfl) ?_
      refine nwM_get S hK hN hin10 12 (by decide) (index := 37) (List.mem_cons_of_mem _ (List.mem_append_left _ (List.mem_of_getElem? (i := 1) rfl))) rfl (v := .ref (ad 12 0)) rfl dX10_lead_35 ?_
      refine lv_iload_n hx hb dX10_lead_38 rfl (lv_at hl 2 rfl) ?_
      refine nw_iald S hK hN (k := 12) (i := 0) ⟨rfl, rfl⟩ rfl (x := p1) (in_in c_2 (by decide)) dX10_lead_39 ?_
      refine lv_if_lt (x := (u3 M 12 0 ((p1 : Int32).toNatClampNeg) (M 11 0 ((p0 : Int32).toNatClampNeg))) 12 0 ((p1 : Int32).toNatClampNeg)) (tgt := 47) hx hb dX10_lead_40 (by decide) (fun c_3 => ?_) (fun c_3 => ?_)
      · refine lv_iconst (v := 0) hx hb dX10_lead_47 (by decide) ?_
        have hf : fX10_lead M p0 p1 = (0, u3 M 12 0 ((p1 : Int32).toNatClampNeg) (M 11 0 ((p0 : Int32).toNatClampNeg))) := by unfold fX10_lead; rw [if_neg c_1, if_neg c_2, if_pos c_3]
        exact W.iret (v := 0) hx hb hr (fun t ht _ => by rw [hf]; exact nw_end hS hN ht) hS.2.2 dX10_lead_48
      · refine lv_iconst (v := 1) hx hb dX10_lead_43 (by decide) ?_
        refine lv_goto (tgt := 48) hx hb dX10_lead_44 (by decide) ?_
        have hf : fX10_lead M p0 p1 = (1, u3 M 12 0 ((p1 : Int32).toNatClampNeg) (M 11 0 ((p0 : Int32).toNatClampNeg))) := by unfold fX10_lead; rw [if_neg c_1, if_neg c_2, if_neg c_3]
        exact W.iret (v := 1) hx hb hr (fun t ht _ => by rw [hf]; exact nw_end hS hN ht) hS.2.2 dX10_lead_48
    · refine lv_ldc (v := (-1000000001)) hx hb hown (hts (.constant RX10 99 (-1000000001)) (List.mem_cons_of_mem _ (List.mem_append_left _ (List.mem_of_getElem? (i := 0) rfl)))) dX10_lead_19 ?_
      have hf : fX10_lead M p0 p1 = ((-1000000001), M) := by unfold fX10_lead; rw [if_neg c_1, if_pos c_2]
      exact W.iret (v := (-1000000001)) hx hb hr (fun t ht _ => by rw [hf]; exact nw_end hS hN ht) hS.2.2 dX10_lead_21
set_option maxHeartbeats 4000000 in
set_option maxRecDepth 100000 in
theorem kX10_holds (l : Launch) (D : va_G) (C : Nat → ClassId) (A : Nat → Prop) (ad : Nat → Nat → Nat) (M : Nat → Nat → Nat → Int32) (p0 p1 : Int32) (h0 : p0 = 0 → vp_in p1 10) (h1 : p0 = 1 → vp_in p1 6) (h2 : p0 = 2 → vp_in p1 6) (h3 : p0 = 3 → vp_in p1 4) (h4 : p0 = 4 → vp_in p1 4) (h5 : ¬ p0 = 0 → ¬ p0 = 1 → ¬ p0 = 2 → ¬ p0 = 3 → ¬ p0 = 4 → vp_in p1 6) (hz : ∀ j, j < 6 → M 22 0 j = 0 ∨ M 22 0 j = 1) : Met l yX10_holds wsX10_holds ({ frames := 0, cells := 0, slots := 0, locals := 0 }) (va_Pc [.ref (ad 0 0), .int p0, .int p1] (PW D C A (nw D (enM C) domM A ad M))) (nQ A (some (.int (fX10_holds M p0 p1).1)) (nw D (enM C) domM A ad (fX10_holds M p0 p1).2)) 0 0 A := by
  refine Met.ofW (cc := cX10_holds) (maxL := 3) (ret := (some .boolean)) (by decide) rfl ?_
  intro p e s m args below meth c s₁ B hml hv
  obtain ⟨rfl, hK, hN, hA⟩ := hv
  have hx := B.exec
  have hb := B.bytes
  have hr := B.returns
  have hts := atoms_spec (ws := wsX10_holds) B.pre
  have hown : s.vm.findClass RX10 = some m.cls := findClass_of_methodNamed B.named
  have hlocks := B.notSynchronized
  have S : CallFix p m c cX10_holds 3 s _ wsX10_holds RX10 := ⟨hx, hb, hml, hown, hts⟩
  have hin10 : ∀ w ∈ wsX100, w ∈ wsX10_holds := (fun _ h => List.mem_cons_of_mem _ (List.mem_append_right _ (h)))
  have hS : va_S A s.heap s.heap [] := va_S.rf
  have hl := lv_entry ([.ref (ad 0 0), .int p0, .int p1]) (n := 3) (Nat.le_of_ble_eq_true rfl)
  rw [lg_entry_eq]
  generalize (lg_sl ([.ref (ad 0 0), .int p0, .int p1]) ++ List.replicate (3 - (lg_sl ([.ref (ad 0 0), .int p0, .int p1])).length) Slot.unset).toArray = ls at hl ⊢
  have hl : lv_has ls 3 [(0, .ref (ad 0 0)), (1, .int p0), (2, .int p1)] := hl
  refine lv_iload_n hx hb dX10_holds_0 rfl (lv_at hl 1 rfl) ?_
  by_cases c_1 : p0 = 0
  · refine lv_tableIn (x := p0) (off := 35) (tgt := 36) hx hb dX10_holds_1 (by rw [c_1]; decide) (by rw [c_1]; decide) (by rw [c_1]; rfl) (by decide) ?_
    refine lv_aload_n hx hb dX10_holds_36 rfl (lv_at hl 0 rfl) ?_
    refine nwM_get S hK hN hin10 11 (by decide) (index := 34) (List.mem_cons_of_mem _ (List.mem_append_left _ (List.mem_of_getElem? (i := 0) rfl))) rfl (v := .ref (ad 11 0)) rfl dX10_holds_37 ?_
    refine lv_iload_n hx hb dX10_holds_40 rfl (lv_at hl 2 rfl) ?_
    refine nw_iald S hK hN (k := 11) (i := 0) ⟨rfl, rfl⟩ rfl (x := p1) (h0 c_1) dX10_holds_41 ?_
    refine lv_if_lt (x := M 11 0 ((p1 : Int32).toNatClampNeg)) (tgt := 49) hx hb dX10_holds_42 (by decide) (fun c_2 => ?_) (fun c_2 => ?_)
    · refine lv_iconst (v := 0) hx hb dX10_holds_49 (by decide) ?_
      have hf : fX10_holds M p0 p1 = (0, M) := by unfold fX10_holds; rw [if_pos c_1, if_pos c_2]
      exact W.zret (v := 0) hx hb hr rfl (fun t ht _ => by rw [hf]; exact nw_end hS hN ht) hS.2.2 dX10_holds_50
    · refine lv_iconst (v := 1) hx hb dX10_holds_45 (by decide) ?_
      refine lv_goto (tgt := 50) hx hb dX10_holds_46 (by decide) ?_
      have hf : fX10_holds M p0 p1 = (1, M) := by unfold fX10_holds; rw [if_pos c_1, if_neg c_2]
      exact W.zret (v := 1) hx hb hr rfl (fun t ht _ => by rw [hf]; exact nw_end hS hN ht) hS.2.2 dX10_holds_50
  · by_cases c_3 : p0 = 1
    · refine lv_tableIn (x := p0) (off := 50) (tgt := 51) hx hb dX10_holds_1 (by rw [c_3]; decide) (by rw [c_3]; decide) (by rw [c_3]; rfl) (by decide) ?_
      refine lv_aload_n hx hb dX10_holds_51 rfl (lv_at hl 0 rfl) ?_
      refine nwM_get S hK hN hin10 12 (by decide) (index := 37) (List.mem_cons_of_mem _ (List.mem_append_left _ (List.mem_of_getElem? (i := 1) rfl))) rfl (v := .ref (ad 12 0)) rfl dX10_holds_52 ?_
      refine lv_iload_n hx hb dX10_holds_55 rfl (lv_at hl 2 rfl) ?_
      refine nw_iald S hK hN (k := 12) (i := 0) ⟨rfl, rfl⟩ rfl (x := p1) (h1 c_3) dX10_holds_56 ?_
      refine lv_if_lt (x := M 12 0 ((p1 : Int32).toNatClampNeg)) (tgt := 64) hx hb dX10_holds_57 (by decide) (fun c_4 => ?_) (fun c_4 => ?_)
      · refine lv_iconst (v := 0) hx hb dX10_holds_64 (by decide) ?_
        have hf : fX10_holds M p0 p1 = (0, M) := by unfold fX10_holds; rw [if_neg c_1, if_pos c_3, if_pos c_4]
        exact W.zret (v := 0) hx hb hr rfl (fun t ht _ => by rw [hf]; exact nw_end hS hN ht) hS.2.2 dX10_holds_65
      · refine lv_iconst (v := 1) hx hb dX10_holds_60 (by decide) ?_
        refine lv_goto (tgt := 65) hx hb dX10_holds_61 (by decide) ?_
        have hf : fX10_holds M p0 p1 = (1, M) := by unfold fX10_holds; rw [if_neg c_1, if_pos c_3, if_neg c_4]
        exact W.zret (v := 1) hx hb hr rfl (fun t ht _ => by rw [hf]; exact nw_end hS hN ht) hS.2.2 dX10_holds_65
    · by_cases c_5 : p0 = 2
      · refine lv_tableIn (x := p0) (off := 65) (tgt := 66) hx hb dX10_holds_1 (by rw [c_5]; decide) (by rw [c_5]; decide) (by rw [c_5]; rfl) (by decide) ?_
        refine lv_aload_n hx hb dX10_holds_66 rfl (lv_at hl 0 rfl) ?_
        refine nwM_get S hK hN hin10 13 (by decide) (index := 40) (List.mem_cons_of_mem _ (List.mem_append_left _ (List.mem_of_getElem? (i := 2) rfl))) rfl (v := .ref (ad 13 0)) rfl dX10_holds_67 ?_
        refine lv_iload_n hx hb dX10_holds_70 rfl (lv_at hl 2 rfl) ?_
        refine nw_iald S hK hN (k := 13) (i := 0) ⟨rfl, rfl⟩ rfl (x := p1) (h2 c_5) dX10_holds_71 ?_
        refine lv_if_lt (x := M 13 0 ((p1 : Int32).toNatClampNeg)) (tgt := 79) hx hb dX10_holds_72 (by decide) (fun c_6 => ?_) (fun c_6 => ?_)
        · refine lv_iconst (v := 0) hx hb dX10_holds_79 (by decide) ?_
          have hf : fX10_holds M p0 p1 = (0, M) := by unfold fX10_holds; rw [if_neg c_1, if_neg c_3, if_pos c_5, if_pos c_6]
          exact W.zret (v := 0) hx hb hr rfl (fun t ht _ => by rw [hf]; exact nw_end hS hN ht) hS.2.2 dX10_holds_80
        · refine lv_iconst (v := 1) hx hb dX10_holds_75 (by decide) ?_
          refine lv_goto (tgt := 80) hx hb dX10_holds_76 (by decide) ?_
          have hf : fX10_holds M p0 p1 = (1, M) := by unfold fX10_holds; rw [if_neg c_1, if_neg c_3, if_pos c_5, if_neg c_6]
          exact W.zret (v := 1) hx hb hr rfl (fun t ht _ => by rw [hf]; exact nw_end hS hN ht) hS.2.2 dX10_holds_80
      · by_cases c_7 : p0 = 3
        · refine lv_tableIn (x := p0) (off := 80) (tgt := 81) hx hb dX10_holds_1 (by rw [c_7]; decide) (by rw [c_7]; decide) (by rw [c_7]; rfl) (by decide) ?_
          refine lv_aload_n hx hb dX10_holds_81 rfl (lv_at hl 0 rfl) ?_
          refine nwM_get S hK hN hin10 16 (by decide) (index := 49) (List.mem_cons_of_mem _ (List.mem_append_left _ (List.mem_of_getElem? (i := 3) rfl))) rfl (v := .ref (ad 16 0)) rfl dX10_holds_82 ?_
          refine lv_iload_n hx hb dX10_holds_85 rfl (lv_at hl 2 rfl) ?_
          refine nw_iald S hK hN (k := 16) (i := 0) ⟨rfl, rfl⟩ rfl (x := p1) (h3 c_7) dX10_holds_86 ?_
          refine lv_if_lt (x := M 16 0 ((p1 : Int32).toNatClampNeg)) (tgt := 94) hx hb dX10_holds_87 (by decide) (fun c_8 => ?_) (fun c_8 => ?_)
          · refine lv_iconst (v := 0) hx hb dX10_holds_94 (by decide) ?_
            have hf : fX10_holds M p0 p1 = (0, M) := by unfold fX10_holds; rw [if_neg c_1, if_neg c_3, if_neg c_5, if_pos c_7, if_pos c_8]
            exact W.zret (v := 0) hx hb hr rfl (fun t ht _ => by rw [hf]; exact nw_end hS hN ht) hS.2.2 dX10_holds_95
          · refine lv_iconst (v := 1) hx hb dX10_holds_90 (by decide) ?_
            refine lv_goto (tgt := 95) hx hb dX10_holds_91 (by decide) ?_
            have hf : fX10_holds M p0 p1 = (1, M) := by unfold fX10_holds; rw [if_neg c_1, if_neg c_3, if_neg c_5, if_pos c_7, if_neg c_8]
            exact W.zret (v := 1) hx hb hr rfl (fun t ht _ => by rw [hf]; exact nw_end hS hN ht) hS.2.2 dX10_holds_95
        · by_cases c_9 : p0 = 4
          · refine lv_tableIn (x := p0) (off := 95) (tgt := 96) hx hb dX10_holds_1 (by rw [c_9]; decide) (by rw [c_9]; decide) (by rw [c_9]; rfl) (by decide) ?_
            refine lv_aload_n hx hb dX10_holds_96 rfl (lv_at hl 0 rfl) ?_
            refine nwM_get S hK hN hin10 18 (by decide) (index := 55) (List.mem_cons_of_mem _ (List.mem_append_left _ (List.mem_of_getElem? (i := 4) rfl))) rfl (v := .ref (ad 18 0)) rfl dX10_holds_97 ?_
            refine lv_iload_n hx hb dX10_holds_100 rfl (lv_at hl 2 rfl) ?_
            refine nw_iald S hK hN (k := 18) (i := 0) ⟨rfl, rfl⟩ rfl (x := p1) (h4 c_9) dX10_holds_101 ?_
            refine lv_if_lt (x := M 18 0 ((p1 : Int32).toNatClampNeg)) (tgt := 109) hx hb dX10_holds_102 (by decide) (fun c_10 => ?_) (fun c_10 => ?_)
            · refine lv_iconst (v := 0) hx hb dX10_holds_109 (by decide) ?_
              have hf : fX10_holds M p0 p1 = (0, M) := by unfold fX10_holds; rw [if_neg c_1, if_neg c_3, if_neg c_5, if_neg c_7, if_pos c_9, if_pos c_10]
              exact W.zret (v := 0) hx hb hr rfl (fun t ht _ => by rw [hf]; exact nw_end hS hN ht) hS.2.2 dX10_holds_110
            · refine lv_iconst (v := 1) hx hb dX10_holds_105 (by decide) ?_
              refine lv_goto (tgt := 110) hx hb dX10_holds_106 (by decide) ?_
              have hf : fX10_holds M p0 p1 = (1, M) := by unfold fX10_holds; rw [if_neg c_1, if_neg c_3, if_neg c_5, if_neg c_7, if_pos c_9, if_neg c_10]
              exact W.zret (v := 1) hx hb hr rfl (fun t ht _ => by rw [hf]; exact nw_end hS hN ht) hS.2.2 dX10_holds_110
          · refine lv_tableOut (x := p0) (tgt := 111) hx hb dX10_holds_1 (by have q0 := lv_neT (a := 0) c_1 (by decide); have q1 := lv_neT (a := 1) c_3 (by decide); have q2 := lv_neT (a := 2) c_5 (by decide); have q3 := lv_neT (a := 3) c_7 (by decide); have q4 := lv_neT (a := 4) c_9 (by decide); omega) (by decide) ?_
            refine lv_aload_n hx hb dX10_holds_111 rfl (lv_at hl 0 rfl) ?_
            refine nwM_get S hK hN hin10 22 (by decide) (index := 68) (List.mem_cons_of_mem _ (List.mem_append_left _ (List.mem_of_getElem? (i := 5) rfl))) rfl (v := .ref (ad 22 0)) rfl dX10_holds_112 ?_
            refine lv_iload_n hx hb dX10_holds_115 rfl (lv_at hl 2 rfl) ?_
            refine nw_zald S hK hN (k := 22) (i := 0) ⟨rfl, rfl⟩ rfl (x := p1) (h5 c_1 c_3 c_5 c_7 c_9) dX10_holds_116 ?_
            have hf : fX10_holds M p0 p1 = (M 22 0 ((p1 : Int32).toNatClampNeg), M) := by unfold fX10_holds; rw [if_neg c_1, if_neg c_3, if_neg c_5, if_neg c_7, if_neg c_9]
            exact W.zret (v := M 22 0 ((p1 : Int32).toNatClampNeg)) hx hb hr (zn_b (hz _ (vp_lt (h5 c_1 c_3 c_5 c_7 c_9)))) (fun t ht _ => by rw [hf]; exact nw_end hS hN ht) hS.2.2 dX10_holds_117
