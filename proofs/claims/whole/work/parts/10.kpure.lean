def fX9_within (p0 p1 : Int32) : Int32 := (if p0 < 0 then 0 else (if p1 ≤ p0 then 0 else 1))
def fX9_oneIf (p0 : Int32) : Int32 := (if p0 = 0 then 0 else 1)
def fJ9_floorMod_7cf53 (p0 p1 : Int32) : Int32 := (if 0 ≤ (p0 ^^^ p1) then p0 - p0 / p1 * p1 else (if (p0 - p0 / p1 * p1) = 0 then p0 - p0 / p1 * p1 else (p0 - p0 / p1 * p1) + p1))
def fX10_in (p0 p1 p2 : Int32) : Int32 := (if p0 < p1 then 0 else (if p2 < p0 then 0 else 1))
def fX10_modulo (p0 p1 : Int32) : Int32 := ((p0 - p0 / p1 * p1) + p1) - ((p0 - p0 / p1 * p1) + p1) / p1 * p1
def fX10_least (p0 p1 : Int32) : Int32 := (if p1 ≤ p0 then p1 else p0)
theorem hqX9_within : yX9_within.cls ≠ "java/lang/invoke/MethodHandle" ∧ yX9_within.cls ≠ "java/lang/invoke/VarHandle" ∧ (parseMethodDescriptor yX9_within.desc).map (fun d => d.parameters.length) = some 2 := by decide +kernel
theorem hqX9_oneIf : yX9_oneIf.cls ≠ "java/lang/invoke/MethodHandle" ∧ yX9_oneIf.cls ≠ "java/lang/invoke/VarHandle" ∧ (parseMethodDescriptor yX9_oneIf.desc).map (fun d => d.parameters.length) = some 1 := by decide +kernel
theorem hqJ9_floorMod_7cf53 : yJ9_floorMod_7cf53.cls ≠ "java/lang/invoke/MethodHandle" ∧ yJ9_floorMod_7cf53.cls ≠ "java/lang/invoke/VarHandle" ∧ (parseMethodDescriptor yJ9_floorMod_7cf53.desc).map (fun d => d.parameters.length) = some 2 := by decide +kernel
theorem hqX10_in : yX10_in.cls ≠ "java/lang/invoke/MethodHandle" ∧ yX10_in.cls ≠ "java/lang/invoke/VarHandle" ∧ (parseMethodDescriptor yX10_in.desc).map (fun d => d.parameters.length) = some 3 := by decide +kernel
theorem hqX10_modulo : yX10_modulo.cls ≠ "java/lang/invoke/MethodHandle" ∧ yX10_modulo.cls ≠ "java/lang/invoke/VarHandle" ∧ (parseMethodDescriptor yX10_modulo.desc).map (fun d => d.parameters.length) = some 2 := by decide +kernel
theorem hqX10_least : yX10_least.cls ≠ "java/lang/invoke/MethodHandle" ∧ yX10_least.cls ≠ "java/lang/invoke/VarHandle" ∧ (parseMethodDescriptor yX10_least.desc).map (fun d => d.parameters.length) = some 2 := by decide +kernel
set_option maxHeartbeats 4000000 in
set_option maxRecDepth 100000 in
theorem kX9_within (l : Launch) (p0 p1 : Int32) : Met l yX9_within wsX9_within ({ frames := 0, cells := 0, slots := 0, locals := 0 }) (va_Pc [.int p0, .int p1] (fun _ => True)) (k2_QcV (.int (fX9_within p0 p1))) 0 0 (fun _ => False) := by
  refine Met.ofW (cc := cX9_within) (maxL := 2) (ret := (some .boolean)) (by decide) rfl ?_
  intro p e s m args below meth c s₁ B hml hv
  obtain ⟨rfl, -⟩ := hv
  have hx := B.exec
  have hb := B.bytes
  have hr := B.returns
  have hts := atoms_spec (ws := wsX9_within) B.pre
  have hown : s.vm.findClass RX9 = some m.cls := findClass_of_methodNamed B.named
  have hlocks := B.notSynchronized
  have S : CallFix p m c cX9_within 2 s _ wsX9_within RX9 := ⟨hx, hb, hml, hown, hts⟩
  have hl := lv_entry ([.int p0, .int p1]) (n := 2) (Nat.le_of_ble_eq_true rfl)
  rw [lg_entry_eq]
  generalize (lg_sl ([.int p0, .int p1]) ++ List.replicate (2 - (lg_sl ([.int p0, .int p1])).length) Slot.unset).toArray = ls at hl ⊢
  have hl : lv_has ls 2 [(0, .int p0), (1, .int p1)] := hl
  refine lv_iload_n hx hb dX9_within_0 rfl (lv_at hl 0 rfl) ?_
  refine lv_if_lt (x := p0) (tgt := 13) hx hb dX9_within_1 (by decide) (fun c_1 => ?_) (fun c_1 => ?_)
  · refine lv_iconst (v := 0) hx hb dX9_within_13 (by decide) ?_
    have hf : fX9_within p0 p1 = 0 := by unfold fX9_within; rw [if_pos c_1]
    exact W.zret (v := 0) hx hb hr rfl (fun t ht _ => ⟨by rw [hf], ht⟩) (fun _ h => by cases h) dX9_within_14
  · refine lv_iload_n hx hb dX9_within_4 rfl (lv_at hl 0 rfl) ?_
    refine lv_iload_n hx hb dX9_within_5 rfl (lv_at hl 1 rfl) ?_
    refine lv_icmp_ge (x := p0) (y := p1) (tgt := 13) hx hb dX9_within_6 (by decide) (fun c_2 => ?_) (fun c_2 => ?_)
    · refine lv_iconst (v := 0) hx hb dX9_within_13 (by decide) ?_
      have hf : fX9_within p0 p1 = 0 := by unfold fX9_within; rw [if_neg c_1, if_pos c_2]
      exact W.zret (v := 0) hx hb hr rfl (fun t ht _ => ⟨by rw [hf], ht⟩) (fun _ h => by cases h) dX9_within_14
    · refine lv_iconst (v := 1) hx hb dX9_within_9 (by decide) ?_
      refine lv_goto (tgt := 14) hx hb dX9_within_10 (by decide) ?_
      have hf : fX9_within p0 p1 = 1 := by unfold fX9_within; rw [if_neg c_1, if_neg c_2]
      exact W.zret (v := 1) hx hb hr rfl (fun t ht _ => ⟨by rw [hf], ht⟩) (fun _ h => by cases h) dX9_within_14
set_option maxHeartbeats 4000000 in
set_option maxRecDepth 100000 in
theorem kX9_oneIf (l : Launch) (p0 : Int32) : Met l yX9_oneIf wsX9_oneIf ({ frames := 0, cells := 0, slots := 0, locals := 0 }) (va_Pc [.int p0] (fun _ => True)) (k2_QcV (.int (fX9_oneIf p0))) 0 0 (fun _ => False) := by
  refine Met.ofW (cc := cX9_oneIf) (maxL := 1) (ret := (some .int)) (by decide) rfl ?_
  intro p e s m args below meth c s₁ B hml hv
  obtain ⟨rfl, -⟩ := hv
  have hx := B.exec
  have hb := B.bytes
  have hr := B.returns
  have hts := atoms_spec (ws := wsX9_oneIf) B.pre
  have hown : s.vm.findClass RX9 = some m.cls := findClass_of_methodNamed B.named
  have hlocks := B.notSynchronized
  have S : CallFix p m c cX9_oneIf 1 s _ wsX9_oneIf RX9 := ⟨hx, hb, hml, hown, hts⟩
  have hl := lv_entry ([.int p0]) (n := 1) (Nat.le_of_ble_eq_true rfl)
  rw [lg_entry_eq]
  generalize (lg_sl ([.int p0]) ++ List.replicate (1 - (lg_sl ([.int p0])).length) Slot.unset).toArray = ls at hl ⊢
  have hl : lv_has ls 1 [(0, .int p0)] := hl
  refine lv_iload_n hx hb dX9_oneIf_0 rfl (lv_at hl 0 rfl) ?_
  refine lv_if_eq (x := p0) (tgt := 8) hx hb dX9_oneIf_1 (by decide) (fun c_1 => ?_) (fun c_1 => ?_)
  · refine lv_iconst (v := 0) hx hb dX9_oneIf_8 (by decide) ?_
    have hf : fX9_oneIf p0 = 0 := by unfold fX9_oneIf; rw [if_pos c_1]
    exact W.iret (v := 0) hx hb hr (fun t ht _ => ⟨by rw [hf], ht⟩) (fun _ h => by cases h) dX9_oneIf_9
  · refine lv_iconst (v := 1) hx hb dX9_oneIf_4 (by decide) ?_
    refine lv_goto (tgt := 9) hx hb dX9_oneIf_5 (by decide) ?_
    have hf : fX9_oneIf p0 = 1 := by unfold fX9_oneIf; rw [if_neg c_1]
    exact W.iret (v := 1) hx hb hr (fun t ht _ => ⟨by rw [hf], ht⟩) (fun _ h => by cases h) dX9_oneIf_9
set_option maxHeartbeats 4000000 in
set_option maxRecDepth 100000 in
theorem kJ9_floorMod_7cf53 (l : Launch) (p0 p1 : Int32) (hne : ¬ p1 = 0) : Met l yJ9_floorMod_7cf53 wsJ9_floorMod_7cf53 ({ frames := 0, cells := 0, slots := 0, locals := 0 }) (va_Pc [.int p0, .int p1] (fun _ => True)) (k2_QcV (.int (fJ9_floorMod_7cf53 p0 p1))) 0 0 (fun _ => False) := by
  refine nw_ofWF (cc := cJ9_floorMod_7cf53) (maxL := 3) (ret := (some .int)) (by decide +kernel) rfl ?_
  intro p e s m args below meth c s₁ B hml hv
  obtain ⟨rfl, -⟩ := hv
  have hx := B.exec
  have hb := B.bytes
  have hr := B.returns
  have hts := atoms_spec (ws := wsJ9_floorMod_7cf53) B.pre
  have hown : s.vm.findClass RJ9 = some m.cls := findClass_of_methodNamed B.named
  have hlocks := B.notSynchronized
  have S : CallFix p m c cJ9_floorMod_7cf53 3 s _ wsJ9_floorMod_7cf53 RJ9 := ⟨hx, hb, hml, hown, hts⟩
  have hl := lv_entry ([.int p0, .int p1]) (n := 3) (Nat.le_of_ble_eq_true rfl)
  rw [lg_entry_eq]
  generalize (lg_sl ([.int p0, .int p1]) ++ List.replicate (3 - (lg_sl ([.int p0, .int p1])).length) Slot.unset).toArray = ls at hl ⊢
  have hl : lv_has ls 3 [(0, .int p0), (1, .int p1)] := hl
  refine lv_iload_n hx hb dJ9_floorMod_7cf53_0 rfl (lv_at hl 0 rfl) ?_
  refine lv_iload_n hx hb dJ9_floorMod_7cf53_1 rfl (lv_at hl 1 rfl) ?_
  refine lv_irem hx hb dJ9_floorMod_7cf53_2 hne ?_
  refine lv_istore_n (lv' := [(2, .int (p0 - p0 / p1 * p1)), (0, .int p0), (1, .int p1)]) hx hb dJ9_floorMod_7cf53_3 rfl hl (by decide) rfl (fun ls hl => ?_)
  refine lv_iload_n hx hb dJ9_floorMod_7cf53_4 rfl (lv_at hl 1 rfl) ?_
  refine lv_iload_n hx hb dJ9_floorMod_7cf53_5 rfl (lv_at hl 2 rfl) ?_
  refine lv_ixor hx hb dJ9_floorMod_7cf53_6 ?_
  refine lv_if_ge (x := p0 ^^^ p1) (tgt := 18) hx hb dJ9_floorMod_7cf53_7 (by decide) (fun c_1 => ?_) (fun c_1 => ?_)
  · refine lv_iload_n hx hb dJ9_floorMod_7cf53_18 rfl (lv_at hl 0 rfl) ?_
    have hf : fJ9_floorMod_7cf53 p0 p1 = p0 - p0 / p1 * p1 := by unfold fJ9_floorMod_7cf53; rw [if_pos c_1]
    exact W.iret (v := p0 - p0 / p1 * p1) hx hb hr (fun t ht _ => ⟨by rw [hf], ht⟩) (fun _ h => by cases h) dJ9_floorMod_7cf53_19
  · refine lv_iload_n hx hb dJ9_floorMod_7cf53_10 rfl (lv_at hl 0 rfl) ?_
    refine lv_if_eq (x := p0 - p0 / p1 * p1) (tgt := 18) hx hb dJ9_floorMod_7cf53_11 (by decide) (fun c_2 => ?_) (fun c_2 => ?_)
    · refine lv_iload_n hx hb dJ9_floorMod_7cf53_18 rfl (lv_at hl 0 rfl) ?_
      have hf : fJ9_floorMod_7cf53 p0 p1 = p0 - p0 / p1 * p1 := by unfold fJ9_floorMod_7cf53; rw [if_neg c_1, if_pos c_2]
      exact W.iret (v := p0 - p0 / p1 * p1) hx hb hr (fun t ht _ => ⟨by rw [hf], ht⟩) (fun _ h => by cases h) dJ9_floorMod_7cf53_19
    · refine lv_iload_n hx hb dJ9_floorMod_7cf53_14 rfl (lv_at hl 0 rfl) ?_
      refine lv_iload_n hx hb dJ9_floorMod_7cf53_15 rfl (lv_at hl 2 rfl) ?_
      refine lv_iadd hx hb dJ9_floorMod_7cf53_16 ?_
      have hf : fJ9_floorMod_7cf53 p0 p1 = (p0 - p0 / p1 * p1) + p1 := by unfold fJ9_floorMod_7cf53; rw [if_neg c_1, if_neg c_2]
      exact W.iret (v := (p0 - p0 / p1 * p1) + p1) hx hb hr (fun t ht _ => ⟨by rw [hf], ht⟩) (fun _ h => by cases h) dJ9_floorMod_7cf53_17
set_option maxHeartbeats 4000000 in
set_option maxRecDepth 100000 in
theorem kX10_in (l : Launch) (p0 p1 p2 : Int32) : Met l yX10_in wsX10_in ({ frames := 0, cells := 0, slots := 0, locals := 0 }) (va_Pc [.int p0, .int p1, .int p2] (fun _ => True)) (k2_QcV (.int (fX10_in p0 p1 p2))) 0 0 (fun _ => False) := by
  refine Met.ofW (cc := cX10_in) (maxL := 3) (ret := (some .boolean)) (by decide) rfl ?_
  intro p e s m args below meth c s₁ B hml hv
  obtain ⟨rfl, -⟩ := hv
  have hx := B.exec
  have hb := B.bytes
  have hr := B.returns
  have hts := atoms_spec (ws := wsX10_in) B.pre
  have hown : s.vm.findClass RX10 = some m.cls := findClass_of_methodNamed B.named
  have hlocks := B.notSynchronized
  have S : CallFix p m c cX10_in 3 s _ wsX10_in RX10 := ⟨hx, hb, hml, hown, hts⟩
  have hl := lv_entry ([.int p0, .int p1, .int p2]) (n := 3) (Nat.le_of_ble_eq_true rfl)
  rw [lg_entry_eq]
  generalize (lg_sl ([.int p0, .int p1, .int p2]) ++ List.replicate (3 - (lg_sl ([.int p0, .int p1, .int p2])).length) Slot.unset).toArray = ls at hl ⊢
  have hl : lv_has ls 3 [(0, .int p0), (1, .int p1), (2, .int p2)] := hl
  refine lv_iload_n hx hb dX10_in_0 rfl (lv_at hl 0 rfl) ?_
  refine lv_iload_n hx hb dX10_in_1 rfl (lv_at hl 1 rfl) ?_
  refine lv_icmp_lt (x := p0) (y := p1) (tgt := 14) hx hb dX10_in_2 (by decide) (fun c_1 => ?_) (fun c_1 => ?_)
  · refine lv_iconst (v := 0) hx hb dX10_in_14 (by decide) ?_
    have hf : fX10_in p0 p1 p2 = 0 := by unfold fX10_in; rw [if_pos c_1]
    exact W.zret (v := 0) hx hb hr rfl (fun t ht _ => ⟨by rw [hf], ht⟩) (fun _ h => by cases h) dX10_in_15
  · refine lv_iload_n hx hb dX10_in_5 rfl (lv_at hl 0 rfl) ?_
    refine lv_iload_n hx hb dX10_in_6 rfl (lv_at hl 2 rfl) ?_
    refine lv_icmp_gt (x := p0) (y := p2) (tgt := 14) hx hb dX10_in_7 (by decide) (fun c_2 => ?_) (fun c_2 => ?_)
    · refine lv_iconst (v := 0) hx hb dX10_in_14 (by decide) ?_
      have hf : fX10_in p0 p1 p2 = 0 := by unfold fX10_in; rw [if_neg c_1, if_pos c_2]
      exact W.zret (v := 0) hx hb hr rfl (fun t ht _ => ⟨by rw [hf], ht⟩) (fun _ h => by cases h) dX10_in_15
    · refine lv_iconst (v := 1) hx hb dX10_in_10 (by decide) ?_
      refine lv_goto (tgt := 15) hx hb dX10_in_11 (by decide) ?_
      have hf : fX10_in p0 p1 p2 = 1 := by unfold fX10_in; rw [if_neg c_1, if_neg c_2]
      exact W.zret (v := 1) hx hb hr rfl (fun t ht _ => ⟨by rw [hf], ht⟩) (fun _ h => by cases h) dX10_in_15
set_option maxHeartbeats 4000000 in
set_option maxRecDepth 100000 in
theorem kX10_modulo (l : Launch) (p0 p1 : Int32) (hne : ¬ p1 = 0) : Met l yX10_modulo wsX10_modulo ({ frames := 0, cells := 0, slots := 0, locals := 0 }) (va_Pc [.int p0, .int p1] (fun _ => True)) (k2_QcV (.int (fX10_modulo p0 p1))) 0 0 (fun _ => False) := by
  refine Met.ofW (cc := cX10_modulo) (maxL := 2) (ret := (some .int)) (by decide) rfl ?_
  intro p e s m args below meth c s₁ B hml hv
  obtain ⟨rfl, -⟩ := hv
  have hx := B.exec
  have hb := B.bytes
  have hr := B.returns
  have hts := atoms_spec (ws := wsX10_modulo) B.pre
  have hown : s.vm.findClass RX10 = some m.cls := findClass_of_methodNamed B.named
  have hlocks := B.notSynchronized
  have S : CallFix p m c cX10_modulo 2 s _ wsX10_modulo RX10 := ⟨hx, hb, hml, hown, hts⟩
  have hl := lv_entry ([.int p0, .int p1]) (n := 2) (Nat.le_of_ble_eq_true rfl)
  rw [lg_entry_eq]
  generalize (lg_sl ([.int p0, .int p1]) ++ List.replicate (2 - (lg_sl ([.int p0, .int p1])).length) Slot.unset).toArray = ls at hl ⊢
  have hl : lv_has ls 2 [(0, .int p0), (1, .int p1)] := hl
  refine lv_iload_n hx hb dX10_modulo_0 rfl (lv_at hl 0 rfl) ?_
  refine lv_iload_n hx hb dX10_modulo_1 rfl (lv_at hl 1 rfl) ?_
  refine lv_irem hx hb dX10_modulo_2 hne ?_
  refine lv_iload_n hx hb dX10_modulo_3 rfl (lv_at hl 1 rfl) ?_
  refine lv_iadd hx hb dX10_modulo_4 ?_
  refine lv_iload_n hx hb dX10_modulo_5 rfl (lv_at hl 1 rfl) ?_
  refine lv_irem hx hb dX10_modulo_6 hne ?_
  have hf : fX10_modulo p0 p1 = ((p0 - p0 / p1 * p1) + p1) - ((p0 - p0 / p1 * p1) + p1) / p1 * p1 := rfl
  exact W.iret (v := ((p0 - p0 / p1 * p1) + p1) - ((p0 - p0 / p1 * p1) + p1) / p1 * p1) hx hb hr (fun t ht _ => ⟨by rw [hf], ht⟩) (fun _ h => by cases h) dX10_modulo_7
set_option maxHeartbeats 4000000 in
set_option maxRecDepth 100000 in
theorem kX10_least (l : Launch) (p0 p1 : Int32) : Met l yX10_least wsX10_least ({ frames := 0, cells := 0, slots := 0, locals := 0 }) (va_Pc [.int p0, .int p1] (fun _ => True)) (k2_QcV (.int (fX10_least p0 p1))) 0 0 (fun _ => False) := by
  refine Met.ofW (cc := cX10_least) (maxL := 2) (ret := (some .int)) (by decide) rfl ?_
  intro p e s m args below meth c s₁ B hml hv
  obtain ⟨rfl, -⟩ := hv
  have hx := B.exec
  have hb := B.bytes
  have hr := B.returns
  have hts := atoms_spec (ws := wsX10_least) B.pre
  have hown : s.vm.findClass RX10 = some m.cls := findClass_of_methodNamed B.named
  have hlocks := B.notSynchronized
  have S : CallFix p m c cX10_least 2 s _ wsX10_least RX10 := ⟨hx, hb, hml, hown, hts⟩
  have hl := lv_entry ([.int p0, .int p1]) (n := 2) (Nat.le_of_ble_eq_true rfl)
  rw [lg_entry_eq]
  generalize (lg_sl ([.int p0, .int p1]) ++ List.replicate (2 - (lg_sl ([.int p0, .int p1])).length) Slot.unset).toArray = ls at hl ⊢
  have hl : lv_has ls 2 [(0, .int p0), (1, .int p1)] := hl
  refine lv_iload_n hx hb dX10_least_0 rfl (lv_at hl 0 rfl) ?_
  refine lv_iload_n hx hb dX10_least_1 rfl (lv_at hl 1 rfl) ?_
  refine lv_icmp_ge (x := p0) (y := p1) (tgt := 9) hx hb dX10_least_2 (by decide) (fun c_1 => ?_) (fun c_1 => ?_)
  · refine lv_iload_n hx hb dX10_least_9 rfl (lv_at hl 1 rfl) ?_
    have hf : fX10_least p0 p1 = p1 := by unfold fX10_least; rw [if_pos c_1]
    exact W.iret (v := p1) hx hb hr (fun t ht _ => ⟨by rw [hf], ht⟩) (fun _ h => by cases h) dX10_least_10
  · refine lv_iload_n hx hb dX10_least_5 rfl (lv_at hl 0 rfl) ?_
    refine lv_goto (tgt := 10) hx hb dX10_least_6 (by decide) ?_
    have hf : fX10_least p0 p1 = p0 := by unfold fX10_least; rw [if_neg c_1]
    exact W.iret (v := p0) hx hb hr (fun t ht _ => ⟨by rw [hf], ht⟩) (fun _ h => by cases h) dX10_least_10
