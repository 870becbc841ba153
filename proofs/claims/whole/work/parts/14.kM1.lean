set_option maxHeartbeats 4000000 in
set_option maxRecDepth 100000 in
theorem kX10_empty (l : Launch) (D : va_G) (C : Nat → ClassId) (A : Nat → Prop) (ad : Nat → Nat → Nat) (M : Nat → Nat → Nat → Int32) (p0 p1 : Int32) (kk : Nat) (hI : InvM kk M) : Met l yX10_empty wsX10_empty ({ frames := 1, cells := 0, slots := 0, locals := 22 }) (va_Pc [.ref (ad 0 0), .int p0, .int p1] (PW D C A (nw D (enM C) domM A ad M))) (nQ A (some (.int (fX10_empty M p0 p1).1)) (nw D (enM C) domM A ad (fX10_empty M p0 p1).2)) 0 0 A := by
  refine Met.ofW (cc := cX10_empty) (maxL := 4) (ret := (some .int)) (by decide) rfl ?_
  intro p e s m args below meth c s₁ B hml hv
  obtain ⟨rfl, hK, hN, hA⟩ := hv
  have hx := B.exec
  have hb := B.bytes
  have hr := B.returns
  have hts := atoms_spec (ws := wsX10_empty) B.pre
  have hown : s.vm.findClass RX10 = some m.cls := findClass_of_methodNamed B.named
  have hlocks := B.notSynchronized
  have S : CallFix p m c cX10_empty 4 s _ wsX10_empty RX10 := ⟨hx, hb, hml, hown, hts⟩
  have hin10 : ∀ w ∈ wsX100, w ∈ wsX10_empty := (fun _ h => List.mem_cons_of_mem _ (List.mem_append_right _ (h)))
  have hS : va_S A s.heap s.heap [] := va_S.rf
  have hl := lv_entry ([.ref (ad 0 0), .int p0, .int p1]) (n := 4) (Nat.le_of_ble_eq_true rfl)
  rw [lg_entry_eq]
  generalize (lg_sl ([.ref (ad 0 0), .int p0, .int p1]) ++ List.replicate (4 - (lg_sl ([.ref (ad 0 0), .int p0, .int p1])).length) Slot.unset).toArray = ls at hl ⊢
  have hl : lv_has ls 4 [(0, .ref (ad 0 0)), (1, .int p0), (2, .int p1)] := hl
  refine lv_iload_n hx hb dX10_empty_0 rfl (lv_at hl 1 rfl) ?_
  refine lv_iconst (v := 0) hx hb dX10_empty_1 (by decide) ?_
  refine lv_iconst (v := 5) hx hb dX10_empty_2 (by decide) ?_
  refine nw_callS (As := [.int p0, .int 0, .int 5]) (rest := []) S (kX10_in l p0 0 5) gX10_empty_X10_in rfl ⟨rfl, rfl⟩ hqX10_in ⟨Nat.le_of_ble_eq_true rfl, Nat.le_of_ble_eq_true rfl⟩ rfl hl.1 rfl (Nat.le_of_ble_eq_true rfl) dX10_empty_3 ⟨Nat.le_of_ble_eq_true rfl, Nat.le_of_ble_eq_true rfl⟩ ?_
  refine lv_if_eq (x := fX10_in p0 0 5) (tgt := 41) hx hb dX10_empty_6 (by decide) (fun c_1 => ?_) (fun c_1 => ?_)
  · refine lv_ldc (v := (-1000000001)) hx hb hown (hts (.constant RX10 99 (-1000000001)) (List.mem_cons_of_mem _ (List.mem_append_left _ (List.mem_of_getElem? (i := 0) rfl)))) dX10_empty_41 ?_
    have hf : fX10_empty M p0 p1 = ((-1000000001), M) := by unfold fX10_empty; rw [if_pos c_1]
    exact W.iret (v := (-1000000001)) hx hb hr (fun t ht _ => by rw [hf]; exact nw_end hS hN ht) hS.2.2 dX10_empty_43
  · refine lv_iload_n hx hb dX10_empty_9 rfl (lv_at hl 2 rfl) ?_
    refine lv_iconst (v := 0) hx hb dX10_empty_10 (by decide) ?_
    refine lv_iload_n hx hb dX10_empty_11 rfl (lv_at hl 1 rfl) ?_
    refine jn_i (V := (if p0 = 0 then 9 else (if p0 = 3 then 3 else (if p0 = 4 then 3 else 5)))) (pc' := 35) (ls := ls) (rest := [.int 0, .int p1]) (fun jv hv_3 => ?_) (fun hj_2 => ?_)
    · subst hv_3
      refine nw_callS (As := [.int p1, .int 0, .int (if p0 = 0 then 9 else (if p0 = 3 then 3 else (if p0 = 4 then 3 else 5)))]) (rest := []) S (kX10_in l p1 0 (if p0 = 0 then 9 else (if p0 = 3 then 3 else (if p0 = 4 then 3 else 5)))) gX10_empty_X10_in rfl ⟨rfl, rfl⟩ hqX10_in ⟨Nat.le_of_ble_eq_true rfl, Nat.le_of_ble_eq_true rfl⟩ rfl hl.1 rfl (Nat.le_of_ble_eq_true rfl) dX10_empty_35 ⟨Nat.le_of_ble_eq_true rfl, Nat.le_of_ble_eq_true rfl⟩ ?_
      refine lv_if_ne (x := fX10_in p1 0 (if p0 = 0 then 9 else (if p0 = 3 then 3 else (if p0 = 4 then 3 else 5)))) (tgt := 44) hx hb dX10_empty_38 (by decide) (fun c_4 => ?_) (fun c_4 => ?_)
      · refine lv_aload_n hx hb dX10_empty_44 rfl (lv_at hl 0 rfl) ?_
        refine lv_iload_n hx hb dX10_empty_45 rfl (lv_at hl 1 rfl) ?_
        refine lv_iload_n hx hb dX10_empty_46 rfl (lv_at hl 2 rfl) ?_
        refine nwM_call (As := [.int p0, .int p1]) (rest := []) S (kX10_holds l D C A ad M p0 p1 (emp0 c_4) (emp1 c_4) (emp2 c_4) (emp3 c_4) (emp4 c_4) (emp5 c_4) hI.hooked) gX10_empty_X10_holds rfl ⟨rfl, rfl⟩ hqX10_holds ⟨Nat.le_of_ble_eq_true rfl, Nat.le_of_ble_eq_true rfl⟩ hK hN hN hA hS rfl hl.1 rfl (Nat.le_of_ble_eq_true rfl) dX10_empty_47 ⟨Nat.le_of_ble_eq_true rfl, Nat.le_of_ble_eq_true rfl⟩ (fun H locs hN hS => ?_)
        refine lv_if_eq (x := (fX10_holds M p0 p1).1) (tgt := 57) hx hb dX10_empty_50 (by decide) (fun c_5 => ?_) (fun c_5 => ?_)
        · refine lv_iconst (v := 0) hx hb dX10_empty_57 (by decide) ?_
          refine lv_istore_n (lv' := [(3, .int 0), (0, .ref (ad 0 0)), (1, .int p0), (2, .int p1)]) hx hb dX10_empty_58 rfl hl (by decide) rfl (fun ls hl => ?_)
          refine lv_iload_n hx hb dX10_empty_59 rfl (lv_at hl 2 rfl) ?_
          by_cases c_6 : p0 = 0
          · refine lv_tableIn (x := p0) (off := 36) (tgt := 96) hx hb dX10_empty_60 (by rw [c_6]; decide) (by rw [c_6]; decide) (by rw [c_6]; rfl) (by decide) ?_
            refine lv_aload_n hx hb dX10_empty_96 rfl (lv_at hl 1 rfl) ?_
            refine nwM_get S hK hN hin10 11 (by decide) (index := 34) (List.mem_cons_of_mem _ (List.mem_append_left _ (List.mem_of_getElem? (i := 1) rfl))) rfl (v := .ref (ad 11 0)) rfl dX10_empty_97 ?_
            refine lv_iload_n hx hb dX10_empty_100 rfl (lv_at hl 3 rfl) ?_
            refine lv_iconst (v := (-1)) hx hb dX10_empty_101 (by decide) ?_
            refine nw_iast S hK hN hS (k := 11) (i := 0) ⟨rfl, rfl⟩ (fun _ => rfl) (x := p1) (v := (-1)) (emp0 c_4 c_6) dX10_empty_102 (fun H locs hN hz hS => ?_)
            refine lv_goto (tgt := 153) hx hb dX10_empty_103 (by decide) ?_
            refine lv_iload_n hx hb dX10_empty_153 rfl (lv_at hl 0 rfl) ?_
            have hf : fX10_empty M p0 p1 = (0, u3 ((fX10_holds M p0 p1).2) 11 0 ((p1 : Int32).toNatClampNeg) (-1)) := by unfold fX10_empty; rw [if_neg c_1, if_neg c_4, if_pos c_5, if_pos c_6]
            exact W.iret (v := 0) hx hb hr (fun t ht _ => by rw [hf]; exact nw_end hS hN ht) hS.2.2 dX10_empty_154
          · by_cases c_7 : p0 = 1
            · refine lv_tableIn (x := p0) (off := 46) (tgt := 106) hx hb dX10_empty_60 (by rw [c_7]; decide) (by rw [c_7]; decide) (by rw [c_7]; rfl) (by decide) ?_
              refine lv_aload_n hx hb dX10_empty_106 rfl (lv_at hl 1 rfl) ?_
              refine nwM_get S hK hN hin10 12 (by decide) (index := 37) (List.mem_cons_of_mem _ (List.mem_append_left _ (List.mem_of_getElem? (i := 2) rfl))) rfl (v := .ref (ad 12 0)) rfl dX10_empty_107 ?_
              refine lv_iload_n hx hb dX10_empty_110 rfl (lv_at hl 3 rfl) ?_
              refine lv_iconst (v := (-1)) hx hb dX10_empty_111 (by decide) ?_
              refine nw_iast S hK hN hS (k := 12) (i := 0) ⟨rfl, rfl⟩ (fun _ => rfl) (x := p1) (v := (-1)) (emp1 c_4 c_7) dX10_empty_112 (fun H locs hN hz hS => ?_)
              refine lv_goto (tgt := 153) hx hb dX10_empty_113 (by decide) ?_
              refine lv_iload_n hx hb dX10_empty_153 rfl (lv_at hl 0 rfl) ?_
              have hf : fX10_empty M p0 p1 = (0, u3 ((fX10_holds M p0 p1).2) 12 0 ((p1 : Int32).toNatClampNeg) (-1)) := by unfold fX10_empty; rw [if_neg c_1, if_neg c_4, if_pos c_5, if_neg c_6, if_pos c_7]
              exact W.iret (v := 0) hx hb hr (fun t ht _ => by rw [hf]; exact nw_end hS hN ht) hS.2.2 dX10_empty_154
            · by_cases c_8 : p0 = 2
              · refine lv_tableIn (x := p0) (off := 56) (tgt := 116) hx hb dX10_empty_60 (by rw [c_8]; decide) (by rw [c_8]; decide) (by rw [c_8]; rfl) (by decide) ?_
                refine lv_aload_n hx hb dX10_empty_116 rfl (lv_at hl 1 rfl) ?_
                refine nwM_get S hK hN hin10 13 (by decide) (index := 40) (List.mem_cons_of_mem _ (List.mem_append_left _ (List.mem_of_getElem? (i := 3) rfl))) rfl (v := .ref (ad 13 0)) rfl dX10_empty_117 ?_
                refine lv_iload_n hx hb dX10_empty_120 rfl (lv_at hl 3 rfl) ?_
                refine lv_iconst (v := (-1)) hx hb dX10_empty_121 (by decide) ?_
                refine nw_iast S hK hN hS (k := 13) (i := 0) ⟨rfl, rfl⟩ (fun _ => rfl) (x := p1) (v := (-1)) (emp2 c_4 c_8) dX10_empty_122 (fun H locs hN hz hS => ?_)
                refine lv_goto (tgt := 153) hx hb dX10_empty_123 (by decide) ?_
                refine lv_iload_n hx hb dX10_empty_153 rfl (lv_at hl 0 rfl) ?_
                have hf : fX10_empty M p0 p1 = (0, u3 ((fX10_holds M p0 p1).2) 13 0 ((p1 : Int32).toNatClampNeg) (-1)) := by unfold fX10_empty; rw [if_neg c_1, if_neg c_4, if_pos c_5, if_neg c_6, if_neg c_7, if_pos c_8]
                exact W.iret (v := 0) hx hb hr (fun t ht _ => by rw [hf]; exact nw_end hS hN ht) hS.2.2 dX10_empty_154
              · by_cases c_9 : p0 = 3
                · refine lv_tableIn (x := p0) (off := 66) (tgt := 126) hx hb dX10_empty_60 (by rw [c_9]; decide) (by rw [c_9]; decide) (by rw [c_9]; rfl) (by decide) ?_
                  refine lv_aload_n hx hb dX10_empty_126 rfl (lv_at hl 1 rfl) ?_
                  refine nwM_get S hK hN hin10 16 (by decide) (index := 49) (List.mem_cons_of_mem _ (List.mem_append_left _ (List.mem_of_getElem? (i := 4) rfl))) rfl (v := .ref (ad 16 0)) rfl dX10_empty_127 ?_
                  refine lv_iload_n hx hb dX10_empty_130 rfl (lv_at hl 3 rfl) ?_
                  refine lv_iconst (v := (-1)) hx hb dX10_empty_131 (by decide) ?_
                  refine nw_iast S hK hN hS (k := 16) (i := 0) ⟨rfl, rfl⟩ (fun _ => rfl) (x := p1) (v := (-1)) (emp3 c_4 c_9) dX10_empty_132 (fun H locs hN hz hS => ?_)
                  refine lv_goto (tgt := 153) hx hb dX10_empty_133 (by decide) ?_
                  refine lv_iload_n hx hb dX10_empty_153 rfl (lv_at hl 0 rfl) ?_
                  have hf : fX10_empty M p0 p1 = (0, u3 ((fX10_holds M p0 p1).2) 16 0 ((p1 : Int32).toNatClampNeg) (-1)) := by unfold fX10_empty; rw [if_neg c_1, if_neg c_4, if_pos c_5, if_neg c_6, if_neg c_7, if_neg c_8, if_pos c_9]
                  exact W.iret (v := 0) hx hb hr (fun t ht _ => by rw [hf]; exact nw_end hS hN ht) hS.2.2 dX10_empty_154
                · by_cases c_10 : p0 = 4
                  · refine lv_tableIn (x := p0) (off := 76) (tgt := 136) hx hb dX10_empty_60 (by rw [c_10]; decide) (by rw [c_10]; decide) (by rw [c_10]; rfl) (by decide) ?_
                    refine lv_aload_n hx hb dX10_empty_136 rfl (lv_at hl 1 rfl) ?_
                    refine nwM_get S hK hN hin10 18 (by decide) (index := 55) (List.mem_cons_of_mem _ (List.mem_append_left _ (List.mem_of_getElem? (i := 5) rfl))) rfl (v := .ref (ad 18 0)) rfl dX10_empty_137 ?_
                    refine lv_iload_n hx hb dX10_empty_140 rfl (lv_at hl 3 rfl) ?_
                    refine lv_iconst (v := (-1)) hx hb dX10_empty_141 (by decide) ?_
                    refine nw_iast S hK hN hS (k := 18) (i := 0) ⟨rfl, rfl⟩ (fun _ => rfl) (x := p1) (v := (-1)) (emp4 c_4 c_10) dX10_empty_142 (fun H locs hN hz hS => ?_)
                    refine lv_goto (tgt := 153) hx hb dX10_empty_143 (by decide) ?_
                    refine lv_iload_n hx hb dX10_empty_153 rfl (lv_at hl 0 rfl) ?_
                    have hf : fX10_empty M p0 p1 = (0, u3 ((fX10_holds M p0 p1).2) 18 0 ((p1 : Int32).toNatClampNeg) (-1)) := by unfold fX10_empty; rw [if_neg c_1, if_neg c_4, if_pos c_5, if_neg c_6, if_neg c_7, if_neg c_8, if_neg c_9, if_pos c_10]
                    exact W.iret (v := 0) hx hb hr (fun t ht _ => by rw [hf]; exact nw_end hS hN ht) hS.2.2 dX10_empty_154
                  · refine lv_tableOut (x := p0) (tgt := 146) hx hb dX10_empty_60 (by have q0 := lv_neT (a := 0) c_6 (by decide); have q1 := lv_neT (a := 1) c_7 (by decide); have q2 := lv_neT (a := 2) c_8 (by decide); have q3 := lv_neT (a := 3) c_9 (by decide); have q4 := lv_neT (a := 4) c_10 (by decide); omega) (by decide) ?_
                    refine lv_aload_n hx hb dX10_empty_146 rfl (lv_at hl 1 rfl) ?_
                    refine nwM_get S hK hN hin10 22 (by decide) (index := 68) (List.mem_cons_of_mem _ (List.mem_append_left _ (List.mem_of_getElem? (i := 6) rfl))) rfl (v := .ref (ad 22 0)) rfl dX10_empty_147 ?_
                    refine lv_iload_n hx hb dX10_empty_150 rfl (lv_at hl 3 rfl) ?_
                    refine lv_iconst (v := 0) hx hb dX10_empty_151 (by decide) ?_
                    refine nw_zast S hK hN hS (k := 22) (i := 0) ⟨rfl, rfl⟩ (fun _ => rfl) (x := p1) (v := 0) (emp5 c_4 c_6 c_7 c_8 c_9 c_10) rfl dX10_empty_152 (fun H locs hN hz hS => ?_)
                    refine lv_iload_n hx hb dX10_empty_153 rfl (lv_at hl 0 rfl) ?_
                    have hf : fX10_empty M p0 p1 = (0, u3 ((fX10_holds M p0 p1).2) 22 0 ((p1 : Int32).toNatClampNeg) 0) := by unfold fX10_empty; rw [if_neg c_1, if_neg c_4, if_pos c_5, if_neg c_6, if_neg c_7, if_neg c_8, if_neg c_9, if_neg c_10]
                    exact W.iret (v := 0) hx hb hr (fun t ht _ => by rw [hf]; exact nw_end hS hN ht) hS.2.2 dX10_empty_154
        · refine lv_iconst (v := 1) hx hb dX10_empty_53 (by decide) ?_
          refine lv_goto (tgt := 58) hx hb dX10_empty_54 (by decide) ?_
          refine lv_istore_n (lv' := [(3, .int 1), (0, .ref (ad 0 0)), (1, .int p0), (2, .int p1)]) hx hb dX10_empty_58 rfl hl (by decide) rfl (fun ls hl => ?_)
          refine lv_iload_n hx hb dX10_empty_59 rfl (lv_at hl 2 rfl) ?_
          by_cases c_11 : p0 = 0
          · refine lv_tableIn (x := p0) (off := 36) (tgt := 96) hx hb dX10_empty_60 (by rw [c_11]; decide) (by rw [c_11]; decide) (by rw [c_11]; rfl) (by decide) ?_
            refine lv_aload_n hx hb dX10_empty_96 rfl (lv_at hl 1 rfl) ?_
            refine nwM_get S hK hN hin10 11 (by decide) (index := 34) (List.mem_cons_of_mem _ (List.mem_append_left _ (List.mem_of_getElem? (i := 1) rfl))) rfl (v := .ref (ad 11 0)) rfl dX10_empty_97 ?_
            refine lv_iload_n hx hb dX10_empty_100 rfl (lv_at hl 3 rfl) ?_
            refine lv_iconst (v := (-1)) hx hb dX10_empty_101 (by decide) ?_
            refine nw_iast S hK hN hS (k := 11) (i := 0) ⟨rfl, rfl⟩ (fun _ => rfl) (x := p1) (v := (-1)) (emp0 c_4 c_11) dX10_empty_102 (fun H locs hN hz hS => ?_)
            refine lv_goto (tgt := 153) hx hb dX10_empty_103 (by decide) ?_
            refine lv_iload_n hx hb dX10_empty_153 rfl (lv_at hl 0 rfl) ?_
            have hf : fX10_empty M p0 p1 = (1, u3 ((fX10_holds M p0 p1).2) 11 0 ((p1 : Int32).toNatClampNeg) (-1)) := by unfold fX10_empty; rw [if_neg c_1, if_neg c_4, if_neg c_5, if_pos c_11]
            exact W.iret (v := 1) hx hb hr (fun t ht _ => by rw [hf]; exact nw_end hS hN ht) hS.2.2 dX10_empty_154
          · by_cases c_12 : p0 = 1
            · refine lv_tableIn (x := p0) (off := 46) (tgt := 106) hx hb dX10_empty_60 (by rw [c_12]; decide) (by rw [c_12]; decide) (by rw [c_12]; rfl) (by decide) ?_
              refine lv_aload_n hx hb dX10_empty_106 rfl (lv_at hl 1 rfl) ?_
              refine nwM_get S hK hN hin10 12 (by decide) (index := 37) (List.mem_cons_of_mem _ (List.mem_append_left _ (List.mem_of_getElem? (i := 2) rfl))) rfl (v := .ref (ad 12 0)) rfl dX10_empty_107 ?_
              refine lv_iload_n hx hb dX10_empty_110 rfl (lv_at hl 3 rfl) ?_
              refine lv_iconst (v := (-1)) hx hb dX10_empty_111 (by decide) ?_
              refine nw_iast S hK hN hS (k := 12) (i := 0) ⟨rfl, rfl⟩ (fun _ => rfl) (x := p1) (v := (-1)) (emp1 c_4 c_12) dX10_empty_112 (fun H locs hN hz hS => ?_)
              refine lv_goto (tgt := 153) hx hb dX10_empty_113 (by decide) ?_
              refine lv_iload_n hx hb dX10_empty_153 rfl (lv_at hl 0 rfl) ?_
              have hf : fX10_empty M p0 p1 = (1, u3 ((fX10_holds M p0 p1).2) 12 0 ((p1 : Int32).toNatClampNeg) (-1)) := by unfold fX10_empty; rw [if_neg c_1, if_neg c_4, if_neg c_5, if_neg c_11, if_pos c_12]
              exact W.iret (v := 1) hx hb hr (fun t ht _ => by rw [hf]; exact nw_end hS hN ht) hS.2.2 dX10_empty_154
            · by_cases c_13 : p0 = 2
              · refine lv_tableIn (x := p0) (off := 56) (tgt := 116) hx hb dX10_empty_60 (by rw [c_13]; decide) (by rw [c_13]; decide) (by rw [c_13]; rfl) (by decide) ?_
                refine lv_aload_n hx hb dX10_empty_116 rfl (lv_at hl 1 rfl) ?_
                refine nwM_get S hK hN hin10 13 (by decide) (index := 40) (List.mem_cons_of_mem _ (List.mem_append_left _ (List.mem_of_getElem? (i := 3) rfl))) rfl (v := .ref (ad 13 0)) rfl dX10_empty_117 ?_
                refine lv_iload_n hx hb dX10_empty_120 rfl (lv_at hl 3 rfl) ?_
                refine lv_iconst (v := (-1)) hx hb dX10_empty_121 (by decide) ?_
                refine nw_iast S hK hN hS (k := 13) (i := 0) ⟨rfl, rfl⟩ (fun _ => rfl) (x := p1) (v := (-1)) (emp2 c_4 c_13) dX10_empty_122 (fun H locs hN hz hS => ?_)
                refine lv_goto (tgt := 153) hx hb dX10_empty_123 (by decide) ?_
                refine lv_iload_n hx hb dX10_empty_153 rfl (lv_at hl 0 rfl) ?_
                have hf : fX10_empty M p0 p1 = (1, u3 ((fX10_holds M p0 p1).2) 13 0 ((p1 : Int32).toNatClampNeg) (-1)) := by unfold fX10_empty; rw [if_neg c_1, if_neg c_4, if_neg c_5, if_neg c_11, if_neg c_12, if_pos c_13]
                exact W.iret (v := 1) hx hb hr (fun t ht _ => by rw [hf]; exact nw_end hS hN ht) hS.2.2 dX10_empty_154
              · by_cases c_14 : p0 = 3
                · refine lv_tableIn (x := p0) (off := 66) (tgt := 126) hx hb dX10_empty_60 (by rw [c_14]; decide) (by rw [c_14]; decide) (by rw [c_14]; rfl) (by decide) ?_
                  refine lv_aload_n hx hb dX10_empty_126 rfl (lv_at hl 1 rfl) ?_
                  refine nwM_get S hK hN hin10 16 (by decide) (index := 49) (List.mem_cons_of_mem _ (List.mem_append_left _ (List.mem_of_getElem? (i := 4) rfl))) rfl (v := .ref (ad 16 0)) rfl dX10_empty_127 ?_
                  refine lv_iload_n hx hb dX10_empty_130 rfl (lv_at hl 3 rfl) ?_
                  refine lv_iconst (v := (-1)) hx hb dX10_empty_131 (by decide) ?_
                  refine nw_iast S hK hN hS (k := 16) (i := 0) ⟨rfl, rfl⟩ (fun _ => rfl) (x := p1) (v := (-1)) (emp3 c_4 c_14) dX10_empty_132 (fun H locs hN hz hS => ?_)
                  refine lv_goto (tgt := 153) hx hb dX10_empty_133 (by decide) ?_
                  refine lv_iload_n hx hb dX10_empty_153 rfl (lv_at hl 0 rfl) ?_
                  have hf : fX10_empty M p0 p1 = (1, u3 ((fX10_holds M p0 p1).2) 16 0 ((p1 : Int32).toNatClampNeg) (-1)) := by unfold fX10_empty; rw [if_neg c_1, if_neg c_4, if_neg c_5, if_neg c_11, if_neg c_12, if_neg c_13, if_pos c_14]
                  exact W.iret (v := 1) hx hb hr (fun t ht _ => by rw [hf]; exact nw_end hS hN ht) hS.2.2 dX10_empty_154
                · by_cases c_15 : p0 = 4
                  · refine lv_tableIn (x := p0) (off := 76) (tgt := 136) hx hb dX10_empty_60 (by rw [c_15]; decide) (by rw [c_15]; decide) (by rw [c_15]; rfl) (by decide) ?_
                    refine lv_aload_n hx hb dX10_empty_136 rfl (lv_at hl 1 rfl) ?_
                    refine nwM_get S hK hN hin10 18 (by decide) (index := 55) (List.mem_cons_of_mem _ (List.mem_append_left _ (List.mem_of_getElem? (i := 5) rfl))) rfl (v := .ref (ad 18 0)) rfl dX10_empty_137 ?_
                    refine lv_iload_n hx hb dX10_empty_140 rfl (lv_at hl 3 rfl) ?_
                    refine lv_iconst (v := (-1)) hx hb dX10_empty_141 (by decide) ?_
                    refine nw_iast S hK hN hS (k := 18) (i := 0) ⟨rfl, rfl⟩ (fun _ => rfl) (x := p1) (v := (-1)) (emp4 c_4 c_15) dX10_empty_142 (fun H locs hN hz hS => ?_)
                    refine lv_goto (tgt := 153) hx hb dX10_empty_143 (by decide) ?_
                    refine lv_iload_n hx hb dX10_empty_153 rfl (lv_at hl 0 rfl) ?_
                    have hf : fX10_empty M p0 p1 = (1, u3 ((fX10_holds M p0 p1).2) 18 0 ((p1 : Int32).toNatClampNeg) (-1)) := by unfold fX10_empty; rw [if_neg c_1, if_neg c_4, if_neg c_5, if_neg c_11, if_neg c_12, if_neg c_13, if_neg c_14, if_pos c_15]
                    exact W.iret (v := 1) hx hb hr (fun t ht _ => by rw [hf]; exact nw_end hS hN ht) hS.2.2 dX10_empty_154
                  · refine lv_tableOut (x := p0) (tgt := 146) hx hb dX10_empty_60 (by have q0 := lv_neT (a := 0) c_11 (by decide); have q1 := lv_neT (a := 1) c_12 (by decide); have q2 := lv_neT (a := 2) c_13 (by decide); have q3 := lv_neT (a := 3) c_14 (by decide); have q4 := lv_neT (a := 4) c_15 (by decide); omega) (by decide) ?_
                    refine lv_aload_n hx hb dX10_empty_146 rfl (lv_at hl 1 rfl) ?_
                    refine nwM_get S hK hN hin10 22 (by decide) (index := 68) (List.mem_cons_of_mem _ (List.mem_append_left _ (List.mem_of_getElem? (i := 6) rfl))) rfl (v := .ref (ad 22 0)) rfl dX10_empty_147 ?_
                    refine lv_iload_n hx hb dX10_empty_150 rfl (lv_at hl 3 rfl) ?_
                    refine lv_iconst (v := 0) hx hb dX10_empty_151 (by decide) ?_
                    refine nw_zast S hK hN hS (k := 22) (i := 0) ⟨rfl, rfl⟩ (fun _ => rfl) (x := p1) (v := 0) (emp5 c_4 c_11 c_12 c_13 c_14 c_15) rfl dX10_empty_152 (fun H locs hN hz hS => ?_)
                    refine lv_iload_n hx hb dX10_empty_153 rfl (lv_at hl 0 rfl) ?_
                    have hf : fX10_empty M p0 p1 = (1, u3 ((fX10_holds M p0 p1).2) 22 0 ((p1 : Int32).toNatClampNeg) 0) := by unfold fX10_empty; rw [if_neg c_1, if_neg c_4, if_neg c_5, if_neg c_11, if_neg c_12, if_neg c_13, if_neg c_14, if_neg c_15]
                    exact W.iret (v := 1) hx hb hr (fun t ht _ => by rw [hf]; exact nw_end hS hN ht) hS.2.2 dX10_empty_154
      · refine lv_ldc (v := (-1000000001)) hx hb hown (hts (.constant RX10 99 (-1000000001)) (List.mem_cons_of_mem _ (List.mem_append_left _ (List.mem_of_getElem? (i := 0) rfl)))) dX10_empty_41 ?_
        have hf : fX10_empty M p0 p1 = ((-1000000001), M) := by unfold fX10_empty; rw [if_neg c_1, if_pos c_4]
        exact W.iret (v := (-1000000001)) hx hb hr (fun t ht _ => by rw [hf]; exact nw_end hS hN ht) hS.2.2 dX10_empty_43
    · refine lv_if_ne (x := p0) (tgt := 20) hx hb dX10_empty_12 (by decide) (fun c_16 => ?_) (fun c_16 => ?_)
      · refine lv_iload_n hx hb dX10_empty_20 rfl (lv_at hl 1 rfl) ?_
        refine lv_iconst (v := 3) hx hb dX10_empty_21 (by decide) ?_
        refine lv_icmp_eq (x := p0) (y := 3) (tgt := 30) hx hb dX10_empty_22 (by decide) (fun c_17 => ?_) (fun c_17 => ?_)
        · refine lv_iconst (v := 3) hx hb dX10_empty_30 (by decide) ?_
          refine lv_goto (tgt := 35) hx hb dX10_empty_31 (by decide) ?_
          exact hj_2 _ (by rw [if_neg c_16, if_pos c_17])
        · refine lv_iload_n hx hb dX10_empty_25 rfl (lv_at hl 1 rfl) ?_
          refine lv_iconst (v := 4) hx hb dX10_empty_26 (by decide) ?_
          refine lv_icmp_ne (x := p0) (y := 4) (tgt := 34) hx hb dX10_empty_27 (by decide) (fun c_18 => ?_) (fun c_18 => ?_)
          · refine lv_iconst (v := 5) hx hb dX10_empty_34 (by decide) ?_
            exact hj_2 _ (by rw [if_neg c_16, if_neg c_17, if_neg c_18])
          · refine lv_iconst (v := 3) hx hb dX10_empty_30 (by decide) ?_
            refine lv_goto (tgt := 35) hx hb dX10_empty_31 (by decide) ?_
            exact hj_2 _ (by rw [if_neg c_16, if_neg c_17, if_pos c_18])
      · refine lv_bipush (v := 9) hx hb dX10_empty_15 (by decide) ?_
        refine lv_goto (tgt := 35) hx hb dX10_empty_17 (by decide) ?_
        exact hj_2 _ (by rw [if_pos c_16])
set_option maxHeartbeats 4000000 in
set_option maxRecDepth 100000 in
theorem kX10_tear (l : Launch) (D : va_G) (C : Nat → ClassId) (A : Nat → Prop) (ad : Nat → Nat → Nat) (M : Nat → Nat → Nat → Int32) (p0 p1 : Int32) (kk : Nat) (hI : InvM kk M) : Met l yX10_tear wsX10_tear ({ frames := 1, cells := 0, slots := 0, locals := 22 }) (va_Pc [.ref (ad 0 0), .int p0, .int p1] (PW D C A (nw D (enM C) domM A ad M))) (nQ A (some (.int (fX10_tear M p0 p1).1)) (nw D (enM C) domM A ad (fX10_tear M p0 p1).2)) 0 0 A := by
  refine Met.ofW (cc := cX10_tear) (maxL := 4) (ret := (some .int)) (by decide) rfl ?_
  intro p e s m args below meth c s₁ B hml hv
  obtain ⟨rfl, hK, hN, hA⟩ := hv
  have hx := B.exec
  have hb := B.bytes
  have hr := B.returns
  have hts := atoms_spec (ws := wsX10_tear) B.pre
  have hown : s.vm.findClass RX10 = some m.cls := findClass_of_methodNamed B.named
  have hlocks := B.notSynchronized
  have S : CallFix p m c cX10_tear 4 s _ wsX10_tear RX10 := ⟨hx, hb, hml, hown, hts⟩
  have hin10 : ∀ w ∈ wsX100, w ∈ wsX10_tear := (fun _ h => List.mem_cons_of_mem _ (List.mem_append_right _ (h)))
  have hS : va_S A s.heap s.heap [] := va_S.rf
  have hl := lv_entry ([.ref (ad 0 0), .int p0, .int p1]) (n := 4) (Nat.le_of_ble_eq_true rfl)
  rw [lg_entry_eq]
  generalize (lg_sl ([.ref (ad 0 0), .int p0, .int p1]) ++ List.replicate (4 - (lg_sl ([.ref (ad 0 0), .int p0, .int p1])).length) Slot.unset).toArray = ls at hl ⊢
  have hl : lv_has ls 4 [(0, .ref (ad 0 0)), (1, .int p0), (2, .int p1)] := hl
  refine lv_iload_n hx hb dX10_tear_0 rfl (lv_at hl 1 rfl) ?_
  refine lv_iconst (v := 0) hx hb dX10_tear_1 (by decide) ?_
  refine lv_iconst (v := 3) hx hb dX10_tear_2 (by decide) ?_
  refine nw_callS (As := [.int p0, .int 0, .int 3]) (rest := []) S (kX10_in l p0 0 3) gX10_tear_X10_in rfl ⟨rfl, rfl⟩ hqX10_in ⟨Nat.le_of_ble_eq_true rfl, Nat.le_of_ble_eq_true rfl⟩ rfl hl.1 rfl (Nat.le_of_ble_eq_true rfl) dX10_tear_3 ⟨Nat.le_of_ble_eq_true rfl, Nat.le_of_ble_eq_true rfl⟩ ?_
  refine lv_if_eq (x := fX10_in p0 0 3) (tgt := 25) hx hb dX10_tear_6 (by decide) (fun c_1 => ?_) (fun c_1 => ?_)
  · refine lv_ldc (v := (-1000000001)) hx hb hown (hts (.constant RX10 99 (-1000000001)) (List.mem_cons_of_mem _ (List.mem_append_left _ (List.mem_of_getElem? (i := 1) rfl)))) dX10_tear_25 ?_
    have hf : fX10_tear M p0 p1 = ((-1000000001), M) := by unfold fX10_tear; rw [if_pos c_1]
    exact W.iret (v := (-1000000001)) hx hb hr (fun t ht _ => by rw [hf]; exact nw_end hS hN ht) hS.2.2 dX10_tear_27
  · refine lv_iload_n hx hb dX10_tear_9 rfl (lv_at hl 2 rfl) ?_
    refine lv_iconst (v := 0) hx hb dX10_tear_10 (by decide) ?_
    refine lv_aload_n hx hb dX10_tear_11 rfl (lv_at hl 0 rfl) ?_
    refine nwM_get S hK hN hin10 18 (by decide) (index := 55) (List.mem_cons_of_mem _ (List.mem_append_left _ (List.mem_of_getElem? (i := 0) rfl))) rfl (v := .ref (ad 18 0)) rfl dX10_tear_12 ?_
    refine lv_iload_n hx hb dX10_tear_15 rfl (lv_at hl 1 rfl) ?_
    refine nw_iald S hK hN (k := 18) (i := 0) ⟨rfl, rfl⟩ rfl (x := p0) (in_in c_1 (by decide)) dX10_tear_16 ?_
    refine lv_iconst (v := 1) hx hb dX10_tear_17 (by decide) ?_
    refine lv_isub hx hb dX10_tear_18 ?_
    refine nw_callS (As := [.int p1, .int 0, .int ((M 18 0 ((p0 : Int32).toNatClampNeg)) - 1)]) (rest := []) S (kX10_in l p1 0 ((M 18 0 ((p0 : Int32).toNatClampNeg)) - 1)) gX10_tear_X10_in rfl ⟨rfl, rfl⟩ hqX10_in ⟨Nat.le_of_ble_eq_true rfl, Nat.le_of_ble_eq_true rfl⟩ rfl hl.1 rfl (Nat.le_of_ble_eq_true rfl) dX10_tear_19 ⟨Nat.le_of_ble_eq_true rfl, Nat.le_of_ble_eq_true rfl⟩ ?_
    refine lv_if_ne (x := fX10_in p1 0 ((M 18 0 ((p0 : Int32).toNatClampNeg)) - 1)) (tgt := 28) hx hb dX10_tear_22 (by decide) (fun c_2 => ?_) (fun c_2 => ?_)
    · refine lv_aload_n hx hb dX10_tear_28 rfl (lv_at hl 0 rfl) ?_
      refine nwM_get S hK hN hin10 20 (by decide) (index := 61) (List.mem_cons_of_mem _ (List.mem_append_left _ (List.mem_of_getElem? (i := 2) rfl))) rfl (v := .ref (ad 20 0)) rfl dX10_tear_29 ?_
      refine lv_bipush (v := 6) hx hb dX10_tear_32 (by decide) ?_
      refine lv_iload_n hx hb dX10_tear_34 rfl (lv_at hl 1 rfl) ?_
      refine lv_imul hx hb dX10_tear_35 ?_
      refine lv_iload_n hx hb dX10_tear_36 rfl (lv_at hl 2 rfl) ?_
      refine lv_iadd hx hb dX10_tear_37 ?_
      refine nw_zald S hK hN (k := 20) (i := 0) ⟨rfl, rfl⟩ rfl (x := (6 * p0) + p1) (invM_tear hI c_1 c_2) dX10_tear_38 ?_
      refine lv_if_eq (x := M 20 0 (((6 * p0) + p1 : Int32).toNatClampNeg)) (tgt := 46) hx hb dX10_tear_39 (by decide) (fun c_3 => ?_) (fun c_3 => ?_)
      · refine lv_iconst (v := 0) hx hb dX10_tear_46 (by decide) ?_
        refine lv_istore_n (lv' := [(3, .int 0), (0, .ref (ad 0 0)), (1, .int p0), (2, .int p1)]) hx hb dX10_tear_47 rfl hl (by decide) rfl (fun ls hl => ?_)
        refine lv_aload_n hx hb dX10_tear_48 rfl (lv_at hl 1 rfl) ?_
        refine nwM_get S hK hN hin10 20 (by decide) (index := 61) (List.mem_cons_of_mem _ (List.mem_append_left _ (List.mem_of_getElem? (i := 2) rfl))) rfl (v := .ref (ad 20 0)) rfl dX10_tear_49 ?_
        refine lv_bipush (v := 6) hx hb dX10_tear_52 (by decide) ?_
        refine lv_iload_n hx hb dX10_tear_54 rfl (lv_at hl 2 rfl) ?_
        refine lv_imul hx hb dX10_tear_55 ?_
        refine lv_iload_n hx hb dX10_tear_56 rfl (lv_at hl 3 rfl) ?_
        refine lv_iadd hx hb dX10_tear_57 ?_
        refine lv_iconst (v := 0) hx hb dX10_tear_58 (by decide) ?_
        refine nw_zast S hK hN hS (k := 20) (i := 0) ⟨rfl, rfl⟩ (fun _ => rfl) (x := (6 * p0) + p1) (v := 0) (invM_tear hI c_1 c_2) rfl dX10_tear_59 (fun H locs hN hz hS => ?_)
        refine lv_iload_n hx hb dX10_tear_60 rfl (lv_at hl 0 rfl) ?_
        have hf : fX10_tear M p0 p1 = (0, u3 M 20 0 (((6 * p0) + p1 : Int32).toNatClampNeg) 0) := by unfold fX10_tear; rw [if_neg c_1, if_neg c_2, if_pos c_3]
        exact W.iret (v := 0) hx hb hr (fun t ht _ => by rw [hf]; exact nw_end hS hN ht) hS.2.2 dX10_tear_61
      · refine lv_iconst (v := 1) hx hb dX10_tear_42 (by decide) ?_
        refine lv_goto (tgt := 47) hx hb dX10_tear_43 (by decide) ?_
        refine lv_istore_n (lv' := [(3, .int 1), (0, .ref (ad 0 0)), (1, .int p0), (2, .int p1)]) hx hb dX10_tear_47 rfl hl (by decide) rfl (fun ls hl => ?_)
        refine lv_aload_n hx hb dX10_tear_48 rfl (lv_at hl 1 rfl) ?_
        refine nwM_get S hK hN hin10 20 (by decide) (index := 61) (List.mem_cons_of_mem _ (List.mem_append_left _ (List.mem_of_getElem? (i := 2) rfl))) rfl (v := .ref (ad 20 0)) rfl dX10_tear_49 ?_
        refine lv_bipush (v := 6) hx hb dX10_tear_52 (by decide) ?_
        refine lv_iload_n hx hb dX10_tear_54 rfl (lv_at hl 2 rfl) ?_
        refine lv_imul hx hb dX10_tear_55 ?_
        refine lv_iload_n hx hb dX10_tear_56 rfl (lv_at hl 3 rfl) ?_
        refine lv_iadd hx hb dX10_tear_57 ?_
        refine lv_iconst (v := 0) hx hb dX10_tear_58 (by decide) ?_
        refine nw_zast S hK hN hS (k := 20) (i := 0) ⟨rfl, rfl⟩ (fun _ => rfl) (x := (6 * p0) + p1) (v := 0) (invM_tear hI c_1 c_2) rfl dX10_tear_59 (fun H locs hN hz hS => ?_)
        refine lv_iload_n hx hb dX10_tear_60 rfl (lv_at hl 0 rfl) ?_
        have hf : fX10_tear M p0 p1 = (1, u3 M 20 0 (((6 * p0) + p1 : Int32).toNatClampNeg) 0) := by unfold fX10_tear; rw [if_neg c_1, if_neg c_2, if_neg c_3]
        exact W.iret (v := 1) hx hb hr (fun t ht _ => by rw [hf]; exact nw_end hS hN ht) hS.2.2 dX10_tear_61
    · refine lv_ldc (v := (-1000000001)) hx hb hown (hts (.constant RX10 99 (-1000000001)) (List.mem_cons_of_mem _ (List.mem_append_left _ (List.mem_of_getElem? (i := 1) rfl)))) dX10_tear_25 ?_
      have hf : fX10_tear M p0 p1 = ((-1000000001), M) := by unfold fX10_tear; rw [if_neg c_1, if_pos c_2]
      exact W.iret (v := (-1000000001)) hx hb hr (fun t ht _ => by rw [hf]; exact nw_end hS hN ht) hS.2.2 dX10_tear_27
set_option maxHeartbeats 4000000 in
set_option maxRecDepth 100000 in
theorem kX10_hang (l : Launch) (D : va_G) (C : Nat → ClassId) (A : Nat → Prop) (ad : Nat → Nat → Nat) (M : Nat → Nat → Nat → Int32) (p0 p1 : Int32) : Met l yX10_hang wsX10_hang ({ frames := 1, cells := 0, slots := 0, locals := 22 }) (va_Pc [.ref (ad 0 0), .int p0, .int p1] (PW D C A (nw D (enM C) domM A ad M))) (nQ A (some (.int (fX10_hang M p0 p1).1)) (nw D (enM C) domM A ad (fX10_hang M p0 p1).2)) 0 0 A := by
  refine Met.ofW (cc := cX10_hang) (maxL := 3) (ret := (some .int)) (by decide) rfl ?_
  intro p e s m args below meth c s₁ B hml hv
  obtain ⟨rfl, hK, hN, hA⟩ := hv
  have hx := B.exec
  have hb := B.bytes
  have hr := B.returns
  have hts := atoms_spec (ws := wsX10_hang) B.pre
  have hown : s.vm.findClass RX10 = some m.cls := findClass_of_methodNamed B.named
  have hlocks := B.notSynchronized
  have S : CallFix p m c cX10_hang 3 s _ wsX10_hang RX10 := ⟨hx, hb, hml, hown, hts⟩
  have hin10 : ∀ w ∈ wsX100, w ∈ wsX10_hang := (fun _ h => List.mem_cons_of_mem _ (List.mem_append_right _ (h)))
  have hS : va_S A s.heap s.heap [] := va_S.rf
  have hl := lv_entry ([.ref (ad 0 0), .int p0, .int p1]) (n := 3) (Nat.le_of_ble_eq_true rfl)
  rw [lg_entry_eq]
  generalize (lg_sl ([.ref (ad 0 0), .int p0, .int p1]) ++ List.replicate (3 - (lg_sl ([.ref (ad 0 0), .int p0, .int p1])).length) Slot.unset).toArray = ls at hl ⊢
  have hl : lv_has ls 3 [(0, .ref (ad 0 0)), (1, .int p0), (2, .int p1)] := hl
  refine lv_iload_n hx hb dX10_hang_0 rfl (lv_at hl 1 rfl) ?_
  refine lv_iconst (v := 0) hx hb dX10_hang_1 (by decide) ?_
  refine lv_iconst (v := 5) hx hb dX10_hang_2 (by decide) ?_
  refine nw_callS (As := [.int p0, .int 0, .int 5]) (rest := []) S (kX10_in l p0 0 5) gX10_hang_X10_in rfl ⟨rfl, rfl⟩ hqX10_in ⟨Nat.le_of_ble_eq_true rfl, Nat.le_of_ble_eq_true rfl⟩ rfl hl.1 rfl (Nat.le_of_ble_eq_true rfl) dX10_hang_3 ⟨Nat.le_of_ble_eq_true rfl, Nat.le_of_ble_eq_true rfl⟩ ?_
  refine lv_if_ne (x := fX10_in p0 0 5) (tgt := 12) hx hb dX10_hang_6 (by decide) (fun c_1 => ?_) (fun c_1 => ?_)
  · refine lv_aload_n hx hb dX10_hang_12 rfl (lv_at hl 0 rfl) ?_
    refine nwM_get S hK hN hin10 10 (by decide) (index := 112) (List.mem_cons_of_mem _ (List.mem_append_left _ (List.mem_of_getElem? (i := 1) rfl))) rfl (v := .int (M 0 0 10)) rfl dX10_hang_13 ?_
    refine lv_bipush (v := 60) hx hb dX10_hang_16 (by decide) ?_
    refine lv_icmp_ne (x := M 0 0 10) (y := 60) (tgt := 24) hx hb dX10_hang_18 (by decide) (fun c_2 => ?_) (fun c_2 => ?_)
    · refine lv_aload_n hx hb dX10_hang_24 rfl (lv_at hl 0 rfl) ?_
      refine lv_dup hx hb dX10_hang_25 rfl ?_
      refine nwM_get S hK hN hin10 10 (by decide) (index := 112) (List.mem_cons_of_mem _ (List.mem_append_left _ (List.mem_of_getElem? (i := 1) rfl))) rfl (v := .int (M 0 0 10)) rfl dX10_hang_26 ?_
      refine lv_iconst (v := 1) hx hb dX10_hang_29 (by decide) ?_
      refine lv_iadd hx hb dX10_hang_30 ?_
      refine nwM_put S hK hN hS hin10 10 (by decide) (index := 112) (List.mem_cons_of_mem _ (List.mem_append_left _ (List.mem_of_getElem? (i := 1) rfl))) rfl rfl rfl ((M 0 0 10) + 1) (obM_10 _ _ _) dX10_hang_31 (fun H locs hN hz hS => ?_)
      refine lv_aload_n hx hb dX10_hang_34 rfl (lv_at hl 0 rfl) ?_
      refine nwM_get S hK hN hin10 22 (by decide) (index := 68) (List.mem_cons_of_mem _ (List.mem_append_left _ (List.mem_of_getElem? (i := 3) rfl))) rfl (v := .ref (ad 22 0)) rfl dX10_hang_35 ?_
      refine lv_iload_n hx hb dX10_hang_38 rfl (lv_at hl 1 rfl) ?_
      refine lv_iconst (v := 1) hx hb dX10_hang_39 (by decide) ?_
      refine nw_zast S hK hN hS (k := 22) (i := 0) ⟨rfl, rfl⟩ (fun _ => rfl) (x := p0) (v := 1) (in_in c_1 (by decide)) rfl dX10_hang_40 (fun H locs hN hz hS => ?_)
      refine lv_aload_n hx hb dX10_hang_41 rfl (lv_at hl 0 rfl) ?_
      refine nwM_get S hK hN hin10 23 (by decide) (index := 71) (List.mem_cons_of_mem _ (List.mem_append_left _ (List.mem_of_getElem? (i := 4) rfl))) rfl (v := .ref (ad 23 0)) rfl dX10_hang_42 ?_
      refine lv_iload_n hx hb dX10_hang_45 rfl (lv_at hl 1 rfl) ?_
      refine lv_iload_n hx hb dX10_hang_46 rfl (lv_at hl 2 rfl) ?_
      refine nw_iast S hK hN hS (k := 23) (i := 0) ⟨rfl, rfl⟩ (fun _ => rfl) (x := p0) (v := p1) (in_in c_1 (by decide)) dX10_hang_47 (fun H locs hN hz hS => ?_)
      refine lv_iconst (v := 1) hx hb dX10_hang_48 (by decide) ?_
      have hf : fX10_hang M p0 p1 = (1, u3 (u3 (u3 M 0 0 10 ((M 0 0 10) + 1)) 22 0 ((p0 : Int32).toNatClampNeg) 1) 23 0 ((p0 : Int32).toNatClampNeg) p1) := by unfold fX10_hang; rw [if_neg c_1, if_neg c_2]
      exact W.iret (v := 1) hx hb hr (fun t ht _ => by rw [hf]; exact nw_end hS hN ht) hS.2.2 dX10_hang_49
    · refine lv_ldc (v := (-1000000003)) hx hb hown (hts (.constant RX10 104 (-1000000003)) (List.mem_cons_of_mem _ (List.mem_append_left _ (List.mem_of_getElem? (i := 2) rfl)))) dX10_hang_21 ?_
      have hf : fX10_hang M p0 p1 = ((-1000000003), M) := by unfold fX10_hang; rw [if_neg c_1, if_pos c_2]
      exact W.iret (v := (-1000000003)) hx hb hr (fun t ht _ => by rw [hf]; exact nw_end hS hN ht) hS.2.2 dX10_hang_23
  · refine lv_ldc (v := (-1000000001)) hx hb hown (hts (.constant RX10 99 (-1000000001)) (List.mem_cons_of_mem _ (List.mem_append_left _ (List.mem_of_getElem? (i := 0) rfl)))) dX10_hang_9 ?_
    have hf : fX10_hang M p0 p1 = ((-1000000001), M) := by unfold fX10_hang; rw [if_pos c_1]
    exact W.iret (v := (-1000000001)) hx hb hr (fun t ht _ => by rw [hf]; exact nw_end hS hN ht) hS.2.2 dX10_hang_11
set_option maxHeartbeats 4000000 in
set_option maxRecDepth 100000 in
theorem kX10_ofStall (l : Launch) (D : va_G) (C : Nat → ClassId) (A : Nat → Prop) (ad : Nat → Nat → Nat) (M : Nat → Nat → Nat → Int32) (p0 p1 p2 : Int32) (hbd : ¬ p1 < 0 → vp_in p1 60) : Met l yX10_ofStall wsX10_ofStall ({ frames := 1, cells := 0, slots := 0, locals := 21 }) (va_Pc [.ref (ad 0 0), .int p0, .int p1, .int p2] (PW D C A (nw D (enM C) domM A ad M))) (nQ A (some (.int (fX10_ofStall M p0 p1 p2).1)) (nw D (enM C) domM A ad (fX10_ofStall M p0 p1 p2).2)) 0 0 A := by
  refine Met.ofW (cc := cX10_ofStall) (maxL := 4) (ret := (some .int)) (by decide) rfl ?_
  intro p e s m args below meth c s₁ B hml hv
  obtain ⟨rfl, hK, hN, hA⟩ := hv
  have hx := B.exec
  have hb := B.bytes
  have hr := B.returns
  have hts := atoms_spec (ws := wsX10_ofStall) B.pre
  have hown : s.vm.findClass RX10 = some m.cls := findClass_of_methodNamed B.named
  have hlocks := B.notSynchronized
  have S : CallFix p m c cX10_ofStall 4 s _ wsX10_ofStall RX10 := ⟨hx, hb, hml, hown, hts⟩
  have hin10 : ∀ w ∈ wsX100, w ∈ wsX10_ofStall := (fun _ h => List.mem_cons_of_mem _ (List.mem_append_right _ (h)))
  have hS : va_S A s.heap s.heap [] := va_S.rf
  have hl := lv_entry ([.ref (ad 0 0), .int p0, .int p1, .int p2]) (n := 4) (Nat.le_of_ble_eq_true rfl)
  rw [lg_entry_eq]
  generalize (lg_sl ([.ref (ad 0 0), .int p0, .int p1, .int p2]) ++ List.replicate (4 - (lg_sl ([.ref (ad 0 0), .int p0, .int p1, .int p2])).length) Slot.unset).toArray = ls at hl ⊢
  have hl : lv_has ls 4 [(0, .ref (ad 0 0)), (1, .int p0), (2, .int p1), (3, .int p2)] := hl
  refine lv_iload_n hx hb dX10_ofStall_0 rfl (lv_at hl 1 rfl) ?_
  refine lv_bipush (v := 6) hx hb dX10_ofStall_1 (by decide) ?_
  refine lv_icmp_ne (x := p0) (y := 6) (tgt := 22) hx hb dX10_ofStall_3 (by decide) (fun c_1 => ?_) (fun c_1 => ?_)
  · refine lv_iload_n hx hb dX10_ofStall_22 rfl (lv_at hl 2 rfl) ?_
    refine lv_if_ge (x := p1) (tgt := 28) hx hb dX10_ofStall_23 (by decide) (fun c_2 => ?_) (fun c_2 => ?_)
    · refine lv_iload_n hx hb dX10_ofStall_28 rfl (lv_at hl 1 rfl) ?_
      by_cases c_3 : p0 = 0
      · refine lv_tableIn (x := p0) (off := 31) (tgt := 60) hx hb dX10_ofStall_29 (by rw [c_3]; decide) (by rw [c_3]; decide) (by rw [c_3]; rfl) (by decide) ?_
        refine lv_aload_n hx hb dX10_ofStall_60 rfl (lv_at hl 0 rfl) ?_
        refine nwM_get S hK hN hin10 3 (by decide) (index := 16) (List.mem_cons_of_mem _ (List.mem_append_left _ (List.mem_of_getElem? (i := 1) rfl))) rfl (v := .ref (ad 3 0)) rfl dX10_ofStall_61 ?_
        refine lv_iload_n hx hb dX10_ofStall_64 rfl (lv_at hl 2 rfl) ?_
        refine lv_dup2_11 hx hb dX10_ofStall_65 rfl rfl ?_
        refine nw_iald S hK hN (k := 3) (i := 0) ⟨rfl, rfl⟩ rfl (x := p1) (hbd (Int32.not_lt.mpr c_2)) dX10_ofStall_66 ?_
        refine lv_iload_n hx hb dX10_ofStall_67 rfl (lv_at hl 3 rfl) ?_
        refine lv_iadd hx hb dX10_ofStall_68 ?_
        refine nw_iast S hK hN hS (k := 3) (i := 0) ⟨rfl, rfl⟩ (fun _ => rfl) (x := p1) (v := (M 3 0 ((p1 : Int32).toNatClampNeg)) + p2) (hbd (Int32.not_lt.mpr c_2)) dX10_ofStall_69 (fun H locs hN hz hS => ?_)
        refine lv_aload_n hx hb dX10_ofStall_70 rfl (lv_at hl 0 rfl) ?_
        refine lv_aload_n hx hb dX10_ofStall_71 rfl (lv_at hl 0 rfl) ?_
        refine nwM_get S hK hN hin10 3 (by decide) (index := 16) (List.mem_cons_of_mem _ (List.mem_append_left _ (List.mem_of_getElem? (i := 1) rfl))) rfl (v := .ref (ad 3 0)) rfl dX10_ofStall_72 ?_
        refine lv_iload_n hx hb dX10_ofStall_75 rfl (lv_at hl 2 rfl) ?_
        refine nw_iald S hK hN (k := 3) (i := 0) ⟨rfl, rfl⟩ rfl (x := p1) (hbd (Int32.not_lt.mpr c_2)) dX10_ofStall_76 ?_
        refine nwM_call (As := [.int ((u3 M 3 0 ((p1 : Int32).toNatClampNeg) ((M 3 0 ((p1 : Int32).toNatClampNeg)) + p2)) 3 0 ((p1 : Int32).toNatClampNeg))]) (rest := []) S (kX10_come l D C A ad (u3 M 3 0 ((p1 : Int32).toNatClampNeg) ((M 3 0 ((p1 : Int32).toNatClampNeg)) + p2)) ((u3 M 3 0 ((p1 : Int32).toNatClampNeg) ((M 3 0 ((p1 : Int32).toNatClampNeg)) + p2)) 3 0 ((p1 : Int32).toNatClampNeg)) ) gX10_ofStall_X10_come rfl ⟨rfl, rfl⟩ hqX10_come ⟨Nat.le_of_ble_eq_true rfl, Nat.le_of_ble_eq_true rfl⟩ hK hN hN hA hS rfl hl.1 rfl (Nat.le_of_ble_eq_true rfl) dX10_ofStall_77 ⟨Nat.le_of_ble_eq_true rfl, Nat.le_of_ble_eq_true rfl⟩ (fun H locs hN hS => ?_)
        have hf : fX10_ofStall M p0 p1 p2 = (0, u3 (u3 M 3 0 ((p1 : Int32).toNatClampNeg) ((M 3 0 ((p1 : Int32).toNatClampNeg)) + p2)) 0 0 34 ((u3 M 3 0 ((p1 : Int32).toNatClampNeg) ((M 3 0 ((p1 : Int32).toNatClampNeg)) + p2)) 3 0 ((p1 : Int32).toNatClampNeg))) := by unfold fX10_ofStall; rw [if_neg c_1, if_pos c_2, if_pos c_3]
        exact W.iret (v := 0) hx hb hr (fun t ht _ => by rw [hf]; exact nw_end hS hN ht) hS.2.2 dX10_ofStall_80
      · by_cases c_4 : p0 = 1
        · refine lv_tableIn (x := p0) (off := 52) (tgt := 81) hx hb dX10_ofStall_29 (by rw [c_4]; decide) (by rw [c_4]; decide) (by rw [c_4]; rfl) (by decide) ?_
          refine lv_aload_n hx hb dX10_ofStall_81 rfl (lv_at hl 0 rfl) ?_
          refine lv_aload_n hx hb dX10_ofStall_82 rfl (lv_at hl 0 rfl) ?_
          refine nwM_get S hK hN hin10 2 (by decide) (index := 13) (List.mem_cons_of_mem _ (List.mem_append_left _ (List.mem_of_getElem? (i := 2) rfl))) rfl (v := .ref (ad 2 0)) rfl dX10_ofStall_83 ?_
          refine lv_iload_n hx hb dX10_ofStall_86 rfl (lv_at hl 2 rfl) ?_
          refine nw_iald S hK hN (k := 2) (i := 0) ⟨rfl, rfl⟩ rfl (x := p1) (hbd (Int32.not_lt.mpr c_2)) dX10_ofStall_87 ?_
          refine nwM_call (As := [.int (M 2 0 ((p1 : Int32).toNatClampNeg))]) (rest := []) S (kX10_come l D C A ad M (M 2 0 ((p1 : Int32).toNatClampNeg)) ) gX10_ofStall_X10_come rfl ⟨rfl, rfl⟩ hqX10_come ⟨Nat.le_of_ble_eq_true rfl, Nat.le_of_ble_eq_true rfl⟩ hK hN hN hA hS rfl hl.1 rfl (Nat.le_of_ble_eq_true rfl) dX10_ofStall_88 ⟨Nat.le_of_ble_eq_true rfl, Nat.le_of_ble_eq_true rfl⟩ (fun H locs hN hS => ?_)
          have hf : fX10_ofStall M p0 p1 p2 = (0, u3 M 0 0 34 (M 2 0 ((p1 : Int32).toNatClampNeg))) := by unfold fX10_ofStall; rw [if_neg c_1, if_pos c_2, if_neg c_3, if_pos c_4]
          exact W.iret (v := 0) hx hb hr (fun t ht _ => by rw [hf]; exact nw_end hS hN ht) hS.2.2 dX10_ofStall_91
        · by_cases c_5 : p0 = 2
          · refine lv_tableIn (x := p0) (off := 63) (tgt := 92) hx hb dX10_ofStall_29 (by rw [c_5]; decide) (by rw [c_5]; decide) (by rw [c_5]; rfl) (by decide) ?_
            refine lv_aload_n hx hb dX10_ofStall_92 rfl (lv_at hl 0 rfl) ?_
            refine nwM_get S hK hN hin10 4 (by decide) (index := 19) (List.mem_cons_of_mem _ (List.mem_append_left _ (List.mem_of_getElem? (i := 3) rfl))) rfl (v := .ref (ad 4 0)) rfl dX10_ofStall_93 ?_
            refine lv_iload_n hx hb dX10_ofStall_96 rfl (lv_at hl 2 rfl) ?_
            refine lv_iload_n hx hb dX10_ofStall_97 rfl (lv_at hl 3 rfl) ?_
            refine nw_iast S hK hN hS (k := 4) (i := 0) ⟨rfl, rfl⟩ (fun _ => rfl) (x := p1) (v := p2) (hbd (Int32.not_lt.mpr c_2)) dX10_ofStall_98 (fun H locs hN hz hS => ?_)
            refine lv_aload_n hx hb dX10_ofStall_99 rfl (lv_at hl 0 rfl) ?_
            refine lv_iconst (v := 0) hx hb dX10_ofStall_100 (by decide) ?_
            refine nwM_call (As := [.int 0]) (rest := []) S (kX10_come l D C A ad (u3 M 4 0 ((p1 : Int32).toNatClampNeg) p2) 0 ) gX10_ofStall_X10_come rfl ⟨rfl, rfl⟩ hqX10_come ⟨Nat.le_of_ble_eq_true rfl, Nat.le_of_ble_eq_true rfl⟩ hK hN hN hA hS rfl hl.1 rfl (Nat.le_of_ble_eq_true rfl) dX10_ofStall_101 ⟨Nat.le_of_ble_eq_true rfl, Nat.le_of_ble_eq_true rfl⟩ (fun H locs hN hS => ?_)
            have hf : fX10_ofStall M p0 p1 p2 = (0, u3 (u3 M 4 0 ((p1 : Int32).toNatClampNeg) p2) 0 0 34 0) := by unfold fX10_ofStall; rw [if_neg c_1, if_pos c_2, if_neg c_3, if_neg c_4, if_pos c_5]
            exact W.iret (v := 0) hx hb hr (fun t ht _ => by rw [hf]; exact nw_end hS hN ht) hS.2.2 dX10_ofStall_104
          · by_cases c_6 : p0 = 3
            · refine lv_tableIn (x := p0) (off := 76) (tgt := 105) hx hb dX10_ofStall_29 (by rw [c_6]; decide) (by rw [c_6]; decide) (by rw [c_6]; rfl) (by decide) ?_
              refine lv_aload_n hx hb dX10_ofStall_105 rfl (lv_at hl 0 rfl) ?_
              refine lv_aload_n hx hb dX10_ofStall_106 rfl (lv_at hl 0 rfl) ?_
              refine lv_iload_n hx hb dX10_ofStall_107 rfl (lv_at hl 2 rfl) ?_
              refine nwM_call (As := [.int p1]) (rest := [.ref (ad 0 0)]) S (kX10_groom l D C A ad M p1 (hbd (Int32.not_lt.mpr c_2))) gX10_ofStall_X10_groom rfl ⟨rfl, rfl⟩ hqX10_groom ⟨Nat.le_of_ble_eq_true rfl, Nat.le_of_ble_eq_true rfl⟩ hK hN hN hA hS rfl hl.1 rfl (Nat.le_of_ble_eq_true rfl) dX10_ofStall_108 ⟨Nat.le_of_ble_eq_true rfl, Nat.le_of_ble_eq_true rfl⟩ (fun H locs hN hS => ?_)
              refine nwM_call (As := [.int ((fX10_groom M p1).1)]) (rest := []) S (kX10_come l D C A ad ((fX10_groom M p1).2) ((fX10_groom M p1).1) ) gX10_ofStall_X10_come rfl ⟨rfl, rfl⟩ hqX10_come ⟨Nat.le_of_ble_eq_true rfl, Nat.le_of_ble_eq_true rfl⟩ hK hN hN hA hS rfl hl.1 rfl (Nat.le_of_ble_eq_true rfl) dX10_ofStall_111 ⟨Nat.le_of_ble_eq_true rfl, Nat.le_of_ble_eq_true rfl⟩ (fun H locs hN hS => ?_)
              have hf : fX10_ofStall M p0 p1 p2 = (0, u3 ((fX10_groom M p1).2) 0 0 34 ((fX10_groom M p1).1)) := by unfold fX10_ofStall; rw [if_neg c_1, if_pos c_2, if_neg c_3, if_neg c_4, if_neg c_5, if_pos c_6]
              exact W.iret (v := 0) hx hb hr (fun t ht _ => by rw [hf]; exact nw_end hS hN ht) hS.2.2 dX10_ofStall_114
            · refine lv_tableOut (x := p0) (tgt := 115) hx hb dX10_ofStall_29 (by have q0 := lv_neT (a := 0) c_3 (by decide); have q1 := lv_neT (a := 1) c_4 (by decide); have q2 := lv_neT (a := 2) c_5 (by decide); have q3 := lv_neT (a := 3) c_6 (by decide); omega) (by decide) ?_
              refine lv_aload_n hx hb dX10_ofStall_115 rfl (lv_at hl 0 rfl) ?_
              refine lv_aload_n hx hb dX10_ofStall_116 rfl (lv_at hl 0 rfl) ?_
              refine nwM_get S hK hN hin10 4 (by decide) (index := 19) (List.mem_cons_of_mem _ (List.mem_append_left _ (List.mem_of_getElem? (i := 3) rfl))) rfl (v := .ref (ad 4 0)) rfl dX10_ofStall_117 ?_
              refine lv_iload_n hx hb dX10_ofStall_120 rfl (lv_at hl 2 rfl) ?_
              refine nw_iald S hK hN (k := 4) (i := 0) ⟨rfl, rfl⟩ rfl (x := p1) (hbd (Int32.not_lt.mpr c_2)) dX10_ofStall_121 ?_
              refine nwM_call (As := [.int (M 4 0 ((p1 : Int32).toNatClampNeg))]) (rest := []) S (kX10_come l D C A ad M (M 4 0 ((p1 : Int32).toNatClampNeg)) ) gX10_ofStall_X10_come rfl ⟨rfl, rfl⟩ hqX10_come ⟨Nat.le_of_ble_eq_true rfl, Nat.le_of_ble_eq_true rfl⟩ hK hN hN hA hS rfl hl.1 rfl (Nat.le_of_ble_eq_true rfl) dX10_ofStall_122 ⟨Nat.le_of_ble_eq_true rfl, Nat.le_of_ble_eq_true rfl⟩ (fun H locs hN hS => ?_)
              have hf : fX10_ofStall M p0 p1 p2 = (0, u3 M 0 0 34 (M 4 0 ((p1 : Int32).toNatClampNeg))) := by unfold fX10_ofStall; rw [if_neg c_1, if_pos c_2, if_neg c_3, if_neg c_4, if_neg c_5, if_neg c_6]
              exact W.iret (v := 0) hx hb hr (fun t ht _ => by rw [hf]; exact nw_end hS hN ht) hS.2.2 dX10_ofStall_125
    · refine lv_iconst (v := 1) hx hb dX10_ofStall_26 (by decide) ?_
      have hf : fX10_ofStall M p0 p1 p2 = (1, M) := by unfold fX10_ofStall; rw [if_neg c_1, if_neg c_2]
      exact W.iret (v := 1) hx hb hr (fun t ht _ => by rw [hf]; exact nw_end hS hN ht) hS.2.2 dX10_ofStall_27
  · refine lv_iload_n hx hb dX10_ofStall_6 rfl (lv_at hl 2 rfl) ?_
    refine lv_if_lt (x := p1) (tgt := 22) hx hb dX10_ofStall_7 (by decide) (fun c_7 => ?_) (fun c_7 => ?_)
    · refine lv_iload_n hx hb dX10_ofStall_22 rfl (lv_at hl 2 rfl) ?_
      refine lv_if_ge (x := p1) (tgt := 28) hx hb dX10_ofStall_23 (by decide) (fun c_8 => by first | exact absurd c_8 c_7 | exact absurd c_7 c_8 | exact absurd c_7 (Int32.not_lt.mpr c_8) | exact absurd c_7 (Int32.not_le.mpr c_8) | exact absurd (Int32.not_le.mp c_8) c_7 | exact absurd (Int32.not_lt.mp c_8) c_7 | exact absurd c_8 (Int32.not_lt.mpr c_7) | exact absurd c_8 (Int32.not_le.mpr c_7)) (fun c_8 => ?_)
      refine lv_iconst (v := 1) hx hb dX10_ofStall_26 (by decide) ?_
      have hf : fX10_ofStall M p0 p1 p2 = (1, M) := by unfold fX10_ofStall; rw [if_pos c_1, if_pos c_7]
      exact W.iret (v := 1) hx hb hr (fun t ht _ => by rw [hf]; exact nw_end hS hN ht) hS.2.2 dX10_ofStall_27
    · refine lv_aload_n hx hb dX10_ofStall_10 rfl (lv_at hl 0 rfl) ?_
      refine nwM_get S hK hN hin10 1 (by decide) (index := 7) (List.mem_cons_of_mem _ (List.mem_append_left _ (List.mem_of_getElem? (i := 0) rfl))) rfl (v := .ref (ad 1 0)) rfl dX10_ofStall_11 ?_
      refine lv_iload_n hx hb dX10_ofStall_14 rfl (lv_at hl 2 rfl) ?_
      refine nw_iald S hK hN (k := 1) (i := 0) ⟨rfl, rfl⟩ rfl (x := p1) (hbd c_7) dX10_ofStall_15 ?_
      refine lv_iconst (v := 2) hx hb dX10_ofStall_16 (by decide) ?_
      refine lv_icmp_eq (x := M 1 0 ((p1 : Int32).toNatClampNeg)) (y := 2) (tgt := 22) hx hb dX10_ofStall_17 (by decide) (fun c_9 => ?_) (fun c_9 => ?_)
      · refine lv_iload_n hx hb dX10_ofStall_22 rfl (lv_at hl 2 rfl) ?_
        refine lv_if_ge (x := p1) (tgt := 28) hx hb dX10_ofStall_23 (by decide) (fun c_10 => ?_) (fun c_10 => by first | exact absurd c_10 c_7 | exact absurd c_7 c_10 | exact absurd c_7 (Int32.not_lt.mpr c_10) | exact absurd c_7 (Int32.not_le.mpr c_10) | exact absurd (Int32.not_le.mp c_10) c_7 | exact absurd (Int32.not_lt.mp c_10) c_7 | exact absurd c_10 (Int32.not_lt.mpr c_7) | exact absurd c_10 (Int32.not_le.mpr c_7))
        refine lv_iload_n hx hb dX10_ofStall_28 rfl (lv_at hl 1 rfl) ?_
        refine lv_tableOut (x := p0) (tgt := 115) hx hb dX10_ofStall_29 (by rw [c_1]; decide) (by decide) ?_
        refine lv_aload_n hx hb dX10_ofStall_115 rfl (lv_at hl 0 rfl) ?_
        refine lv_aload_n hx hb dX10_ofStall_116 rfl (lv_at hl 0 rfl) ?_
        refine nwM_get S hK hN hin10 4 (by decide) (index := 19) (List.mem_cons_of_mem _ (List.mem_append_left _ (List.mem_of_getElem? (i := 3) rfl))) rfl (v := .ref (ad 4 0)) rfl dX10_ofStall_117 ?_
        refine lv_iload_n hx hb dX10_ofStall_120 rfl (lv_at hl 2 rfl) ?_
        refine nw_iald S hK hN (k := 4) (i := 0) ⟨rfl, rfl⟩ rfl (x := p1) (hbd c_7) dX10_ofStall_121 ?_
        refine nwM_call (As := [.int (M 4 0 ((p1 : Int32).toNatClampNeg))]) (rest := []) S (kX10_come l D C A ad M (M 4 0 ((p1 : Int32).toNatClampNeg)) ) gX10_ofStall_X10_come rfl ⟨rfl, rfl⟩ hqX10_come ⟨Nat.le_of_ble_eq_true rfl, Nat.le_of_ble_eq_true rfl⟩ hK hN hN hA hS rfl hl.1 rfl (Nat.le_of_ble_eq_true rfl) dX10_ofStall_122 ⟨Nat.le_of_ble_eq_true rfl, Nat.le_of_ble_eq_true rfl⟩ (fun H locs hN hS => ?_)
        have hf : fX10_ofStall M p0 p1 p2 = (0, u3 M 0 0 34 (M 4 0 ((p1 : Int32).toNatClampNeg))) := by unfold fX10_ofStall; rw [if_pos c_1, if_neg c_7, if_pos c_9]
        exact W.iret (v := 0) hx hb hr (fun t ht _ => by rw [hf]; exact nw_end hS hN ht) hS.2.2 dX10_ofStall_125
      · refine lv_iconst (v := 3) hx hb dX10_ofStall_20 (by decide) ?_
        have hf : fX10_ofStall M p0 p1 p2 = (3, M) := by unfold fX10_ofStall; rw [if_pos c_1, if_neg c_7, if_neg c_9]
        exact W.iret (v := 3) hx hb hr (fun t ht _ => by rw [hf]; exact nw_end hS hN ht) hS.2.2 dX10_ofStall_21
set_option maxHeartbeats 4000000 in
set_option maxRecDepth 100000 in
theorem kX10_came (l : Launch) (D : va_G) (C : Nat → ClassId) (A : Nat → Prop) (ad : Nat → Nat → Nat) (M : Nat → Nat → Nat → Int32) : Met l yX10_came wsX10_came ({ frames := 0, cells := 0, slots := 0, locals := 0 }) (va_Pc [.ref (ad 0 0)] (PW D C A (nw D (enM C) domM A ad M))) (nQ A (some (.int (fX10_came M).1)) (nw D (enM C) domM A ad (fX10_came M).2)) 0 0 A := by
  refine Met.ofW (cc := cX10_came) (maxL := 1) (ret := (some .int)) (by decide) rfl ?_
  intro p e s m args below meth c s₁ B hml hv
  obtain ⟨rfl, hK, hN, hA⟩ := hv
  have hx := B.exec
  have hb := B.bytes
  have hr := B.returns
  have hts := atoms_spec (ws := wsX10_came) B.pre
  have hown : s.vm.findClass RX10 = some m.cls := findClass_of_methodNamed B.named
  have hlocks := B.notSynchronized
  have S : CallFix p m c cX10_came 1 s _ wsX10_came RX10 := ⟨hx, hb, hml, hown, hts⟩
  have hin10 : ∀ w ∈ wsX100, w ∈ wsX10_came := (fun _ h => List.mem_cons_of_mem _ (List.mem_append_right _ (h)))
  have hS : va_S A s.heap s.heap [] := va_S.rf
  have hl := lv_entry ([.ref (ad 0 0)]) (n := 1) (Nat.le_of_ble_eq_true rfl)
  rw [lg_entry_eq]
  generalize (lg_sl ([.ref (ad 0 0)]) ++ List.replicate (1 - (lg_sl ([.ref (ad 0 0)])).length) Slot.unset).toArray = ls at hl ⊢
  have hl : lv_has ls 1 [(0, .ref (ad 0 0))] := hl
  refine lv_aload_n hx hb dX10_came_0 rfl (lv_at hl 0 rfl) ?_
  refine nwM_get S hK hN hin10 33 (by decide) (index := 158) (List.mem_cons_of_mem _ (List.mem_append_left _ (List.mem_of_getElem? (i := 0) rfl))) rfl (v := .int (M 0 0 33)) rfl dX10_came_1 ?_
  have hf : fX10_came M = (M 0 0 33, M) := rfl
  exact W.iret (v := M 0 0 33) hx hb hr (fun t ht _ => by rw [hf]; exact nw_end hS hN ht) hS.2.2 dX10_came_4
