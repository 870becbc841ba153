set_option maxHeartbeats 4000000 in
set_option maxRecDepth 100000 in
theorem kX10_ofTeam (l : Launch) (D : va_G) (C : Nat → ClassId) (A : Nat → Prop) (ad : Nat → Nat → Nat) (M : Nat → Nat → Nat → Int32) (p0 p1 p2 p3 : Int32) (kk : Nat) (hI : InvM kk M) (ht : vp_in p1 6) : Met l yX10_ofTeam wsX10_ofTeam ({ frames := 2, cells := 0, slots := 0, locals := 48 }) (va_Pc [.ref (ad 0 0), .int p0, .int p1, .int p2, .int p3] (PW D C A (nw D (enM C) domM A ad M))) (nQ A (some (.int (fX10_ofTeam M p0 p1 p2 p3).1)) (nw D (enM C) domM A ad (fX10_ofTeam M p0 p1 p2 p3).2)) 0 0 A := by
  refine Met.ofW (cc := cX10_ofTeam) (maxL := 6) (ret := (some .int)) (by decide) rfl ?_
  intro p e s m args below meth c s₁ B hml hv
  obtain ⟨rfl, hK, hN, hA⟩ := hv
  have hx := B.exec
  have hb := B.bytes
  have hr := B.returns
  have hts := atoms_spec (ws := wsX10_ofTeam) B.pre
  have hown : s.vm.findClass RX10 = some m.cls := findClass_of_methodNamed B.named
  have hlocks := B.notSynchronized
  have S : CallFix p m c cX10_ofTeam 6 s _ wsX10_ofTeam RX10 := ⟨hx, hb, hml, hown, hts⟩
  have hin10 : ∀ w ∈ wsX100, w ∈ wsX10_ofTeam := (fun _ h => List.mem_cons_of_mem _ (List.mem_append_right _ (h)))
  have hS : va_S A s.heap s.heap [] := va_S.rf
  have hl := lv_entry ([.ref (ad 0 0), .int p0, .int p1, .int p2, .int p3]) (n := 6) (Nat.le_of_ble_eq_true rfl)
  rw [lg_entry_eq]
  generalize (lg_sl ([.ref (ad 0 0), .int p0, .int p1, .int p2, .int p3]) ++ List.replicate (6 - (lg_sl ([.ref (ad 0 0), .int p0, .int p1, .int p2, .int p3])).length) Slot.unset).toArray = ls at hl ⊢
  have hl : lv_has ls 6 [(0, .ref (ad 0 0)), (1, .int p0), (2, .int p1), (3, .int p2), (4, .int p3)] := hl
  refine lv_iload_n hx hb dX10_ofTeam_0 rfl (lv_at hl 1 rfl) ?_
  refine lv_bipush (v := 7) hx hb dX10_ofTeam_1 (by decide) ?_
  refine lv_icmp_ne (x := p0) (y := 7) (tgt := 77) hx hb dX10_ofTeam_3 (by decide) (fun c_1 => ?_) (fun c_1 => ?_)
  · refine lv_aload_n hx hb dX10_ofTeam_77 rfl (lv_at hl 0 rfl) ?_
    refine nwM_get S hK hN hin10 13 (by decide) (index := 40) (List.mem_cons_of_mem _ (List.mem_append_left _ (List.mem_append_left _ (List.mem_of_getElem? (i := 0) rfl)))) rfl (v := .ref (ad 13 0)) rfl dX10_ofTeam_78 ?_
    refine lv_iload_n hx hb dX10_ofTeam_81 rfl (lv_at hl 2 rfl) ?_
    refine nw_iald S hK hN (k := 13) (i := 0) ⟨rfl, rfl⟩ rfl (x := p1) (ht) dX10_ofTeam_82 ?_
    refine lv_if_ge (x := M 13 0 ((p1 : Int32).toNatClampNeg)) (tgt := 88) hx hb dX10_ofTeam_83 (by decide) (fun c_2 => ?_) (fun c_2 => ?_)
    · refine lv_iload_n hx hb dX10_ofTeam_88 rfl (lv_at hl 1 rfl) ?_
      refine lv_bipush (v := 10) hx hb dX10_ofTeam_89 (by decide) ?_
      refine lv_icmp_ne (x := p0) (y := 10) (tgt := 105) hx hb dX10_ofTeam_91 (by decide) (fun c_3 => ?_) (fun c_3 => ?_)
      · refine lv_iload_n hx hb dX10_ofTeam_105 rfl (lv_at hl 1 rfl) ?_
        refine lv_bipush (v := 11) hx hb dX10_ofTeam_106 (by decide) ?_
        refine lv_icmp_ne (x := p0) (y := 11) (tgt := 118) hx hb dX10_ofTeam_108 (by decide) (fun c_4 => ?_) (fun c_4 => ?_)
        · refine lv_iload_n hx hb dX10_ofTeam_118 rfl (lv_at hl 3 rfl) ?_
          refine lv_iconst (v := 0) hx hb dX10_ofTeam_119 (by decide) ?_
          refine lv_aload_n hx hb dX10_ofTeam_120 rfl (lv_at hl 0 rfl) ?_
          refine nwM_get S hK hN hin10 13 (by decide) (index := 40) (List.mem_cons_of_mem _ (List.mem_append_left _ (List.mem_append_left _ (List.mem_of_getElem? (i := 0) rfl)))) rfl (v := .ref (ad 13 0)) rfl dX10_ofTeam_121 ?_
          refine lv_iload_n hx hb dX10_ofTeam_124 rfl (lv_at hl 2 rfl) ?_
          refine nw_iald S hK hN (k := 13) (i := 0) ⟨rfl, rfl⟩ rfl (x := p1) (ht) dX10_ofTeam_125 ?_
          refine lv_iconst (v := 1) hx hb dX10_ofTeam_126 (by decide) ?_
          refine lv_isub hx hb dX10_ofTeam_127 ?_
          refine nw_callS (As := [.int p2, .int 0, .int ((M 13 0 ((p1 : Int32).toNatClampNeg)) - 1)]) (rest := []) S (kX10_in l p2 0 ((M 13 0 ((p1 : Int32).toNatClampNeg)) - 1)) gX10_ofTeam_X10_in rfl ⟨rfl, rfl⟩ hqX10_in ⟨Nat.le_of_ble_eq_true rfl, Nat.le_of_ble_eq_true rfl⟩ rfl hl.1 rfl (Nat.le_of_ble_eq_true rfl) dX10_ofTeam_128 ⟨Nat.le_of_ble_eq_true rfl, Nat.le_of_ble_eq_true rfl⟩ ?_
          refine lv_if_ne (x := fX10_in p2 0 ((M 13 0 ((p1 : Int32).toNatClampNeg)) - 1)) (tgt := 136) hx hb dX10_ofTeam_131 (by decide) (fun c_5 => ?_) (fun c_5 => ?_)
          · refine lv_iload hx hb dX10_ofTeam_136 (lv_at hl 4 rfl) ?_
            refine lv_bipush (v := 10) hx hb dX10_ofTeam_138 (by decide) ?_
            refine nw_callS (As := [.int p3, .int 10]) (rest := []) S (kX10_modulo l p3 10 (by decide)) gX10_ofTeam_X10_modulo rfl ⟨rfl, rfl⟩ hqX10_modulo ⟨Nat.le_of_ble_eq_true rfl, Nat.le_of_ble_eq_true rfl⟩ rfl hl.1 rfl (Nat.le_of_ble_eq_true rfl) dX10_ofTeam_140 ⟨Nat.le_of_ble_eq_true rfl, Nat.le_of_ble_eq_true rfl⟩ ?_
            refine lv_istore (lv' := [(5, .int (fX10_modulo p3 10)), (0, .ref (ad 0 0)), (1, .int p0), (2, .int p1), (3, .int p2), (4, .int p3)]) hx hb dX10_ofTeam_143 hl (by decide) rfl (fun ls hl => ?_)
            refine lv_iload_n hx hb dX10_ofTeam_145 rfl (lv_at hl 2 rfl) ?_
            refine lv_bipush (v := 9) hx hb dX10_ofTeam_146 (by decide) ?_
            refine lv_icmp_ne (x := p0) (y := 9) (tgt := 189) hx hb dX10_ofTeam_148 (by decide) (fun c_6 => ?_) (fun c_6 => ?_)
            · refine lv_aload_n hx hb dX10_ofTeam_189 rfl (lv_at hl 1 rfl) ?_
              refine lv_iload_n hx hb dX10_ofTeam_190 rfl (lv_at hl 3 rfl) ?_
              refine lv_aload_n hx hb dX10_ofTeam_191 rfl (lv_at hl 1 rfl) ?_
              refine nwM_get S hK hN hin10 11 (by decide) (index := 34) (List.mem_cons_of_mem _ (List.mem_append_left _ (List.mem_append_left _ (List.mem_of_getElem? (i := 3) rfl)))) rfl (v := .ref (ad 11 0)) rfl dX10_ofTeam_192 ?_
              refine lv_iload hx hb dX10_ofTeam_195 (lv_at hl 0 rfl) ?_
              refine nw_iald S hK hN (k := 11) (i := 0) ⟨rfl, rfl⟩ rfl (x := fX10_modulo p3 10) (mod_in10 p3) dX10_ofTeam_197 ?_
              refine nwM_call (As := [.int p1, .int (M 11 0 ((fX10_modulo p3 10 : Int32).toNatClampNeg))]) (rest := []) S (kX10_isFor l D C A ad M p1 (M 11 0 ((fX10_modulo p3 10 : Int32).toNatClampNeg)) ht (invM_stm hI p3)) gX10_ofTeam_X10_isFor rfl ⟨rfl, rfl⟩ hqX10_isFor ⟨Nat.le_of_ble_eq_true rfl, Nat.le_of_ble_eq_true rfl⟩ hK hN hN hA hS rfl hl.1 rfl (Nat.le_of_ble_eq_true rfl) dX10_ofTeam_198 ⟨Nat.le_of_ble_eq_true rfl, Nat.le_of_ble_eq_true rfl⟩ (fun H locs hN hS => ?_)
              refine lv_if_ne (x := (fX10_isFor M p1 (M 11 0 ((fX10_modulo p3 10 : Int32).toNatClampNeg))).1) (tgt := 206) hx hb dX10_ofTeam_201 (by decide) (fun c_7 => ?_) (fun c_7 => ?_)
              · refine lv_aload_n hx hb dX10_ofTeam_206 rfl (lv_at hl 1 rfl) ?_
                refine nwM_get S hK hN hin10 15 (by decide) (index := 46) (List.mem_cons_of_mem _ (List.mem_append_left _ (List.mem_append_left _ (List.mem_of_getElem? (i := 2) rfl)))) rfl (v := .ref (ad 15 0)) rfl dX10_ofTeam_207 ?_
                refine lv_bipush (v := 8) hx hb dX10_ofTeam_210 (by decide) ?_
                refine lv_iload_n hx hb dX10_ofTeam_212 rfl (lv_at hl 3 rfl) ?_
                refine lv_imul hx hb dX10_ofTeam_213 ?_
                refine lv_iload_n hx hb dX10_ofTeam_214 rfl (lv_at hl 4 rfl) ?_
                refine lv_iadd hx hb dX10_ofTeam_215 ?_
                refine lv_aload_n hx hb dX10_ofTeam_216 rfl (lv_at hl 1 rfl) ?_
                refine nwM_get S hK hN hin10 11 (by decide) (index := 34) (List.mem_cons_of_mem _ (List.mem_append_left _ (List.mem_append_left _ (List.mem_of_getElem? (i := 3) rfl)))) rfl (v := .ref (ad 11 0)) rfl dX10_ofTeam_217 ?_
                refine lv_iload hx hb dX10_ofTeam_220 (lv_at hl 0 rfl) ?_
                refine nw_iald S hK hN (k := 11) (i := 0) ⟨rfl, rfl⟩ rfl (x := fX10_modulo p3 10) (mod_in10 p3) dX10_ofTeam_222 ?_
                refine nw_iast S hK hN hS (k := 15) (i := 0) ⟨rfl, rfl⟩ (fun _ => rfl) (x := (8 * p1) + p2) (v := ((fX10_isFor M p1 (M 11 0 ((fX10_modulo p3 10 : Int32).toNatClampNeg))).2) 11 0 ((fX10_modulo p3 10 : Int32).toNatClampNeg)) (invM_pl hI ht c_5) dX10_ofTeam_223 (fun H locs hN hz hS => ?_)
                refine lv_aload_n hx hb dX10_ofTeam_224 rfl (lv_at hl 1 rfl) ?_
                refine lv_iconst (v := 1) hx hb dX10_ofTeam_225 (by decide) ?_
                refine nwM_call (As := [.int 1]) (rest := []) S (kX10_come l D C A ad (u3 ((fX10_isFor M p1 (M 11 0 ((fX10_modulo p3 10 : Int32).toNatClampNeg))).2) 15 0 (((8 * p1) + p2 : Int32).toNatClampNeg) (((fX10_isFor M p1 (M 11 0 ((fX10_modulo p3 10 : Int32).toNatClampNeg))).2) 11 0 ((fX10_modulo p3 10 : Int32).toNatClampNeg))) 1 ) gX10_ofTeam_X10_come rfl ⟨rfl, rfl⟩ hqX10_come ⟨Nat.le_of_ble_eq_true rfl, Nat.le_of_ble_eq_true rfl⟩ hK hN hN hA hS rfl hl.1 rfl (Nat.le_of_ble_eq_true rfl) dX10_ofTeam_226 ⟨Nat.le_of_ble_eq_true rfl, Nat.le_of_ble_eq_true rfl⟩ (fun H locs hN hS => ?_)
                have hf : fX10_ofTeam M p0 p1 p2 p3 = (0, u3 (u3 ((fX10_isFor M p1 (M 11 0 ((fX10_modulo p3 10 : Int32).toNatClampNeg))).2) 15 0 (((8 * p1) + p2 : Int32).toNatClampNeg) (((fX10_isFor M p1 (M 11 0 ((fX10_modulo p3 10 : Int32).toNatClampNeg))).2) 11 0 ((fX10_modulo p3 10 : Int32).toNatClampNeg))) 0 0 34 1) := by unfold fX10_ofTeam; rw [if_neg c_1, if_pos c_2, if_neg c_3, if_neg c_4, if_neg c_5, if_neg c_6, if_neg c_7]
                exact W.iret (v := 0) hx hb hr (fun t ht _ => by rw [hf]; exact nw_end hS hN ht) hS.2.2 dX10_ofTeam_229
              · refine lv_iconst (v := 4) hx hb dX10_ofTeam_204 (by decide) ?_
                have hf : fX10_ofTeam M p0 p1 p2 p3 = (4, (fX10_isFor M p1 (M 11 0 ((fX10_modulo p3 10 : Int32).toNatClampNeg))).2) := by unfold fX10_ofTeam; rw [if_neg c_1, if_pos c_2, if_neg c_3, if_neg c_4, if_neg c_5, if_neg c_6, if_pos c_7]
                exact W.iret (v := 4) hx hb hr (fun t ht _ => by rw [hf]; exact nw_end hS hN ht) hS.2.2 dX10_ofTeam_205
            · refine lv_aload_n hx hb dX10_ofTeam_151 rfl (lv_at hl 1 rfl) ?_
              refine nwM_get S hK hN hin10 11 (by decide) (index := 34) (List.mem_cons_of_mem _ (List.mem_append_left _ (List.mem_append_left _ (List.mem_of_getElem? (i := 3) rfl)))) rfl (v := .ref (ad 11 0)) rfl dX10_ofTeam_152 ?_
              refine lv_iload hx hb dX10_ofTeam_155 (lv_at hl 0 rfl) ?_
              refine lv_aload_n hx hb dX10_ofTeam_157 rfl (lv_at hl 1 rfl) ?_
              refine nwM_get S hK hN hin10 15 (by decide) (index := 46) (List.mem_cons_of_mem _ (List.mem_append_left _ (List.mem_append_left _ (List.mem_of_getElem? (i := 2) rfl)))) rfl (v := .ref (ad 15 0)) rfl dX10_ofTeam_158 ?_
              refine lv_bipush (v := 8) hx hb dX10_ofTeam_161 (by decide) ?_
              refine lv_iload_n hx hb dX10_ofTeam_163 rfl (lv_at hl 3 rfl) ?_
              refine lv_imul hx hb dX10_ofTeam_164 ?_
              refine lv_iload_n hx hb dX10_ofTeam_165 rfl (lv_at hl 4 rfl) ?_
              refine lv_iadd hx hb dX10_ofTeam_166 ?_
              refine nw_iald S hK hN (k := 15) (i := 0) ⟨rfl, rfl⟩ rfl (x := (8 * p1) + p2) (invM_pl hI ht c_5) dX10_ofTeam_167 ?_
              refine nw_iast S hK hN hS (k := 11) (i := 0) ⟨rfl, rfl⟩ (fun _ => rfl) (x := fX10_modulo p3 10) (v := M 15 0 (((8 * p1) + p2 : Int32).toNatClampNeg)) (mod_in10 p3) dX10_ofTeam_168 (fun H locs hN hz hS => ?_)
              refine lv_aload_n hx hb dX10_ofTeam_169 rfl (lv_at hl 1 rfl) ?_
              refine lv_aload_n hx hb dX10_ofTeam_170 rfl (lv_at hl 1 rfl) ?_
              refine nwM_get S hK hN hin10 11 (by decide) (index := 34) (List.mem_cons_of_mem _ (List.mem_append_left _ (List.mem_append_left _ (List.mem_of_getElem? (i := 3) rfl)))) rfl (v := .ref (ad 11 0)) rfl dX10_ofTeam_171 ?_
              refine lv_iload hx hb dX10_ofTeam_174 (lv_at hl 0 rfl) ?_
              refine nw_iald S hK hN (k := 11) (i := 0) ⟨rfl, rfl⟩ rfl (x := fX10_modulo p3 10) (mod_in10 p3) dX10_ofTeam_176 ?_
              refine lv_if_lt (x := (u3 M 11 0 ((fX10_modulo p3 10 : Int32).toNatClampNeg) (M 15 0 (((8 * p1) + p2 : Int32).toNatClampNeg))) 11 0 ((fX10_modulo p3 10 : Int32).toNatClampNeg)) (tgt := 184) hx hb dX10_ofTeam_177 (by decide) (fun c_8 => ?_) (fun c_8 => ?_)
              · refine lv_iconst (v := 0) hx hb dX10_ofTeam_184 (by decide) ?_
                refine nwM_call (As := [.int 0]) (rest := []) S (kX10_come l D C A ad (u3 M 11 0 ((fX10_modulo p3 10 : Int32).toNatClampNeg) (M 15 0 (((8 * p1) + p2 : Int32).toNatClampNeg))) 0 ) gX10_ofTeam_X10_come rfl ⟨rfl, rfl⟩ hqX10_come ⟨Nat.le_of_ble_eq_true rfl, Nat.le_of_ble_eq_true rfl⟩ hK hN hN hA hS rfl hl.1 rfl (Nat.le_of_ble_eq_true rfl) dX10_ofTeam_185 ⟨Nat.le_of_ble_eq_true rfl, Nat.le_of_ble_eq_true rfl⟩ (fun H locs hN hS => ?_)
                have hf : fX10_ofTeam M p0 p1 p2 p3 = (0, u3 (u3 M 11 0 ((fX10_modulo p3 10 : Int32).toNatClampNeg) (M 15 0 (((8 * p1) + p2 : Int32).toNatClampNeg))) 0 0 34 0) := by unfold fX10_ofTeam; rw [if_neg c_1, if_pos c_2, if_neg c_3, if_neg c_4, if_neg c_5, if_pos c_6, if_pos c_8]
                exact W.iret (v := 0) hx hb hr (fun t ht _ => by rw [hf]; exact nw_end hS hN ht) hS.2.2 dX10_ofTeam_188
              · refine lv_iconst (v := 1) hx hb dX10_ofTeam_180 (by decide) ?_
                refine lv_goto (tgt := 185) hx hb dX10_ofTeam_181 (by decide) ?_
                refine nwM_call (As := [.int 1]) (rest := []) S (kX10_come l D C A ad (u3 M 11 0 ((fX10_modulo p3 10 : Int32).toNatClampNeg) (M 15 0 (((8 * p1) + p2 : Int32).toNatClampNeg))) 1 ) gX10_ofTeam_X10_come rfl ⟨rfl, rfl⟩ hqX10_come ⟨Nat.le_of_ble_eq_true rfl, Nat.le_of_ble_eq_true rfl⟩ hK hN hN hA hS rfl hl.1 rfl (Nat.le_of_ble_eq_true rfl) dX10_ofTeam_185 ⟨Nat.le_of_ble_eq_true rfl, Nat.le_of_ble_eq_true rfl⟩ (fun H locs hN hS => ?_)
                have hf : fX10_ofTeam M p0 p1 p2 p3 = (0, u3 (u3 M 11 0 ((fX10_modulo p3 10 : Int32).toNatClampNeg) (M 15 0 (((8 * p1) + p2 : Int32).toNatClampNeg))) 0 0 34 1) := by unfold fX10_ofTeam; rw [if_neg c_1, if_pos c_2, if_neg c_3, if_neg c_4, if_neg c_5, if_pos c_6, if_neg c_8]
                exact W.iret (v := 0) hx hb hr (fun t ht _ => by rw [hf]; exact nw_end hS hN ht) hS.2.2 dX10_ofTeam_188
          · refine lv_iconst (v := 5) hx hb dX10_ofTeam_134 (by decide) ?_
            have hf : fX10_ofTeam M p0 p1 p2 p3 = (5, M) := by unfold fX10_ofTeam; rw [if_neg c_1, if_pos c_2, if_neg c_3, if_neg c_4, if_pos c_5]
            exact W.iret (v := 5) hx hb hr (fun t ht _ => by rw [hf]; exact nw_end hS hN ht) hS.2.2 dX10_ofTeam_135
        · refine lv_aload_n hx hb dX10_ofTeam_111 rfl (lv_at hl 0 rfl) ?_
          refine lv_iload_n hx hb dX10_ofTeam_112 rfl (lv_at hl 2 rfl) ?_
          refine lv_iload_n hx hb dX10_ofTeam_113 rfl (lv_at hl 3 rfl) ?_
          refine nwM_call (As := [.int p1, .int p2]) (rest := []) S (kX10_worksAll l D C A ad M p1 p2 kk hI ht) gX10_ofTeam_X10_worksAll rfl ⟨rfl, rfl⟩ hqX10_worksAll ⟨Nat.le_of_ble_eq_true rfl, Nat.le_of_ble_eq_true rfl⟩ hK hN hN hA hS rfl hl.1 rfl (Nat.le_of_ble_eq_true rfl) dX10_ofTeam_114 ⟨Nat.le_of_ble_eq_true rfl, Nat.le_of_ble_eq_true rfl⟩ (fun H locs hN hS => ?_)
          have hf : fX10_ofTeam M p0 p1 p2 p3 = ((fX10_worksAll M p1 p2).1, (fX10_worksAll M p1 p2).2) := by unfold fX10_ofTeam; rw [if_neg c_1, if_pos c_2, if_neg c_3, if_pos c_4]
          exact W.iret (v := (fX10_worksAll M p1 p2).1) hx hb hr (fun t ht _ => by rw [hf]; exact nw_end hS hN ht) hS.2.2 dX10_ofTeam_117
      · refine lv_aload_n hx hb dX10_ofTeam_94 rfl (lv_at hl 0 rfl) ?_
        refine lv_aload_n hx hb dX10_ofTeam_95 rfl (lv_at hl 0 rfl) ?_
        refine nwM_get S hK hN hin10 13 (by decide) (index := 40) (List.mem_cons_of_mem _ (List.mem_append_left _ (List.mem_append_left _ (List.mem_of_getElem? (i := 0) rfl)))) rfl (v := .ref (ad 13 0)) rfl dX10_ofTeam_96 ?_
        refine lv_iload_n hx hb dX10_ofTeam_99 rfl (lv_at hl 2 rfl) ?_
        refine nw_iald S hK hN (k := 13) (i := 0) ⟨rfl, rfl⟩ rfl (x := p1) (ht) dX10_ofTeam_100 ?_
        refine nwM_call (As := [.int (M 13 0 ((p1 : Int32).toNatClampNeg))]) (rest := []) S (kX10_come l D C A ad M (M 13 0 ((p1 : Int32).toNatClampNeg)) ) gX10_ofTeam_X10_come rfl ⟨rfl, rfl⟩ hqX10_come ⟨Nat.le_of_ble_eq_true rfl, Nat.le_of_ble_eq_true rfl⟩ hK hN hN hA hS rfl hl.1 rfl (Nat.le_of_ble_eq_true rfl) dX10_ofTeam_101 ⟨Nat.le_of_ble_eq_true rfl, Nat.le_of_ble_eq_true rfl⟩ (fun H locs hN hS => ?_)
        have hf : fX10_ofTeam M p0 p1 p2 p3 = (0, u3 M 0 0 34 (M 13 0 ((p1 : Int32).toNatClampNeg))) := by unfold fX10_ofTeam; rw [if_neg c_1, if_pos c_2, if_pos c_3]
        exact W.iret (v := 0) hx hb hr (fun t ht _ => by rw [hf]; exact nw_end hS hN ht) hS.2.2 dX10_ofTeam_104
    · refine lv_iconst (v := 1) hx hb dX10_ofTeam_86 (by decide) ?_
      have hf : fX10_ofTeam M p0 p1 p2 p3 = (1, M) := by unfold fX10_ofTeam; rw [if_neg c_1, if_neg c_2]
      exact W.iret (v := 1) hx hb hr (fun t ht _ => by rw [hf]; exact nw_end hS hN ht) hS.2.2 dX10_ofTeam_87
  · refine lv_iload hx hb dX10_ofTeam_6 (lv_at hl 4 rfl) ?_
    refine lv_if_ge (x := p3) (tgt := 13) hx hb dX10_ofTeam_8 (by decide) (fun c_9 => ?_) (fun c_9 => ?_)
    · refine lv_aload_n hx hb dX10_ofTeam_13 rfl (lv_at hl 0 rfl) ?_
      refine nwM_get S hK hN hin10 13 (by decide) (index := 40) (List.mem_cons_of_mem _ (List.mem_append_left _ (List.mem_append_left _ (List.mem_of_getElem? (i := 0) rfl)))) rfl (v := .ref (ad 13 0)) rfl dX10_ofTeam_14 ?_
      refine lv_iload_n hx hb dX10_ofTeam_17 rfl (lv_at hl 2 rfl) ?_
      refine lv_iload hx hb dX10_ofTeam_18 (lv_at hl 4 rfl) ?_
      refine lv_bipush (v := 8) hx hb dX10_ofTeam_20 (by decide) ?_
      refine nw_callS (As := [.int p3, .int 8]) (rest := [.int p1, .ref (ad 13 0)]) S (kX10_least l p3 8) gX10_ofTeam_X10_least rfl ⟨rfl, rfl⟩ hqX10_least ⟨Nat.le_of_ble_eq_true rfl, Nat.le_of_ble_eq_true rfl⟩ rfl hl.1 rfl (Nat.le_of_ble_eq_true rfl) dX10_ofTeam_22 ⟨Nat.le_of_ble_eq_true rfl, Nat.le_of_ble_eq_true rfl⟩ ?_
      refine nw_iast S hK hN hS (k := 13) (i := 0) ⟨rfl, rfl⟩ (fun _ => rfl) (x := p1) (v := fX10_least p3 8) (ht) dX10_ofTeam_25 (fun H locs hN hz hS => ?_)
      refine lv_aload_n hx hb dX10_ofTeam_26 rfl (lv_at hl 0 rfl) ?_
      refine nwM_get S hK hN hin10 14 (by decide) (index := 43) (List.mem_cons_of_mem _ (List.mem_append_left _ (List.mem_append_left _ (List.mem_of_getElem? (i := 1) rfl)))) rfl (v := .ref (ad 14 0)) rfl dX10_ofTeam_27 ?_
      refine lv_iload_n hx hb dX10_ofTeam_30 rfl (lv_at hl 2 rfl) ?_
      refine lv_iload_n hx hb dX10_ofTeam_31 rfl (lv_at hl 3 rfl) ?_
      refine lv_iconst (v := 3) hx hb dX10_ofTeam_32 (by decide) ?_
      refine nw_callS (As := [.int p2, .int 3]) (rest := [.int p1, .ref (ad 14 0)]) S (kX10_modulo l p2 3 (by decide)) gX10_ofTeam_X10_modulo rfl ⟨rfl, rfl⟩ hqX10_modulo ⟨Nat.le_of_ble_eq_true rfl, Nat.le_of_ble_eq_true rfl⟩ rfl hl.1 rfl (Nat.le_of_ble_eq_true rfl) dX10_ofTeam_33 ⟨Nat.le_of_ble_eq_true rfl, Nat.le_of_ble_eq_true rfl⟩ ?_
      refine nw_iast S hK hN hS (k := 14) (i := 0) ⟨rfl, rfl⟩ (fun _ => rfl) (x := p1) (v := fX10_modulo p2 3) (ht) dX10_ofTeam_36 (fun H locs hN hz hS => ?_)
      refine lv_iconst (v := 0) hx hb dX10_ofTeam_37 (by decide) ?_
      refine lv_istore (lv' := [(5, .int 0), (0, .ref (ad 0 0)), (1, .int p0), (2, .int p1), (3, .int p2), (4, .int p3)]) hx hb dX10_ofTeam_38 hl (by decide) rfl (fun ls hl => ?_)
      refine lpW (σ := Int32 × (Nat → Nat → Nat → Int32)) 9 (0, u3 (u3 M 13 0 ((p1 : Int32).toNatClampNeg) (fX10_least p3 8)) 14 0 ((p1 : Int32).toNatClampNeg) (fX10_modulo p2 3)) (fun n x H locs ls => lv_has ls 6 [(5, .int x.1), (0, .ref (ad 0 0)), (1, .int p0), (2, .int p1), (3, .int p2), (4, .int p3)] ∧ nw D (enM C) domM A ad x.2 H ∧ va_S A s.heap H locs ∧ fX10_ofTeam M p0 p1 p2 p3 = gX10_ofTeam_40 p0 p1 p2 p3 n x.1 (x.2) ∧ (∃ i : Nat, x.1 = nI i ∧ i ≤ 8 ∧ i + n = 9)) 40 (fun n x H locs ls hP ih => ?_) ⟨lv_sub hl [0, 1, 2, 3, 4, 5] rfl, hN, hS, by unfold fX10_ofTeam; rw [if_pos c_1, if_pos c_9], 0, rfl, by omega, rfl⟩
      obtain ⟨x5, Z40⟩ := x
      obtain ⟨hl, hN, hS, hfe, hinv⟩ := hP
      dsimp only at hl hN hfe hinv
      obtain ⟨i, hi1, hi2, hi3⟩ := hinv
      obtain ⟨n, rfl⟩ : ∃ k, n = k + 1 := ⟨n - 1, by omega⟩
      refine lv_iload hx hb dX10_ofTeam_40 (lv_at hl 0 rfl) ?_
      refine lv_bipush (v := 8) hx hb dX10_ofTeam_42 (by decide) ?_
      refine lv_icmp_ge (x := x5) (y := 8) (tgt := 66) hx hb dX10_ofTeam_44 (by decide) (fun c_10 => ?_) (fun c_10 => ?_)
      · refine lv_aload_n hx hb dX10_ofTeam_66 rfl (lv_at hl 1 rfl) ?_
        refine lv_aload_n hx hb dX10_ofTeam_67 rfl (lv_at hl 1 rfl) ?_
        refine nwM_get S hK hN hin10 13 (by decide) (index := 40) (List.mem_cons_of_mem _ (List.mem_append_left _ (List.mem_append_left _ (List.mem_of_getElem? (i := 0) rfl)))) rfl (v := .ref (ad 13 0)) rfl dX10_ofTeam_68 ?_
        refine lv_iload_n hx hb dX10_ofTeam_71 rfl (lv_at hl 3 rfl) ?_
        refine nw_iald S hK hN (k := 13) (i := 0) ⟨rfl, rfl⟩ rfl (x := p1) (ht) dX10_ofTeam_72 ?_
        refine nwM_call (As := [.int (Z40 13 0 ((p1 : Int32).toNatClampNeg))]) (rest := []) S (kX10_come l D C A ad Z40 (Z40 13 0 ((p1 : Int32).toNatClampNeg)) ) gX10_ofTeam_X10_come rfl ⟨rfl, rfl⟩ hqX10_come ⟨Nat.le_of_ble_eq_true rfl, Nat.le_of_ble_eq_true rfl⟩ hK hN hN hA hS rfl hl.1 rfl (Nat.le_of_ble_eq_true rfl) dX10_ofTeam_73 ⟨Nat.le_of_ble_eq_true rfl, Nat.le_of_ble_eq_true rfl⟩ (fun H locs hN hS => ?_)
        have hf : fX10_ofTeam M p0 p1 p2 p3 = (0, u3 Z40 0 0 34 (Z40 13 0 ((p1 : Int32).toNatClampNeg))) := by rw [hfe, gX10_ofTeam_40_s, if_pos c_10]
        exact W.iret (v := 0) hx hb hr (fun t ht _ => by rw [hf]; exact nw_end hS hN ht) hS.2.2 dX10_ofTeam_76
      · refine lv_aload_n hx hb dX10_ofTeam_47 rfl (lv_at hl 1 rfl) ?_
        refine nwM_get S hK hN hin10 15 (by decide) (index := 46) (List.mem_cons_of_mem _ (List.mem_append_left _ (List.mem_append_left _ (List.mem_of_getElem? (i := 2) rfl)))) rfl (v := .ref (ad 15 0)) rfl dX10_ofTeam_48 ?_
        refine lv_bipush (v := 8) hx hb dX10_ofTeam_51 (by decide) ?_
        refine lv_iload_n hx hb dX10_ofTeam_53 rfl (lv_at hl 3 rfl) ?_
        refine lv_imul hx hb dX10_ofTeam_54 ?_
        refine lv_iload hx hb dX10_ofTeam_55 (lv_at hl 0 rfl) ?_
        refine lv_iadd hx hb dX10_ofTeam_57 ?_
        refine lv_iconst (v := (-1)) hx hb dX10_ofTeam_58 (by decide) ?_
        refine nw_iast S hK hN hS (k := 15) (i := 0) ⟨rfl, rfl⟩ (fun _ => rfl) (x := (8 * p1) + x5) (v := (-1)) (ix_in (N := 6) (B := 8) ⟨rfl, by decide, by decide⟩ ht hi1 (cnt_lt (B := 8) hi1 hi3 rfl (by decide) c_10)) dX10_ofTeam_59 (fun H locs hN hz hS => ?_)
        refine lv_iinc (v := x5 + 1) (lv' := [(5, .int (x5 + 1)), (0, .ref (ad 0 0)), (1, .int p0), (2, .int p1), (3, .int p2), (4, .int p3)]) hx hb dX10_ofTeam_60 hl (k := 0) rfl rfl (by decide) rfl (fun ls hl => ?_)
        refine lv_goto (tgt := 40) hx hb dX10_ofTeam_63 (by decide) ?_
        exact ih n (x5 + 1, u3 Z40 15 0 (((8 * p1) + x5 : Int32).toNatClampNeg) (-1)) _ _ _ (by omega) ⟨lv_sub hl [0, 1, 2, 3, 4, 5] rfl, hN, hS, by rw [hfe, gX10_ofTeam_40_s, if_neg c_10], cnt_back (B := 8) hi1 hi3 rfl (by decide) c_10⟩
    · refine lv_iconst (v := 2) hx hb dX10_ofTeam_11 (by decide) ?_
      have hf : fX10_ofTeam M p0 p1 p2 p3 = (2, M) := by unfold fX10_ofTeam; rw [if_pos c_1, if_neg c_9]
      exact W.iret (v := 2) hx hb hr (fun t ht _ => by rw [hf]; exact nw_end hS hN ht) hS.2.2 dX10_ofTeam_12
set_option maxHeartbeats 4000000 in
set_option maxRecDepth 100000 in
theorem kX10_ofLedger (l : Launch) (D : va_G) (C : Nat → ClassId) (A : Nat → Prop) (ad : Nat → Nat → Nat) (M : Nat → Nat → Nat → Int32) (p0 p1 p2 p3 : Int32) (kk : Nat) (hI : InvM kk M) (hl4 : vp_in p1 4) : Met l yX10_ofLedger wsX10_ofLedger ({ frames := 1, cells := 0, slots := 0, locals := 22 }) (va_Pc [.ref (ad 0 0), .int p0, .int p1, .int p2, .int p3] (PW D C A (nw D (enM C) domM A ad M))) (nQ A (some (.int (fX10_ofLedger M p0 p1 p2 p3).1)) (nw D (enM C) domM A ad (fX10_ofLedger M p0 p1 p2 p3).2)) 0 0 A := by
  refine Met.ofW (cc := cX10_ofLedger) (maxL := 7) (ret := (some .int)) (by decide) rfl ?_
  intro p e s m args below meth c s₁ B hml hv
  obtain ⟨rfl, hK, hN, hA⟩ := hv
  have hx := B.exec
  have hb := B.bytes
  have hr := B.returns
  have hts := atoms_spec (ws := wsX10_ofLedger) B.pre
  have hown : s.vm.findClass RX10 = some m.cls := findClass_of_methodNamed B.named
  have hlocks := B.notSynchronized
  have S : CallFix p m c cX10_ofLedger 7 s _ wsX10_ofLedger RX10 := ⟨hx, hb, hml, hown, hts⟩
  have hin10 : ∀ w ∈ wsX100, w ∈ wsX10_ofLedger := (fun _ h => List.mem_cons_of_mem _ (List.mem_append_right _ (h)))
  have hS : va_S A s.heap s.heap [] := va_S.rf
  have hl := lv_entry ([.ref (ad 0 0), .int p0, .int p1, .int p2, .int p3]) (n := 7) (Nat.le_of_ble_eq_true rfl)
  rw [lg_entry_eq]
  generalize (lg_sl ([.ref (ad 0 0), .int p0, .int p1, .int p2, .int p3]) ++ List.replicate (7 - (lg_sl ([.ref (ad 0 0), .int p0, .int p1, .int p2, .int p3])).length) Slot.unset).toArray = ls at hl ⊢
  have hl : lv_has ls 7 [(0, .ref (ad 0 0)), (1, .int p0), (2, .int p1), (3, .int p2), (4, .int p3)] := hl
  refine lv_iload_n hx hb dX10_ofLedger_0 rfl (lv_at hl 1 rfl) ?_
  refine lv_bipush (v := 12) hx hb dX10_ofLedger_1 (by decide) ?_
  refine lv_icmp_ne (x := p0) (y := 12) (tgt := 64) hx hb dX10_ofLedger_3 (by decide) (fun c_1 => ?_) (fun c_1 => ?_)
  · refine lv_aload_n hx hb dX10_ofLedger_64 rfl (lv_at hl 0 rfl) ?_
    refine nwM_get S hK hN hin10 16 (by decide) (index := 49) (List.mem_cons_of_mem _ (List.mem_append_left _ (List.mem_of_getElem? (i := 0) rfl))) rfl (v := .ref (ad 16 0)) rfl dX10_ofLedger_65 ?_
    refine lv_iload_n hx hb dX10_ofLedger_68 rfl (lv_at hl 2 rfl) ?_
    refine nw_iald S hK hN (k := 16) (i := 0) ⟨rfl, rfl⟩ rfl (x := p1) (hl4) dX10_ofLedger_69 ?_
    refine lv_if_ge (x := M 16 0 ((p1 : Int32).toNatClampNeg)) (tgt := 75) hx hb dX10_ofLedger_70 (by decide) (fun c_2 => ?_) (fun c_2 => ?_)
    · refine lv_iload_n hx hb dX10_ofLedger_75 rfl (lv_at hl 1 rfl) ?_
      refine lv_bipush (v := 13) hx hb dX10_ofLedger_76 (by decide) ?_
      refine lv_icmp_ne (x := p0) (y := 13) (tgt := 131) hx hb dX10_ofLedger_78 (by decide) (fun c_3 => ?_) (fun c_3 => ?_)
      · refine lv_iconst (v := 0) hx hb dX10_ofLedger_131 (by decide) ?_
        refine lv_istore (lv' := [(5, .int 0), (0, .ref (ad 0 0)), (1, .int p0), (2, .int p1), (3, .int p2), (4, .int p3)]) hx hb dX10_ofLedger_132 hl (by decide) rfl (fun ls hl => ?_)
        refine lv_iconst (v := 0) hx hb dX10_ofLedger_134 (by decide) ?_
        refine lv_istore (lv' := [(6, .int 0), (5, .int 0), (0, .ref (ad 0 0)), (1, .int p0), (2, .int p1), (3, .int p2), (4, .int p3)]) hx hb dX10_ofLedger_135 hl (by decide) rfl (fun ls hl => ?_)
        refine lpW (σ := Int32 × Int32 × (Nat → Nat → Nat → Int32)) 13 (0, 0, M) (fun n x H locs ls => lv_has ls 7 [(6, .int x.1), (5, .int x.2.1), (0, .ref (ad 0 0)), (1, .int p0), (2, .int p1), (3, .int p2), (4, .int p3)] ∧ nw D (enM C) domM A ad x.2.2 H ∧ va_S A s.heap H locs ∧ fX10_ofLedger M p0 p1 p2 p3 = gX10_ofLedger_137 p0 p1 p2 p3 n x.1 x.2.1 (x.2.2) ∧ (InvM kk x.2.2 ∧ ∃ i : Nat, x.1 = nI i ∧ i ≤ 12 ∧ i + n = 13)) 137 (fun n x H locs ls hP ih => ?_) ⟨lv_sub hl [0, 1, 2, 3, 4, 5, 6] rfl, hN, hS, by unfold fX10_ofLedger; rw [if_neg c_1, if_pos c_2, if_neg c_3], hI, 0, rfl, by omega, rfl⟩
        obtain ⟨x6, x5, Z137⟩ := x
        obtain ⟨hl, hN, hS, hfe, hinv⟩ := hP
        dsimp only at hl hN hfe hinv
        obtain ⟨hZ, i, hi1, hi2, hi3⟩ := hinv
        obtain ⟨n, rfl⟩ : ∃ k, n = k + 1 := ⟨n - 1, by omega⟩
        refine lv_iload hx hb dX10_ofLedger_137 (lv_at hl 0 rfl) ?_
        refine lv_aload_n hx hb dX10_ofLedger_139 rfl (lv_at hl 2 rfl) ?_
        refine nwM_get S hK hN hin10 16 (by decide) (index := 49) (List.mem_cons_of_mem _ (List.mem_append_left _ (List.mem_of_getElem? (i := 0) rfl))) rfl (v := .ref (ad 16 0)) rfl dX10_ofLedger_140 ?_
        refine lv_iload_n hx hb dX10_ofLedger_143 rfl (lv_at hl 4 rfl) ?_
        refine nw_iald S hK hN (k := 16) (i := 0) ⟨rfl, rfl⟩ rfl (x := p1) (hl4) dX10_ofLedger_144 ?_
        refine lv_icmp_ge (x := x6) (y := Z137 16 0 ((p1 : Int32).toNatClampNeg)) (tgt := 171) hx hb dX10_ofLedger_145 (by decide) (fun c_4 => ?_) (fun c_4 => ?_)
        · refine lv_aload_n hx hb dX10_ofLedger_171 rfl (lv_at hl 2 rfl) ?_
          refine lv_iload hx hb dX10_ofLedger_172 (lv_at hl 1 rfl) ?_
          refine nwM_call (As := [.int x5]) (rest := []) S (kX10_come l D C A ad Z137 x5 ) gX10_ofLedger_X10_come rfl ⟨rfl, rfl⟩ hqX10_come ⟨Nat.le_of_ble_eq_true rfl, Nat.le_of_ble_eq_true rfl⟩ hK hN hN hA hS rfl hl.1 rfl (Nat.le_of_ble_eq_true rfl) dX10_ofLedger_174 ⟨Nat.le_of_ble_eq_true rfl, Nat.le_of_ble_eq_true rfl⟩ (fun H locs hN hS => ?_)
          have hf : fX10_ofLedger M p0 p1 p2 p3 = (0, u3 Z137 0 0 34 x5) := by rw [hfe, gX10_ofLedger_137_s, if_pos c_4]
          exact W.iret (v := 0) hx hb hr (fun t ht _ => by rw [hf]; exact nw_end hS hN ht) hS.2.2 dX10_ofLedger_177
        · refine lv_iload hx hb dX10_ofLedger_148 (lv_at hl 1 rfl) ?_
          refine lv_aload_n hx hb dX10_ofLedger_150 rfl (lv_at hl 2 rfl) ?_
          refine nwM_get S hK hN hin10 17 (by decide) (index := 52) (List.mem_cons_of_mem _ (List.mem_append_left _ (List.mem_of_getElem? (i := 1) rfl))) rfl (v := .ref (ad 17 0)) rfl dX10_ofLedger_151 ?_
          refine lv_bipush (v := 12) hx hb dX10_ofLedger_154 (by decide) ?_
          refine lv_iload_n hx hb dX10_ofLedger_156 rfl (lv_at hl 4 rfl) ?_
          refine lv_imul hx hb dX10_ofLedger_157 ?_
          refine lv_iload hx hb dX10_ofLedger_158 (lv_at hl 0 rfl) ?_
          refine lv_iadd hx hb dX10_ofLedger_160 ?_
          refine nw_iald S hK hN (k := 17) (i := 0) ⟨rfl, rfl⟩ rfl (x := (12 * p1) + x6) (invM_sum hZ hl4 hi1 hi2 c_4) dX10_ofLedger_161 ?_
          refine lv_iadd hx hb dX10_ofLedger_162 ?_
          refine lv_istore (lv' := [(5, .int (x5 + (Z137 17 0 (((12 * p1) + x6 : Int32).toNatClampNeg)))), (6, .int x6), (0, .ref (ad 0 0)), (1, .int p0), (2, .int p1), (3, .int p2), (4, .int p3)]) hx hb dX10_ofLedger_163 hl (by decide) rfl (fun ls hl => ?_)
          refine lv_iinc (v := x6 + 1) (lv' := [(6, .int (x6 + 1)), (5, .int (x5 + (Z137 17 0 (((12 * p1) + x6 : Int32).toNatClampNeg)))), (0, .ref (ad 0 0)), (1, .int p0), (2, .int p1), (3, .int p2), (4, .int p3)]) hx hb dX10_ofLedger_165 hl (k := 1) rfl rfl (by decide) rfl (fun ls hl => ?_)
          refine lv_goto (tgt := 137) hx hb dX10_ofLedger_168 (by decide) ?_
          exact ih n (x6 + 1, x5 + (Z137 17 0 (((12 * p1) + x6 : Int32).toNatClampNeg)), Z137) _ _ _ (by omega) ⟨lv_sub hl [0, 1, 2, 3, 4, 5, 6] rfl, hN, hS, by rw [hfe, gX10_ofLedger_137_s, if_neg c_4], ⟨hZ, sum_back hZ hl4 hi1 hi2 hi3 c_4⟩⟩
      · refine lv_iload_n hx hb dX10_ofLedger_81 rfl (lv_at hl 3 rfl) ?_
        refine lv_iconst (v := 0) hx hb dX10_ofLedger_82 (by decide) ?_
        refine lv_aload_n hx hb dX10_ofLedger_83 rfl (lv_at hl 0 rfl) ?_
        refine nwM_get S hK hN hin10 16 (by decide) (index := 49) (List.mem_cons_of_mem _ (List.mem_append_left _ (List.mem_of_getElem? (i := 0) rfl))) rfl (v := .ref (ad 16 0)) rfl dX10_ofLedger_84 ?_
        refine lv_iload_n hx hb dX10_ofLedger_87 rfl (lv_at hl 2 rfl) ?_
        refine nw_iald S hK hN (k := 16) (i := 0) ⟨rfl, rfl⟩ rfl (x := p1) (hl4) dX10_ofLedger_88 ?_
        refine lv_iconst (v := 1) hx hb dX10_ofLedger_89 (by decide) ?_
        refine lv_isub hx hb dX10_ofLedger_90 ?_
        refine nw_callS (As := [.int p2, .int 0, .int ((M 16 0 ((p1 : Int32).toNatClampNeg)) - 1)]) (rest := []) S (kX10_in l p2 0 ((M 16 0 ((p1 : Int32).toNatClampNeg)) - 1)) gX10_ofLedger_X10_in rfl ⟨rfl, rfl⟩ hqX10_in ⟨Nat.le_of_ble_eq_true rfl, Nat.le_of_ble_eq_true rfl⟩ rfl hl.1 rfl (Nat.le_of_ble_eq_true rfl) dX10_ofLedger_91 ⟨Nat.le_of_ble_eq_true rfl, Nat.le_of_ble_eq_true rfl⟩ ?_
        refine lv_if_ne (x := fX10_in p2 0 ((M 16 0 ((p1 : Int32).toNatClampNeg)) - 1)) (tgt := 99) hx hb dX10_ofLedger_94 (by decide) (fun c_5 => ?_) (fun c_5 => ?_)
        · refine lv_aload_n hx hb dX10_ofLedger_99 rfl (lv_at hl 0 rfl) ?_
          refine nwM_get S hK hN hin10 17 (by decide) (index := 52) (List.mem_cons_of_mem _ (List.mem_append_left _ (List.mem_of_getElem? (i := 1) rfl))) rfl (v := .ref (ad 17 0)) rfl dX10_ofLedger_100 ?_
          refine lv_bipush (v := 12) hx hb dX10_ofLedger_103 (by decide) ?_
          refine lv_iload_n hx hb dX10_ofLedger_105 rfl (lv_at hl 2 rfl) ?_
          refine lv_imul hx hb dX10_ofLedger_106 ?_
          refine lv_iload_n hx hb dX10_ofLedger_107 rfl (lv_at hl 3 rfl) ?_
          refine lv_iadd hx hb dX10_ofLedger_108 ?_
          refine lv_dup2_11 hx hb dX10_ofLedger_109 rfl rfl ?_
          refine nw_iald S hK hN (k := 17) (i := 0) ⟨rfl, rfl⟩ rfl (x := (12 * p1) + p2) (invM_led hI hl4 c_5) dX10_ofLedger_110 ?_
          refine lv_iload hx hb dX10_ofLedger_111 (lv_at hl 4 rfl) ?_
          refine lv_iadd hx hb dX10_ofLedger_113 ?_
          refine nw_iast S hK hN hS (k := 17) (i := 0) ⟨rfl, rfl⟩ (fun _ => rfl) (x := (12 * p1) + p2) (v := (M 17 0 (((12 * p1) + p2 : Int32).toNatClampNeg)) + p3) (invM_led hI hl4 c_5) dX10_ofLedger_114 (fun H locs hN hz hS => ?_)
          refine lv_aload_n hx hb dX10_ofLedger_115 rfl (lv_at hl 0 rfl) ?_
          refine lv_aload_n hx hb dX10_ofLedger_116 rfl (lv_at hl 0 rfl) ?_
          refine nwM_get S hK hN hin10 17 (by decide) (index := 52) (List.mem_cons_of_mem _ (List.mem_append_left _ (List.mem_of_getElem? (i := 1) rfl))) rfl (v := .ref (ad 17 0)) rfl dX10_ofLedger_117 ?_
          refine lv_bipush (v := 12) hx hb dX10_ofLedger_120 (by decide) ?_
          refine lv_iload_n hx hb dX10_ofLedger_122 rfl (lv_at hl 2 rfl) ?_
          refine lv_imul hx hb dX10_ofLedger_123 ?_
          refine lv_iload_n hx hb dX10_ofLedger_124 rfl (lv_at hl 3 rfl) ?_
          refine lv_iadd hx hb dX10_ofLedger_125 ?_
          refine nw_iald S hK hN (k := 17) (i := 0) ⟨rfl, rfl⟩ rfl (x := (12 * p1) + p2) (invM_led hI hl4 c_5) dX10_ofLedger_126 ?_
          refine nwM_call (As := [.int ((u3 M 17 0 (((12 * p1) + p2 : Int32).toNatClampNeg) ((M 17 0 (((12 * p1) + p2 : Int32).toNatClampNeg)) + p3)) 17 0 (((12 * p1) + p2 : Int32).toNatClampNeg))]) (rest := []) S (kX10_come l D C A ad (u3 M 17 0 (((12 * p1) + p2 : Int32).toNatClampNeg) ((M 17 0 (((12 * p1) + p2 : Int32).toNatClampNeg)) + p3)) ((u3 M 17 0 (((12 * p1) + p2 : Int32).toNatClampNeg) ((M 17 0 (((12 * p1) + p2 : Int32).toNatClampNeg)) + p3)) 17 0 (((12 * p1) + p2 : Int32).toNatClampNeg)) ) gX10_ofLedger_X10_come rfl ⟨rfl, rfl⟩ hqX10_come ⟨Nat.le_of_ble_eq_true rfl, Nat.le_of_ble_eq_true rfl⟩ hK hN hN hA hS rfl hl.1 rfl (Nat.le_of_ble_eq_true rfl) dX10_ofLedger_127 ⟨Nat.le_of_ble_eq_true rfl, Nat.le_of_ble_eq_true rfl⟩ (fun H locs hN hS => ?_)
          have hf : fX10_ofLedger M p0 p1 p2 p3 = (0, u3 (u3 M 17 0 (((12 * p1) + p2 : Int32).toNatClampNeg) ((M 17 0 (((12 * p1) + p2 : Int32).toNatClampNeg)) + p3)) 0 0 34 ((u3 M 17 0 (((12 * p1) + p2 : Int32).toNatClampNeg) ((M 17 0 (((12 * p1) + p2 : Int32).toNatClampNeg)) + p3)) 17 0 (((12 * p1) + p2 : Int32).toNatClampNeg))) := by unfold fX10_ofLedger; rw [if_neg c_1, if_pos c_2, if_pos c_3, if_neg c_5]
          exact W.iret (v := 0) hx hb hr (fun t ht _ => by rw [hf]; exact nw_end hS hN ht) hS.2.2 dX10_ofLedger_130
        · refine lv_iconst (v := 5) hx hb dX10_ofLedger_97 (by decide) ?_
          have hf : fX10_ofLedger M p0 p1 p2 p3 = (5, M) := by unfold fX10_ofLedger; rw [if_neg c_1, if_pos c_2, if_pos c_3, if_pos c_5]
          exact W.iret (v := 5) hx hb hr (fun t ht _ => by rw [hf]; exact nw_end hS hN ht) hS.2.2 dX10_ofLedger_98
    · refine lv_iconst (v := 1) hx hb dX10_ofLedger_73 (by decide) ?_
      have hf : fX10_ofLedger M p0 p1 p2 p3 = (1, M) := by unfold fX10_ofLedger; rw [if_neg c_1, if_neg c_2]
      exact W.iret (v := 1) hx hb hr (fun t ht _ => by rw [hf]; exact nw_end hS hN ht) hS.2.2 dX10_ofLedger_74
  · refine lv_iload_n hx hb dX10_ofLedger_6 rfl (lv_at hl 3 rfl) ?_
    refine lv_if_ge (x := p2) (tgt := 12) hx hb dX10_ofLedger_7 (by decide) (fun c_6 => ?_) (fun c_6 => ?_)
    · refine lv_aload_n hx hb dX10_ofLedger_12 rfl (lv_at hl 0 rfl) ?_
      refine nwM_get S hK hN hin10 16 (by decide) (index := 49) (List.mem_cons_of_mem _ (List.mem_append_left _ (List.mem_of_getElem? (i := 0) rfl))) rfl (v := .ref (ad 16 0)) rfl dX10_ofLedger_13 ?_
      refine lv_iload_n hx hb dX10_ofLedger_16 rfl (lv_at hl 2 rfl) ?_
      refine lv_iload_n hx hb dX10_ofLedger_17 rfl (lv_at hl 3 rfl) ?_
      refine lv_bipush (v := 12) hx hb dX10_ofLedger_18 (by decide) ?_
      refine nw_callS (As := [.int p2, .int 12]) (rest := [.int p1, .ref (ad 16 0)]) S (kX10_least l p2 12) gX10_ofLedger_X10_least rfl ⟨rfl, rfl⟩ hqX10_least ⟨Nat.le_of_ble_eq_true rfl, Nat.le_of_ble_eq_true rfl⟩ rfl hl.1 rfl (Nat.le_of_ble_eq_true rfl) dX10_ofLedger_20 ⟨Nat.le_of_ble_eq_true rfl, Nat.le_of_ble_eq_true rfl⟩ ?_
      refine nw_iast S hK hN hS (k := 16) (i := 0) ⟨rfl, rfl⟩ (fun _ => rfl) (x := p1) (v := fX10_least p2 12) (hl4) dX10_ofLedger_23 (fun H locs hN hz hS => ?_)
      refine lv_iconst (v := 0) hx hb dX10_ofLedger_24 (by decide) ?_
      refine lv_istore (lv' := [(5, .int 0), (0, .ref (ad 0 0)), (1, .int p0), (2, .int p1), (3, .int p2), (4, .int p3)]) hx hb dX10_ofLedger_25 hl (by decide) rfl (fun ls hl => ?_)
      refine lpW (σ := Int32 × (Nat → Nat → Nat → Int32)) 13 (0, u3 M 16 0 ((p1 : Int32).toNatClampNeg) (fX10_least p2 12)) (fun n x H locs ls => lv_has ls 7 [(5, .int x.1), (0, .ref (ad 0 0)), (1, .int p0), (2, .int p1), (3, .int p2), (4, .int p3)] ∧ nw D (enM C) domM A ad x.2 H ∧ va_S A s.heap H locs ∧ fX10_ofLedger M p0 p1 p2 p3 = gX10_ofLedger_27 p0 p1 p2 p3 n x.1 (x.2) ∧ (∃ i : Nat, x.1 = nI i ∧ i ≤ 12 ∧ i + n = 13)) 27 (fun n x H locs ls hP ih => ?_) ⟨lv_sub hl [0, 1, 2, 3, 4, 5] rfl, hN, hS, by unfold fX10_ofLedger; rw [if_pos c_1, if_pos c_6], 0, rfl, by omega, rfl⟩
      obtain ⟨x5, Z27⟩ := x
      obtain ⟨hl, hN, hS, hfe, hinv⟩ := hP
      dsimp only at hl hN hfe hinv
      obtain ⟨i, hi1, hi2, hi3⟩ := hinv
      obtain ⟨n, rfl⟩ : ∃ k, n = k + 1 := ⟨n - 1, by omega⟩
      refine lv_iload hx hb dX10_ofLedger_27 (lv_at hl 0 rfl) ?_
      refine lv_bipush (v := 12) hx hb dX10_ofLedger_29 (by decide) ?_
      refine lv_icmp_ge (x := x5) (y := 12) (tgt := 53) hx hb dX10_ofLedger_31 (by decide) (fun c_7 => ?_) (fun c_7 => ?_)
      · refine lv_aload_n hx hb dX10_ofLedger_53 rfl (lv_at hl 1 rfl) ?_
        refine lv_aload_n hx hb dX10_ofLedger_54 rfl (lv_at hl 1 rfl) ?_
        refine nwM_get S hK hN hin10 16 (by decide) (index := 49) (List.mem_cons_of_mem _ (List.mem_append_left _ (List.mem_of_getElem? (i := 0) rfl))) rfl (v := .ref (ad 16 0)) rfl dX10_ofLedger_55 ?_
        refine lv_iload_n hx hb dX10_ofLedger_58 rfl (lv_at hl 3 rfl) ?_
        refine nw_iald S hK hN (k := 16) (i := 0) ⟨rfl, rfl⟩ rfl (x := p1) (hl4) dX10_ofLedger_59 ?_
        refine nwM_call (As := [.int (Z27 16 0 ((p1 : Int32).toNatClampNeg))]) (rest := []) S (kX10_come l D C A ad Z27 (Z27 16 0 ((p1 : Int32).toNatClampNeg)) ) gX10_ofLedger_X10_come rfl ⟨rfl, rfl⟩ hqX10_come ⟨Nat.le_of_ble_eq_true rfl, Nat.le_of_ble_eq_true rfl⟩ hK hN hN hA hS rfl hl.1 rfl (Nat.le_of_ble_eq_true rfl) dX10_ofLedger_60 ⟨Nat.le_of_ble_eq_true rfl, Nat.le_of_ble_eq_true rfl⟩ (fun H locs hN hS => ?_)
        have hf : fX10_ofLedger M p0 p1 p2 p3 = (0, u3 Z27 0 0 34 (Z27 16 0 ((p1 : Int32).toNatClampNeg))) := by rw [hfe, gX10_ofLedger_27_s, if_pos c_7]
        exact W.iret (v := 0) hx hb hr (fun t ht _ => by rw [hf]; exact nw_end hS hN ht) hS.2.2 dX10_ofLedger_63
      · refine lv_aload_n hx hb dX10_ofLedger_34 rfl (lv_at hl 1 rfl) ?_
        refine nwM_get S hK hN hin10 17 (by decide) (index := 52) (List.mem_cons_of_mem _ (List.mem_append_left _ (List.mem_of_getElem? (i := 1) rfl))) rfl (v := .ref (ad 17 0)) rfl dX10_ofLedger_35 ?_
        refine lv_bipush (v := 12) hx hb dX10_ofLedger_38 (by decide) ?_
        refine lv_iload_n hx hb dX10_ofLedger_40 rfl (lv_at hl 3 rfl) ?_
        refine lv_imul hx hb dX10_ofLedger_41 ?_
        refine lv_iload hx hb dX10_ofLedger_42 (lv_at hl 0 rfl) ?_
        refine lv_iadd hx hb dX10_ofLedger_44 ?_
        refine lv_iconst (v := 0) hx hb dX10_ofLedger_45 (by decide) ?_
        refine nw_iast S hK hN hS (k := 17) (i := 0) ⟨rfl, rfl⟩ (fun _ => rfl) (x := (12 * p1) + x5) (v := 0) (ix_in (N := 4) (B := 12) ⟨rfl, by decide, by decide⟩ hl4 hi1 (cnt_lt (B := 12) hi1 hi3 rfl (by decide) c_7)) dX10_ofLedger_46 (fun H locs hN hz hS => ?_)
        refine lv_iinc (v := x5 + 1) (lv' := [(5, .int (x5 + 1)), (0, .ref (ad 0 0)), (1, .int p0), (2, .int p1), (3, .int p2), (4, .int p3)]) hx hb dX10_ofLedger_47 hl (k := 0) rfl rfl (by decide) rfl (fun ls hl => ?_)
        refine lv_goto (tgt := 27) hx hb dX10_ofLedger_50 (by decide) ?_
        exact ih n (x5 + 1, u3 Z27 17 0 (((12 * p1) + x5 : Int32).toNatClampNeg) 0) _ _ _ (by omega) ⟨lv_sub hl [0, 1, 2, 3, 4, 5] rfl, hN, hS, by rw [hfe, gX10_ofLedger_27_s, if_neg c_7], cnt_back (B := 12) hi1 hi3 rfl (by decide) c_7⟩
    · refine lv_iconst (v := 2) hx hb dX10_ofLedger_10 (by decide) ?_
      have hf : fX10_ofLedger M p0 p1 p2 p3 = (2, M) := by unfold fX10_ofLedger; rw [if_pos c_1, if_neg c_6]
      exact W.iret (v := 2) hx hb hr (fun t ht _ => by rw [hf]; exact nw_end hS hN ht) hS.2.2 dX10_ofLedger_11
set_option maxHeartbeats 4000000 in
set_option maxRecDepth 100000 in
theorem kX10_ofTable (l : Launch) (D : va_G) (C : Nat → ClassId) (A : Nat → Prop) (ad : Nat → Nat → Nat) (M : Nat → Nat → Nat → Int32) (p0 p1 p2 p3 : Int32) (kk : Nat) (hI : InvM kk M) (ht4 : vp_in p1 4) : Met l yX10_ofTable wsX10_ofTable ({ frames := 1, cells := 0, slots := 0, locals := 22 }) (va_Pc [.ref (ad 0 0), .int p0, .int p1, .int p2, .int p3] (PW D C A (nw D (enM C) domM A ad M))) (nQ A (some (.int (fX10_ofTable M p0 p1 p2 p3).1)) (nw D (enM C) domM A ad (fX10_ofTable M p0 p1 p2 p3).2)) 0 0 A := by
  refine Met.ofW (cc := cX10_ofTable) (maxL := 6) (ret := (some .int)) (by decide) rfl ?_
  intro p e s m args below meth c s₁ B hml hv
  obtain ⟨rfl, hK, hN, hA⟩ := hv
  have hx := B.exec
  have hb := B.bytes
  have hr := B.returns
  have hts := atoms_spec (ws := wsX10_ofTable) B.pre
  have hown : s.vm.findClass RX10 = some m.cls := findClass_of_methodNamed B.named
  have hlocks := B.notSynchronized
  have S : CallFix p m c cX10_ofTable 6 s _ wsX10_ofTable RX10 := ⟨hx, hb, hml, hown, hts⟩
  have hin10 : ∀ w ∈ wsX100, w ∈ wsX10_ofTable := (fun _ h => List.mem_cons_of_mem _ (List.mem_append_right _ (h)))
  have hS : va_S A s.heap s.heap [] := va_S.rf
  have hl := lv_entry ([.ref (ad 0 0), .int p0, .int p1, .int p2, .int p3]) (n := 6) (Nat.le_of_ble_eq_true rfl)
  rw [lg_entry_eq]
  generalize (lg_sl ([.ref (ad 0 0), .int p0, .int p1, .int p2, .int p3]) ++ List.replicate (6 - (lg_sl ([.ref (ad 0 0), .int p0, .int p1, .int p2, .int p3])).length) Slot.unset).toArray = ls at hl ⊢
  have hl : lv_has ls 6 [(0, .ref (ad 0 0)), (1, .int p0), (2, .int p1), (3, .int p2), (4, .int p3)] := hl
  refine lv_iload_n hx hb dX10_ofTable_0 rfl (lv_at hl 1 rfl) ?_
  refine lv_bipush (v := 15) hx hb dX10_ofTable_1 (by decide) ?_
  refine lv_icmp_ne (x := p0) (y := 15) (tgt := 106) hx hb dX10_ofTable_3 (by decide) (fun c_1 => ?_) (fun c_1 => ?_)
  · refine lv_aload_n hx hb dX10_ofTable_106 rfl (lv_at hl 0 rfl) ?_
    refine nwM_get S hK hN hin10 18 (by decide) (index := 55) (List.mem_cons_of_mem _ (List.mem_append_left _ (List.mem_of_getElem? (i := 0) rfl))) rfl (v := .ref (ad 18 0)) rfl dX10_ofTable_107 ?_
    refine lv_iload_n hx hb dX10_ofTable_110 rfl (lv_at hl 2 rfl) ?_
    refine nw_iald S hK hN (k := 18) (i := 0) ⟨rfl, rfl⟩ rfl (x := p1) (ht4) dX10_ofTable_111 ?_
    refine lv_if_ge (x := M 18 0 ((p1 : Int32).toNatClampNeg)) (tgt := 117) hx hb dX10_ofTable_112 (by decide) (fun c_2 => ?_) (fun c_2 => ?_)
    · refine lv_iload_n hx hb dX10_ofTable_117 rfl (lv_at hl 3 rfl) ?_
      refine lv_iconst (v := 0) hx hb dX10_ofTable_118 (by decide) ?_
      refine lv_aload_n hx hb dX10_ofTable_119 rfl (lv_at hl 0 rfl) ?_
      refine nwM_get S hK hN hin10 18 (by decide) (index := 55) (List.mem_cons_of_mem _ (List.mem_append_left _ (List.mem_of_getElem? (i := 0) rfl))) rfl (v := .ref (ad 18 0)) rfl dX10_ofTable_120 ?_
      refine lv_iload_n hx hb dX10_ofTable_123 rfl (lv_at hl 2 rfl) ?_
      refine nw_iald S hK hN (k := 18) (i := 0) ⟨rfl, rfl⟩ rfl (x := p1) (ht4) dX10_ofTable_124 ?_
      refine lv_iconst (v := 1) hx hb dX10_ofTable_125 (by decide) ?_
      refine lv_isub hx hb dX10_ofTable_126 ?_
      refine nw_callS (As := [.int p2, .int 0, .int ((M 18 0 ((p1 : Int32).toNatClampNeg)) - 1)]) (rest := []) S (kX10_in l p2 0 ((M 18 0 ((p1 : Int32).toNatClampNeg)) - 1)) gX10_ofTable_X10_in rfl ⟨rfl, rfl⟩ hqX10_in ⟨Nat.le_of_ble_eq_true rfl, Nat.le_of_ble_eq_true rfl⟩ rfl hl.1 rfl (Nat.le_of_ble_eq_true rfl) dX10_ofTable_127 ⟨Nat.le_of_ble_eq_true rfl, Nat.le_of_ble_eq_true rfl⟩ ?_
      refine lv_if_ne (x := fX10_in p2 0 ((M 18 0 ((p1 : Int32).toNatClampNeg)) - 1)) (tgt := 135) hx hb dX10_ofTable_130 (by decide) (fun c_3 => ?_) (fun c_3 => ?_)
      · refine lv_aload_n hx hb dX10_ofTable_135 rfl (lv_at hl 0 rfl) ?_
        refine nwM_get S hK hN hin10 20 (by decide) (index := 61) (List.mem_cons_of_mem _ (List.mem_append_left _ (List.mem_of_getElem? (i := 2) rfl))) rfl (v := .ref (ad 20 0)) rfl dX10_ofTable_136 ?_
        refine lv_bipush (v := 6) hx hb dX10_ofTable_139 (by decide) ?_
        refine lv_iload_n hx hb dX10_ofTable_141 rfl (lv_at hl 2 rfl) ?_
        refine lv_imul hx hb dX10_ofTable_142 ?_
        refine lv_iload_n hx hb dX10_ofTable_143 rfl (lv_at hl 3 rfl) ?_
        refine lv_iadd hx hb dX10_ofTable_144 ?_
        refine nw_zald S hK hN (k := 20) (i := 0) ⟨rfl, rfl⟩ rfl (x := (6 * p1) + p2) (invM_row hI ht4 c_3) dX10_ofTable_145 ?_
        refine lv_if_ne (x := M 20 0 (((6 * p1) + p2 : Int32).toNatClampNeg)) (tgt := 151) hx hb dX10_ofTable_146 (by decide) (fun c_4 => ?_) (fun c_4 => ?_)
        · refine lv_iload hx hb dX10_ofTable_151 (lv_at hl 4 rfl) ?_
          refine lv_iconst (v := 0) hx hb dX10_ofTable_153 (by decide) ?_
          refine lv_aload_n hx hb dX10_ofTable_154 rfl (lv_at hl 0 rfl) ?_
          refine nwM_get S hK hN hin10 19 (by decide) (index := 58) (List.mem_cons_of_mem _ (List.mem_append_left _ (List.mem_of_getElem? (i := 1) rfl))) rfl (v := .ref (ad 19 0)) rfl dX10_ofTable_155 ?_
          refine lv_iload_n hx hb dX10_ofTable_158 rfl (lv_at hl 2 rfl) ?_
          refine nw_iald S hK hN (k := 19) (i := 0) ⟨rfl, rfl⟩ rfl (x := p1) (ht4) dX10_ofTable_159 ?_
          refine lv_iconst (v := 1) hx hb dX10_ofTable_160 (by decide) ?_
          refine lv_isub hx hb dX10_ofTable_161 ?_
          refine nw_callS (As := [.int p3, .int 0, .int ((M 19 0 ((p1 : Int32).toNatClampNeg)) - 1)]) (rest := []) S (kX10_in l p3 0 ((M 19 0 ((p1 : Int32).toNatClampNeg)) - 1)) gX10_ofTable_X10_in rfl ⟨rfl, rfl⟩ hqX10_in ⟨Nat.le_of_ble_eq_true rfl, Nat.le_of_ble_eq_true rfl⟩ rfl hl.1 rfl (Nat.le_of_ble_eq_true rfl) dX10_ofTable_162 ⟨Nat.le_of_ble_eq_true rfl, Nat.le_of_ble_eq_true rfl⟩ ?_
          refine lv_if_ne (x := fX10_in p3 0 ((M 19 0 ((p1 : Int32).toNatClampNeg)) - 1)) (tgt := 170) hx hb dX10_ofTable_165 (by decide) (fun c_5 => ?_) (fun c_5 => ?_)
          · refine lv_bipush (v := 36) hx hb dX10_ofTable_170 (by decide) ?_
            refine lv_iload_n hx hb dX10_ofTable_172 rfl (lv_at hl 2 rfl) ?_
            refine lv_imul hx hb dX10_ofTable_173 ?_
            refine lv_bipush (v := 6) hx hb dX10_ofTable_174 (by decide) ?_
            refine lv_iload_n hx hb dX10_ofTable_176 rfl (lv_at hl 3 rfl) ?_
            refine lv_imul hx hb dX10_ofTable_177 ?_
            refine lv_iadd hx hb dX10_ofTable_178 ?_
            refine lv_iload hx hb dX10_ofTable_179 (lv_at hl 4 rfl) ?_
            refine lv_iadd hx hb dX10_ofTable_181 ?_
            refine lv_istore (lv' := [(5, .int (((36 * p1) + (6 * p2)) + p3)), (0, .ref (ad 0 0)), (1, .int p0), (2, .int p1), (3, .int p2), (4, .int p3)]) hx hb dX10_ofTable_182 hl (by decide) rfl (fun ls hl => ?_)
            refine lv_aload_n hx hb dX10_ofTable_184 rfl (lv_at hl 1 rfl) ?_
            refine nwM_get S hK hN hin10 21 (by decide) (index := 65) (List.mem_cons_of_mem _ (List.mem_append_left _ (List.mem_of_getElem? (i := 3) rfl))) rfl (v := .ref (ad 21 0)) rfl dX10_ofTable_185 ?_
            refine lv_iload hx hb dX10_ofTable_188 (lv_at hl 0 rfl) ?_
            refine lv_dup2_11 hx hb dX10_ofTable_190 rfl rfl ?_
            refine nw_iald S hK hN (k := 21) (i := 0) ⟨rfl, rfl⟩ rfl (x := ((36 * p1) + (6 * p2)) + p3) (invM_cell hI ht4 c_3 c_5) dX10_ofTable_191 ?_
            refine lv_iconst (v := 1) hx hb dX10_ofTable_192 (by decide) ?_
            refine lv_iadd hx hb dX10_ofTable_193 ?_
            refine nw_iast S hK hN hS (k := 21) (i := 0) ⟨rfl, rfl⟩ (fun _ => rfl) (x := ((36 * p1) + (6 * p2)) + p3) (v := (M 21 0 ((((36 * p1) + (6 * p2)) + p3 : Int32).toNatClampNeg)) + 1) (invM_cell hI ht4 c_3 c_5) dX10_ofTable_194 (fun H locs hN hz hS => ?_)
            refine lv_aload_n hx hb dX10_ofTable_195 rfl (lv_at hl 1 rfl) ?_
            refine lv_aload_n hx hb dX10_ofTable_196 rfl (lv_at hl 1 rfl) ?_
            refine nwM_get S hK hN hin10 21 (by decide) (index := 65) (List.mem_cons_of_mem _ (List.mem_append_left _ (List.mem_of_getElem? (i := 3) rfl))) rfl (v := .ref (ad 21 0)) rfl dX10_ofTable_197 ?_
            refine lv_iload hx hb dX10_ofTable_200 (lv_at hl 0 rfl) ?_
            refine nw_iald S hK hN (k := 21) (i := 0) ⟨rfl, rfl⟩ rfl (x := ((36 * p1) + (6 * p2)) + p3) (invM_cell hI ht4 c_3 c_5) dX10_ofTable_202 ?_
            refine nwM_call (As := [.int ((u3 M 21 0 ((((36 * p1) + (6 * p2)) + p3 : Int32).toNatClampNeg) ((M 21 0 ((((36 * p1) + (6 * p2)) + p3 : Int32).toNatClampNeg)) + 1)) 21 0 ((((36 * p1) + (6 * p2)) + p3 : Int32).toNatClampNeg))]) (rest := []) S (kX10_come l D C A ad (u3 M 21 0 ((((36 * p1) + (6 * p2)) + p3 : Int32).toNatClampNeg) ((M 21 0 ((((36 * p1) + (6 * p2)) + p3 : Int32).toNatClampNeg)) + 1)) ((u3 M 21 0 ((((36 * p1) + (6 * p2)) + p3 : Int32).toNatClampNeg) ((M 21 0 ((((36 * p1) + (6 * p2)) + p3 : Int32).toNatClampNeg)) + 1)) 21 0 ((((36 * p1) + (6 * p2)) + p3 : Int32).toNatClampNeg)) ) gX10_ofTable_X10_come rfl ⟨rfl, rfl⟩ hqX10_come ⟨Nat.le_of_ble_eq_true rfl, Nat.le_of_ble_eq_true rfl⟩ hK hN hN hA hS rfl hl.1 rfl (Nat.le_of_ble_eq_true rfl) dX10_ofTable_203 ⟨Nat.le_of_ble_eq_true rfl, Nat.le_of_ble_eq_true rfl⟩ (fun H locs hN hS => ?_)
            have hf : fX10_ofTable M p0 p1 p2 p3 = (0, u3 (u3 M 21 0 ((((36 * p1) + (6 * p2)) + p3 : Int32).toNatClampNeg) ((M 21 0 ((((36 * p1) + (6 * p2)) + p3 : Int32).toNatClampNeg)) + 1)) 0 0 34 ((u3 M 21 0 ((((36 * p1) + (6 * p2)) + p3 : Int32).toNatClampNeg) ((M 21 0 ((((36 * p1) + (6 * p2)) + p3 : Int32).toNatClampNeg)) + 1)) 21 0 ((((36 * p1) + (6 * p2)) + p3 : Int32).toNatClampNeg))) := by unfold fX10_ofTable; rw [if_neg c_1, if_pos c_2, if_neg c_3, if_neg c_4, if_neg c_5]
            exact W.iret (v := 0) hx hb hr (fun t ht _ => by rw [hf]; exact nw_end hS hN ht) hS.2.2 dX10_ofTable_206
          · refine lv_iconst (v := 5) hx hb dX10_ofTable_168 (by decide) ?_
            have hf : fX10_ofTable M p0 p1 p2 p3 = (5, M) := by unfold fX10_ofTable; rw [if_neg c_1, if_pos c_2, if_neg c_3, if_neg c_4, if_pos c_5]
            exact W.iret (v := 5) hx hb hr (fun t ht _ => by rw [hf]; exact nw_end hS hN ht) hS.2.2 dX10_ofTable_169
        · refine lv_iconst (v := 1) hx hb dX10_ofTable_149 (by decide) ?_
          have hf : fX10_ofTable M p0 p1 p2 p3 = (1, M) := by unfold fX10_ofTable; rw [if_neg c_1, if_pos c_2, if_neg c_3, if_pos c_4]
          exact W.iret (v := 1) hx hb hr (fun t ht _ => by rw [hf]; exact nw_end hS hN ht) hS.2.2 dX10_ofTable_150
      · refine lv_iconst (v := 5) hx hb dX10_ofTable_133 (by decide) ?_
        have hf : fX10_ofTable M p0 p1 p2 p3 = (5, M) := by unfold fX10_ofTable; rw [if_neg c_1, if_pos c_2, if_pos c_3]
        exact W.iret (v := 5) hx hb hr (fun t ht _ => by rw [hf]; exact nw_end hS hN ht) hS.2.2 dX10_ofTable_134
    · refine lv_iconst (v := 1) hx hb dX10_ofTable_115 (by decide) ?_
      have hf : fX10_ofTable M p0 p1 p2 p3 = (1, M) := by unfold fX10_ofTable; rw [if_neg c_1, if_neg c_2]
      exact W.iret (v := 1) hx hb hr (fun t ht _ => by rw [hf]; exact nw_end hS hN ht) hS.2.2 dX10_ofTable_116
  · refine lv_iload_n hx hb dX10_ofTable_6 rfl (lv_at hl 3 rfl) ?_
    refine lv_if_lt (x := p2) (tgt := 15) hx hb dX10_ofTable_7 (by decide) (fun c_6 => ?_) (fun c_6 => ?_)
    · refine lv_iconst (v := 2) hx hb dX10_ofTable_15 (by decide) ?_
      have hf : fX10_ofTable M p0 p1 p2 p3 = (2, M) := by unfold fX10_ofTable; rw [if_pos c_1, if_pos c_6]
      exact W.iret (v := 2) hx hb hr (fun t ht _ => by rw [hf]; exact nw_end hS hN ht) hS.2.2 dX10_ofTable_16
    · refine lv_iload hx hb dX10_ofTable_10 (lv_at hl 4 rfl) ?_
      refine lv_if_ge (x := p3) (tgt := 17) hx hb dX10_ofTable_12 (by decide) (fun c_7 => ?_) (fun c_7 => ?_)
      · refine lv_aload_n hx hb dX10_ofTable_17 rfl (lv_at hl 0 rfl) ?_
        refine nwM_get S hK hN hin10 18 (by decide) (index := 55) (List.mem_cons_of_mem _ (List.mem_append_left _ (List.mem_of_getElem? (i := 0) rfl))) rfl (v := .ref (ad 18 0)) rfl dX10_ofTable_18 ?_
        refine lv_iload_n hx hb dX10_ofTable_21 rfl (lv_at hl 2 rfl) ?_
        refine lv_iload_n hx hb dX10_ofTable_22 rfl (lv_at hl 3 rfl) ?_
        refine lv_bipush (v := 6) hx hb dX10_ofTable_23 (by decide) ?_
        refine nw_callS (As := [.int p2, .int 6]) (rest := [.int p1, .ref (ad 18 0)]) S (kX10_least l p2 6) gX10_ofTable_X10_least rfl ⟨rfl, rfl⟩ hqX10_least ⟨Nat.le_of_ble_eq_true rfl, Nat.le_of_ble_eq_true rfl⟩ rfl hl.1 rfl (Nat.le_of_ble_eq_true rfl) dX10_ofTable_25 ⟨Nat.le_of_ble_eq_true rfl, Nat.le_of_ble_eq_true rfl⟩ ?_
        refine nw_iast S hK hN hS (k := 18) (i := 0) ⟨rfl, rfl⟩ (fun _ => rfl) (x := p1) (v := fX10_least p2 6) (ht4) dX10_ofTable_28 (fun H locs hN hz hS => ?_)
        refine lv_aload_n hx hb dX10_ofTable_29 rfl (lv_at hl 0 rfl) ?_
        refine nwM_get S hK hN hin10 19 (by decide) (index := 58) (List.mem_cons_of_mem _ (List.mem_append_left _ (List.mem_of_getElem? (i := 1) rfl))) rfl (v := .ref (ad 19 0)) rfl dX10_ofTable_30 ?_
        refine lv_iload_n hx hb dX10_ofTable_33 rfl (lv_at hl 2 rfl) ?_
        refine lv_iload hx hb dX10_ofTable_34 (lv_at hl 4 rfl) ?_
        refine lv_bipush (v := 6) hx hb dX10_ofTable_36 (by decide) ?_
        refine nw_callS (As := [.int p3, .int 6]) (rest := [.int p1, .ref (ad 19 0)]) S (kX10_least l p3 6) gX10_ofTable_X10_least rfl ⟨rfl, rfl⟩ hqX10_least ⟨Nat.le_of_ble_eq_true rfl, Nat.le_of_ble_eq_true rfl⟩ rfl hl.1 rfl (Nat.le_of_ble_eq_true rfl) dX10_ofTable_38 ⟨Nat.le_of_ble_eq_true rfl, Nat.le_of_ble_eq_true rfl⟩ ?_
        refine nw_iast S hK hN hS (k := 19) (i := 0) ⟨rfl, rfl⟩ (fun _ => rfl) (x := p1) (v := fX10_least p3 6) (ht4) dX10_ofTable_41 (fun H locs hN hz hS => ?_)
        refine lv_iconst (v := 0) hx hb dX10_ofTable_42 (by decide) ?_
        refine lv_istore (lv' := [(5, .int 0), (0, .ref (ad 0 0)), (1, .int p0), (2, .int p1), (3, .int p2), (4, .int p3)]) hx hb dX10_ofTable_43 hl (by decide) rfl (fun ls hl => ?_)
        refine lpW (σ := Int32 × (Nat → Nat → Nat → Int32)) 7 (0, u3 (u3 M 18 0 ((p1 : Int32).toNatClampNeg) (fX10_least p2 6)) 19 0 ((p1 : Int32).toNatClampNeg) (fX10_least p3 6)) (fun n x H locs ls => lv_has ls 6 [(5, .int x.1), (0, .ref (ad 0 0)), (1, .int p0), (2, .int p1), (3, .int p2), (4, .int p3)] ∧ nw D (enM C) domM A ad x.2 H ∧ va_S A s.heap H locs ∧ fX10_ofTable M p0 p1 p2 p3 = gX10_ofTable_45 p0 p1 p2 p3 n x.1 (x.2) ∧ (∃ i : Nat, x.1 = nI i ∧ i ≤ 6 ∧ i + n = 7)) 45 (fun n x H locs ls hP ih => ?_) ⟨lv_sub hl [0, 1, 2, 3, 4, 5] rfl, hN, hS, by unfold fX10_ofTable; rw [if_pos c_1, if_neg c_6, if_pos c_7], 0, rfl, by omega, rfl⟩
        obtain ⟨x5, Z45⟩ := x
        obtain ⟨hl, hN, hS, hfe, hinv⟩ := hP
        dsimp only at hl hN hfe hinv
        obtain ⟨i, hi1, hi2, hi3⟩ := hinv
        obtain ⟨n, rfl⟩ : ∃ k, n = k + 1 := ⟨n - 1, by omega⟩
        refine lv_iload hx hb dX10_ofTable_45 (lv_at hl 0 rfl) ?_
        refine lv_bipush (v := 6) hx hb dX10_ofTable_47 (by decide) ?_
        refine lv_icmp_ge (x := x5) (y := 6) (tgt := 71) hx hb dX10_ofTable_49 (by decide) (fun c_8 => ?_) (fun c_8 => ?_)
        · refine lv_iconst (v := 0) hx hb dX10_ofTable_71 (by decide) ?_
          refine lv_istore (lv' := [(5, .int 0), (0, .ref (ad 0 0)), (1, .int p0), (2, .int p1), (3, .int p2), (4, .int p3)]) hx hb dX10_ofTable_72 hl (by decide) rfl (fun ls hl => ?_)
          refine lpW (σ := Int32 × (Nat → Nat → Nat → Int32)) 37 (0, Z45) (fun n x H locs ls => lv_has ls 6 [(5, .int x.1), (0, .ref (ad 0 0)), (1, .int p0), (2, .int p1), (3, .int p2), (4, .int p3)] ∧ nw D (enM C) domM A ad x.2 H ∧ va_S A s.heap H locs ∧ fX10_ofTable M p0 p1 p2 p3 = gX10_ofTable_74 p0 p1 p2 p3 n x.1 (x.2) ∧ (∃ i : Nat, x.1 = nI i ∧ i ≤ 36 ∧ i + n = 37)) 74 (fun n x H locs ls hP ih => ?_) ⟨lv_sub hl [0, 1, 2, 3, 4, 5] rfl, hN, hS, by rw [hfe, gX10_ofTable_45_s, if_pos c_8], 0, rfl, by omega, rfl⟩
          obtain ⟨x5, Z74⟩ := x
          obtain ⟨hl, hN, hS, hfe, hinv⟩ := hP
          dsimp only at hl hN hfe hinv
          obtain ⟨i, hi1, hi2, hi3⟩ := hinv
          obtain ⟨n, rfl⟩ : ∃ k, n = k + 1 := ⟨n - 1, by omega⟩
          refine lv_iload hx hb dX10_ofTable_74 (lv_at hl 0 rfl) ?_
          refine lv_bipush (v := 36) hx hb dX10_ofTable_76 (by decide) ?_
          refine lv_icmp_ge (x := x5) (y := 36) (tgt := 100) hx hb dX10_ofTable_78 (by decide) (fun c_9 => ?_) (fun c_9 => ?_)
          · refine lv_aload_n hx hb dX10_ofTable_100 rfl (lv_at hl 1 rfl) ?_
            refine lv_iconst (v := 1) hx hb dX10_ofTable_101 (by decide) ?_
            refine nwM_call (As := [.int 1]) (rest := []) S (kX10_come l D C A ad Z74 1 ) gX10_ofTable_X10_come rfl ⟨rfl, rfl⟩ hqX10_come ⟨Nat.le_of_ble_eq_true rfl, Nat.le_of_ble_eq_true rfl⟩ hK hN hN hA hS rfl hl.1 rfl (Nat.le_of_ble_eq_true rfl) dX10_ofTable_102 ⟨Nat.le_of_ble_eq_true rfl, Nat.le_of_ble_eq_true rfl⟩ (fun H locs hN hS => ?_)
            have hf : fX10_ofTable M p0 p1 p2 p3 = (0, u3 Z74 0 0 34 1) := by rw [hfe, gX10_ofTable_74_s, if_pos c_9]
            exact W.iret (v := 0) hx hb hr (fun t ht _ => by rw [hf]; exact nw_end hS hN ht) hS.2.2 dX10_ofTable_105
          · refine lv_aload_n hx hb dX10_ofTable_81 rfl (lv_at hl 1 rfl) ?_
            refine nwM_get S hK hN hin10 21 (by decide) (index := 65) (List.mem_cons_of_mem _ (List.mem_append_left _ (List.mem_of_getElem? (i := 3) rfl))) rfl (v := .ref (ad 21 0)) rfl dX10_ofTable_82 ?_
            refine lv_bipush (v := 36) hx hb dX10_ofTable_85 (by decide) ?_
            refine lv_iload_n hx hb dX10_ofTable_87 rfl (lv_at hl 3 rfl) ?_
            refine lv_imul hx hb dX10_ofTable_88 ?_
            refine lv_iload hx hb dX10_ofTable_89 (lv_at hl 0 rfl) ?_
            refine lv_iadd hx hb dX10_ofTable_91 ?_
            refine lv_iconst (v := 0) hx hb dX10_ofTable_92 (by decide) ?_
            refine nw_iast S hK hN hS (k := 21) (i := 0) ⟨rfl, rfl⟩ (fun _ => rfl) (x := (36 * p1) + x5) (v := 0) (ix_in (N := 4) (B := 36) ⟨rfl, by decide, by decide⟩ ht4 hi1 (cnt_lt (B := 36) hi1 hi3 rfl (by decide) c_9)) dX10_ofTable_93 (fun H locs hN hz hS => ?_)
            refine lv_iinc (v := x5 + 1) (lv' := [(5, .int (x5 + 1)), (0, .ref (ad 0 0)), (1, .int p0), (2, .int p1), (3, .int p2), (4, .int p3)]) hx hb dX10_ofTable_94 hl (k := 0) rfl rfl (by decide) rfl (fun ls hl => ?_)
            refine lv_goto (tgt := 74) hx hb dX10_ofTable_97 (by decide) ?_
            exact ih n (x5 + 1, u3 Z74 21 0 (((36 * p1) + x5 : Int32).toNatClampNeg) 0) _ _ _ (by omega) ⟨lv_sub hl [0, 1, 2, 3, 4, 5] rfl, hN, hS, by rw [hfe, gX10_ofTable_74_s, if_neg c_9], cnt_back (B := 36) hi1 hi3 rfl (by decide) c_9⟩
        · refine lv_aload_n hx hb dX10_ofTable_52 rfl (lv_at hl 1 rfl) ?_
          refine nwM_get S hK hN hin10 20 (by decide) (index := 61) (List.mem_cons_of_mem _ (List.mem_append_left _ (List.mem_of_getElem? (i := 2) rfl))) rfl (v := .ref (ad 20 0)) rfl dX10_ofTable_53 ?_
          refine lv_bipush (v := 6) hx hb dX10_ofTable_56 (by decide) ?_
          refine lv_iload_n hx hb dX10_ofTable_58 rfl (lv_at hl 3 rfl) ?_
          refine lv_imul hx hb dX10_ofTable_59 ?_
          refine lv_iload hx hb dX10_ofTable_60 (lv_at hl 0 rfl) ?_
          refine lv_iadd hx hb dX10_ofTable_62 ?_
          refine lv_iconst (v := 1) hx hb dX10_ofTable_63 (by decide) ?_
          refine nw_zast S hK hN hS (k := 20) (i := 0) ⟨rfl, rfl⟩ (fun _ => rfl) (x := (6 * p1) + x5) (v := 1) (ix_in (N := 4) (B := 6) ⟨rfl, by decide, by decide⟩ ht4 hi1 (cnt_lt (B := 6) hi1 hi3 rfl (by decide) c_8)) rfl dX10_ofTable_64 (fun H locs hN hz hS => ?_)
          refine lv_iinc (v := x5 + 1) (lv' := [(5, .int (x5 + 1)), (0, .ref (ad 0 0)), (1, .int p0), (2, .int p1), (3, .int p2), (4, .int p3)]) hx hb dX10_ofTable_65 hl (k := 0) rfl rfl (by decide) rfl (fun ls hl => ?_)
          refine lv_goto (tgt := 45) hx hb dX10_ofTable_68 (by decide) ?_
          exact ih n (x5 + 1, u3 Z45 20 0 (((6 * p1) + x5 : Int32).toNatClampNeg) 1) _ _ _ (by omega) ⟨lv_sub hl [0, 1, 2, 3, 4, 5] rfl, hN, hS, by rw [hfe, gX10_ofTable_45_s, if_neg c_8], cnt_back (B := 6) hi1 hi3 rfl (by decide) c_8⟩
      · refine lv_iconst (v := 2) hx hb dX10_ofTable_15 (by decide) ?_
        have hf : fX10_ofTable M p0 p1 p2 p3 = (2, M) := by unfold fX10_ofTable; rw [if_pos c_1, if_neg c_6, if_neg c_7]
        exact W.iret (v := 2) hx hb hr (fun t ht _ => by rw [hf]; exact nw_end hS hN ht) hS.2.2 dX10_ofTable_16
