set_option maxHeartbeats 4000000 in
set_option maxRecDepth 100000 in
theorem kX10_does (l : Launch) (D : va_G) (C : Nat → ClassId) (A : Nat → Prop) (ad : Nat → Nat → Nat) (M : Nat → Nat → Nat → Int32) (p0 p1 p2 p3 : Int32) (kk : Nat) (hI : InvM kk M) : Met l yX10_does wsX10_does ({ frames := 3, cells := 0, slots := 0, locals := 73 }) (va_Pc [.ref (ad 0 0), .int p0, .int p1, .int p2, .int p3] (PW D C A (nw D (enM C) domM A ad M))) (nQ A (some (.int (fX10_does M p0 p1 p2 p3).1)) (nw D (enM C) domM A ad (fX10_does M p0 p1 p2 p3).2)) 0 0 A := by
  refine Met.ofW (cc := cX10_does) (maxL := 6) (ret := (some .int)) (by decide) rfl ?_
  intro p e s m args below meth c s₁ B hml hv
  obtain ⟨rfl, hK, hN, hA⟩ := hv
  have hx := B.exec
  have hb := B.bytes
  have hr := B.returns
  have hts := atoms_spec (ws := wsX10_does) B.pre
  have hown : s.vm.findClass RX10 = some m.cls := findClass_of_methodNamed B.named
  have hlocks := B.notSynchronized
  have S : CallFix p m c cX10_does 6 s _ wsX10_does RX10 := ⟨hx, hb, hml, hown, hts⟩
  have hin10 : ∀ w ∈ wsX100, w ∈ wsX10_does := (fun _ h => List.mem_cons_of_mem _ (List.mem_append_right _ (h)))
  have hS : va_S A s.heap s.heap [] := va_S.rf
  have hl := lv_entry ([.ref (ad 0 0), .int p0, .int p1, .int p2, .int p3]) (n := 6) (Nat.le_of_ble_eq_true rfl)
  rw [lg_entry_eq]
  generalize (lg_sl ([.ref (ad 0 0), .int p0, .int p1, .int p2, .int p3]) ++ List.replicate (6 - (lg_sl ([.ref (ad 0 0), .int p0, .int p1, .int p2, .int p3])).length) Slot.unset).toArray = ls at hl ⊢
  have hl : lv_has ls 6 [(0, .ref (ad 0 0)), (1, .int p0), (2, .int p1), (3, .int p2), (4, .int p3)] := hl
  refine lv_iload_n hx hb dX10_does_0 rfl (lv_at hl 1 rfl) ?_
  refine lv_iconst (v := 4) hx hb dX10_does_1 (by decide) ?_
  refine lv_icmp_lt (x := p0) (y := 4) (tgt := 11) hx hb dX10_does_2 (by decide) (fun c_1 => ?_) (fun c_1 => ?_)
  · refine lv_aload_n hx hb dX10_does_11 rfl (lv_at hl 0 rfl) ?_
    refine lv_iload_n hx hb dX10_does_12 rfl (lv_at hl 1 rfl) ?_
    refine lv_aload_n hx hb dX10_does_13 rfl (lv_at hl 0 rfl) ?_
    refine nwM_get S hK hN hin10 11 (by decide) (index := 34) (List.mem_cons_of_mem _ (List.mem_append_left _ (List.mem_append_left _ (List.mem_of_getElem? (i := 0) rfl)))) rfl (v := .ref (ad 11 0)) rfl dX10_does_14 ?_
    refine lv_iload_n hx hb dX10_does_17 rfl (lv_at hl 2 rfl) ?_
    refine lv_bipush (v := 10) hx hb dX10_does_18 (by decide) ?_
    refine nw_callS (As := [.int p1, .int 10]) (rest := [.ref (ad 11 0), .int p0, .ref (ad 0 0)]) S (kX10_modulo l p1 10 (by decide)) gX10_does_X10_modulo rfl ⟨rfl, rfl⟩ hqX10_modulo ⟨Nat.le_of_ble_eq_true rfl, Nat.le_of_ble_eq_true rfl⟩ rfl hl.1 rfl (Nat.le_of_ble_eq_true rfl) dX10_does_20 ⟨Nat.le_of_ble_eq_true rfl, Nat.le_of_ble_eq_true rfl⟩ ?_
    refine nw_iald S hK hN (k := 11) (i := 0) ⟨rfl, rfl⟩ rfl (x := fX10_modulo p1 10) (mod_in10 p1) dX10_does_23 ?_
    refine lv_iload_n hx hb dX10_does_24 rfl (lv_at hl 3 rfl) ?_
    refine nwM_call (As := [.int p0, .int (M 11 0 ((fX10_modulo p1 10 : Int32).toNatClampNeg)), .int p2]) (rest := []) S (kX10_ofStall l D C A ad M p0 (M 11 0 ((fX10_modulo p1 10 : Int32).toNatClampNeg)) p2 (invM_stm hI p1)) gX10_does_X10_ofStall rfl ⟨rfl, rfl⟩ hqX10_ofStall ⟨Nat.le_of_ble_eq_true rfl, Nat.le_of_ble_eq_true rfl⟩ hK hN hN hA hS rfl hl.1 rfl (Nat.le_of_ble_eq_true rfl) dX10_does_25 ⟨Nat.le_of_ble_eq_true rfl, Nat.le_of_ble_eq_true rfl⟩ (fun H locs hN hS => ?_)
    have hf : fX10_does M p0 p1 p2 p3 = ((fX10_ofStall M p0 (M 11 0 ((fX10_modulo p1 10 : Int32).toNatClampNeg)) p2).1, (fX10_ofStall M p0 (M 11 0 ((fX10_modulo p1 10 : Int32).toNatClampNeg)) p2).2) := by unfold fX10_does; rw [if_pos c_1]
    exact W.iret (v := (fX10_ofStall M p0 (M 11 0 ((fX10_modulo p1 10 : Int32).toNatClampNeg)) p2).1) hx hb hr (fun t ht _ => by rw [hf]; exact nw_end hS hN ht) hS.2.2 dX10_does_28
  · refine lv_iload_n hx hb dX10_does_5 rfl (lv_at hl 1 rfl) ?_
    refine lv_bipush (v := 6) hx hb dX10_does_6 (by decide) ?_
    refine lv_icmp_ne (x := p0) (y := 6) (tgt := 29) hx hb dX10_does_8 (by decide) (fun c_2 => ?_) (fun c_2 => ?_)
    · refine lv_iload_n hx hb dX10_does_29 rfl (lv_at hl 1 rfl) ?_
      refine lv_bipush (v := 6) hx hb dX10_does_30 (by decide) ?_
      refine lv_icmp_ge (x := p0) (y := 6) (tgt := 98) hx hb dX10_does_32 (by decide) (fun c_3 => ?_) (fun c_3 => ?_)
      · refine lv_iload_n hx hb dX10_does_98 rfl (lv_at hl 1 rfl) ?_
        refine lv_bipush (v := 12) hx hb dX10_does_99 (by decide) ?_
        refine lv_icmp_ge (x := p0) (y := 12) (tgt := 119) hx hb dX10_does_101 (by decide) (fun c_4 => ?_) (fun c_4 => ?_)
        · refine lv_iload_n hx hb dX10_does_119 rfl (lv_at hl 1 rfl) ?_
          refine lv_bipush (v := 15) hx hb dX10_does_120 (by decide) ?_
          refine lv_icmp_ge (x := p0) (y := 15) (tgt := 139) hx hb dX10_does_122 (by decide) (fun c_5 => ?_) (fun c_5 => ?_)
          · refine lv_iload_n hx hb dX10_does_139 rfl (lv_at hl 1 rfl) ?_
            refine lv_bipush (v := 17) hx hb dX10_does_140 (by decide) ?_
            refine lv_icmp_ge (x := p0) (y := 17) (tgt := 159) hx hb dX10_does_142 (by decide) (fun c_6 => ?_) (fun c_6 => ?_)
            · refine lv_iload_n hx hb dX10_does_159 rfl (lv_at hl 2 rfl) ?_
              refine lv_bipush (v := 6) hx hb dX10_does_160 (by decide) ?_
              refine nw_callS (As := [.int p1, .int 6]) (rest := []) S (kX10_modulo l p1 6 (by decide)) gX10_does_X10_modulo rfl ⟨rfl, rfl⟩ hqX10_modulo ⟨Nat.le_of_ble_eq_true rfl, Nat.le_of_ble_eq_true rfl⟩ rfl hl.1 rfl (Nat.le_of_ble_eq_true rfl) dX10_does_162 ⟨Nat.le_of_ble_eq_true rfl, Nat.le_of_ble_eq_true rfl⟩ ?_
              refine lv_istore (lv' := [(5, .int (fX10_modulo p1 6)), (0, .ref (ad 0 0)), (1, .int p0), (2, .int p1), (3, .int p2), (4, .int p3)]) hx hb dX10_does_165 hl (by decide) rfl (fun ls hl => ?_)
              refine lv_aload_n hx hb dX10_does_167 rfl (lv_at hl 1 rfl) ?_
              refine nwM_get S hK hN hin10 22 (by decide) (index := 68) (List.mem_cons_of_mem _ (List.mem_append_left _ (List.mem_append_left _ (List.mem_of_getElem? (i := 3) rfl)))) rfl (v := .ref (ad 22 0)) rfl dX10_does_168 ?_
              refine lv_iload hx hb dX10_does_171 (lv_at hl 0 rfl) ?_
              refine nw_zald S hK hN (k := 22) (i := 0) ⟨rfl, rfl⟩ rfl (x := fX10_modulo p1 6) (mod_in6 p1) dX10_does_173 ?_
              refine lv_if_ne (x := M 22 0 ((fX10_modulo p1 6 : Int32).toNatClampNeg)) (tgt := 179) hx hb dX10_does_174 (by decide) (fun c_7 => ?_) (fun c_7 => ?_)
              · refine lv_aload_n hx hb dX10_does_179 rfl (lv_at hl 1 rfl) ?_
                refine lv_aload_n hx hb dX10_does_180 rfl (lv_at hl 1 rfl) ?_
                refine nwM_get S hK hN hin10 23 (by decide) (index := 71) (List.mem_cons_of_mem _ (List.mem_append_left _ (List.mem_append_left _ (List.mem_of_getElem? (i := 4) rfl)))) rfl (v := .ref (ad 23 0)) rfl dX10_does_181 ?_
                refine lv_iload hx hb dX10_does_184 (lv_at hl 0 rfl) ?_
                refine nw_iald S hK hN (k := 23) (i := 0) ⟨rfl, rfl⟩ rfl (x := fX10_modulo p1 6) (mod_in6 p1) dX10_does_186 ?_
                refine nwM_call (As := [.int (M 23 0 ((fX10_modulo p1 6 : Int32).toNatClampNeg))]) (rest := []) S (kX10_come l D C A ad M (M 23 0 ((fX10_modulo p1 6 : Int32).toNatClampNeg)) ) gX10_does_X10_come rfl ⟨rfl, rfl⟩ hqX10_come ⟨Nat.le_of_ble_eq_true rfl, Nat.le_of_ble_eq_true rfl⟩ hK hN hN hA hS rfl hl.1 rfl (Nat.le_of_ble_eq_true rfl) dX10_does_187 ⟨Nat.le_of_ble_eq_true rfl, Nat.le_of_ble_eq_true rfl⟩ (fun H locs hN hS => ?_)
                refine lv_pop hx hb dX10_does_190 rfl ?_
                refine lv_bipush (v := 6) hx hb dX10_does_191 (by decide) ?_
                have hf : fX10_does M p0 p1 p2 p3 = (6, u3 M 0 0 34 (M 23 0 ((fX10_modulo p1 6 : Int32).toNatClampNeg))) := by unfold fX10_does; rw [if_neg c_1, if_neg c_2, if_pos c_3, if_pos c_4, if_pos c_5, if_pos c_6, if_neg c_7]
                exact W.iret (v := 6) hx hb hr (fun t ht _ => by rw [hf]; exact nw_end hS hN ht) hS.2.2 dX10_does_193
              · refine lv_iconst (v := 1) hx hb dX10_does_177 (by decide) ?_
                have hf : fX10_does M p0 p1 p2 p3 = (1, M) := by unfold fX10_does; rw [if_neg c_1, if_neg c_2, if_pos c_3, if_pos c_4, if_pos c_5, if_pos c_6, if_pos c_7]
                exact W.iret (v := 1) hx hb hr (fun t ht _ => by rw [hf]; exact nw_end hS hN ht) hS.2.2 dX10_does_178
            · refine lv_aload_n hx hb dX10_does_145 rfl (lv_at hl 0 rfl) ?_
              refine lv_iload_n hx hb dX10_does_146 rfl (lv_at hl 1 rfl) ?_
              refine lv_iload_n hx hb dX10_does_147 rfl (lv_at hl 2 rfl) ?_
              refine lv_iconst (v := 4) hx hb dX10_does_148 (by decide) ?_
              refine nw_callS (As := [.int p1, .int 4]) (rest := [.int p0, .ref (ad 0 0)]) S (kX10_modulo l p1 4 (by decide)) gX10_does_X10_modulo rfl ⟨rfl, rfl⟩ hqX10_modulo ⟨Nat.le_of_ble_eq_true rfl, Nat.le_of_ble_eq_true rfl⟩ rfl hl.1 rfl (Nat.le_of_ble_eq_true rfl) dX10_does_149 ⟨Nat.le_of_ble_eq_true rfl, Nat.le_of_ble_eq_true rfl⟩ ?_
              refine lv_iload_n hx hb dX10_does_152 rfl (lv_at hl 3 rfl) ?_
              refine lv_iload hx hb dX10_does_153 (lv_at hl 4 rfl) ?_
              refine nwM_call (As := [.int p0, .int (fX10_modulo p1 4), .int p2, .int p3]) (rest := []) S (kX10_ofTable l D C A ad M p0 (fX10_modulo p1 4) p2 p3 kk hI (mod_in4 p1)) gX10_does_X10_ofTable rfl ⟨rfl, rfl⟩ hqX10_ofTable ⟨Nat.le_of_ble_eq_true rfl, Nat.le_of_ble_eq_true rfl⟩ hK hN hN hA hS rfl hl.1 rfl (Nat.le_of_ble_eq_true rfl) dX10_does_155 ⟨Nat.le_of_ble_eq_true rfl, Nat.le_of_ble_eq_true rfl⟩ (fun H locs hN hS => ?_)
              have hf : fX10_does M p0 p1 p2 p3 = ((fX10_ofTable M p0 (fX10_modulo p1 4) p2 p3).1, (fX10_ofTable M p0 (fX10_modulo p1 4) p2 p3).2) := by unfold fX10_does; rw [if_neg c_1, if_neg c_2, if_pos c_3, if_pos c_4, if_pos c_5, if_neg c_6]
              exact W.iret (v := (fX10_ofTable M p0 (fX10_modulo p1 4) p2 p3).1) hx hb hr (fun t ht _ => by rw [hf]; exact nw_end hS hN ht) hS.2.2 dX10_does_158
          · refine lv_aload_n hx hb dX10_does_125 rfl (lv_at hl 0 rfl) ?_
            refine lv_iload_n hx hb dX10_does_126 rfl (lv_at hl 1 rfl) ?_
            refine lv_iload_n hx hb dX10_does_127 rfl (lv_at hl 2 rfl) ?_
            refine lv_iconst (v := 4) hx hb dX10_does_128 (by decide) ?_
            refine nw_callS (As := [.int p1, .int 4]) (rest := [.int p0, .ref (ad 0 0)]) S (kX10_modulo l p1 4 (by decide)) gX10_does_X10_modulo rfl ⟨rfl, rfl⟩ hqX10_modulo ⟨Nat.le_of_ble_eq_true rfl, Nat.le_of_ble_eq_true rfl⟩ rfl hl.1 rfl (Nat.le_of_ble_eq_true rfl) dX10_does_129 ⟨Nat.le_of_ble_eq_true rfl, Nat.le_of_ble_eq_true rfl⟩ ?_
            refine lv_iload_n hx hb dX10_does_132 rfl (lv_at hl 3 rfl) ?_
            refine lv_iload hx hb dX10_does_133 (lv_at hl 4 rfl) ?_
            refine nwM_call (As := [.int p0, .int (fX10_modulo p1 4), .int p2, .int p3]) (rest := []) S (kX10_ofLedger l D C A ad M p0 (fX10_modulo p1 4) p2 p3 kk hI (mod_in4 p1)) gX10_does_X10_ofLedger rfl ⟨rfl, rfl⟩ hqX10_ofLedger ⟨Nat.le_of_ble_eq_true rfl, Nat.le_of_ble_eq_true rfl⟩ hK hN hN hA hS rfl hl.1 rfl (Nat.le_of_ble_eq_true rfl) dX10_does_135 ⟨Nat.le_of_ble_eq_true rfl, Nat.le_of_ble_eq_true rfl⟩ (fun H locs hN hS => ?_)
            have hf : fX10_does M p0 p1 p2 p3 = ((fX10_ofLedger M p0 (fX10_modulo p1 4) p2 p3).1, (fX10_ofLedger M p0 (fX10_modulo p1 4) p2 p3).2) := by unfold fX10_does; rw [if_neg c_1, if_neg c_2, if_pos c_3, if_pos c_4, if_neg c_5]
            exact W.iret (v := (fX10_ofLedger M p0 (fX10_modulo p1 4) p2 p3).1) hx hb hr (fun t ht _ => by rw [hf]; exact nw_end hS hN ht) hS.2.2 dX10_does_138
        · refine lv_aload_n hx hb dX10_does_104 rfl (lv_at hl 0 rfl) ?_
          refine lv_iload_n hx hb dX10_does_105 rfl (lv_at hl 1 rfl) ?_
          refine lv_iload_n hx hb dX10_does_106 rfl (lv_at hl 2 rfl) ?_
          refine lv_bipush (v := 6) hx hb dX10_does_107 (by decide) ?_
          refine nw_callS (As := [.int p1, .int 6]) (rest := [.int p0, .ref (ad 0 0)]) S (kX10_modulo l p1 6 (by decide)) gX10_does_X10_modulo rfl ⟨rfl, rfl⟩ hqX10_modulo ⟨Nat.le_of_ble_eq_true rfl, Nat.le_of_ble_eq_true rfl⟩ rfl hl.1 rfl (Nat.le_of_ble_eq_true rfl) dX10_does_109 ⟨Nat.le_of_ble_eq_true rfl, Nat.le_of_ble_eq_true rfl⟩ ?_
          refine lv_iload_n hx hb dX10_does_112 rfl (lv_at hl 3 rfl) ?_
          refine lv_iload hx hb dX10_does_113 (lv_at hl 4 rfl) ?_
          refine nwM_call (As := [.int p0, .int (fX10_modulo p1 6), .int p2, .int p3]) (rest := []) S (kX10_ofTeam l D C A ad M p0 (fX10_modulo p1 6) p2 p3 kk hI (mod_in6 p1)) gX10_does_X10_ofTeam rfl ⟨rfl, rfl⟩ hqX10_ofTeam ⟨Nat.le_of_ble_eq_true rfl, Nat.le_of_ble_eq_true rfl⟩ hK hN hN hA hS rfl hl.1 rfl (Nat.le_of_ble_eq_true rfl) dX10_does_115 ⟨Nat.le_of_ble_eq_true rfl, Nat.le_of_ble_eq_true rfl⟩ (fun H locs hN hS => ?_)
          have hf : fX10_does M p0 p1 p2 p3 = ((fX10_ofTeam M p0 (fX10_modulo p1 6) p2 p3).1, (fX10_ofTeam M p0 (fX10_modulo p1 6) p2 p3).2) := by unfold fX10_does; rw [if_neg c_1, if_neg c_2, if_pos c_3, if_neg c_4]
          exact W.iret (v := (fX10_ofTeam M p0 (fX10_modulo p1 6) p2 p3).1) hx hb hr (fun t ht _ => by rw [hf]; exact nw_end hS hN ht) hS.2.2 dX10_does_118
      · refine lv_aload_n hx hb dX10_does_35 rfl (lv_at hl 0 rfl) ?_
        refine nwM_get S hK hN hin10 12 (by decide) (index := 37) (List.mem_cons_of_mem _ (List.mem_append_left _ (List.mem_append_left _ (List.mem_of_getElem? (i := 1) rfl)))) rfl (v := .ref (ad 12 0)) rfl dX10_does_36 ?_
        refine lv_iload_n hx hb dX10_does_39 rfl (lv_at hl 2 rfl) ?_
        refine lv_bipush (v := 6) hx hb dX10_does_40 (by decide) ?_
        refine nw_callS (As := [.int p1, .int 6]) (rest := [.ref (ad 12 0)]) S (kX10_modulo l p1 6 (by decide)) gX10_does_X10_modulo rfl ⟨rfl, rfl⟩ hqX10_modulo ⟨Nat.le_of_ble_eq_true rfl, Nat.le_of_ble_eq_true rfl⟩ rfl hl.1 rfl (Nat.le_of_ble_eq_true rfl) dX10_does_42 ⟨Nat.le_of_ble_eq_true rfl, Nat.le_of_ble_eq_true rfl⟩ ?_
        refine nw_iald S hK hN (k := 12) (i := 0) ⟨rfl, rfl⟩ rfl (x := fX10_modulo p1 6) (mod_in6 p1) dX10_does_45 ?_
        refine lv_istore (lv' := [(5, .int (M 12 0 ((fX10_modulo p1 6 : Int32).toNatClampNeg))), (0, .ref (ad 0 0)), (1, .int p0), (2, .int p1), (3, .int p2), (4, .int p3)]) hx hb dX10_does_46 hl (by decide) rfl (fun ls hl => ?_)
        refine lv_iload_n hx hb dX10_does_48 rfl (lv_at hl 2 rfl) ?_
        refine lv_iconst (v := 5) hx hb dX10_does_49 (by decide) ?_
        refine lv_icmp_ne (x := p0) (y := 5) (tgt := 62) hx hb dX10_does_50 (by decide) (fun c_8 => ?_) (fun c_8 => ?_)
        · refine lv_iload hx hb dX10_does_62 (lv_at hl 0 rfl) ?_
          refine lv_if_ge (x := M 12 0 ((fX10_modulo p1 6 : Int32).toNatClampNeg)) (tgt := 71) hx hb dX10_does_64 (by decide) (fun c_9 => ?_) (fun c_9 => ?_)
          · refine lv_aload_n hx hb dX10_does_71 rfl (lv_at hl 1 rfl) ?_
            refine lv_iload_n hx hb dX10_does_72 rfl (lv_at hl 2 rfl) ?_
            refine lv_iconst (v := 4) hx hb dX10_does_73 (by decide) ?_
            refine lv_icmp_ne (x := p0) (y := 4) (tgt := 87) hx hb dX10_does_74 (by decide) (fun c_10 => ?_) (fun c_10 => ?_)
            · refine lv_aload_n hx hb dX10_does_87 rfl (lv_at hl 1 rfl) ?_
              refine nwM_get S hK hN hin10 2 (by decide) (index := 13) (List.mem_cons_of_mem _ (List.mem_append_left _ (List.mem_append_left _ (List.mem_of_getElem? (i := 2) rfl)))) rfl (v := .ref (ad 2 0)) rfl dX10_does_88 ?_
              refine lv_iload hx hb dX10_does_91 (lv_at hl 0 rfl) ?_
              refine nw_iald S hK hN (k := 2) (i := 0) ⟨rfl, rfl⟩ rfl (x := M 12 0 ((fX10_modulo p1 6 : Int32).toNatClampNeg)) (False.elim (no45 c_1 c_3 c_8 c_10)) dX10_does_93 ?_
              refine nwM_call (As := [.int (M 2 0 ((M 12 0 ((fX10_modulo p1 6 : Int32).toNatClampNeg) : Int32).toNatClampNeg))]) (rest := []) S (kX10_come l D C A ad M (M 2 0 ((M 12 0 ((fX10_modulo p1 6 : Int32).toNatClampNeg) : Int32).toNatClampNeg)) ) gX10_does_X10_come rfl ⟨rfl, rfl⟩ hqX10_come ⟨Nat.le_of_ble_eq_true rfl, Nat.le_of_ble_eq_true rfl⟩ hK hN hN hA hS rfl hl.1 rfl (Nat.le_of_ble_eq_true rfl) dX10_does_94 ⟨Nat.le_of_ble_eq_true rfl, Nat.le_of_ble_eq_true rfl⟩ (fun H locs hN hS => ?_)
              have hf : fX10_does M p0 p1 p2 p3 = (0, u3 M 0 0 34 (M 2 0 ((M 12 0 ((fX10_modulo p1 6 : Int32).toNatClampNeg) : Int32).toNatClampNeg))) := by unfold fX10_does; rw [if_neg c_1, if_neg c_2, if_neg c_3, if_neg c_8, if_pos c_9, if_neg c_10]
              exact W.iret (v := 0) hx hb hr (fun t ht _ => by rw [hf]; exact nw_end hS hN ht) hS.2.2 dX10_does_97
            · refine lv_aload_n hx hb dX10_does_77 rfl (lv_at hl 1 rfl) ?_
              refine lv_iload hx hb dX10_does_78 (lv_at hl 0 rfl) ?_
              refine lv_iload_n hx hb dX10_does_80 rfl (lv_at hl 4 rfl) ?_
              refine nwM_call (As := [.int (M 12 0 ((fX10_modulo p1 6 : Int32).toNatClampNeg)), .int p2]) (rest := [.ref (ad 0 0)]) S (kX10_work l D C A ad M (M 12 0 ((fX10_modulo p1 6 : Int32).toNatClampNeg)) p2 (invM_shw hI p1) (invM_shh hI p1 c_9)) gX10_does_X10_work rfl ⟨rfl, rfl⟩ hqX10_work ⟨Nat.le_of_ble_eq_true rfl, Nat.le_of_ble_eq_true rfl⟩ hK hN hN hA hS rfl hl.1 rfl (Nat.le_of_ble_eq_true rfl) dX10_does_81 ⟨Nat.le_of_ble_eq_true rfl, Nat.le_of_ble_eq_true rfl⟩ (fun H locs hN hS => ?_)
              refine lv_goto (tgt := 94) hx hb dX10_does_84 (by decide) ?_
              refine nwM_call (As := [.int ((fX10_work M (M 12 0 ((fX10_modulo p1 6 : Int32).toNatClampNeg)) p2).1)]) (rest := []) S (kX10_come l D C A ad ((fX10_work M (M 12 0 ((fX10_modulo p1 6 : Int32).toNatClampNeg)) p2).2) ((fX10_work M (M 12 0 ((fX10_modulo p1 6 : Int32).toNatClampNeg)) p2).1) ) gX10_does_X10_come rfl ⟨rfl, rfl⟩ hqX10_come ⟨Nat.le_of_ble_eq_true rfl, Nat.le_of_ble_eq_true rfl⟩ hK hN hN hA hS rfl hl.1 rfl (Nat.le_of_ble_eq_true rfl) dX10_does_94 ⟨Nat.le_of_ble_eq_true rfl, Nat.le_of_ble_eq_true rfl⟩ (fun H locs hN hS => ?_)
              have hf : fX10_does M p0 p1 p2 p3 = (0, u3 ((fX10_work M (M 12 0 ((fX10_modulo p1 6 : Int32).toNatClampNeg)) p2).2) 0 0 34 ((fX10_work M (M 12 0 ((fX10_modulo p1 6 : Int32).toNatClampNeg)) p2).1)) := by unfold fX10_does; rw [if_neg c_1, if_neg c_2, if_neg c_3, if_neg c_8, if_pos c_9, if_pos c_10]
              exact W.iret (v := 0) hx hb hr (fun t ht _ => by rw [hf]; exact nw_end hS hN ht) hS.2.2 dX10_does_97
          · refine lv_iconst (v := 1) hx hb dX10_does_67 (by decide) ?_
            refine lv_goto (tgt := 97) hx hb dX10_does_68 (by decide) ?_
            have hf : fX10_does M p0 p1 p2 p3 = (1, M) := by unfold fX10_does; rw [if_neg c_1, if_neg c_2, if_neg c_3, if_neg c_8, if_neg c_9]
            exact W.iret (v := 1) hx hb hr (fun t ht _ => by rw [hf]; exact nw_end hS hN ht) hS.2.2 dX10_does_97
        · refine lv_iload hx hb dX10_does_53 (lv_at hl 0 rfl) ?_
          refine lv_bipush (v := 100) hx hb dX10_does_55 (by decide) ?_
          refine lv_icmp_lt (x := M 12 0 ((fX10_modulo p1 6 : Int32).toNatClampNeg)) (y := 100) (tgt := 62) hx hb dX10_does_57 (by decide) (fun c_11 => ?_) (fun c_11 => ?_)
          · refine lv_iload hx hb dX10_does_62 (lv_at hl 0 rfl) ?_
            refine lv_if_ge (x := M 12 0 ((fX10_modulo p1 6 : Int32).toNatClampNeg)) (tgt := 71) hx hb dX10_does_64 (by decide) (fun c_12 => ?_) (fun c_12 => ?_)
            · refine lv_aload_n hx hb dX10_does_71 rfl (lv_at hl 1 rfl) ?_
              refine lv_iload_n hx hb dX10_does_72 rfl (lv_at hl 2 rfl) ?_
              refine lv_iconst (v := 4) hx hb dX10_does_73 (by decide) ?_
              refine lv_icmp_ne (x := p0) (y := 4) (tgt := 87) hx hb dX10_does_74 (by decide) (fun c_13 => ?_) (fun c_13 => ?_)
              · refine lv_aload_n hx hb dX10_does_87 rfl (lv_at hl 1 rfl) ?_
                refine nwM_get S hK hN hin10 2 (by decide) (index := 13) (List.mem_cons_of_mem _ (List.mem_append_left _ (List.mem_append_left _ (List.mem_of_getElem? (i := 2) rfl)))) rfl (v := .ref (ad 2 0)) rfl dX10_does_88 ?_
                refine lv_iload hx hb dX10_does_91 (lv_at hl 0 rfl) ?_
                refine nw_iald S hK hN (k := 2) (i := 0) ⟨rfl, rfl⟩ rfl (x := M 12 0 ((fX10_modulo p1 6 : Int32).toNatClampNeg)) (invM_shs hI p1 c_12 c_11) dX10_does_93 ?_
                refine nwM_call (As := [.int (M 2 0 ((M 12 0 ((fX10_modulo p1 6 : Int32).toNatClampNeg) : Int32).toNatClampNeg))]) (rest := []) S (kX10_come l D C A ad M (M 2 0 ((M 12 0 ((fX10_modulo p1 6 : Int32).toNatClampNeg) : Int32).toNatClampNeg)) ) gX10_does_X10_come rfl ⟨rfl, rfl⟩ hqX10_come ⟨Nat.le_of_ble_eq_true rfl, Nat.le_of_ble_eq_true rfl⟩ hK hN hN hA hS rfl hl.1 rfl (Nat.le_of_ble_eq_true rfl) dX10_does_94 ⟨Nat.le_of_ble_eq_true rfl, Nat.le_of_ble_eq_true rfl⟩ (fun H locs hN hS => ?_)
                have hf : fX10_does M p0 p1 p2 p3 = (0, u3 M 0 0 34 (M 2 0 ((M 12 0 ((fX10_modulo p1 6 : Int32).toNatClampNeg) : Int32).toNatClampNeg))) := by unfold fX10_does; rw [if_neg c_1, if_neg c_2, if_neg c_3, if_pos c_8, if_pos c_11, if_pos c_12, if_neg c_13]
                exact W.iret (v := 0) hx hb hr (fun t ht _ => by rw [hf]; exact nw_end hS hN ht) hS.2.2 dX10_does_97
              · refine lv_aload_n hx hb dX10_does_77 rfl (lv_at hl 1 rfl) ?_
                refine lv_iload hx hb dX10_does_78 (lv_at hl 0 rfl) ?_
                refine lv_iload_n hx hb dX10_does_80 rfl (lv_at hl 4 rfl) ?_
                refine nwM_call (As := [.int (M 12 0 ((fX10_modulo p1 6 : Int32).toNatClampNeg)), .int p2]) (rest := [.ref (ad 0 0)]) S (kX10_work l D C A ad M (M 12 0 ((fX10_modulo p1 6 : Int32).toNatClampNeg)) p2 (invM_shw hI p1) (invM_shh hI p1 c_12)) gX10_does_X10_work rfl ⟨rfl, rfl⟩ hqX10_work ⟨Nat.le_of_ble_eq_true rfl, Nat.le_of_ble_eq_true rfl⟩ hK hN hN hA hS rfl hl.1 rfl (Nat.le_of_ble_eq_true rfl) dX10_does_81 ⟨Nat.le_of_ble_eq_true rfl, Nat.le_of_ble_eq_true rfl⟩ (fun H locs hN hS => ?_)
                refine lv_goto (tgt := 94) hx hb dX10_does_84 (by decide) ?_
                refine nwM_call (As := [.int ((fX10_work M (M 12 0 ((fX10_modulo p1 6 : Int32).toNatClampNeg)) p2).1)]) (rest := []) S (kX10_come l D C A ad ((fX10_work M (M 12 0 ((fX10_modulo p1 6 : Int32).toNatClampNeg)) p2).2) ((fX10_work M (M 12 0 ((fX10_modulo p1 6 : Int32).toNatClampNeg)) p2).1) ) gX10_does_X10_come rfl ⟨rfl, rfl⟩ hqX10_come ⟨Nat.le_of_ble_eq_true rfl, Nat.le_of_ble_eq_true rfl⟩ hK hN hN hA hS rfl hl.1 rfl (Nat.le_of_ble_eq_true rfl) dX10_does_94 ⟨Nat.le_of_ble_eq_true rfl, Nat.le_of_ble_eq_true rfl⟩ (fun H locs hN hS => ?_)
                have hf : fX10_does M p0 p1 p2 p3 = (0, u3 ((fX10_work M (M 12 0 ((fX10_modulo p1 6 : Int32).toNatClampNeg)) p2).2) 0 0 34 ((fX10_work M (M 12 0 ((fX10_modulo p1 6 : Int32).toNatClampNeg)) p2).1)) := by unfold fX10_does; rw [if_neg c_1, if_neg c_2, if_neg c_3, if_pos c_8, if_pos c_11, if_pos c_12, if_pos c_13]
                exact W.iret (v := 0) hx hb hr (fun t ht _ => by rw [hf]; exact nw_end hS hN ht) hS.2.2 dX10_does_97
            · refine lv_iconst (v := 1) hx hb dX10_does_67 (by decide) ?_
              refine lv_goto (tgt := 97) hx hb dX10_does_68 (by decide) ?_
              have hf : fX10_does M p0 p1 p2 p3 = (1, M) := by unfold fX10_does; rw [if_neg c_1, if_neg c_2, if_neg c_3, if_pos c_8, if_pos c_11, if_neg c_12]
              exact W.iret (v := 1) hx hb hr (fun t ht _ => by rw [hf]; exact nw_end hS hN ht) hS.2.2 dX10_does_97
          · refine lv_iconst (v := 3) hx hb dX10_does_60 (by decide) ?_
            have hf : fX10_does M p0 p1 p2 p3 = (3, M) := by unfold fX10_does; rw [if_neg c_1, if_neg c_2, if_neg c_3, if_pos c_8, if_neg c_11]
            exact W.iret (v := 3) hx hb hr (fun t ht _ => by rw [hf]; exact nw_end hS hN ht) hS.2.2 dX10_does_61
    · refine lv_aload_n hx hb dX10_does_11 rfl (lv_at hl 0 rfl) ?_
      refine lv_iload_n hx hb dX10_does_12 rfl (lv_at hl 1 rfl) ?_
      refine lv_aload_n hx hb dX10_does_13 rfl (lv_at hl 0 rfl) ?_
      refine nwM_get S hK hN hin10 11 (by decide) (index := 34) (List.mem_cons_of_mem _ (List.mem_append_left _ (List.mem_append_left _ (List.mem_of_getElem? (i := 0) rfl)))) rfl (v := .ref (ad 11 0)) rfl dX10_does_14 ?_
      refine lv_iload_n hx hb dX10_does_17 rfl (lv_at hl 2 rfl) ?_
      refine lv_bipush (v := 10) hx hb dX10_does_18 (by decide) ?_
      refine nw_callS (As := [.int p1, .int 10]) (rest := [.ref (ad 11 0), .int p0, .ref (ad 0 0)]) S (kX10_modulo l p1 10 (by decide)) gX10_does_X10_modulo rfl ⟨rfl, rfl⟩ hqX10_modulo ⟨Nat.le_of_ble_eq_true rfl, Nat.le_of_ble_eq_true rfl⟩ rfl hl.1 rfl (Nat.le_of_ble_eq_true rfl) dX10_does_20 ⟨Nat.le_of_ble_eq_true rfl, Nat.le_of_ble_eq_true rfl⟩ ?_
      refine nw_iald S hK hN (k := 11) (i := 0) ⟨rfl, rfl⟩ rfl (x := fX10_modulo p1 10) (mod_in10 p1) dX10_does_23 ?_
      refine lv_iload_n hx hb dX10_does_24 rfl (lv_at hl 3 rfl) ?_
      refine nwM_call (As := [.int p0, .int (M 11 0 ((fX10_modulo p1 10 : Int32).toNatClampNeg)), .int p2]) (rest := []) S (kX10_ofStall l D C A ad M p0 (M 11 0 ((fX10_modulo p1 10 : Int32).toNatClampNeg)) p2 (invM_stm hI p1)) gX10_does_X10_ofStall rfl ⟨rfl, rfl⟩ hqX10_ofStall ⟨Nat.le_of_ble_eq_true rfl, Nat.le_of_ble_eq_true rfl⟩ hK hN hN hA hS rfl hl.1 rfl (Nat.le_of_ble_eq_true rfl) dX10_does_25 ⟨Nat.le_of_ble_eq_true rfl, Nat.le_of_ble_eq_true rfl⟩ (fun H locs hN hS => ?_)
      have hf : fX10_does M p0 p1 p2 p3 = ((fX10_ofStall M p0 (M 11 0 ((fX10_modulo p1 10 : Int32).toNatClampNeg)) p2).1, (fX10_ofStall M p0 (M 11 0 ((fX10_modulo p1 10 : Int32).toNatClampNeg)) p2).2) := by unfold fX10_does; rw [if_neg c_1, if_pos c_2]
      exact W.iret (v := (fX10_ofStall M p0 (M 11 0 ((fX10_modulo p1 10 : Int32).toNatClampNeg)) p2).1) hx hb hr (fun t ht _ => by rw [hf]; exact nw_end hS hN ht) hS.2.2 dX10_does_28
set_option maxHeartbeats 4000000 in
set_option maxRecDepth 100000 in
theorem kX10_attempt (l : Launch) (D : va_G) (C : Nat → ClassId) (A : Nat → Prop) (ad : Nat → Nat → Nat) (M : Nat → Nat → Nat → Int32) (p0 p1 p2 p3 : Int32) (kk : Nat) (hI : InvM kk M) : Met l yX10_attempt wsX10_attempt ({ frames := 4, cells := 0, slots := 0, locals := 98 }) (va_Pc [.ref (ad 0 0), .int p0, .int p1, .int p2, .int p3] (PW D C A (nw D (enM C) domM A ad M))) (nQ A (some (.int (fX10_attempt M p0 p1 p2 p3).1)) (nw D (enM C) domM A ad (fX10_attempt M p0 p1 p2 p3).2)) 0 0 A := by
  refine Met.ofW (cc := cX10_attempt) (maxL := 6) (ret := (some .int)) (by decide) rfl ?_
  intro p e s m args below meth c s₁ B hml hv
  obtain ⟨rfl, hK, hN, hA⟩ := hv
  have hx := B.exec
  have hb := B.bytes
  have hr := B.returns
  have hts := atoms_spec (ws := wsX10_attempt) B.pre
  have hown : s.vm.findClass RX10 = some m.cls := findClass_of_methodNamed B.named
  have hlocks := B.notSynchronized
  have S : CallFix p m c cX10_attempt 6 s _ wsX10_attempt RX10 := ⟨hx, hb, hml, hown, hts⟩
  have hin10 : ∀ w ∈ wsX100, w ∈ wsX10_attempt := (fun _ h => List.mem_cons_of_mem _ (List.mem_append_right _ (h)))
  have hS : va_S A s.heap s.heap [] := va_S.rf
  have hl := lv_entry ([.ref (ad 0 0), .int p0, .int p1, .int p2, .int p3]) (n := 6) (Nat.le_of_ble_eq_true rfl)
  rw [lg_entry_eq]
  generalize (lg_sl ([.ref (ad 0 0), .int p0, .int p1, .int p2, .int p3]) ++ List.replicate (6 - (lg_sl ([.ref (ad 0 0), .int p0, .int p1, .int p2, .int p3])).length) Slot.unset).toArray = ls at hl ⊢
  have hl : lv_has ls 6 [(0, .ref (ad 0 0)), (1, .int p0), (2, .int p1), (3, .int p2), (4, .int p3)] := hl
  refine lv_aload_n hx hb dX10_attempt_0 rfl (lv_at hl 0 rfl) ?_
  refine lv_iload_n hx hb dX10_attempt_1 rfl (lv_at hl 1 rfl) ?_
  refine lv_iload_n hx hb dX10_attempt_2 rfl (lv_at hl 2 rfl) ?_
  refine lv_iload_n hx hb dX10_attempt_3 rfl (lv_at hl 3 rfl) ?_
  refine lv_iload hx hb dX10_attempt_4 (lv_at hl 4 rfl) ?_
  refine nwM_call (As := [.int p0, .int p1, .int p2, .int p3]) (rest := []) S (kX10_does l D C A ad M p0 p1 p2 p3 kk hI) gX10_attempt_X10_does rfl ⟨rfl, rfl⟩ hqX10_does ⟨Nat.le_of_ble_eq_true rfl, Nat.le_of_ble_eq_true rfl⟩ hK hN hN hA hS rfl hl.1 rfl (Nat.le_of_ble_eq_true rfl) dX10_attempt_6 ⟨Nat.le_of_ble_eq_true rfl, Nat.le_of_ble_eq_true rfl⟩ (fun H locs hN hS => ?_)
  refine lv_istore (lv' := [(5, .int ((fX10_does M p0 p1 p2 p3).1)), (0, .ref (ad 0 0)), (1, .int p0), (2, .int p1), (3, .int p2), (4, .int p3)]) hx hb dX10_attempt_9 hl (by decide) rfl (fun ls hl => ?_)
  refine lv_aload_n hx hb dX10_attempt_11 rfl (lv_at hl 1 rfl) ?_
  refine lv_iload hx hb dX10_attempt_12 (lv_at hl 0 rfl) ?_
  refine jn_i (V := (if ((fX10_does M p0 p1 p2 p3).1) = 0 then ((fX10_does M p0 p1 p2 p3).2) 0 0 34 else (if ((fX10_does M p0 p1 p2 p3).1) = 6 then ((fX10_does M p0 p1 p2 p3).2) 0 0 34 else ((fX10_does M p0 p1 p2 p3).2) 0 0 33))) (pc' := 35) (ls := ls) (rest := [.ref (ad 0 0)]) (fun jv hv_2 => ?_) (fun hj_1 => ?_)
  · subst hv_2
    refine nwM_put S hK hN hS hin10 33 (by decide) (index := 158) (List.mem_cons_of_mem _ (List.mem_append_left _ (List.mem_append_left _ (List.mem_of_getElem? (i := 1) rfl)))) rfl rfl rfl (if ((fX10_does M p0 p1 p2 p3).1) = 0 then ((fX10_does M p0 p1 p2 p3).2) 0 0 34 else (if ((fX10_does M p0 p1 p2 p3).1) = 6 then ((fX10_does M p0 p1 p2 p3).2) 0 0 34 else ((fX10_does M p0 p1 p2 p3).2) 0 0 33)) (obM_33 _ _ _) dX10_attempt_35 (fun H locs hN hz hS => ?_)
    refine lv_aload_n hx hb dX10_attempt_38 rfl (lv_at hl 1 rfl) ?_
    refine nwM_get S hK hN hin10 32 (by decide) (index := 92) (List.mem_cons_of_mem _ (List.mem_append_left _ (List.mem_append_left _ (List.mem_of_getElem? (i := 2) rfl)))) rfl (v := .ref (ad 32 0)) rfl dX10_attempt_39 ?_
    refine lv_iload hx hb dX10_attempt_42 (lv_at hl 0 rfl) ?_
    refine lv_dup2_11 hx hb dX10_attempt_44 rfl rfl ?_
    refine nw_iald S hK hN (k := 32) (i := 0) ⟨rfl, rfl⟩ rfl (x := (fX10_does M p0 p1 p2 p3).1) (does_rng _ _ _ _ _) dX10_attempt_45 ?_
    refine lv_iconst (v := 1) hx hb dX10_attempt_46 (by decide) ?_
    refine lv_iadd hx hb dX10_attempt_47 ?_
    refine nw_iast S hK hN hS (k := 32) (i := 0) ⟨rfl, rfl⟩ (fun _ => rfl) (x := (fX10_does M p0 p1 p2 p3).1) (v := (((fX10_does M p0 p1 p2 p3).2) 32 0 (((fX10_does M p0 p1 p2 p3).1 : Int32).toNatClampNeg)) + 1) (does_rng _ _ _ _ _) dX10_attempt_48 (fun H locs hN hz hS => ?_)
    refine lv_iload hx hb dX10_attempt_49 (lv_at hl 0 rfl) ?_
    have hf : fX10_attempt M p0 p1 p2 p3 = ((fX10_does M p0 p1 p2 p3).1, u3 (u3 ((fX10_does M p0 p1 p2 p3).2) 0 0 33 (if ((fX10_does M p0 p1 p2 p3).1) = 0 then ((fX10_does M p0 p1 p2 p3).2) 0 0 34 else (if ((fX10_does M p0 p1 p2 p3).1) = 6 then ((fX10_does M p0 p1 p2 p3).2) 0 0 34 else ((fX10_does M p0 p1 p2 p3).2) 0 0 33))) 32 0 (((fX10_does M p0 p1 p2 p3).1 : Int32).toNatClampNeg) ((((fX10_does M p0 p1 p2 p3).2) 32 0 (((fX10_does M p0 p1 p2 p3).1 : Int32).toNatClampNeg)) + 1)) := rfl
    exact W.iret (v := (fX10_does M p0 p1 p2 p3).1) hx hb hr (fun t ht _ => by rw [hf]; exact nw_end hS hN ht) hS.2.2 dX10_attempt_51
  · refine lv_if_eq (x := (fX10_does M p0 p1 p2 p3).1) (tgt := 24) hx hb dX10_attempt_14 (by decide) (fun c_3 => ?_) (fun c_3 => ?_)
    · refine lv_aload_n hx hb dX10_attempt_24 rfl (lv_at hl 1 rfl) ?_
      refine nwM_get S hK hN hin10 34 (by decide) (index := 115) (List.mem_cons_of_mem _ (List.mem_append_left _ (List.mem_append_left _ (List.mem_of_getElem? (i := 0) rfl)))) rfl (v := .int (((fX10_does M p0 p1 p2 p3).2) 0 0 34)) rfl dX10_attempt_25 ?_
      refine lv_goto (tgt := 35) hx hb dX10_attempt_28 (by decide) ?_
      exact hj_1 _ (by rw [if_pos c_3])
    · refine lv_iload hx hb dX10_attempt_17 (lv_at hl 0 rfl) ?_
      refine lv_bipush (v := 6) hx hb dX10_attempt_19 (by decide) ?_
      refine lv_icmp_ne (x := (fX10_does M p0 p1 p2 p3).1) (y := 6) (tgt := 31) hx hb dX10_attempt_21 (by decide) (fun c_4 => ?_) (fun c_4 => ?_)
      · refine lv_aload_n hx hb dX10_attempt_31 rfl (lv_at hl 1 rfl) ?_
        refine nwM_get S hK hN hin10 33 (by decide) (index := 158) (List.mem_cons_of_mem _ (List.mem_append_left _ (List.mem_append_left _ (List.mem_of_getElem? (i := 1) rfl)))) rfl (v := .int (((fX10_does M p0 p1 p2 p3).2) 0 0 33)) rfl dX10_attempt_32 ?_
        exact hj_1 _ (by rw [if_neg c_3, if_neg c_4])
      · refine lv_aload_n hx hb dX10_attempt_24 rfl (lv_at hl 1 rfl) ?_
        refine nwM_get S hK hN hin10 34 (by decide) (index := 115) (List.mem_cons_of_mem _ (List.mem_append_left _ (List.mem_append_left _ (List.mem_of_getElem? (i := 0) rfl)))) rfl (v := .int (((fX10_does M p0 p1 p2 p3).2) 0 0 34)) rfl dX10_attempt_25 ?_
        refine lv_goto (tgt := 35) hx hb dX10_attempt_28 (by decide) ?_
        exact hj_1 _ (by rw [if_neg c_3, if_pos c_4])
set_option maxHeartbeats 4000000 in
set_option maxRecDepth 100000 in
theorem kX10_act (l : Launch) (D : va_G) (C : Nat → ClassId) (A : Nat → Prop) (ad : Nat → Nat → Nat) (M : Nat → Nat → Nat → Int32) (p0 p1 p2 p3 : Int32) (kk : Nat) (hI : InvM kk M) : Met l yX10_act wsX10_act ({ frames := 5, cells := 0, slots := 0, locals := 123 }) (va_Pc [.ref (ad 0 0), .int p0, .int p1, .int p2, .int p3] (PW D C A (nw D (enM C) domM A ad M))) (nQ A (some (.int (fX10_act M p0 p1 p2 p3).1)) (nw D (enM C) domM A ad (fX10_act M p0 p1 p2 p3).2)) 0 0 A := by
  refine Met.ofW (cc := cX10_act) (maxL := 6) (ret := (some .int)) (by decide) rfl ?_
  intro p e s m args below meth c s₁ B hml hv
  obtain ⟨rfl, hK, hN, hA⟩ := hv
  have hx := B.exec
  have hb := B.bytes
  have hr := B.returns
  have hts := atoms_spec (ws := wsX10_act) B.pre
  have hown : s.vm.findClass RX10 = some m.cls := findClass_of_methodNamed B.named
  have hlocks := B.notSynchronized
  have S : CallFix p m c cX10_act 6 s _ wsX10_act RX10 := ⟨hx, hb, hml, hown, hts⟩
  have hin10 : ∀ w ∈ wsX100, w ∈ wsX10_act := (fun _ h => List.mem_cons_of_mem _ (List.mem_append_right _ (h)))
  have hS : va_S A s.heap s.heap [] := va_S.rf
  have hl := lv_entry ([.ref (ad 0 0), .int p0, .int p1, .int p2, .int p3]) (n := 6) (Nat.le_of_ble_eq_true rfl)
  rw [lg_entry_eq]
  generalize (lg_sl ([.ref (ad 0 0), .int p0, .int p1, .int p2, .int p3]) ++ List.replicate (6 - (lg_sl ([.ref (ad 0 0), .int p0, .int p1, .int p2, .int p3])).length) Slot.unset).toArray = ls at hl ⊢
  have hl : lv_has ls 6 [(0, .ref (ad 0 0)), (1, .int p0), (2, .int p1), (3, .int p2), (4, .int p3)] := hl
  refine lv_iload_n hx hb dX10_act_0 rfl (lv_at hl 1 rfl) ?_
  refine lv_iconst (v := 0) hx hb dX10_act_1 (by decide) ?_
  refine lv_bipush (v := 17) hx hb dX10_act_2 (by decide) ?_
  refine nw_callS (As := [.int p0, .int 0, .int 17]) (rest := []) S (kX10_in l p0 0 17) gX10_act_X10_in rfl ⟨rfl, rfl⟩ hqX10_in ⟨Nat.le_of_ble_eq_true rfl, Nat.le_of_ble_eq_true rfl⟩ rfl hl.1 rfl (Nat.le_of_ble_eq_true rfl) dX10_act_4 ⟨Nat.le_of_ble_eq_true rfl, Nat.le_of_ble_eq_true rfl⟩ ?_
  refine lv_if_ne (x := fX10_in p0 0 17) (tgt := 13) hx hb dX10_act_7 (by decide) (fun c_1 => ?_) (fun c_1 => ?_)
  · refine lv_aload_n hx hb dX10_act_13 rfl (lv_at hl 0 rfl) ?_
    refine lv_iload_n hx hb dX10_act_14 rfl (lv_at hl 1 rfl) ?_
    refine lv_iload_n hx hb dX10_act_15 rfl (lv_at hl 2 rfl) ?_
    refine lv_iload_n hx hb dX10_act_16 rfl (lv_at hl 3 rfl) ?_
    refine lv_iload hx hb dX10_act_17 (lv_at hl 4 rfl) ?_
    refine nwM_call (As := [.int p0, .int p1, .int p2, .int p3]) (rest := []) S (kX10_attempt l D C A ad M p0 p1 p2 p3 kk hI) gX10_act_X10_attempt rfl ⟨rfl, rfl⟩ hqX10_attempt ⟨Nat.le_of_ble_eq_true rfl, Nat.le_of_ble_eq_true rfl⟩ hK hN hN hA hS rfl hl.1 rfl (Nat.le_of_ble_eq_true rfl) dX10_act_19 ⟨Nat.le_of_ble_eq_true rfl, Nat.le_of_ble_eq_true rfl⟩ (fun H locs hN hS => ?_)
    refine lv_istore (lv' := [(5, .int ((fX10_attempt M p0 p1 p2 p3).1)), (0, .ref (ad 0 0)), (1, .int p0), (2, .int p1), (3, .int p2), (4, .int p3)]) hx hb dX10_act_22 hl (by decide) rfl (fun ls hl => ?_)
    refine lv_iload hx hb dX10_act_24 (lv_at hl 0 rfl) ?_
    refine lv_if_ne (x := (fX10_attempt M p0 p1 p2 p3).1) (tgt := 33) hx hb dX10_act_26 (by decide) (fun c_2 => ?_) (fun c_2 => ?_)
    · refine lv_bipush (v := (-10)) hx hb dX10_act_33 (by decide) ?_
      refine lv_iload hx hb dX10_act_35 (lv_at hl 0 rfl) ?_
      refine lv_isub hx hb dX10_act_37 ?_
      have hf : fX10_act M p0 p1 p2 p3 = ((-10) - ((fX10_attempt M p0 p1 p2 p3).1), (fX10_attempt M p0 p1 p2 p3).2) := by unfold fX10_act; rw [if_neg c_1, if_neg c_2]
      exact W.iret (v := (-10) - ((fX10_attempt M p0 p1 p2 p3).1)) hx hb hr (fun t ht _ => by rw [hf]; exact nw_end hS hN ht) hS.2.2 dX10_act_38
    · refine lv_iconst (v := 1) hx hb dX10_act_29 (by decide) ?_
      refine lv_goto (tgt := 38) hx hb dX10_act_30 (by decide) ?_
      have hf : fX10_act M p0 p1 p2 p3 = (1, (fX10_attempt M p0 p1 p2 p3).2) := by unfold fX10_act; rw [if_neg c_1, if_pos c_2]
      exact W.iret (v := 1) hx hb hr (fun t ht _ => by rw [hf]; exact nw_end hS hN ht) hS.2.2 dX10_act_38
  · refine lv_ldc (v := (-1000000001)) hx hb hown (hts (.constant RX10 99 (-1000000001)) (List.mem_cons_of_mem _ (List.mem_append_left _ (List.mem_append_left _ (List.mem_of_getElem? (i := 0) rfl))))) dX10_act_10 ?_
    have hf : fX10_act M p0 p1 p2 p3 = ((-1000000001), M) := by unfold fX10_act; rw [if_pos c_1]
    exact W.iret (v := (-1000000001)) hx hb hr (fun t ht _ => by rw [hf]; exact nw_end hS hN ht) hS.2.2 dX10_act_12
