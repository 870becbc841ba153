set_option maxHeartbeats 4000000 in
set_option maxRecDepth 100000 in
theorem kX10_does (l : Launch) (D : va_G) (C : Nat → ClassId) (A : Nat → Prop) (ad : Nat → Nat → Nat) (M : Nat → Nat → Nat → Int32) (p0 p1 p2 p3 : Int32) (kk : Nat) (hI : InvM kk M) : Met l yX10_does wsX10_does ({ frames := 3, cells := 0, slots := 0, locals := 73 }) (va_Pc [.ref (ad 0 0), .int p0, .int p1, .int p2, .int p3] (PW D C A (nw D (enM C) domM A ad M))) (nQ A (some (.int (fX10_does M p0 p1 p2 p3).1)) (nw D (enM C) domM A ad (fX10_does M p0 p1 p2 p3).2)) 0 0 A := by
  refine Met.ofW (cc := cX10_does) (maxL := 6) (ret := (some .int)) (by decide) rfl ?_
  intro p e s m args below meth c s₁ B hml hv
  obtain ⟨rfl, hK, hN, hA⟩ := hv
  have hx := B.exec
  have hb := B.bytes
  have hr := B.returns
  have hts := atoms_spec (ws := wsX10_does) B.pre
  have hown : s.vm.findClass RX10 = some m.cls := findClass_of_methodNamed B.named
  have hlocks := B.notSynchronized
  have S : CallFix p m c cX10_does 6 s _ wsX10_does RX10 := ⟨hx, hb, hml, hown, hts⟩
  have hin10 : ∀ w ∈ wsX100, w ∈ wsX10_does := by decide +kernel
  have hS : va_S A s.heap s.heap [] := va_S.rf
  have hl := lv_entry ([.ref (ad 0 0), .int p0, .int p1, .int p2, .int p3]) (n := 6) (Nat.le_of_ble_eq_true rfl)
  rw [lg_entry_eq]
  generalize (lg_sl ([.ref (ad 0 0), .int p0, .int p1, .int p2, .int p3]) ++ List.replicate (6 - (lg_sl ([.ref (ad 0 0), .int p0, .int p1, .int p2, .int p3])).length) Slot.unset).toArray = ls at hl ⊢
  have hl : lv_has ls 6 [(0, .ref (ad 0 0)), (1, .int p0), (2, .int p1), (3, .int p2), (4, .int p3)] := hl
  refine lv_iload_n hx hb dX10_does_0 rfl (lv_at hl 1 rfl) ?_
  refine lv_iconst (v := 4) hx hb dX10_does_1 (by decide) ?_
  refine lv_icmp_lt (x := p0) (y := 4) (tgt := 11) hx hb dX10_does_2 (by decide) (fun c_1 => ?_) (fun c_1 => ?_)
  · refine lv_aload_n hx hb dX10_does_11 rfl (lv_at hl 0 rfl) ?_
    refine lv_iload_n hx hb dX10_does_12 rfl (lv_at hl 1 rfl) ?_
    refine lv_aload_n hx hb dX10_does_13 rfl (lv_at hl 0 rfl) ?_
    refine nw_get S hK hN (k := 0) (i := 0) ⟨rfl, rfl⟩ rfl rfl hin10 11 (by decide) (index := 34) (ref := "RidingYardModel") (by decide +kernel) (fun _ h => h) (v := .ref (ad 11 0)) rfl dX10_does_14 ?_
    refine lv_iload_n hx hb dX10_does_17 rfl (lv_at hl 2 rfl) ?_
    refine lv_bipush (v := 10) hx hb dX10_does_18 (by decide) ?_
    refine nw_callP (W.runS (As := [.int p1, .int 10]) (rest := [.ref (ad 11 0), .int p0, .ref (ad 0 0)]) S (kX10_modulo l p1 10 (by decide)) (va_cwS 2 hts gX10_does_X10_modulo rfl rfl rfl (by decide +kernel) ⟨Nat.le_of_ble_eq_true rfl, Nat.le_of_ble_eq_true rfl⟩) nw_preP rfl rfl hl.1 rfl (lv_room (Nat.le_of_ble_eq_true rfl)) dX10_does_20 ⟨Nat.le_of_ble_eq_true rfl, Nat.le_of_ble_eq_true rfl⟩) ?_
    refine nw_iald S hK hN (k := 11) (i := 0) ⟨rfl, rfl⟩ rfl (x := fX10_modulo p1 10) (mod_in10 p1) dX10_does_23 ?_
    refine lv_iload_n hx hb dX10_does_24 rfl (lv_at hl 3 rfl) ?_
    refine nw_calli (va_runV (As := [.int p0, .int (M 11 0 ((fX10_modulo p1 10 : Int32).toNatClampNeg)), .int p2]) (rest := []) S (kX10_ofStall l D C A ad M p0 (M 11 0 ((fX10_modulo p1 10 : Int32).toNatClampNeg)) p2 (invM_stm hI p1)) (cwV 3 hts gX10_does_X10_ofStall rfl rfl rfl (by decide +kernel) ⟨Nat.le_of_ble_eq_true rfl, Nat.le_of_ble_eq_true rfl⟩) (nw_preV hK hN hA hS (nw_recv hK hN (k := 0) (i := 0) ⟨rfl, rfl⟩ rfl rfl)) rfl rfl hl.1 rfl (lv_room (Nat.le_of_ble_eq_true rfl)) dX10_does_25 ⟨Nat.le_of_ble_eq_true rfl, Nat.le_of_ble_eq_true rfl⟩) hS (fun H locs hN hz _ hS => ?_)
    have hf : fX10_does M p0 p1 p2 p3 = ((fX10_ofStall M p0 (M 11 0 ((fX10_modulo p1 10 : Int32).toNatClampNeg)) p2).1, (fX10_ofStall M p0 (M 11 0 ((fX10_modulo p1 10 : Int32).toNatClampNeg)) p2).2) := by unfold fX10_does; rw [if_pos c_1]
    exact W.iret (v := (fX10_ofStall M p0 (M 11 0 ((fX10_modulo p1 10 : Int32).toNatClampNeg)) p2).1) hx hb hr (fun t ht _ => by rw [hf]; exact nw_end hS hN ht) hS.2.2 dX10_does_28
  · refine lv_iload_n hx hb dX10_does_5 rfl (lv_at hl 1 rfl) ?_
    refine lv_bipush (v := 6) hx hb dX10_does_6 (by decide) ?_
    refine lv_icmp_ne (x := p0) (y := 6) (tgt := 29) hx hb dX10_does_8 (by decide) (fun c_2 => ?_) (fun c_2 => ?_)
    · refine lv_iload_n hx hb dX10_does_29 rfl (lv_at hl 1 rfl) ?_
      refine lv_bipush (v := 6) hx hb dX10_does_30 (by decide) ?_
      refine lv_icmp_ge (x := p0) (y := 6) (tgt := 98) hx hb dX10_does_32 (by decide) (fun c_3 => ?_) (fun c_3 => ?_)
      · refine lv_iload_n hx hb dX10_does_98 rfl (lv_at hl 1 rfl) ?_
        refine lv_bipush (v := 12) hx hb dX10_does_99 (by decide) ?_
        refine lv_icmp_ge (x := p0) (y := 12) (tgt := 119) hx hb dX10_does_101 (by decide) (fun c_4 => ?_) (fun c_4 => ?_)
        · refine lv_iload_n hx hb dX10_does_119 rfl (lv_at hl 1 rfl) ?_
          refine lv_bipush (v := 15) hx hb dX10_does_120 (by decide) ?_
          refine lv_icmp_ge (x := p0) (y := 15) (tgt := 139) hx hb dX10_does_122 (by decide) (fun c_5 => ?_) (fun c_5 => ?_)
          · refine lv_iload_n hx hb dX10_does_139 rfl (lv_at hl 1 rfl) ?_
            refine lv_bipush (v := 17) hx hb dX10_does_140 (by decide) ?_
            refine lv_icmp_ge (x := p0) (y := 17) (tgt := 159) hx hb dX10_does_142 (by decide) (fun c_6 => ?_) (fun c_6 => ?_)
            · refine lv_iload_n hx hb dX10_does_159 rfl (lv_at hl 2 rfl) ?_
              refine lv_bipush (v := 6) hx hb dX10_does_160 (by decide) ?_
              refine nw_callP (W.runS (As := [.int p1, .int 6]) (rest := []) S (kX10_modulo l p1 6 (by decide)) (va_cwS 2 hts gX10_does_X10_modulo rfl rfl rfl (by decide +kernel) ⟨Nat.le_of_ble_eq_true rfl, Nat.le_of_ble_eq_true rfl⟩) nw_preP rfl rfl hl.1 rfl (lv_room (Nat.le_of_ble_eq_true rfl)) dX10_does_162 ⟨Nat.le_of_ble_eq_true rfl, Nat.le_of_ble_eq_true rfl⟩) ?_
              refine lv_istore (lv' := [(5, .int (fX10_modulo p1 6)), (0, .ref (ad 0 0)), (1, .int p0), (2, .int p1), (3, .int p2), (4, .int p3)]) hx hb dX10_does_165 hl (by decide) rfl (fun ls hl => ?_)
              refine lv_aload_n hx hb dX10_does_167 rfl (lv_at hl 1 rfl) ?_
              refine nw_get S hK hN (k := 0) (i := 0) ⟨rfl, rfl⟩ rfl rfl hin10 22 (by decide) (index := 68) (ref := "RidingYardModel") (by decide +kernel) (fun _ h => h) (v := .ref (ad 22 0)) rfl dX10_does_168 ?_
              refine lv_iload hx hb dX10_does_171 (lv_at hl 0 rfl) ?_
              refine nw_zald S hK hN (k := 22) (i := 0) ⟨rfl, rfl⟩ rfl (x := fX10_modulo p1 6) (mod_in6 p1) dX10_does_173 ?_
              refine lv_if_ne (x := M 22 0 ((fX10_modulo p1 6 : Int32).toNatClampNeg)) (tgt := 179) hx hb dX10_does_174 (by decide) (fun c_7 => ?_) (fun c_7 => ?_)
              · refine lv_aload_n hx hb dX10_does_179 rfl (lv_at hl 1 rfl) ?_
                refine lv_aload_n hx hb dX10_does_180 rfl (lv_at hl 1 rfl) ?_
                refine nw_get S hK hN (k := 0) (i := 0) ⟨rfl, rfl⟩ rfl rfl hin10 23 (by decide) (index := 71) (ref := "RidingYardModel") (by decide +kernel) (fun _ h => h) (v := .ref (ad 23 0)) rfl dX10_does_181 ?_
                refine lv_iload hx hb dX10_does_184 (lv_at hl 0 rfl) ?_
                refine nw_iald S hK hN (k := 23) (i := 0) ⟨rfl, rfl⟩ rfl (x := fX10_modulo p1 6) (mod_in6 p1) dX10_does_186 ?_
                refine nw_calli (va_runV (As := [.int (M 23 0 ((fX10_modulo p1 6 : Int32).toNatClampNeg))]) (rest := []) S (kX10_come l D C A ad M (M 23 0 ((fX10_modulo p1 6 : Int32).toNatClampNeg)) ) (cwV 1 hts gX10_does_X10_come rfl rfl rfl (by decide +kernel) ⟨Nat.le_of_ble_eq_true rfl, Nat.le_of_ble_eq_true rfl⟩) (nw_preV hK hN hA hS (nw_recv hK hN (k := 0) (i := 0) ⟨rfl, rfl⟩ rfl rfl)) rfl rfl hl.1 rfl (lv_room (Nat.le_of_ble_eq_true rfl)) dX10_does_187 ⟨Nat.le_of_ble_eq_true rfl, Nat.le_of_ble_eq_true rfl⟩) hS (fun H locs hN hz _ hS => ?_)
                refine lv_pop hx hb dX10_does_190 rfl ?_
                refine lv_bipush (v := 6) hx hb dX10_does_191 (by decide) ?_
                have hf : fX10_does M p0 p1 p2 p3 = (6, u3 M 0 0 34 (M 23 0 ((fX10_modulo p1 6 : Int32).toNatClampNeg))) := by unfold fX10_does; rw [if_neg c_1, if_neg c_2, if_pos c_3, if_pos c_4, if_pos c_5, if_pos c_6, if_neg c_7]
                exact W.iret (v := 6) hx hb hr (fun t ht _ => by rw [hf]; exact nw_end hS hN ht) hS.2.2 dX10_does_193
              · refine lv_iconst (v := 1) hx hb dX10_does_177 (by decide) ?_
                have hf : fX10_does M p0 p1 p2 p3 = (1, M) := by unfold fX10_does; rw [if_neg c_1, if_neg c_2, if_pos c_3, if_pos c_4, if_pos c_5, if_pos c_6, if_pos c_7]
                exact W.iret (v := 1) hx hb hr (fun t ht _ => by rw [hf]; exact nw_end hS hN ht) hS.2.2 dX10_does_178
            · refine lv_aload_n hx hb dX10_does_145 rfl (lv_at hl 0 rfl) ?_
              refine lv_iload_n hx hb dX10_does_146 rfl (lv_at hl 1 rfl) ?_
              refine lv_iload_n hx hb dX10_does_147 rfl (lv_at hl 2 rfl) ?_
              refine lv_iconst (v := 4) hx hb dX10_does_148 (by decide) ?_
              refine nw_callP (W.runS (As := [.int p1, .int 4]) (rest := [.int p0, .ref (ad 0 0)]) S (kX10_modulo l p1 4 (by decide)) (va_cwS 2 hts gX10_does_X10_modulo rfl rfl rfl (by decide +kernel) ⟨Nat.le_of_ble_eq_true rfl, Nat.le_of_ble_eq_true rfl⟩) nw_preP rfl rfl hl.1 rfl (lv_room (Nat.le_of_ble_eq_true rfl)) dX10_does_149 ⟨Nat.le_of_ble_eq_true rfl, Nat.le_of_ble_eq_true rfl⟩) ?_
              refine lv_iload_n hx hb dX10_does_152 rfl (lv_at hl 3 rfl) ?_
              refine lv_iload hx hb dX10_does_153 (lv_at hl 4 rfl) ?_
              refine nw_calli (va_runV (As := [.int p0, .int (fX10_modulo p1 4), .int p2, .int p3]) (rest := []) S (kX10_ofTable l D C A ad M p0 (fX10_modulo p1 4) p2 p3 kk hI (mod_in4 p1)) (cwV 4 hts gX10_does_X10_ofTable rfl rfl rfl (by decide +kernel) ⟨Nat.le_of_ble_eq_true rfl, Nat.le_of_ble_eq_true rfl⟩) (nw_preV hK hN hA hS (nw_recv hK hN (k := 0) (i := 0) ⟨rfl, rfl⟩ rfl rfl)) rfl rfl hl.1 rfl (lv_room (Nat.le_of_ble_eq_true rfl)) dX10_does_155 ⟨Nat.le_of_ble_eq_true rfl, Nat.le_of_ble_eq_true rfl⟩) hS (fun H locs hN hz _ hS => ?_)
              have hf : fX10_does M p0 p1 p2 p3 = ((fX10_ofTable M p0 (fX10_modulo p1 4) p2 p3).1, (fX10_ofTable M p0 (fX10_modulo p1 4) p2 p3).2) := by unfold fX10_does; rw [if_neg c_1, if_neg c_2, if_pos c_3, if_pos c_4, if_pos c_5, if_neg c_6]
              exact W.iret (v := (fX10_ofTable M p0 (fX10_modulo p1 4) p2 p3).1) hx hb hr (fun t ht _ => by rw [hf]; exact nw_end hS hN ht) hS.2.2 dX10_does_158
          · refine lv_aload_n hx hb dX10_does_125 rfl (lv_at hl 0 rfl) ?_
            refine lv_iload_n hx hb dX10_does_126 rfl (lv_at hl 1 rfl) ?_
            refine lv_iload_n hx hb dX10_does_127 rfl (lv_at hl 2 rfl) ?_
            refine lv_iconst (v := 4) hx hb dX10_does_128 (by decide) ?_
            refine nw_callP (W.runS (As := [.int p1, .int 4]) (rest := [.int p0, .ref (ad 0 0)]) S (kX10_modulo l p1 4 (by decide)) (va_cwS 2 hts gX10_does_X10_modulo rfl rfl rfl (by decide +kernel) ⟨Nat.le_of_ble_eq_true rfl, Nat.le_of_ble_eq_true rfl⟩) nw_preP rfl rfl hl.1 rfl (lv_room (Nat.le_of_ble_eq_true rfl)) dX10_does_129 ⟨Nat.le_of_ble_eq_true rfl, Nat.le_of_ble_eq_true rfl⟩) ?_
            refine lv_iload_n hx hb dX10_does_132 rfl (lv_at hl 3 rfl) ?_
            refine lv_iload hx hb dX10_does_133 (lv_at hl 4 rfl) ?_
            refine nw_calli (va_runV (As := [.int p0, .int (fX10_modulo p1 4), .int p2, .int p3]) (rest := []) S (kX10_ofLedger l D C A ad M p0 (fX10_modulo p1 4) p2 p3 kk hI (mod_in4 p1)) (cwV 4 hts gX10_does_X10_ofLedger rfl rfl rfl (by decide +kernel) ⟨Nat.le_of_ble_eq_true rfl, Nat.le_of_ble_eq_true rfl⟩) (nw_preV hK hN hA hS (nw_recv hK hN (k := 0) (i := 0) ⟨rfl, rfl⟩ rfl rfl)) rfl rfl hl.1 rfl (lv_room (Nat.le_of_ble_eq_true rfl)) dX10_does_135 ⟨Nat.le_of_ble_eq_true rfl, Nat.le_of_ble_eq_true rfl⟩) hS (fun H locs hN hz _ hS => ?_)
            have hf : fX10_does M p0 p1 p2 p3 = ((fX10_ofLedger M p0 (fX10_modulo p1 4) p2 p3).1, (fX10_ofLedger M p0 (fX10_modulo p1 4) p2 p3).2) := by unfold fX10_does; rw [if_neg c_1, if_neg c_2, if_pos c_3, if_pos c_4, if_neg c_5]
            exact W.iret (v := (fX10_ofLedger M p0 (fX10_modulo p1 4) p2 p3).1) hx hb hr (fun t ht _ => by rw [hf]; exact nw_end hS hN ht) hS.2.2 dX10_does_138
        · refine lv_aload_n hx hb dX10_does_104 rfl (lv_at hl 0 rfl) ?_
          refine lv_iload_n hx hb dX10_does_105 rfl (lv_at hl 1 rfl) ?_
          refine lv_iload_n hx hb dX10_does_106 rfl (lv_at hl 2 rfl) ?_
          refine lv_bipush (v := 6) hx hb dX10_does_107 (by decide) ?_
          refine nw_callP (W.runS (As := [.int p1, .int 6]) (rest := [.int p0, .ref (ad 0 0)]) S (kX10_modulo l p1 6 (by decide)) (va_cwS 2 hts gX10_does_X10_modulo rfl rfl rfl (by decide +kernel) ⟨Nat.le_of_ble_eq_true rfl, Nat.le_of_ble_eq_true rfl⟩) nw_preP rfl rfl hl.1 rfl (lv_room (Nat.le_of_ble_eq_true rfl)) dX10_does_109 ⟨Nat.le_of_ble_eq_true rfl, Nat.le_of_ble_eq_true rfl⟩) ?_
          refine lv_iload_n hx hb dX10_does_112 rfl (lv_at hl 3 rfl) ?_
          refine lv_iload hx hb dX10_does_113 (lv_at hl 4 rfl) ?_
          refine nw_calli (va_runV (As := [.int p0, .int (fX10_modulo p1 6), .int p2, .int p3]) (rest := []) S (kX10_ofTeam l D C A ad M p0 (fX10_modulo p1 6) p2 p3 kk hI (mod_in6 p1)) (cwV 4 hts gX10_does_X10_ofTeam rfl rfl rfl (by decide +kernel) ⟨Nat.le_of_ble_eq_true rfl, Nat.le_of_ble_eq_true rfl⟩) (nw_preV hK hN hA hS (nw_recv hK hN (k := 0) (i := 0) ⟨rfl, rfl⟩ rfl rfl)) rfl rfl hl.1 rfl (lv_room (Nat.le_of_ble_eq_true rfl)) dX10_does_115 ⟨Nat.le_of_ble_eq_true rfl, Nat.le_of_ble_eq_true rfl⟩) hS (fun H locs hN hz _ hS => ?_)
          have hf : fX10_does M p0 p1 p2 p3 = ((fX10_ofTeam M p0 (fX10_modulo p1 6) p2 p3).1, (fX10_ofTeam M p0 (fX10_modulo p1 6) p2 p3).2) := by unfold fX10_does; rw [if_neg c_1, if_neg c_2, if_pos c_3, if_neg c_4]
          exact W.iret (v := (fX10_ofTeam M p0 (fX10_modulo p1 6) p2 p3).1) hx hb hr (fun t ht _ => by rw [hf]; exact nw_end hS hN ht) hS.2.2 dX10_does_118
      · refine lv_aload_n hx hb dX10_does_35 rfl (lv_at hl 0 rfl) ?_
        refine nw_get S hK hN (k := 0) (i := 0) ⟨rfl, rfl⟩ rfl rfl hin10 12 (by decide) (index := 37) (ref := "RidingYardModel") (by decide +kernel) (fun _ h => h) (v := .ref (ad 12 0)) rfl dX10_does_36 ?_
        refine lv_iload_n hx hb dX10_does_39 rfl (lv_at hl 2 rfl) ?_
        refine lv_bipush (v := 6) hx hb dX10_does_40 (by decide) ?_
        refine nw_callP (W.runS (As := [.int p1, .int 6]) (rest := [.ref (ad 12 0)]) S (kX10_modulo l p1 6 (by decide)) (va_cwS 2 hts gX10_does_X10_modulo rfl rfl rfl (by decide +kernel) ⟨Nat.le_of_ble_eq_true rfl, Nat.le_of_ble_eq_true rfl⟩) nw_preP rfl rfl hl.1 rfl (lv_room (Nat.le_of_ble_eq_true rfl)) dX10_does_42 ⟨Nat.le_of_ble_eq_true rfl, Nat.le_of_ble_eq_true rfl⟩) ?_
        refine nw_iald S hK hN (k := 12) (i := 0) ⟨rfl, rfl⟩ rfl (x := fX10_modulo p1 6) (mod_in6 p1) dX10_does_45 ?_
        refine lv_istore (lv' := [(5, .int (M 12 0 ((fX10_modulo p1 6 : Int32).toNatClampNeg))), (0, .ref (ad 0 0)), (1, .int p0), (2, .int p1), (3, .int p2), (4, .int p3)]) hx hb dX10_does_46 hl (by decide) rfl (fun ls hl => ?_)
        refine lv_iload_n hx hb dX10_does_48 rfl (lv_at hl 2 rfl) ?_
        refine lv_iconst (v := 5) hx hb dX10_does_49 (by decide) ?_
        refine lv_icmp_ne (x := p0) (y := 5) (tgt := 62) hx hb dX10_does_50 (by decide) (fun c_8 => ?_) (fun c_8 => ?_)
        · refine lv_iload hx hb dX10_does_62 (lv_at hl 0 rfl) ?_
          refine lv_if_ge (x := M 12 0 ((fX10_modulo p1 6 : Int32).toNatClampNeg)) (tgt := 71) hx hb dX10_does_64 (by decide) (fun c_9 => ?_) (fun c_9 => ?_)
          · refine lv_aload_n hx hb dX10_does_71 rfl (lv_at hl 1 rfl) ?_
            refine lv_iload_n hx hb dX10_does_72 rfl (lv_at hl 2 rfl) ?_
            refine lv_iconst (v := 4) hx hb dX10_does_73 (by decide) ?_
            refine lv_icmp_ne (x := p0) (y := 4) (tgt := 87) hx hb dX10_does_74 (by decide) (fun c_10 => ?_) (fun c_10 => ?_)
            · refine lv_aload_n hx hb dX10_does_87 rfl (lv_at hl 1 rfl) ?_
              refine nw_get S hK hN (k := 0) (i := 0) ⟨rfl, rfl⟩ rfl rfl hin10 2 (by decide) (index := 13) (ref := "RidingYardModel") (by decide +kernel) (fun _ h => h) (v := .ref (ad 2 0)) rfl dX10_does_88 ?_
              refine lv_iload hx hb dX10_does_91 (lv_at hl 0 rfl) ?_
              refine nw_iald S hK hN (k := 2) (i := 0) ⟨rfl, rfl⟩ rfl (x := M 12 0 ((fX10_modulo p1 6 : Int32).toNatClampNeg)) (False.elim (no45 c_1 c_3 c_8 c_10)) dX10_does_93 ?_
              refine nw_calli (va_runV (As := [.int (M 2 0 ((M 12 0 ((fX10_modulo p1 6 : Int32).toNatClampNeg) : Int32).toNatClampNeg))]) (rest := []) S (kX10_come l D C A ad M (M 2 0 ((M 12 0 ((fX10_modulo p1 6 : Int32).toNatClampNeg) : Int32).toNatClampNeg)) ) (cwV 1 hts gX10_does_X10_come rfl rfl rfl (by decide +kernel) ⟨Nat.le_of_ble_eq_true rfl, Nat.le_of_ble_eq_true rfl⟩) (nw_preV hK hN hA hS (nw_recv hK hN (k := 0) (i := 0) ⟨rfl, rfl⟩ rfl rfl)) rfl rfl hl.1 rfl (lv_room (Nat.le_of_ble_eq_true rfl)) dX10_does_94 ⟨Nat.le_of_ble_eq_true rfl, Nat.le_of_ble_eq_true rfl⟩) hS (fun H locs hN hz _ hS => ?_)
              have hf : fX10_does M p0 p1 p2 p3 = (0, u3 M 0 0 34 (M 2 0 ((M 12 0 ((fX10_modulo p1 6 : Int32).toNatClampNeg) : Int32).toNatClampNeg))) := by unfold fX10_does; rw [if_neg c_1, if_neg c_2, if_neg c_3, if_neg c_8, if_pos c_9, if_neg c_10]
              exact W.iret (v := 0) hx hb hr (fun t ht _ => by rw [hf]; exact nw_end hS hN ht) hS.2.2 dX10_does_97
            · refine lv_aload_n hx hb dX10_does_77 rfl (lv_at hl 1 rfl) ?_
              refine lv_iload hx hb dX10_does_78 (lv_at hl 0 rfl) ?_
              refine lv_iload_n hx hb dX10_does_80 rfl (lv_at hl 4 rfl) ?_
              refine nw_calli (va_runV (As := [.int (M 12 0 ((fX10_modulo p1 6 : Int32).toNatClampNeg)), .int p2]) (rest := [.ref (ad 0 0)]) S (kX10_work l D C A ad M (M 12 0 ((fX10_modulo p1 6 : Int32).toNatClampNeg)) p2 (invM_shw hI p1) (invM_shh hI p1 c_9)) (cwV 2 hts gX10_does_X10_work rfl rfl rfl (by decide +kernel) ⟨Nat.le_of_ble_eq_true rfl, Nat.le_of_ble_eq_true rfl⟩) (nw_preV hK hN hA hS (nw_recv hK hN (k := 0) (i := 0) ⟨rfl, rfl⟩ rfl rfl)) rfl rfl hl.1 rfl (lv_room (Nat.le_of_ble_eq_true rfl)) dX10_does_81 ⟨Nat.le_of_ble_eq_true rfl, Nat.le_of_ble_eq_true rfl⟩) hS (fun H locs hN hz _ hS => ?_)
              refine lv_goto (tgt := 94) hx hb dX10_does_84 (by decide) ?_
              refine nw_calli (va_runV (As := [.int ((fX10_work M (M 12 0 ((fX10_modulo p1 6 : Int32).toNatClampNeg)) p2).1)]) (rest := []) S (kX10_come l D C A ad ((fX10_work M (M 12 0 ((fX10_modulo p1 6 : Int32).toNatClampNeg)) p2).2) ((fX10_work M (M 12 0 ((fX10_modulo p1 6 : Int32).toNatClampNeg)) p2).1) ) (cwV 1 hts gX10_does_X10_come rfl rfl rfl (by decide +kernel) ⟨Nat.le_of_ble_eq_true rfl, Nat.le_of_ble_eq_true rfl⟩) (nw_preV hK hN hA hS (nw_recv hK hN (k := 0) (i := 0) ⟨rfl, rfl⟩ rfl rfl)) rfl rfl hl.1 rfl (lv_room (Nat.le_of_ble_eq_true rfl)) dX10_does_94 ⟨Nat.le_of_ble_eq_true rfl, Nat.le_of_ble_eq_true rfl⟩) hS (fun H locs hN hz _ hS => ?_)
              have hf : fX10_does M p0 p1 p2 p3 = (0, u3 ((fX10_work M (M 12 0 ((fX10_modulo p1 6 : Int32).toNatClampNeg)) p2).2) 0 0 34 ((fX10_work M (M 12 0 ((fX10_modulo p1 6 : Int32).toNatClampNeg)) p2).1)) := by unfold fX10_does; rw [if_neg c_1, if_neg c_2, if_neg c_3, if_neg c_8, if_pos c_9, if_pos c_10]
              exact W.iret (v := 0) hx hb hr (fun t ht _ => by rw [hf]; exact nw_end hS hN ht) hS.2.2 dX10_does_97
          · refine lv_iconst (v := 1) hx hb dX10_does_67 (by decide) ?_
            refine lv_goto (tgt := 97) hx hb dX10_does_68 (by decide) ?_
            have hf : fX10_does M p0 p1 p2 p3 = (1, M) := by unfold fX10_does; rw [if_neg c_1, if_neg c_2, if_neg c_3, if_neg c_8, if_neg c_9]
            exact W.iret (v := 1) hx hb hr (fun t ht _ => by rw [hf]; exact nw_end hS hN ht) hS.2.2 dX10_does_97
        · refine lv_iload hx hb dX10_does_53 (lv_at hl 0 rfl) ?_
          refine lv_bipush (v := 100) hx hb dX10_does_55 (by decide) ?_
          refine lv_icmp_lt (x := M 12 0 ((fX10_modulo p1 6 : Int32).toNatClampNeg)) (y := 100) (tgt := 62) hx hb dX10_does_57 (by decide) (fun c_11 => ?_) (fun c_11 => ?_)
          · refine lv_iload hx hb dX10_does_62 (lv_at hl 0 rfl) ?_
            refine lv_if_ge (x := M 12 0 ((fX10_modulo p1 6 : Int32).toNatClampNeg)) (tgt := 71) hx hb dX10_does_64 (by decide) (fun c_12 => ?_) (fun c_12 => ?_)
            · refine lv_aload_n hx hb dX10_does_71 rfl (lv_at hl 1 rfl) ?_
              refine lv_iload_n hx hb dX10_does_72 rfl (lv_at hl 2 rfl) ?_
              refine lv_iconst (v := 4) hx hb dX10_does_73 (by decide) ?_
              refine lv_icmp_ne (x := p0) (y := 4) (tgt := 87) hx hb dX10_does_74 (by decide) (fun c_13 => ?_) (fun c_13 => ?_)
              · refine lv_aload_n hx hb dX10_does_87 rfl (lv_at hl 1 rfl) ?_
                refine nw_get S hK hN (k := 0) (i := 0) ⟨rfl, rfl⟩ rfl rfl hin10 2 (by decide) (index := 13) (ref := "RidingYardModel") (by decide +kernel) (fun _ h => h) (v := .ref (ad 2 0)) rfl dX10_does_88 ?_
                refine lv_iload hx hb dX10_does_91 (lv_at hl 0 rfl) ?_
                refine nw_iald S hK hN (k := 2) (i := 0) ⟨rfl, rfl⟩ rfl (x := M 12 0 ((fX10_modulo p1 6 : Int32).toNatClampNeg)) (invM_shs hI p1 c_12 c_11) dX10_does_93 ?_
                refine nw_calli (va_runV (As := [.int (M 2 0 ((M 12 0 ((fX10_modulo p1 6 : Int32).toNatClampNeg) : Int32).toNatClampNeg))]) (rest := []) S (kX10_come l D C A ad M (M 2 0 ((M 12 0 ((fX10_modulo p1 6 : Int32).toNatClampNeg) : Int32).toNatClampNeg)) ) (cwV 1 hts gX10_does_X10_come rfl rfl rfl (by decide +kernel) ⟨Nat.le_of_ble_eq_true rfl, Nat.le_of_ble_eq_true rfl⟩) (nw_preV hK hN hA hS (nw_recv hK hN (k := 0) (i := 0) ⟨rfl, rfl⟩ rfl rfl)) rfl rfl hl.1 rfl (lv_room (Nat.le_of_ble_eq_true rfl)) dX10_does_94 ⟨Nat.le_of_ble_eq_true rfl, Nat.le_of_ble_eq_true rfl⟩) hS (fun H locs hN hz _ hS => ?_)
                have hf : fX10_does M p0 p1 p2 p3 = (0, u3 M 0 0 34 (M 2 0 ((M 12 0 ((fX10_modulo p1 6 : Int32).toNatClampNeg) : Int32).toNatClampNeg))) := by unfold fX10_does; rw [if_neg c_1, if_neg c_2, if_neg c_3, if_pos c_8, if_pos c_11, if_pos c_12, if_neg c_13]
                exact W.iret (v := 0) hx hb hr (fun t ht _ => by rw [hf]; exact nw_end hS hN ht) hS.2.2 dX10_does_97
              · refine lv_aload_n hx hb dX10_does_77 rfl (lv_at hl 1 rfl) ?_
                refine lv_iload hx hb dX10_does_78 (lv_at hl 0 rfl) ?_
                refine lv_iload_n hx hb dX10_does_80 rfl (lv_at hl 4 rfl) ?_
                refine nw_calli (va_runV (As := [.int (M 12 0 ((fX10_modulo p1 6 : Int32).toNatClampNeg)), .int p2]) (rest := [.ref (ad 0 0)]) S (kX10_work l D C A ad M (M 12 0 ((fX10_modulo p1 6 : Int32).toNatClampNeg)) p2 (invM_shw hI p1) (invM_shh hI p1 c_12)) (cwV 2 hts gX10_does_X10_work rfl rfl rfl (by decide +kernel) ⟨Nat.le_of_ble_eq_true rfl, Nat.le_of_ble_eq_true rfl⟩) (nw_preV hK hN hA hS (nw_recv hK hN (k := 0) (i := 0) ⟨rfl, rfl⟩ rfl rfl)) rfl rfl hl.1 rfl (lv_room (Nat.le_of_ble_eq_true rfl)) dX10_does_81 ⟨Nat.le_of_ble_eq_true rfl, Nat.le_of_ble_eq_true rfl⟩) hS (fun H locs hN hz _ hS => ?_)
                refine lv_goto (tgt := 94) hx hb dX10_does_84 (by decide) ?_
                refine nw_calli (va_runV (As := [.int ((fX10_work M (M 12 0 ((fX10_modulo p1 6 : Int32).toNatClampNeg)) p2).1)]) (rest := []) S (kX10_come l D C A ad ((fX10_work M (M 12 0 ((fX10_modulo p1 6 : Int32).toNatClampNeg)) p2).2) ((fX10_work M (M 12 0 ((fX10_modulo p1 6 : Int32).toNatClampNeg)) p2).1) ) (cwV 1 hts gX10_does_X10_come rfl rfl rfl (by decide +kernel) ⟨Nat.le_of_ble_eq_true rfl, Nat.le_of_ble_eq_true rfl⟩) (nw_preV hK hN hA hS (nw_recv hK hN (k := 0) (i := 0) ⟨rfl, rfl⟩ rfl rfl)) rfl rfl hl.1 rfl (lv_room (Nat.le_of_ble_eq_true rfl)) dX10_does_94 ⟨Nat.le_of_ble_eq_true rfl, Nat.le_of_ble_eq_true rfl⟩) hS (fun H locs hN hz _ hS => ?_)
                have hf : fX10_does M p0 p1 p2 p3 = (0, u3 ((fX10_work M (M 12 0 ((fX10_modulo p1 6 : Int32).toNatClampNeg)) p2).2) 0 0 34 ((fX10_work M (M 12 0 ((fX10_modulo p1 6 : Int32).toNatClampNeg)) p2).1)) := by unfold fX10_does; rw [if_neg c_1, if_neg c_2, if_neg c_3, if_pos c_8, if_pos c_11, if_pos c_12, if_pos c_13]
                exact W.iret (v := 0) hx hb hr (fun t ht _ => by rw [hf]; exact nw_end hS hN ht) hS.2.2 dX10_does_97
            · refine lv_iconst (v := 1) hx hb dX10_does_67 (by decide) ?_
              refine lv_goto (tgt := 97) hx hb dX10_does_68 (by decide) ?_
              have hf : fX10_does M p0 p1 p2 p3 = (1, M) := by unfold fX10_does; rw [if_neg c_1, if_neg c_2, if_neg c_3, if_pos c_8, if_pos c_11, if_neg c_12]
              exact W.iret (v := 1) hx hb hr (fun t ht _ => by rw [hf]; exact nw_end hS hN ht) hS.2.2 dX10_does_97
          · refine lv_iconst (v := 3) hx hb dX10_does_60 (by decide) ?_
            have hf : fX10_does M p0 p1 p2 p3 = (3, M) := by unfold fX10_does; rw [if_neg c_1, if_neg c_2, if_neg c_3, if_pos c_8, if_neg c_11]
            exact W.iret (v := 3) hx hb hr (fun t ht _ => by rw [hf]; exact nw_end hS hN ht) hS.2.2 dX10_does_61
    · refine lv_aload_n hx hb dX10_does_11 rfl (lv_at hl 0 rfl) ?_
      refine lv_iload_n hx hb dX10_does_12 rfl (lv_at hl 1 rfl) ?_
      refine lv_aload_n hx hb dX10_does_13 rfl (lv_at hl 0 rfl) ?_
      refine nw_get S hK hN (k := 0) (i := 0) ⟨rfl, rfl⟩ rfl rfl hin10 11 (by decide) (index := 34) (ref := "RidingYardModel") (by decide +kernel) (fun _ h => h) (v := .ref (ad 11 0)) rfl dX10_does_14 ?_
      refine lv_iload_n hx hb dX10_does_17 rfl (lv_at hl 2 rfl) ?_
      refine lv_bipush (v := 10) hx hb dX10_does_18 (by decide) ?_
      refine nw_callP (W.runS (As := [.int p1, .int 10]) (rest := [.ref (ad 11 0), .int p0, .ref (ad 0 0)]) S (kX10_modulo l p1 10 (by decide)) (va_cwS 2 hts gX10_does_X10_modulo rfl rfl rfl (by decide +kernel) ⟨Nat.le_of_ble_eq_true rfl, Nat.le_of_ble_eq_true rfl⟩) nw_preP rfl rfl hl.1 rfl (lv_room (Nat.le_of_ble_eq_true rfl)) dX10_does_20 ⟨Nat.le_of_ble_eq_true rfl, Nat.le_of_ble_eq_true rfl⟩) ?_
      refine nw_iald S hK hN (k := 11) (i := 0) ⟨rfl, rfl⟩ rfl (x := fX10_modulo p1 10) (mod_in10 p1) dX10_does_23 ?_
      refine lv_iload_n hx hb dX10_does_24 rfl (lv_at hl 3 rfl) ?_
      refine nw_calli (va_runV (As := [.int p0, .int (M 11 0 ((fX10_modulo p1 10 : Int32).toNatClampNeg)), .int p2]) (rest := []) S (kX10_ofStall l D C A ad M p0 (M 11 0 ((fX10_modulo p1 10 : Int32).toNatClampNeg)) p2 (invM_stm hI p1)) (cwV 3 hts gX10_does_X10_ofStall rfl rfl rfl (by decide +kernel) ⟨Nat.le_of_ble_eq_true rfl, Nat.le_of_ble_eq_true rfl⟩) (nw_preV hK hN hA hS (nw_recv hK hN (k := 0) (i := 0) ⟨rfl, rfl⟩ rfl rfl)) rfl rfl hl.1 rfl (lv_room (Nat.le_of_ble_eq_true rfl)) dX10_does_25 ⟨Nat.le_of_ble_eq_true rfl, Nat.le_of_ble_eq_true rfl⟩) hS (fun H locs hN hz _ hS => ?_)
      have hf : fX10_does M p0 p1 p2 p3 = ((fX10_ofStall M p0 (M 11 0 ((fX10_modulo p1 10 : Int32).toNatClampNeg)) p2).1, (fX10_ofStall M p0 (M 11 0 ((fX10_modulo p1 10 : Int32).toNatClampNeg)) p2).2) := by unfold fX10_does; rw [if_neg c_1, if_pos c_2]
      exact W.iret (v := (fX10_ofStall M p0 (M 11 0 ((fX10_modulo p1 10 : Int32).toNatClampNeg)) p2).1) hx hb hr (fun t ht _ => by rw [hf]; exact nw_end hS hN ht) hS.2.2 dX10_does_28
set_option maxHeartbeats 4000000 in
set_option maxRecDepth 100000 in
theorem kX10_attempt (l : Launch) (D : va_G) (C : Nat → ClassId) (A : Nat → Prop) (ad : Nat → Nat → Nat) (M : Nat → Nat → Nat → Int32) (p0 p1 p2 p3 : Int32) (kk : Nat) (hI : InvM kk M) : Met l yX10_attempt wsX10_attempt ({ frames := 4, cells := 0, slots := 0, locals := 98 }) (va_Pc [.ref (ad 0 0), .int p0, .int p1, .int p2, .int p3] (PW D C A (nw D (enM C) domM A ad M))) (nQ A (some (.int (fX10_attempt M p0 p1 p2 p3).1)) (nw D (enM C) domM A ad (fX10_attempt M p0 p1 p2 p3).2)) 0 0 A := by
  refine Met.ofW (cc := cX10_attempt) (maxL := 6) (ret := (some .int)) (by decide) rfl ?_
  intro p e s m args below meth c s₁ B hml hv
  obtain ⟨rfl, hK, hN, hA⟩ := hv
  have hx := B.exec
  have hb := B.bytes
  have hr := B.returns
  have hts := atoms_spec (ws := wsX10_attempt) B.pre
  have hown : s.vm.findClass RX10 = some m.cls := findClass_of_methodNamed B.named
  have hlocks := B.notSynchronized
  have S : CallFix p m c cX10_attempt 6 s _ wsX10_attempt RX10 := ⟨hx, hb, hml, hown, hts⟩
  have hin10 : ∀ w ∈ wsX100, w ∈ wsX10_attempt := by decide +kernel
  have hS : va_S A s.heap s.heap [] := va_S.rf
  have hl := lv_entry ([.ref (ad 0 0), .int p0, .int p1, .int p2, .int p3]) (n := 6) (Nat.le_of_ble_eq_true rfl)
  rw [lg_entry_eq]
  generalize (lg_sl ([.ref (ad 0 0), .int p0, .int p1, .int p2, .int p3]) ++ List.replicate (6 - (lg_sl ([.ref (ad 0 0), .int p0, .int p1, .int p2, .int p3])).length) Slot.unset).toArray = ls at hl ⊢
  have hl : lv_has ls 6 [(0, .ref (ad 0 0)), (1, .int p0), (2, .int p1), (3, .int p2), (4, .int p3)] := hl
  refine lv_aload_n hx hb dX10_attempt_0 rfl (lv_at hl 0 rfl) ?_
  refine lv_iload_n hx hb dX10_attempt_1 rfl (lv_at hl 1 rfl) ?_
  refine lv_iload_n hx hb dX10_attempt_2 rfl (lv_at hl 2 rfl) ?_
  refine lv_iload_n hx hb dX10_attempt_3 rfl (lv_at hl 3 rfl) ?_
  refine lv_iload hx hb dX10_attempt_4 (lv_at hl 4 rfl) ?_
  refine nw_calli (va_runV (As := [.int p0, .int p1, .int p2, .int p3]) (rest := []) S (kX10_does l D C A ad M p0 p1 p2 p3 kk hI) (cwV 4 hts gX10_attempt_X10_does rfl rfl rfl (by decide +kernel) ⟨Nat.le_of_ble_eq_true rfl, Nat.le_of_ble_eq_true rfl⟩) (nw_preV hK hN hA hS (nw_recv hK hN (k := 0) (i := 0) ⟨rfl, rfl⟩ rfl rfl)) rfl rfl hl.1 rfl (lv_room (Nat.le_of_ble_eq_true rfl)) dX10_attempt_6 ⟨Nat.le_of_ble_eq_true rfl, Nat.le_of_ble_eq_true rfl⟩) hS (fun H locs hN hz _ hS => ?_)
  refine lv_istore (lv' := [(5, .int ((fX10_does M p0 p1 p2 p3).1)), (0, .ref (ad 0 0)), (1, .int p0), (2, .int p1), (3, .int p2), (4, .int p3)]) hx hb dX10_attempt_9 hl (by decide) rfl (fun ls hl => ?_)
  refine lv_aload_n hx hb dX10_attempt_11 rfl (lv_at hl 1 rfl) ?_
  refine lv_iload hx hb dX10_attempt_12 (lv_at hl 0 rfl) ?_
  refine jn_i (V := (if ((fX10_does M p0 p1 p2 p3).1) = 0 then ((fX10_does M p0 p1 p2 p3).2) 0 0 34 else (if ((fX10_does M p0 p1 p2 p3).1) = 6 then ((fX10_does M p0 p1 p2 p3).2) 0 0 34 else ((fX10_does M p0 p1 p2 p3).2) 0 0 33))) (pc' := 35) (ls := ls) (rest := [.ref (ad 0 0)]) (fun jv hv_2 => ?_) (fun hj_1 => ?_)
  · subst hv_2
    refine nw_put S hK hN hS (k := 0) (i := 0) ⟨rfl, rfl⟩ rfl rfl hin10 tyX10_ok nmX10 33 (by decide) (index := 158) (ref := "RidingYardModel") (by decide +kernel) (fun _ h => h) rfl (if ((fX10_does M p0 p1 p2 p3).1) = 0 then ((fX10_does M p0 p1 p2 p3).2) 0 0 34 else (if ((fX10_does M p0 p1 p2 p3).1) = 6 then ((fX10_does M p0 p1 p2 p3).2) 0 0 34 else ((fX10_does M p0 p1 p2 p3).2) 0 0 33)) rfl rfl rfl (by decide) dX10_attempt_35 (fun H locs hN hz hS => ?_)
    refine lv_aload_n hx hb dX10_attempt_38 rfl (lv_at hl 1 rfl) ?_
    refine nw_get S hK hN (k := 0) (i := 0) ⟨rfl, rfl⟩ rfl rfl hin10 32 (by decide) (index := 92) (ref := "RidingYardModel") (by decide +kernel) (fun _ h => h) (v := .ref (ad 32 0)) rfl dX10_attempt_39 ?_
    refine lv_iload hx hb dX10_attempt_42 (lv_at hl 0 rfl) ?_
    refine lv_dup2_11 hx hb dX10_attempt_44 rfl rfl ?_
    refine nw_iald S hK hN (k := 32) (i := 0) ⟨rfl, rfl⟩ rfl (x := (fX10_does M p0 p1 p2 p3).1) (does_rng _ _ _ _ _) dX10_attempt_45 ?_
    refine lv_iconst (v := 1) hx hb dX10_attempt_46 (by decide) ?_
    refine lv_iadd hx hb dX10_attempt_47 ?_
    refine nw_iast S hK hN hS (k := 32) (i := 0) ⟨rfl, rfl⟩ (fun _ => rfl) (x := (fX10_does M p0 p1 p2 p3).1) (v := (((fX10_does M p0 p1 p2 p3).2) 32 0 (((fX10_does M p0 p1 p2 p3).1 : Int32).toNatClampNeg)) + 1) (does_rng _ _ _ _ _) dX10_attempt_48 (fun H locs hN hz hS => ?_)
    refine lv_iload hx hb dX10_attempt_49 (lv_at hl 0 rfl) ?_
    have hf : fX10_attempt M p0 p1 p2 p3 = ((fX10_does M p0 p1 p2 p3).1, u3 (u3 ((fX10_does M p0 p1 p2 p3).2) 0 0 33 (if ((fX10_does M p0 p1 p2 p3).1) = 0 then ((fX10_does M p0 p1 p2 p3).2) 0 0 34 else (if ((fX10_does M p0 p1 p2 p3).1) = 6 then ((fX10_does M p0 p1 p2 p3).2) 0 0 34 else ((fX10_does M p0 p1 p2 p3).2) 0 0 33))) 32 0 (((fX10_does M p0 p1 p2 p3).1 : Int32).toNatClampNeg) ((((fX10_does M p0 p1 p2 p3).2) 32 0 (((fX10_does M p0 p1 p2 p3).1 : Int32).toNatClampNeg)) + 1)) := rfl
    exact W.iret (v := (fX10_does M p0 p1 p2 p3).1) hx hb hr (fun t ht _ => by rw [hf]; exact nw_end hS hN ht) hS.2.2 dX10_attempt_51
  · refine lv_if_eq (x := (fX10_does M p0 p1 p2 p3).1) (tgt := 24) hx hb dX10_attempt_14 (by decide) (fun c_3 => ?_) (fun c_3 => ?_)
    · refine lv_aload_n hx hb dX10_attempt_24 rfl (lv_at hl 1 rfl) ?_
      refine nw_get S hK hN (k := 0) (i := 0) ⟨rfl, rfl⟩ rfl rfl hin10 34 (by decide) (index := 115) (ref := "RidingYardModel") (by decide +kernel) (fun _ h => h) (v := .int (((fX10_does M p0 p1 p2 p3).2) 0 0 34)) rfl dX10_attempt_25 ?_
      refine lv_goto (tgt := 35) hx hb dX10_attempt_28 (by decide) ?_
      exact hj_1 _ (by rw [if_pos c_3])
    · refine lv_iload hx hb dX10_attempt_17 (lv_at hl 0 rfl) ?_
      refine lv_bipush (v := 6) hx hb dX10_attempt_19 (by decide) ?_
      refine lv_icmp_ne (x := (fX10_does M p0 p1 p2 p3).1) (y := 6) (tgt := 31) hx hb dX10_attempt_21 (by decide) (fun c_4 => ?_) (fun c_4 => ?_)
      · refine lv_aload_n hx hb dX10_attempt_31 rfl (lv_at hl 1 rfl) ?_
        refine nw_get S hK hN (k := 0) (i := 0) ⟨rfl, rfl⟩ rfl rfl hin10 33 (by decide) (index := 158) (ref := "RidingYardModel") (by decide +kernel) (fun _ h => h) (v := .int (((fX10_does M p0 p1 p2 p3).2) 0 0 33)) rfl dX10_attempt_32 ?_
        exact hj_1 _ (by rw [if_neg c_3, if_neg c_4])
      · refine lv_aload_n hx hb dX10_attempt_24 rfl (lv_at hl 1 rfl) ?_
        refine nw_get S hK hN (k := 0) (i := 0) ⟨rfl, rfl⟩ rfl rfl hin10 34 (by decide) (index := 115) (ref := "RidingYardModel") (by decide +kernel) (fun _ h => h) (v := .int (((fX10_does M p0 p1 p2 p3).2) 0 0 34)) rfl dX10_attempt_25 ?_
        refine lv_goto (tgt := 35) hx hb dX10_attempt_28 (by decide) ?_
        exact hj_1 _ (by rw [if_neg c_3, if_pos c_4])
set_option maxHeartbeats 4000000 in
set_option maxRecDepth 100000 in
theorem kX10_act (l : Launch) (D : va_G) (C : Nat → ClassId) (A : Nat → Prop) (ad : Nat → Nat → Nat) (M : Nat → Nat → Nat → Int32) (p0 p1 p2 p3 : Int32) (kk : Nat) (hI : InvM kk M) : Met l yX10_act wsX10_act ({ frames := 5, cells := 0, slots := 0, locals := 123 }) (va_Pc [.ref (ad 0 0), .int p0, .int p1, .int p2, .int p3] (PW D C A (nw D (enM C) domM A ad M))) (nQ A (some (.int (fX10_act M p0 p1 p2 p3).1)) (nw D (enM C) domM A ad (fX10_act M p0 p1 p2 p3).2)) 0 0 A := by
  refine Met.ofW (cc := cX10_act) (maxL := 6) (ret := (some .int)) (by decide) rfl ?_
  intro p e s m args below meth c s₁ B hml hv
  obtain ⟨rfl, hK, hN, hA⟩ := hv
  have hx := B.exec
  have hb := B.bytes
  have hr := B.returns
  have hts := atoms_spec (ws := wsX10_act) B.pre
  have hown : s.vm.findClass RX10 = some m.cls := findClass_of_methodNamed B.named
  have hlocks := B.notSynchronized
  have S : CallFix p m c cX10_act 6 s _ wsX10_act RX10 := ⟨hx, hb, hml, hown, hts⟩
  have hin10 : ∀ w ∈ wsX100, w ∈ wsX10_act := by decide +kernel
  have hS : va_S A s.heap s.heap [] := va_S.rf
  have hl := lv_entry ([.ref (ad 0 0), .int p0, .int p1, .int p2, .int p3]) (n := 6) (Nat.le_of_ble_eq_true rfl)
  rw [lg_entry_eq]
  generalize (lg_sl ([.ref (ad 0 0), .int p0, .int p1, .int p2, .int p3]) ++ List.replicate (6 - (lg_sl ([.ref (ad 0 0), .int p0, .int p1, .int p2, .int p3])).length) Slot.unset).toArray = ls at hl ⊢
  have hl : lv_has ls 6 [(0, .ref (ad 0 0)), (1, .int p0), (2, .int p1), (3, .int p2), (4, .int p3)] := hl
  refine lv_iload_n hx hb dX10_act_0 rfl (lv_at hl 1 rfl) ?_
  refine lv_iconst (v := 0) hx hb dX10_act_1 (by decide) ?_
  refine lv_bipush (v := 17) hx hb dX10_act_2 (by decide) ?_
  refine nw_callP (W.runS (As := [.int p0, .int 0, .int 17]) (rest := []) S (kX10_in l p0 0 17) (va_cwS 3 hts gX10_act_X10_in rfl rfl rfl (by decide +kernel) ⟨Nat.le_of_ble_eq_true rfl, Nat.le_of_ble_eq_true rfl⟩) nw_preP rfl rfl hl.1 rfl (lv_room (Nat.le_of_ble_eq_true rfl)) dX10_act_4 ⟨Nat.le_of_ble_eq_true rfl, Nat.le_of_ble_eq_true rfl⟩) ?_
  refine lv_if_ne (x := fX10_in p0 0 17) (tgt := 13) hx hb dX10_act_7 (by decide) (fun c_1 => ?_) (fun c_1 => ?_)
  · refine lv_aload_n hx hb dX10_act_13 rfl (lv_at hl 0 rfl) ?_
    refine lv_iload_n hx hb dX10_act_14 rfl (lv_at hl 1 rfl) ?_
    refine lv_iload_n hx hb dX10_act_15 rfl (lv_at hl 2 rfl) ?_
    refine lv_iload_n hx hb dX10_act_16 rfl (lv_at hl 3 rfl) ?_
    refine lv_iload hx hb dX10_act_17 (lv_at hl 4 rfl) ?_
    refine nw_calli (va_runV (As := [.int p0, .int p1, .int p2, .int p3]) (rest := []) S (kX10_attempt l D C A ad M p0 p1 p2 p3 kk hI) (cwV 4 hts gX10_act_X10_attempt rfl rfl rfl (by decide +kernel) ⟨Nat.le_of_ble_eq_true rfl, Nat.le_of_ble_eq_true rfl⟩) (nw_preV hK hN hA hS (nw_recv hK hN (k := 0) (i := 0) ⟨rfl, rfl⟩ rfl rfl)) rfl rfl hl.1 rfl (lv_room (Nat.le_of_ble_eq_true rfl)) dX10_act_19 ⟨Nat.le_of_ble_eq_true rfl, Nat.le_of_ble_eq_true rfl⟩) hS (fun H locs hN hz _ hS => ?_)
    refine lv_istore (lv' := [(5, .int ((fX10_attempt M p0 p1 p2 p3).1)), (0, .ref (ad 0 0)), (1, .int p0), (2, .int p1), (3, .int p2), (4, .int p3)]) hx hb dX10_act_22 hl (by decide) rfl (fun ls hl => ?_)
    refine lv_iload hx hb dX10_act_24 (lv_at hl 0 rfl) ?_
    refine lv_if_ne (x := (fX10_attempt M p0 p1 p2 p3).1) (tgt := 33) hx hb dX10_act_26 (by decide) (fun c_2 => ?_) (fun c_2 => ?_)
    · refine lv_bipush (v := (-10)) hx hb dX10_act_33 (by decide) ?_
      refine lv_iload hx hb dX10_act_35 (lv_at hl 0 rfl) ?_
      refine lv_isub hx hb dX10_act_37 ?_
      have hf : fX10_act M p0 p1 p2 p3 = ((-10) - ((fX10_attempt M p0 p1 p2 p3).1), (fX10_attempt M p0 p1 p2 p3).2) := by unfold fX10_act; rw [if_neg c_1, if_neg c_2]
      exact W.iret (v := (-10) - ((fX10_attempt M p0 p1 p2 p3).1)) hx hb hr (fun t ht _ => by rw [hf]; exact nw_end hS hN ht) hS.2.2 dX10_act_38
    · refine lv_iconst (v := 1) hx hb dX10_act_29 (by decide) ?_
      refine lv_goto (tgt := 38) hx hb dX10_act_30 (by decide) ?_
      have hf : fX10_act M p0 p1 p2 p3 = (1, (fX10_attempt M p0 p1 p2 p3).2) := by unfold fX10_act; rw [if_neg c_1, if_pos c_2]
      exact W.iret (v := 1) hx hb hr (fun t ht _ => by rw [hf]; exact nw_end hS hN ht) hS.2.2 dX10_act_38
  · refine lv_ldc (v := (-1000000001)) hx hb hown (hts (.constant RX10 99 (-1000000001)) (by decide +kernel)) dX10_act_10 ?_
    have hf : fX10_act M p0 p1 p2 p3 = ((-1000000001), M) := by unfold fX10_act; rw [if_pos c_1]
    exact W.iret (v := (-1000000001)) hx hb hr (fun t ht _ => by rw [hf]; exact nw_end hS hN ht) hS.2.2 dX10_act_12
set_option maxHeartbeats 4000000 in
set_option maxRecDepth 100000 in
theorem kX10_day (l : Launch) (D : va_G) (C : Nat → ClassId) (A : Nat → Prop) (ad : Nat → Nat → Nat) (M : Nat → Nat → Nat → Int32) (kk : Nat) (hI : InvM kk M) (hk : kk + 20 < 2 ^ 30) : Met l yX10_day wsX10_day ({ frames := 5, cells := 0, slots := 0, locals := 123 }) (va_Pc [.ref (ad 0 0)] (PW D C A (nw D (enM C) domM A ad M))) (nQ A (some (.int (fX10_day M).1)) (nw D (enM C) domM A ad (fX10_day M).2)) 0 0 A := by
  refine Met.ofW (cc := cX10_day) (maxL := 5) (ret := (some .int)) (by decide) rfl ?_
  intro p e s m args below meth c s₁ B hml hv
  obtain ⟨rfl, hK, hN, hA⟩ := hv
  have hx := B.exec
  have hb := B.bytes
  have hr := B.returns
  have hts := atoms_spec (ws := wsX10_day) B.pre
  have hown : s.vm.findClass RX10 = some m.cls := findClass_of_methodNamed B.named
  have hlocks := B.notSynchronized
  have S : CallFix p m c cX10_day 5 s _ wsX10_day RX10 := ⟨hx, hb, hml, hown, hts⟩
  have hin10 : ∀ w ∈ wsX100, w ∈ wsX10_day := by decide +kernel
  have hS : va_S A s.heap s.heap [] := va_S.rf
  have hl := lv_entry ([.ref (ad 0 0)]) (n := 5) (Nat.le_of_ble_eq_true rfl)
  rw [lg_entry_eq]
  generalize (lg_sl ([.ref (ad 0 0)]) ++ List.replicate (5 - (lg_sl ([.ref (ad 0 0)])).length) Slot.unset).toArray = ls at hl ⊢
  have hl : lv_has ls 5 [(0, .ref (ad 0 0))] := hl
  refine lv_iconst (v := 0) hx hb dX10_day_0 (by decide) ?_
  refine lv_istore_n (lv' := [(1, .int 0), (0, .ref (ad 0 0))]) hx hb dX10_day_1 rfl hl (by decide) rfl (fun ls hl => ?_)
  refine lv_iconst (v := 0) hx hb dX10_day_2 (by decide) ?_
  refine lv_istore_n (lv' := [(2, .int 0), (1, .int 0), (0, .ref (ad 0 0))]) hx hb dX10_day_3 rfl hl (by decide) rfl (fun ls hl => ?_)
  refine lv_iconst (v := 0) hx hb dX10_day_4 (by decide) ?_
  refine lv_istore_n (lv' := [(3, .int 0), (2, .int 0), (1, .int 0), (0, .ref (ad 0 0))]) hx hb dX10_day_5 rfl hl (by decide) rfl (fun ls hl => ?_)
  refine lpW (σ := Int32 × Int32 × Int32 × (Nat → Nat → Nat → Int32)) 21 (0, 0, 0, M) (fun n x H locs ls => lv_has ls 5 [(3, .int x.1), (1, .int x.2.1), (2, .int x.2.2.1), (0, .ref (ad 0 0))] ∧ nw D (enM C) domM A ad x.2.2.2 H ∧ va_S A s.heap H locs ∧ fX10_day M = gX10_day_6  n x.1 x.2.1 x.2.2.1 (x.2.2.2) ∧ (∃ i : Nat, x.1 = nI i ∧ i ≤ 20 ∧ i + n = 21 ∧ InvM (kk + i) x.2.2.2)) 6 (fun n x H locs ls hP ih => ?_) ⟨lv_sub hl [0, 2, 1, 3] rfl, hN, hS, rfl, 0, rfl, by omega, rfl, hI⟩
  obtain ⟨x3, x1, x2, Z6⟩ := x
  obtain ⟨hl, hN, hS, hfe, hinv⟩ := hP
  dsimp only at hl hN hfe hinv
  obtain ⟨i, hi1, hi2, hi3, hZ⟩ := hinv
  obtain ⟨n, rfl⟩ : ∃ k, n = k + 1 := ⟨n - 1, by omega⟩
  refine lv_iload_n hx hb dX10_day_6 rfl (lv_at hl 0 rfl) ?_
  refine lv_aload_n hx hb dX10_day_7 rfl (lv_at hl 3 rfl) ?_
  refine nw_get S hK hN (k := 0) (i := 0) ⟨rfl, rfl⟩ rfl rfl hin10 24 (by decide) (index := 164) (ref := "RidingYardModel") (by decide +kernel) (fun _ h => h) (v := .int (Z6 0 0 24)) rfl dX10_day_8 ?_
  refine lv_icmp_ge (x := x3) (y := Z6 0 0 24) (tgt := 116) hx hb dX10_day_11 (by decide) (fun c_1 => ?_) (fun c_1 => ?_)
  · refine lv_iload_n hx hb dX10_day_116 rfl (lv_at hl 1 rfl) ?_
    have hf : fX10_day M = (x1, Z6) := by rw [hfe, gX10_day_6_s, if_pos c_1]
    exact W.iret (v := x1) hx hb hr (fun t ht _ => by rw [hf]; exact nw_end hS hN ht) hS.2.2 dX10_day_117
  · refine lv_aload_n hx hb dX10_day_14 rfl (lv_at hl 3 rfl) ?_
    refine lv_aload_n hx hb dX10_day_15 rfl (lv_at hl 3 rfl) ?_
    refine nw_get S hK hN (k := 0) (i := 0) ⟨rfl, rfl⟩ rfl rfl hin10 25 (by decide) (index := 74) (ref := "RidingYardModel") (by decide +kernel) (fun _ h => h) (v := .ref (ad 25 0)) rfl dX10_day_16 ?_
    refine lv_iload_n hx hb dX10_day_19 rfl (lv_at hl 0 rfl) ?_
    refine nw_iald S hK hN (k := 25) (i := 0) ⟨rfl, rfl⟩ rfl (x := x3) (day_tk hZ hi1 hi2 c_1) dX10_day_20 ?_
    refine lv_aload_n hx hb dX10_day_21 rfl (lv_at hl 3 rfl) ?_
    refine nw_get S hK hN (k := 0) (i := 0) ⟨rfl, rfl⟩ rfl rfl hin10 26 (by decide) (index := 77) (ref := "RidingYardModel") (by decide +kernel) (fun _ h => h) (v := .ref (ad 26 0)) rfl dX10_day_22 ?_
    refine lv_iload_n hx hb dX10_day_25 rfl (lv_at hl 0 rfl) ?_
    refine nw_iald S hK hN (k := 26) (i := 0) ⟨rfl, rfl⟩ rfl (x := x3) (day_tk hZ hi1 hi2 c_1) dX10_day_26 ?_
    refine lv_aload_n hx hb dX10_day_27 rfl (lv_at hl 3 rfl) ?_
    refine nw_get S hK hN (k := 0) (i := 0) ⟨rfl, rfl⟩ rfl rfl hin10 27 (by decide) (index := 80) (ref := "RidingYardModel") (by decide +kernel) (fun _ h => h) (v := .ref (ad 27 0)) rfl dX10_day_28 ?_
    refine lv_iload_n hx hb dX10_day_31 rfl (lv_at hl 0 rfl) ?_
    refine nw_iald S hK hN (k := 27) (i := 0) ⟨rfl, rfl⟩ rfl (x := x3) (day_tk hZ hi1 hi2 c_1) dX10_day_32 ?_
    refine lv_aload_n hx hb dX10_day_33 rfl (lv_at hl 3 rfl) ?_
    refine nw_get S hK hN (k := 0) (i := 0) ⟨rfl, rfl⟩ rfl rfl hin10 28 (by decide) (index := 83) (ref := "RidingYardModel") (by decide +kernel) (fun _ h => h) (v := .ref (ad 28 0)) rfl dX10_day_34 ?_
    refine lv_iload_n hx hb dX10_day_37 rfl (lv_at hl 0 rfl) ?_
    refine nw_iald S hK hN (k := 28) (i := 0) ⟨rfl, rfl⟩ rfl (x := x3) (day_tk hZ hi1 hi2 c_1) dX10_day_38 ?_
    refine nw_calli (va_runV (As := [.int (Z6 25 0 ((x3 : Int32).toNatClampNeg)), .int (Z6 26 0 ((x3 : Int32).toNatClampNeg)), .int (Z6 27 0 ((x3 : Int32).toNatClampNeg)), .int (Z6 28 0 ((x3 : Int32).toNatClampNeg))]) (rest := []) S (kX10_attempt l D C A ad Z6 (Z6 25 0 ((x3 : Int32).toNatClampNeg)) (Z6 26 0 ((x3 : Int32).toNatClampNeg)) (Z6 27 0 ((x3 : Int32).toNatClampNeg)) (Z6 28 0 ((x3 : Int32).toNatClampNeg)) (kk + i) hZ) (cwV 4 hts gX10_day_X10_attempt rfl rfl rfl (by decide +kernel) ⟨Nat.le_of_ble_eq_true rfl, Nat.le_of_ble_eq_true rfl⟩) (nw_preV hK hN hA hS (nw_recv hK hN (k := 0) (i := 0) ⟨rfl, rfl⟩ rfl rfl)) rfl rfl hl.1 rfl (lv_room (Nat.le_of_ble_eq_true rfl)) dX10_day_39 ⟨Nat.le_of_ble_eq_true rfl, Nat.le_of_ble_eq_true rfl⟩) hS (fun H locs hN hz _ hS => ?_)
    refine lv_istore (lv' := [(4, .int ((fX10_attempt Z6 (Z6 25 0 ((x3 : Int32).toNatClampNeg)) (Z6 26 0 ((x3 : Int32).toNatClampNeg)) (Z6 27 0 ((x3 : Int32).toNatClampNeg)) (Z6 28 0 ((x3 : Int32).toNatClampNeg))).1)), (3, .int x3), (1, .int x1), (2, .int x2), (0, .ref (ad 0 0))]) hx hb dX10_day_42 hl (by decide) rfl (fun ls hl => ?_)
    refine lv_iload hx hb dX10_day_44 (lv_at hl 0 rfl) ?_
    refine lv_if_ne (x := (fX10_attempt Z6 (Z6 25 0 ((x3 : Int32).toNatClampNeg)) (Z6 26 0 ((x3 : Int32).toNatClampNeg)) (Z6 27 0 ((x3 : Int32).toNatClampNeg)) (Z6 28 0 ((x3 : Int32).toNatClampNeg))).1) (tgt := 55) hx hb dX10_day_46 (by decide) (fun c_2 => ?_) (fun c_2 => ?_)
    · refine lv_aload_n hx hb dX10_day_55 rfl (lv_at hl 4 rfl) ?_
      refine nw_get S hK hN (k := 0) (i := 0) ⟨rfl, rfl⟩ rfl rfl hin10 29 (by decide) (index := 167) (ref := "RidingYardModel") (by decide +kernel) (fun _ h => h) (v := .int (((fX10_attempt Z6 (Z6 25 0 ((x3 : Int32).toNatClampNeg)) (Z6 26 0 ((x3 : Int32).toNatClampNeg)) (Z6 27 0 ((x3 : Int32).toNatClampNeg)) (Z6 28 0 ((x3 : Int32).toNatClampNeg))).2) 0 0 29)) rfl dX10_day_56 ?_
      refine lv_bipush (v := 40) hx hb dX10_day_59 (by decide) ?_
      refine lv_icmp_ge (x := ((fX10_attempt Z6 (Z6 25 0 ((x3 : Int32).toNatClampNeg)) (Z6 26 0 ((x3 : Int32).toNatClampNeg)) (Z6 27 0 ((x3 : Int32).toNatClampNeg)) (Z6 28 0 ((x3 : Int32).toNatClampNeg))).2) 0 0 29) (y := 40) (tgt := 85) hx hb dX10_day_61 (by decide) (fun c_3 => ?_) (fun c_3 => ?_)
      · refine lv_aload_n hx hb dX10_day_85 rfl (lv_at hl 4 rfl) ?_
        refine lv_dup hx hb dX10_day_86 rfl ?_
        refine nw_get S hK hN (k := 0) (i := 0) ⟨rfl, rfl⟩ rfl rfl hin10 29 (by decide) (index := 167) (ref := "RidingYardModel") (by decide +kernel) (fun _ h => h) (v := .int (((fX10_attempt Z6 (Z6 25 0 ((x3 : Int32).toNatClampNeg)) (Z6 26 0 ((x3 : Int32).toNatClampNeg)) (Z6 27 0 ((x3 : Int32).toNatClampNeg)) (Z6 28 0 ((x3 : Int32).toNatClampNeg))).2) 0 0 29)) rfl dX10_day_87 ?_
        refine lv_iconst (v := 1) hx hb dX10_day_90 (by decide) ?_
        refine lv_iadd hx hb dX10_day_91 ?_
        refine nw_put S hK hN hS (k := 0) (i := 0) ⟨rfl, rfl⟩ rfl rfl hin10 tyX10_ok nmX10 29 (by decide) (index := 167) (ref := "RidingYardModel") (by decide +kernel) (fun _ h => h) rfl ((((fX10_attempt Z6 (Z6 25 0 ((x3 : Int32).toNatClampNeg)) (Z6 26 0 ((x3 : Int32).toNatClampNeg)) (Z6 27 0 ((x3 : Int32).toNatClampNeg)) (Z6 28 0 ((x3 : Int32).toNatClampNeg))).2) 0 0 29) + 1) rfl rfl rfl (by decide) dX10_day_92 (fun H locs hN hz hS => ?_)
        refine lv_iinc (v := x2 + 1) (lv' := [(2, .int (x2 + 1)), (4, .int ((fX10_attempt Z6 (Z6 25 0 ((x3 : Int32).toNatClampNeg)) (Z6 26 0 ((x3 : Int32).toNatClampNeg)) (Z6 27 0 ((x3 : Int32).toNatClampNeg)) (Z6 28 0 ((x3 : Int32).toNatClampNeg))).1)), (3, .int x3), (1, .int x1), (0, .ref (ad 0 0))]) hx hb dX10_day_95 hl (k := 3) rfl rfl (by decide) rfl (fun ls hl => ?_)
        refine lv_iload hx hb dX10_day_98 (lv_at hl 1 rfl) ?_
        refine lv_bipush (v := 6) hx hb dX10_day_100 (by decide) ?_
        refine lv_icmp_ne (x := (fX10_attempt Z6 (Z6 25 0 ((x3 : Int32).toNatClampNeg)) (Z6 26 0 ((x3 : Int32).toNatClampNeg)) (Z6 27 0 ((x3 : Int32).toNatClampNeg)) (Z6 28 0 ((x3 : Int32).toNatClampNeg))).1) (y := 6) (tgt := 110) hx hb dX10_day_102 (by decide) (fun c_4 => ?_) (fun c_4 => ?_)
        · refine lv_iinc (v := x3 + 1) (lv' := [(3, .int (x3 + 1)), (2, .int (x2 + 1)), (4, .int ((fX10_attempt Z6 (Z6 25 0 ((x3 : Int32).toNatClampNeg)) (Z6 26 0 ((x3 : Int32).toNatClampNeg)) (Z6 27 0 ((x3 : Int32).toNatClampNeg)) (Z6 28 0 ((x3 : Int32).toNatClampNeg))).1)), (1, .int x1), (0, .ref (ad 0 0))]) hx hb dX10_day_110 hl (k := 2) rfl rfl (by decide) rfl (fun ls hl => ?_)
          refine lv_goto (tgt := 6) hx hb dX10_day_113 (by decide) ?_
          exact ih n (x3 + 1, x1, x2 + 1, u3 ((fX10_attempt Z6 (Z6 25 0 ((x3 : Int32).toNatClampNeg)) (Z6 26 0 ((x3 : Int32).toNatClampNeg)) (Z6 27 0 ((x3 : Int32).toNatClampNeg)) (Z6 28 0 ((x3 : Int32).toNatClampNeg))).2) 0 0 29 ((((fX10_attempt Z6 (Z6 25 0 ((x3 : Int32).toNatClampNeg)) (Z6 26 0 ((x3 : Int32).toNatClampNeg)) (Z6 27 0 ((x3 : Int32).toNatClampNeg)) (Z6 28 0 ((x3 : Int32).toNatClampNeg))).2) 0 0 29) + 1)) _ _ _ (by omega) ⟨lv_sub hl [0, 3, 1, 4] rfl, hN, hS, by rw [hfe, gX10_day_6_s, if_neg c_1, if_neg c_2, if_pos c_3, if_neg c_4], day_b1 hZ hi1 hi2 hi3 c_1 hk⟩
        · refine lv_bipush (v := (-10)) hx hb dX10_day_105 (by decide) ?_
          refine lv_iload_n hx hb dX10_day_107 rfl (lv_at hl 0 rfl) ?_
          refine lv_isub hx hb dX10_day_108 ?_
          have hf : fX10_day M = ((-10) - (x2 + 1), u3 ((fX10_attempt Z6 (Z6 25 0 ((x3 : Int32).toNatClampNeg)) (Z6 26 0 ((x3 : Int32).toNatClampNeg)) (Z6 27 0 ((x3 : Int32).toNatClampNeg)) (Z6 28 0 ((x3 : Int32).toNatClampNeg))).2) 0 0 29 ((((fX10_attempt Z6 (Z6 25 0 ((x3 : Int32).toNatClampNeg)) (Z6 26 0 ((x3 : Int32).toNatClampNeg)) (Z6 27 0 ((x3 : Int32).toNatClampNeg)) (Z6 28 0 ((x3 : Int32).toNatClampNeg))).2) 0 0 29) + 1)) := by rw [hfe, gX10_day_6_s, if_neg c_1, if_neg c_2, if_pos c_3, if_pos c_4]
          exact W.iret (v := (-10) - (x2 + 1)) hx hb hr (fun t ht _ => by rw [hf]; exact nw_end hS hN ht) hS.2.2 dX10_day_109
      · refine lv_aload_n hx hb dX10_day_64 rfl (lv_at hl 4 rfl) ?_
        refine nw_get S hK hN (k := 0) (i := 0) ⟨rfl, rfl⟩ rfl rfl hin10 30 (by decide) (index := 86) (ref := "RidingYardModel") (by decide +kernel) (fun _ h => h) (v := .ref (ad 30 0)) rfl dX10_day_65 ?_
        refine lv_aload_n hx hb dX10_day_68 rfl (lv_at hl 4 rfl) ?_
        refine nw_get S hK hN (k := 0) (i := 0) ⟨rfl, rfl⟩ rfl rfl hin10 29 (by decide) (index := 167) (ref := "RidingYardModel") (by decide +kernel) (fun _ h => h) (v := .int (((fX10_attempt Z6 (Z6 25 0 ((x3 : Int32).toNatClampNeg)) (Z6 26 0 ((x3 : Int32).toNatClampNeg)) (Z6 27 0 ((x3 : Int32).toNatClampNeg)) (Z6 28 0 ((x3 : Int32).toNatClampNeg))).2) 0 0 29)) rfl dX10_day_69 ?_
        refine lv_iload_n hx hb dX10_day_72 rfl (lv_at hl 1 rfl) ?_
        refine nw_iast S hK hN hS (k := 30) (i := 0) ⟨rfl, rfl⟩ (fun _ => rfl) (x := ((fX10_attempt Z6 (Z6 25 0 ((x3 : Int32).toNatClampNeg)) (Z6 26 0 ((x3 : Int32).toNatClampNeg)) (Z6 27 0 ((x3 : Int32).toNatClampNeg)) (Z6 28 0 ((x3 : Int32).toNatClampNeg))).2) 0 0 29) (v := x3) (day_put (att_inv hZ _ _ _ _) c_3) dX10_day_73 (fun H locs hN hz hS => ?_)
        refine lv_aload_n hx hb dX10_day_74 rfl (lv_at hl 4 rfl) ?_
        refine nw_get S hK hN (k := 0) (i := 0) ⟨rfl, rfl⟩ rfl rfl hin10 31 (by decide) (index := 89) (ref := "RidingYardModel") (by decide +kernel) (fun _ h => h) (v := .ref (ad 31 0)) rfl dX10_day_75 ?_
        refine lv_aload_n hx hb dX10_day_78 rfl (lv_at hl 4 rfl) ?_
        refine nw_get S hK hN (k := 0) (i := 0) ⟨rfl, rfl⟩ rfl rfl hin10 29 (by decide) (index := 167) (ref := "RidingYardModel") (by decide +kernel) (fun _ h => h) (v := .int (((fX10_attempt Z6 (Z6 25 0 ((x3 : Int32).toNatClampNeg)) (Z6 26 0 ((x3 : Int32).toNatClampNeg)) (Z6 27 0 ((x3 : Int32).toNatClampNeg)) (Z6 28 0 ((x3 : Int32).toNatClampNeg))).2) 0 0 29)) rfl dX10_day_79 ?_
        refine lv_iload hx hb dX10_day_82 (lv_at hl 0 rfl) ?_
        refine nw_iast S hK hN hS (k := 31) (i := 0) ⟨rfl, rfl⟩ (fun _ => rfl) (x := ((fX10_attempt Z6 (Z6 25 0 ((x3 : Int32).toNatClampNeg)) (Z6 26 0 ((x3 : Int32).toNatClampNeg)) (Z6 27 0 ((x3 : Int32).toNatClampNeg)) (Z6 28 0 ((x3 : Int32).toNatClampNeg))).2) 0 0 29) (v := (fX10_attempt Z6 (Z6 25 0 ((x3 : Int32).toNatClampNeg)) (Z6 26 0 ((x3 : Int32).toNatClampNeg)) (Z6 27 0 ((x3 : Int32).toNatClampNeg)) (Z6 28 0 ((x3 : Int32).toNatClampNeg))).1) (day_put (att_inv hZ _ _ _ _) c_3) dX10_day_84 (fun H locs hN hz hS => ?_)
        refine lv_aload_n hx hb dX10_day_85 rfl (lv_at hl 4 rfl) ?_
        refine lv_dup hx hb dX10_day_86 rfl ?_
        refine nw_get S hK hN (k := 0) (i := 0) ⟨rfl, rfl⟩ rfl rfl hin10 29 (by decide) (index := 167) (ref := "RidingYardModel") (by decide +kernel) (fun _ h => h) (v := .int (((fX10_attempt Z6 (Z6 25 0 ((x3 : Int32).toNatClampNeg)) (Z6 26 0 ((x3 : Int32).toNatClampNeg)) (Z6 27 0 ((x3 : Int32).toNatClampNeg)) (Z6 28 0 ((x3 : Int32).toNatClampNeg))).2) 0 0 29)) rfl dX10_day_87 ?_
        refine lv_iconst (v := 1) hx hb dX10_day_90 (by decide) ?_
        refine lv_iadd hx hb dX10_day_91 ?_
        refine nw_put S hK hN hS (k := 0) (i := 0) ⟨rfl, rfl⟩ rfl rfl hin10 tyX10_ok nmX10 29 (by decide) (index := 167) (ref := "RidingYardModel") (by decide +kernel) (fun _ h => h) rfl ((((fX10_attempt Z6 (Z6 25 0 ((x3 : Int32).toNatClampNeg)) (Z6 26 0 ((x3 : Int32).toNatClampNeg)) (Z6 27 0 ((x3 : Int32).toNatClampNeg)) (Z6 28 0 ((x3 : Int32).toNatClampNeg))).2) 0 0 29) + 1) rfl rfl rfl (by decide) dX10_day_92 (fun H locs hN hz hS => ?_)
        refine lv_iinc (v := x2 + 1) (lv' := [(2, .int (x2 + 1)), (4, .int ((fX10_attempt Z6 (Z6 25 0 ((x3 : Int32).toNatClampNeg)) (Z6 26 0 ((x3 : Int32).toNatClampNeg)) (Z6 27 0 ((x3 : Int32).toNatClampNeg)) (Z6 28 0 ((x3 : Int32).toNatClampNeg))).1)), (3, .int x3), (1, .int x1), (0, .ref (ad 0 0))]) hx hb dX10_day_95 hl (k := 3) rfl rfl (by decide) rfl (fun ls hl => ?_)
        refine lv_iload hx hb dX10_day_98 (lv_at hl 1 rfl) ?_
        refine lv_bipush (v := 6) hx hb dX10_day_100 (by decide) ?_
        refine lv_icmp_ne (x := (fX10_attempt Z6 (Z6 25 0 ((x3 : Int32).toNatClampNeg)) (Z6 26 0 ((x3 : Int32).toNatClampNeg)) (Z6 27 0 ((x3 : Int32).toNatClampNeg)) (Z6 28 0 ((x3 : Int32).toNatClampNeg))).1) (y := 6) (tgt := 110) hx hb dX10_day_102 (by decide) (fun c_5 => ?_) (fun c_5 => ?_)
        · refine lv_iinc (v := x3 + 1) (lv' := [(3, .int (x3 + 1)), (2, .int (x2 + 1)), (4, .int ((fX10_attempt Z6 (Z6 25 0 ((x3 : Int32).toNatClampNeg)) (Z6 26 0 ((x3 : Int32).toNatClampNeg)) (Z6 27 0 ((x3 : Int32).toNatClampNeg)) (Z6 28 0 ((x3 : Int32).toNatClampNeg))).1)), (1, .int x1), (0, .ref (ad 0 0))]) hx hb dX10_day_110 hl (k := 2) rfl rfl (by decide) rfl (fun ls hl => ?_)
          refine lv_goto (tgt := 6) hx hb dX10_day_113 (by decide) ?_
          exact ih n (x3 + 1, x1, x2 + 1, u3 (u3 (u3 ((fX10_attempt Z6 (Z6 25 0 ((x3 : Int32).toNatClampNeg)) (Z6 26 0 ((x3 : Int32).toNatClampNeg)) (Z6 27 0 ((x3 : Int32).toNatClampNeg)) (Z6 28 0 ((x3 : Int32).toNatClampNeg))).2) 30 0 ((((fX10_attempt Z6 (Z6 25 0 ((x3 : Int32).toNatClampNeg)) (Z6 26 0 ((x3 : Int32).toNatClampNeg)) (Z6 27 0 ((x3 : Int32).toNatClampNeg)) (Z6 28 0 ((x3 : Int32).toNatClampNeg))).2) 0 0 29 : Int32).toNatClampNeg) x3) 31 0 ((((fX10_attempt Z6 (Z6 25 0 ((x3 : Int32).toNatClampNeg)) (Z6 26 0 ((x3 : Int32).toNatClampNeg)) (Z6 27 0 ((x3 : Int32).toNatClampNeg)) (Z6 28 0 ((x3 : Int32).toNatClampNeg))).2) 0 0 29 : Int32).toNatClampNeg) ((fX10_attempt Z6 (Z6 25 0 ((x3 : Int32).toNatClampNeg)) (Z6 26 0 ((x3 : Int32).toNatClampNeg)) (Z6 27 0 ((x3 : Int32).toNatClampNeg)) (Z6 28 0 ((x3 : Int32).toNatClampNeg))).1)) 0 0 29 ((((fX10_attempt Z6 (Z6 25 0 ((x3 : Int32).toNatClampNeg)) (Z6 26 0 ((x3 : Int32).toNatClampNeg)) (Z6 27 0 ((x3 : Int32).toNatClampNeg)) (Z6 28 0 ((x3 : Int32).toNatClampNeg))).2) 0 0 29) + 1)) _ _ _ (by omega) ⟨lv_sub hl [0, 3, 1, 4] rfl, hN, hS, by rw [hfe, gX10_day_6_s, if_neg c_1, if_neg c_2, if_neg c_3, if_neg c_5], day_b2 hZ hi1 hi2 hi3 c_1 hk⟩
        · refine lv_bipush (v := (-10)) hx hb dX10_day_105 (by decide) ?_
          refine lv_iload_n hx hb dX10_day_107 rfl (lv_at hl 0 rfl) ?_
          refine lv_isub hx hb dX10_day_108 ?_
          have hf : fX10_day M = ((-10) - (x2 + 1), u3 (u3 (u3 ((fX10_attempt Z6 (Z6 25 0 ((x3 : Int32).toNatClampNeg)) (Z6 26 0 ((x3 : Int32).toNatClampNeg)) (Z6 27 0 ((x3 : Int32).toNatClampNeg)) (Z6 28 0 ((x3 : Int32).toNatClampNeg))).2) 30 0 ((((fX10_attempt Z6 (Z6 25 0 ((x3 : Int32).toNatClampNeg)) (Z6 26 0 ((x3 : Int32).toNatClampNeg)) (Z6 27 0 ((x3 : Int32).toNatClampNeg)) (Z6 28 0 ((x3 : Int32).toNatClampNeg))).2) 0 0 29 : Int32).toNatClampNeg) x3) 31 0 ((((fX10_attempt Z6 (Z6 25 0 ((x3 : Int32).toNatClampNeg)) (Z6 26 0 ((x3 : Int32).toNatClampNeg)) (Z6 27 0 ((x3 : Int32).toNatClampNeg)) (Z6 28 0 ((x3 : Int32).toNatClampNeg))).2) 0 0 29 : Int32).toNatClampNeg) ((fX10_attempt Z6 (Z6 25 0 ((x3 : Int32).toNatClampNeg)) (Z6 26 0 ((x3 : Int32).toNatClampNeg)) (Z6 27 0 ((x3 : Int32).toNatClampNeg)) (Z6 28 0 ((x3 : Int32).toNatClampNeg))).1)) 0 0 29 ((((fX10_attempt Z6 (Z6 25 0 ((x3 : Int32).toNatClampNeg)) (Z6 26 0 ((x3 : Int32).toNatClampNeg)) (Z6 27 0 ((x3 : Int32).toNatClampNeg)) (Z6 28 0 ((x3 : Int32).toNatClampNeg))).2) 0 0 29) + 1)) := by rw [hfe, gX10_day_6_s, if_neg c_1, if_neg c_2, if_neg c_3, if_pos c_5]
          exact W.iret (v := (-10) - (x2 + 1)) hx hb hr (fun t ht _ => by rw [hf]; exact nw_end hS hN ht) hS.2.2 dX10_day_109
    · refine lv_iinc (v := x1 + 1) (lv' := [(1, .int (x1 + 1)), (4, .int ((fX10_attempt Z6 (Z6 25 0 ((x3 : Int32).toNatClampNeg)) (Z6 26 0 ((x3 : Int32).toNatClampNeg)) (Z6 27 0 ((x3 : Int32).toNatClampNeg)) (Z6 28 0 ((x3 : Int32).toNatClampNeg))).1)), (3, .int x3), (2, .int x2), (0, .ref (ad 0 0))]) hx hb dX10_day_49 hl (k := 2) rfl rfl (by decide) rfl (fun ls hl => ?_)
      refine lv_goto (tgt := 98) hx hb dX10_day_52 (by decide) ?_
      refine lv_iload hx hb dX10_day_98 (lv_at hl 1 rfl) ?_
      refine lv_bipush (v := 6) hx hb dX10_day_100 (by decide) ?_
      refine lv_icmp_ne (x := (fX10_attempt Z6 (Z6 25 0 ((x3 : Int32).toNatClampNeg)) (Z6 26 0 ((x3 : Int32).toNatClampNeg)) (Z6 27 0 ((x3 : Int32).toNatClampNeg)) (Z6 28 0 ((x3 : Int32).toNatClampNeg))).1) (y := 6) (tgt := 110) hx hb dX10_day_102 (by decide) (fun c_6 => ?_) (fun c_6 => ?_)
      · refine lv_iinc (v := x3 + 1) (lv' := [(3, .int (x3 + 1)), (1, .int (x1 + 1)), (4, .int ((fX10_attempt Z6 (Z6 25 0 ((x3 : Int32).toNatClampNeg)) (Z6 26 0 ((x3 : Int32).toNatClampNeg)) (Z6 27 0 ((x3 : Int32).toNatClampNeg)) (Z6 28 0 ((x3 : Int32).toNatClampNeg))).1)), (2, .int x2), (0, .ref (ad 0 0))]) hx hb dX10_day_110 hl (k := 2) rfl rfl (by decide) rfl (fun ls hl => ?_)
        refine lv_goto (tgt := 6) hx hb dX10_day_113 (by decide) ?_
        exact ih n (x3 + 1, x1 + 1, x2, (fX10_attempt Z6 (Z6 25 0 ((x3 : Int32).toNatClampNeg)) (Z6 26 0 ((x3 : Int32).toNatClampNeg)) (Z6 27 0 ((x3 : Int32).toNatClampNeg)) (Z6 28 0 ((x3 : Int32).toNatClampNeg))).2) _ _ _ (by omega) ⟨lv_sub hl [0, 1, 3, 4] rfl, hN, hS, by rw [hfe, gX10_day_6_s, if_neg c_1, if_pos c_2, if_neg c_6], day_b0 hZ hi1 hi2 hi3 c_1⟩
      · refine lv_bipush (v := (-10)) hx hb dX10_day_105 (by decide) ?_
        refine lv_iload_n hx hb dX10_day_107 rfl (lv_at hl 3 rfl) ?_
        refine lv_isub hx hb dX10_day_108 ?_
        have hf : fX10_day M = ((-10) - x2, (fX10_attempt Z6 (Z6 25 0 ((x3 : Int32).toNatClampNeg)) (Z6 26 0 ((x3 : Int32).toNatClampNeg)) (Z6 27 0 ((x3 : Int32).toNatClampNeg)) (Z6 28 0 ((x3 : Int32).toNatClampNeg))).2) := by rw [hfe, gX10_day_6_s, if_neg c_1, if_pos c_2, if_pos c_6]
        exact W.iret (v := (-10) - x2) hx hb hr (fun t ht _ => by rw [hf]; exact nw_end hS hN ht) hS.2.2 dX10_day_109
