set_option maxHeartbeats 4000000 in
set_option maxRecDepth 100000 in
theorem kX10_day (l : Launch) (D : va_G) (C : Nat → ClassId) (A : Nat → Prop) (ad : Nat → Nat → Nat) (M : Nat → Nat → Nat → Int32) (kk : Nat) (hI : RM kk M) (hk : kk + 20 < 2 ^ 30) : Met l yX10_day wsX10_day ({ frames := 5, cells := 0, slots := 0, locals := 123 }) (va_Pc [.ref (ad 0 0)] (PW D C A (nw D (enM C) domM A ad M))) (nQ A (some (.int (fX10_day M).1)) (nw D (enM C) domM A ad (fX10_day M).2)) 0 0 A := by
  refine Met.ofW (cc := cX10_day) (maxL := 5) (ret := (some .int)) (by decide) rfl ?_
  intro p e s m args below meth c s₁ B hml hv
  obtain ⟨rfl, hK, hN, hA⟩ := hv
  have hx := B.exec
  have hb := B.bytes
  have hr := B.returns
  have hts := atoms_spec (ws := wsX10_day) B.pre
  have hown : s.vm.findClass RX10 = some m.cls := findClass_of_methodNamed B.named
  have hlocks := B.notSynchronized
  have S : CallFix p m c cX10_day 5 s _ wsX10_day RX10 := ⟨hx, hb, hml, hown, hts⟩
  have hin10 : ∀ w ∈ wsX100, w ∈ wsX10_day := (fun _ h => List.mem_cons_of_mem _ (List.mem_append_right _ (h)))
  have hS : va_S A s.heap s.heap [] := va_S.rf
  have hl := lv_entry ([.ref (ad 0 0)]) (n := 5) (Nat.le_of_ble_eq_true rfl)
  rw [lg_entry_eq]
  generalize (lg_sl ([.ref (ad 0 0)]) ++ List.replicate (5 - (lg_sl ([.ref (ad 0 0)])).length) Slot.unset).toArray = ls at hl ⊢
  have hl : lv_has ls 5 [(0, .ref (ad 0 0))] := hl
  refine lv_iconst (v := 0) hx hb dX10_day_0 (by decide) ?_
  refine lv_istore_n (lv' := [(1, .int 0), (0, .ref (ad 0 0))]) hx hb dX10_day_1 rfl hl (by decide) rfl (fun ls hl => ?_)
  refine lv_iconst (v := 0) hx hb dX10_day_2 (by decide) ?_
  refine lv_istore_n (lv' := [(2, .int 0), (1, .int 0), (0, .ref (ad 0 0))]) hx hb dX10_day_3 rfl hl (by decide) rfl (fun ls hl => ?_)
  refine lv_iconst (v := 0) hx hb dX10_day_4 (by decide) ?_
  refine lv_istore_n (lv' := [(3, .int 0), (2, .int 0), (1, .int 0), (0, .ref (ad 0 0))]) hx hb dX10_day_5 rfl hl (by decide) rfl (fun ls hl => ?_)
  refine lpW (σ := Int32 × Int32 × Int32 × (Nat → Nat → Nat → Int32)) 21 (0, 0, 0, M) (fun n x H locs ls => lv_has ls 5 [(3, .int x.1), (1, .int x.2.1), (2, .int x.2.2.1), (0, .ref (ad 0 0))] ∧ nw D (enM C) domM A ad x.2.2.2 H ∧ va_S A s.heap H locs ∧ fX10_day M = gX10_day_6  n x.1 x.2.1 x.2.2.1 (x.2.2.2) ∧ (∃ i : Nat, x.1 = nI i ∧ i ≤ 20 ∧ i + n = 21 ∧ RM (kk + i) x.2.2.2)) 6 (fun n x H locs ls hP ih => ?_) ⟨lv_sub hl [0, 2, 1, 3] rfl, hN, hS, rfl, 0, rfl, by omega, rfl, hI⟩
  obtain ⟨x3, x1, x2, Z6⟩ := x
  obtain ⟨hl, hN, hS, hfe, hinv⟩ := hP
  dsimp only at hl hN hfe hinv
  obtain ⟨i, hi1, hi2, hi3, hZ⟩ := hinv
  obtain ⟨n, rfl⟩ : ∃ k, n = k + 1 := ⟨n - 1, by omega⟩
  refine lv_iload_n hx hb dX10_day_6 rfl (lv_at hl 0 rfl) ?_
  refine lv_aload_n hx hb dX10_day_7 rfl (lv_at hl 3 rfl) ?_
  refine nwM_get S hK hN hin10 24 (by decide) (index := 164) (List.mem_cons_of_mem _ (List.mem_append_left _ (List.mem_append_left _ (List.mem_of_getElem? (i := 0) rfl)))) rfl (v := .int (Z6 0 0 24)) rfl dX10_day_8 ?_
  refine lv_icmp_ge (x := x3) (y := Z6 0 0 24) (tgt := 116) hx hb dX10_day_11 (by decide) (fun c_1 => ?_) (fun c_1 => ?_)
  · refine lv_iload_n hx hb dX10_day_116 rfl (lv_at hl 1 rfl) ?_
    have hf : fX10_day M = (x1, Z6) := by rw [hfe, gX10_day_6_s, if_pos c_1]
    exact W.iret (v := x1) hx hb hr (fun t ht _ => by rw [hf]; exact nw_end hS hN ht) hS.2.2 dX10_day_117
  · refine lv_aload_n hx hb dX10_day_14 rfl (lv_at hl 3 rfl) ?_
    refine lv_aload_n hx hb dX10_day_15 rfl (lv_at hl 3 rfl) ?_
    refine nwM_get S hK hN hin10 25 (by decide) (index := 74) (List.mem_cons_of_mem _ (List.mem_append_left _ (List.mem_append_left _ (List.mem_of_getElem? (i := 1) rfl)))) rfl (v := .ref (ad 25 0)) rfl dX10_day_16 ?_
    refine lv_iload_n hx hb dX10_day_19 rfl (lv_at hl 0 rfl) ?_
    refine nw_iald S hK hN (k := 25) (i := 0) ⟨rfl, rfl⟩ rfl (x := x3) (day_tk (RM.inv hZ) hi1 hi2 c_1) dX10_day_20 ?_
    refine lv_aload_n hx hb dX10_day_21 rfl (lv_at hl 3 rfl) ?_
    refine nwM_get S hK hN hin10 26 (by decide) (index := 77) (List.mem_cons_of_mem _ (List.mem_append_left _ (List.mem_append_left _ (List.mem_of_getElem? (i := 2) rfl)))) rfl (v := .ref (ad 26 0)) rfl dX10_day_22 ?_
    refine lv_iload_n hx hb dX10_day_25 rfl (lv_at hl 0 rfl) ?_
    refine nw_iald S hK hN (k := 26) (i := 0) ⟨rfl, rfl⟩ rfl (x := x3) (day_tk (RM.inv hZ) hi1 hi2 c_1) dX10_day_26 ?_
    refine lv_aload_n hx hb dX10_day_27 rfl (lv_at hl 3 rfl) ?_
    refine nwM_get S hK hN hin10 27 (by decide) (index := 80) (List.mem_cons_of_mem _ (List.mem_append_left _ (List.mem_append_left _ (List.mem_of_getElem? (i := 3) rfl)))) rfl (v := .ref (ad 27 0)) rfl dX10_day_28 ?_
    refine lv_iload_n hx hb dX10_day_31 rfl (lv_at hl 0 rfl) ?_
    refine nw_iald S hK hN (k := 27) (i := 0) ⟨rfl, rfl⟩ rfl (x := x3) (day_tk (RM.inv hZ) hi1 hi2 c_1) dX10_day_32 ?_
    refine lv_aload_n hx hb dX10_day_33 rfl (lv_at hl 3 rfl) ?_
    refine nwM_get S hK hN hin10 28 (by decide) (index := 83) (List.mem_cons_of_mem _ (List.mem_append_left _ (List.mem_append_left _ (List.mem_of_getElem? (i := 4) rfl)))) rfl (v := .ref (ad 28 0)) rfl dX10_day_34 ?_
    refine lv_iload_n hx hb dX10_day_37 rfl (lv_at hl 0 rfl) ?_
    refine nw_iald S hK hN (k := 28) (i := 0) ⟨rfl, rfl⟩ rfl (x := x3) (day_tk (RM.inv hZ) hi1 hi2 c_1) dX10_day_38 ?_
    refine nwM_call (As := [.int (Z6 25 0 ((x3 : Int32).toNatClampNeg)), .int (Z6 26 0 ((x3 : Int32).toNatClampNeg)), .int (Z6 27 0 ((x3 : Int32).toNatClampNeg)), .int (Z6 28 0 ((x3 : Int32).toNatClampNeg))]) (rest := []) S (kX10_attempt l D C A ad Z6 (Z6 25 0 ((x3 : Int32).toNatClampNeg)) (Z6 26 0 ((x3 : Int32).toNatClampNeg)) (Z6 27 0 ((x3 : Int32).toNatClampNeg)) (Z6 28 0 ((x3 : Int32).toNatClampNeg)) (kk + i) (RM.inv hZ)) gX10_day_X10_attempt rfl ⟨rfl, rfl⟩ hqX10_attempt ⟨Nat.le_of_ble_eq_true rfl, Nat.le_of_ble_eq_true rfl⟩ hK hN hN hA hS rfl hl.1 rfl (Nat.le_of_ble_eq_true rfl) dX10_day_39 ⟨Nat.le_of_ble_eq_true rfl, Nat.le_of_ble_eq_true rfl⟩ (fun H locs hN hS => ?_)
    generalize hAT : fX10_attempt Z6 (Z6 25 0 ((x3 : Int32).toNatClampNeg)) (Z6 26 0 ((x3 : Int32).toNatClampNeg)) (Z6 27 0 ((x3 : Int32).toNatClampNeg)) (Z6 28 0 ((x3 : Int32).toNatClampNeg)) = AT at hN ⊢
    obtain ⟨af, AZ⟩ := AT
    dsimp only at hN ⊢
    have hRA : RM (kk + i) AZ := by have h := RM.att hZ hi1 hi2 c_1; rw [hAT] at h; exact h
    refine lv_istore (lv' := [(4, .int af), (3, .int x3), (1, .int x1), (2, .int x2), (0, .ref (ad 0 0))]) hx hb dX10_day_42 hl (by decide) rfl (fun ls hl => ?_)
    refine lv_iload hx hb dX10_day_44 (lv_at hl 0 rfl) ?_
    refine lv_if_ne (x := af) (tgt := 55) hx hb dX10_day_46 (by decide) (fun c_2 => ?_) (fun c_2 => ?_)
    · refine lv_aload_n hx hb dX10_day_55 rfl (lv_at hl 4 rfl) ?_
      refine nwM_get S hK hN hin10 29 (by decide) (index := 167) (List.mem_cons_of_mem _ (List.mem_append_left _ (List.mem_append_left _ (List.mem_of_getElem? (i := 5) rfl)))) rfl (v := .int (AZ 0 0 29)) rfl dX10_day_56 ?_
      refine lv_bipush (v := 40) hx hb dX10_day_59 (by decide) ?_
      refine lv_icmp_ge (x := AZ 0 0 29) (y := 40) (tgt := 85) hx hb dX10_day_61 (by decide) (fun c_3 => ?_) (fun c_3 => ?_)
      · refine lv_aload_n hx hb dX10_day_85 rfl (lv_at hl 4 rfl) ?_
        refine lv_dup hx hb dX10_day_86 rfl ?_
        refine nwM_get S hK hN hin10 29 (by decide) (index := 167) (List.mem_cons_of_mem _ (List.mem_append_left _ (List.mem_append_left _ (List.mem_of_getElem? (i := 5) rfl)))) rfl (v := .int (AZ 0 0 29)) rfl dX10_day_87 ?_
        refine lv_iconst (v := 1) hx hb dX10_day_90 (by decide) ?_
        refine lv_iadd hx hb dX10_day_91 ?_
        refine nwM_put S hK hN hS hin10 29 (by decide) (index := 167) (List.mem_cons_of_mem _ (List.mem_append_left _ (List.mem_append_left _ (List.mem_of_getElem? (i := 5) rfl)))) rfl rfl rfl ((AZ 0 0 29) + 1) (obM_29 _ _ _) dX10_day_92 (fun H locs hN hz hS => ?_)
        refine lv_iinc (v := x2 + 1) (lv' := [(2, .int (x2 + 1)), (4, .int af), (3, .int x3), (1, .int x1), (0, .ref (ad 0 0))]) hx hb dX10_day_95 hl (k := 3) rfl rfl (by decide) rfl (fun ls hl => ?_)
        refine lv_iload hx hb dX10_day_98 (lv_at hl 1 rfl) ?_
        refine lv_bipush (v := 6) hx hb dX10_day_100 (by decide) ?_
        refine lv_icmp_ne (x := af) (y := 6) (tgt := 110) hx hb dX10_day_102 (by decide) (fun c_4 => ?_) (fun c_4 => ?_)
        · refine lv_iinc (v := x3 + 1) (lv' := [(3, .int (x3 + 1)), (2, .int (x2 + 1)), (4, .int af), (1, .int x1), (0, .ref (ad 0 0))]) hx hb dX10_day_110 hl (k := 2) rfl rfl (by decide) rfl (fun ls hl => ?_)
          refine lv_goto (tgt := 6) hx hb dX10_day_113 (by decide) ?_
          exact ih n (x3 + 1, x1, x2 + 1, u3 AZ 0 0 29 ((AZ 0 0 29) + 1)) _ _ _ (by omega) ⟨lv_sub hl [0, 3, 1, 4] rfl, hN, hS, by rw [hfe, gX10_day_6_s, if_neg c_1, hAT]; dsimp only; rw [if_neg c_2, if_pos c_3, if_neg c_4], by have h := RM.b1 (f := af) hZ hi1 hi2 hi3 c_1 hk; rw [hAT] at h; rw [← pdM_hi (x := x3) (f := af) c_3]; exact h⟩
        · refine lv_bipush (v := (-10)) hx hb dX10_day_105 (by decide) ?_
          refine lv_iload_n hx hb dX10_day_107 rfl (lv_at hl 0 rfl) ?_
          refine lv_isub hx hb dX10_day_108 ?_
          have hf : fX10_day M = ((-10) - (x2 + 1), u3 AZ 0 0 29 ((AZ 0 0 29) + 1)) := by rw [hfe, gX10_day_6_s, if_neg c_1, hAT]; dsimp only; rw [if_neg c_2, if_pos c_3, if_pos c_4]
          exact W.iret (v := (-10) - (x2 + 1)) hx hb hr (fun t ht _ => by rw [hf]; exact nw_end hS hN ht) hS.2.2 dX10_day_109
      · refine lv_aload_n hx hb dX10_day_64 rfl (lv_at hl 4 rfl) ?_
        refine nwM_get S hK hN hin10 30 (by decide) (index := 86) (List.mem_cons_of_mem _ (List.mem_append_left _ (List.mem_append_left _ (List.mem_of_getElem? (i := 6) rfl)))) rfl (v := .ref (ad 30 0)) rfl dX10_day_65 ?_
        refine lv_aload_n hx hb dX10_day_68 rfl (lv_at hl 4 rfl) ?_
        refine nwM_get S hK hN hin10 29 (by decide) (index := 167) (List.mem_cons_of_mem _ (List.mem_append_left _ (List.mem_append_left _ (List.mem_of_getElem? (i := 5) rfl)))) rfl (v := .int (AZ 0 0 29)) rfl dX10_day_69 ?_
        refine lv_iload_n hx hb dX10_day_72 rfl (lv_at hl 1 rfl) ?_
        refine nw_iast S hK hN hS (k := 30) (i := 0) ⟨rfl, rfl⟩ (fun _ => rfl) (x := AZ 0 0 29) (v := x3) (day_put (RM.inv hRA) c_3) dX10_day_73 (fun H locs hN hz hS => ?_)
        refine lv_aload_n hx hb dX10_day_74 rfl (lv_at hl 4 rfl) ?_
        refine nwM_get S hK hN hin10 31 (by decide) (index := 89) (List.mem_cons_of_mem _ (List.mem_append_left _ (List.mem_append_left _ (List.mem_of_getElem? (i := 7) rfl)))) rfl (v := .ref (ad 31 0)) rfl dX10_day_75 ?_
        refine lv_aload_n hx hb dX10_day_78 rfl (lv_at hl 4 rfl) ?_
        refine nwM_get S hK hN hin10 29 (by decide) (index := 167) (List.mem_cons_of_mem _ (List.mem_append_left _ (List.mem_append_left _ (List.mem_of_getElem? (i := 5) rfl)))) rfl (v := .int (AZ 0 0 29)) rfl dX10_day_79 ?_
        refine lv_iload hx hb dX10_day_82 (lv_at hl 0 rfl) ?_
        refine nw_iast S hK hN hS (k := 31) (i := 0) ⟨rfl, rfl⟩ (fun _ => rfl) (x := AZ 0 0 29) (v := af) (day_put (RM.inv hRA) c_3) dX10_day_84 (fun H locs hN hz hS => ?_)
        refine lv_aload_n hx hb dX10_day_85 rfl (lv_at hl 4 rfl) ?_
        refine lv_dup hx hb dX10_day_86 rfl ?_
        refine nwM_get S hK hN hin10 29 (by decide) (index := 167) (List.mem_cons_of_mem _ (List.mem_append_left _ (List.mem_append_left _ (List.mem_of_getElem? (i := 5) rfl)))) rfl (v := .int (AZ 0 0 29)) rfl dX10_day_87 ?_
        refine lv_iconst (v := 1) hx hb dX10_day_90 (by decide) ?_
        refine lv_iadd hx hb dX10_day_91 ?_
        refine nwM_put S hK hN hS hin10 29 (by decide) (index := 167) (List.mem_cons_of_mem _ (List.mem_append_left _ (List.mem_append_left _ (List.mem_of_getElem? (i := 5) rfl)))) rfl rfl rfl ((AZ 0 0 29) + 1) (obM_29 _ _ _) dX10_day_92 (fun H locs hN hz hS => ?_)
        refine lv_iinc (v := x2 + 1) (lv' := [(2, .int (x2 + 1)), (4, .int af), (3, .int x3), (1, .int x1), (0, .ref (ad 0 0))]) hx hb dX10_day_95 hl (k := 3) rfl rfl (by decide) rfl (fun ls hl => ?_)
        refine lv_iload hx hb dX10_day_98 (lv_at hl 1 rfl) ?_
        refine lv_bipush (v := 6) hx hb dX10_day_100 (by decide) ?_
        refine lv_icmp_ne (x := af) (y := 6) (tgt := 110) hx hb dX10_day_102 (by decide) (fun c_5 => ?_) (fun c_5 => ?_)
        · refine lv_iinc (v := x3 + 1) (lv' := [(3, .int (x3 + 1)), (2, .int (x2 + 1)), (4, .int af), (1, .int x1), (0, .ref (ad 0 0))]) hx hb dX10_day_110 hl (k := 2) rfl rfl (by decide) rfl (fun ls hl => ?_)
          refine lv_goto (tgt := 6) hx hb dX10_day_113 (by decide) ?_
          exact ih n (x3 + 1, x1, x2 + 1, u3 (u3 (u3 AZ 30 0 ((AZ 0 0 29 : Int32).toNatClampNeg) x3) 31 0 ((AZ 0 0 29 : Int32).toNatClampNeg) af) 0 0 29 ((AZ 0 0 29) + 1)) _ _ _ (by omega) ⟨lv_sub hl [0, 3, 1, 4] rfl, hN, hS, by rw [hfe, gX10_day_6_s, if_neg c_1, hAT]; dsimp only; rw [if_neg c_2, if_neg c_3, if_neg c_5], by have h := RM.b1 (f := af) hZ hi1 hi2 hi3 c_1 hk; rw [hAT] at h; rw [← pdM_lo (x := x3) (f := af) c_3]; exact h⟩
        · refine lv_bipush (v := (-10)) hx hb dX10_day_105 (by decide) ?_
          refine lv_iload_n hx hb dX10_day_107 rfl (lv_at hl 0 rfl) ?_
          refine lv_isub hx hb dX10_day_108 ?_
          have hf : fX10_day M = ((-10) - (x2 + 1), u3 (u3 (u3 AZ 30 0 ((AZ 0 0 29 : Int32).toNatClampNeg) x3) 31 0 ((AZ 0 0 29 : Int32).toNatClampNeg) af) 0 0 29 ((AZ 0 0 29) + 1)) := by rw [hfe, gX10_day_6_s, if_neg c_1, hAT]; dsimp only; rw [if_neg c_2, if_neg c_3, if_pos c_5]
          exact W.iret (v := (-10) - (x2 + 1)) hx hb hr (fun t ht _ => by rw [hf]; exact nw_end hS hN ht) hS.2.2 dX10_day_109
    · refine lv_iinc (v := x1 + 1) (lv' := [(1, .int (x1 + 1)), (4, .int af), (3, .int x3), (2, .int x2), (0, .ref (ad 0 0))]) hx hb dX10_day_49 hl (k := 2) rfl rfl (by decide) rfl (fun ls hl => ?_)
      refine lv_goto (tgt := 98) hx hb dX10_day_52 (by decide) ?_
      refine lv_iload hx hb dX10_day_98 (lv_at hl 1 rfl) ?_
      refine lv_bipush (v := 6) hx hb dX10_day_100 (by decide) ?_
      refine lv_icmp_ne (x := af) (y := 6) (tgt := 110) hx hb dX10_day_102 (by decide) (fun c_6 => ?_) (fun c_6 => ?_)
      · refine lv_iinc (v := x3 + 1) (lv' := [(3, .int (x3 + 1)), (1, .int (x1 + 1)), (4, .int af), (2, .int x2), (0, .ref (ad 0 0))]) hx hb dX10_day_110 hl (k := 2) rfl rfl (by decide) rfl (fun ls hl => ?_)
        refine lv_goto (tgt := 6) hx hb dX10_day_113 (by decide) ?_
        exact ih n (x3 + 1, x1 + 1, x2, AZ) _ _ _ (by omega) ⟨lv_sub hl [0, 1, 3, 4] rfl, hN, hS, by rw [hfe, gX10_day_6_s, if_neg c_1, hAT]; dsimp only; rw [if_pos c_2, if_neg c_6], by have h := RM.b0 hZ hi1 hi2 hi3 c_1; rw [hAT] at h; exact h⟩
      · refine lv_bipush (v := (-10)) hx hb dX10_day_105 (by decide) ?_
        refine lv_iload_n hx hb dX10_day_107 rfl (lv_at hl 3 rfl) ?_
        refine lv_isub hx hb dX10_day_108 ?_
        have hf : fX10_day M = ((-10) - x2, AZ) := by rw [hfe, gX10_day_6_s, if_neg c_1, hAT]; dsimp only; rw [if_pos c_2, if_pos c_6]
        exact W.iret (v := (-10) - x2) hx hb hr (fun t ht _ => by rw [hf]; exact nw_end hS hN ht) hS.2.2 dX10_day_109
