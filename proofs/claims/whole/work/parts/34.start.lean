/-! the law begins: its classes are known -/
theorem arrOf {s : State} {c comp : ClassId} {k : Class} {ty : FieldType} (h2 : s.vm.classes[c]? = some k) (h3 : k.kind = .array comp ty) : ArrOfT s c ty := fun n z => ⟨fun k h => (by cases h), k, h2, comp, h3⟩
set_option maxHeartbeats 4000000 in
set_option maxRecDepth 100000 in
theorem law_KK {s : State} {args : Array Value} (hts : ∀ w ∈ lw_tbl, w.before args s = true) (hgv : (Jvm.Cond.and given_1 narrow_1).before args s = true) : ∃ (D : va_G) (C : Nat → ClassId), KK D C s := by
  have hs := flat_of_before _ hgv
  obtain ⟨c0, i0, k0⟩ := u_known (C := RX0) (T := TX0) (N := 1) hts inX0 (hts (.instantiable RX0 1) (List.mem_of_getElem? (i := 315) (by decide +kernel)))
  obtain ⟨c1, i1, k1⟩ := u_known (C := RX1) (T := TX1) (N := 5) hts inX1 (hts (.instantiable RX1 5) (List.mem_of_getElem? (i := 211) (by decide +kernel)))
  obtain ⟨c2, i2, k2⟩ := u_known (C := RX2) (T := TX2) (N := 5) hts inX2 (hts (.instantiable RX2 5) (List.mem_of_getElem? (i := 261) (by decide +kernel)))
  obtain ⟨c3, i3, k3⟩ := u_known (C := RX3) (T := TX3) (N := 5) hts inX3 (hts (.instantiable RX3 5) (List.mem_of_getElem? (i := 250) (by decide +kernel)))
  obtain ⟨c4, i4, k4⟩ := u_known (C := RX4) (T := TX4) (N := 3) hts inX4 (hts (.instantiable RX4 3) (List.mem_of_getElem? (i := 100) (by decide +kernel)))
  obtain ⟨c5, i5, k5⟩ := u_known (C := RX5) (T := TX5) (N := 5) hts inX5 (hts (.instantiable RX5 5) (List.mem_of_getElem? (i := 118) (by decide +kernel)))
  obtain ⟨c6, i6, k6⟩ := u_known (C := RX6) (T := TX6) (N := 4) hts inX6 (hts (.instantiable RX6 4) (List.mem_of_getElem? (i := 77) (by decide +kernel)))
  obtain ⟨c7, i7, k7⟩ := u_known (C := RX7) (T := TX7) (N := 2) hts inX7 (hts (.instantiable RX7 2) (List.mem_of_getElem? (i := 274) (by decide +kernel)))
  obtain ⟨c8, i8, k8⟩ := u_known (C := RX9) (T := TX9) (N := 17) hts inX9 (hts (.instantiable RX9 17) (List.mem_of_getElem? (i := 56) (by decide +kernel)))
  obtain ⟨c9, i9, k9⟩ := u_known (C := RX10) (T := TX10) (N := 35) hts inX10 (hts (.instantiable RX10 35) (List.mem_of_getElem? (i := 546) (by decide +kernel)))
  obtain ⟨a0, ka0, comp0, f0, g0, q0⟩ := Cond.arrayClass_spec (hts (.arrayClass .int) (List.mem_of_getElem? (i := 99) (by decide +kernel)))
  obtain ⟨a1, ka1, comp1, f1, g1, q1⟩ := Cond.arrayClass_spec (hts (.arrayClass .boolean) (List.mem_of_getElem? (i := 145) (by decide +kernel)))
  have ho2 := hts (.arrayOver (.object RX2)) (List.mem_of_getElem? (i := 64) (by decide +kernel))
  obtain ⟨comp2, a2, ka2, e2, -, g2, q2, f2⟩ := Cond.arrayOver_spec ho2
  have ho3 := hts (.arrayOver (.object RX8)) (List.mem_of_getElem? (i := 66) (by decide +kernel))
  obtain ⟨comp3, a3, ka3, e3, -, g3, q3, f3⟩ := Cond.arrayOver_spec ho3
  have ho4 := hts (.arrayOver (.object RX6)) (List.mem_of_getElem? (i := 68) (by decide +kernel))
  obtain ⟨comp4, a4, ka4, e4, -, g4, q4, f4⟩ := Cond.arrayOver_spec ho4
  have ho5 := hts (.arrayOver (.object RX4)) (List.mem_of_getElem? (i := 70) (by decide +kernel))
  obtain ⟨comp5, a5, ka5, e5, -, g5, q5, f5⟩ := Cond.arrayOver_spec ho5
  have ho6 := hts (.arrayOver (.object RX5)) (List.mem_of_getElem? (i := 72) (by decide +kernel))
  obtain ⟨comp6, a6, ka6, e6, -, g6, q6, f6⟩ := Cond.arrayOver_spec ho6
  have ho7 := hts (.arrayOver (.object RX0)) (List.mem_of_getElem? (i := 74) (by decide +kernel))
  obtain ⟨comp7, a7, ka7, e7, -, g7, q7, f7⟩ := Cond.arrayOver_spec ho7
  have ho8 := hts (.arrayOver (.array .int)) (List.mem_of_getElem? (i := 76) (by decide +kernel))
  obtain ⟨comp8, a8, ka8, e8, -, g8, q8, f8⟩ := arrayOverA_spec ho8
  refine ⟨(fun n => [c0, c1, c2, c3, c4, c5, c6, c7, c8, c9].getD n 0, fun n => [i0, i1, i2, i3, i4, i5, i6, i7, i8, i9].getD n (fun _ => 0)), fun n => [a0, a1, a2, a3, a4, a5, a6, a7, a8].getD n 0, ⟨fun c q hq => ?_, fun k q hk => ?_⟩, ⟨va_Nw.of rfl (hts (.castable RX1 RX2) (List.mem_of_getElem? (i := 787) (by decide +kernel))), va_Nw.of rfl (hts (.castable RX3 RX2) (List.mem_of_getElem? (i := 789) (by decide +kernel))), va_Nw.of rfl (hts (.castable RX1 RX8) (List.mem_of_getElem? (i := 791) (by decide +kernel))), va_Nw.of rfl (hts (.castable RX2 RX8) (List.mem_of_getElem? (i := 792) (by decide +kernel))), va_Nw.of rfl (hts (.castable RX3 RX8) (List.mem_of_getElem? (i := 793) (by decide +kernel))), va_Nw.of rfl (hts (.castable RX7 RX8) (List.mem_of_getElem? (i := 794) (by decide +kernel)))⟩, ⟨va_Nc.of (hs (.not (.castable RX7 RX2)) (by decide +kernel)), va_Nc.of (hs (.not (.castable RX2 RX3)) (by decide +kernel)), va_Nc.of (hs (.not (.castable RX1 RX3)) (by decide +kernel))⟩, ⟨va_Nw.of rfl (hts (.methodLinkNest RX9 60 yX6_init "RidingYard") (List.mem_of_getElem? (i := 78) (by decide +kernel))), va_Nw.of rfl (hts (.methodLinkNest RX9 61 yX4_init "RidingYard") (List.mem_of_getElem? (i := 101) (by decide +kernel))), va_Nw.of rfl (hts (.methodLinkNest RX9 62 yX5_init "RidingYard") (List.mem_of_getElem? (i := 119) (by decide +kernel))), va_Nw.of rfl (hts (.methodLinkNest RX2 3 yX8_init "RidingYard") (List.mem_of_getElem? (i := 218) (by decide +kernel))), va_Nw.of rfl (hts (.methodLinkNest RX7 1 yX8_init "RidingYard") (List.mem_of_getElem? (i := 278) (by decide +kernel)))⟩, ⟨va_AO.of ho2, va_AO.of ho3, va_AO.of ho4, va_AO.of ho5, va_AO.of ho6, va_AO.of ho7⟩, ho8, va_Nw.of rfl (hts (.declares ⟨"RidingYard$Worker", "workFor", "(I)I"⟩) (List.mem_of_getElem? (i := 385) (by decide +kernel)))⟩
  · match c, hq with
    | 0, hq => cases hq; exact k0
    | 1, hq => cases hq; exact k1
    | 2, hq => cases hq; exact k2
    | 3, hq => cases hq; exact k3
    | 4, hq => cases hq; exact k4
    | 5, hq => cases hq; exact k5
    | 6, hq => cases hq; exact k6
    | 7, hq => cases hq; exact k7
    | 8, hq => cases hq; exact k8
    | 9, hq => cases hq; exact k9
    | n + 10, hq => exact absurd hq (by simp)
  · match k, hk with
    | 0, hk => cases hk; exact ⟨arrOf g0 q0, f0⟩
    | 1, hk => cases hk; exact ⟨arrOf g1 q1, f1⟩
    | 2, hk => cases hk; exact ⟨arrOf g2 q2, ka2, comp2, g2, q2, e2, f2⟩
    | 3, hk => cases hk; exact ⟨arrOf g3 q3, ka3, comp3, g3, q3, e3, f3⟩
    | 4, hk => cases hk; exact ⟨arrOf g4 q4, ka4, comp4, g4, q4, e4, f4⟩
    | 5, hk => cases hk; exact ⟨arrOf g5 q5, ka5, comp5, g5, q5, e5, f5⟩
    | 6, hk => cases hk; exact ⟨arrOf g6 q6, ka6, comp6, g6, q6, e6, f6⟩
    | 7, hk => cases hk; exact ⟨arrOf g7 q7, ka7, comp7, g7, q7, e7, f7⟩
    | 8, hk => cases hk; exact ⟨arrOf g8 q8, f8⟩
    | n + 9, hk => exact absurd hk (by simp)
set_option maxHeartbeats 4000000 in
set_option maxRecDepth 100000 in
theorem law_ZP {s : State} {args : Array Value} {A : Nat → Prop} (hts : ∀ w ∈ lw_tbl, w.before args s = true) (hgv : (Jvm.Cond.and given_1 narrow_1).before args s = true) (hA : ∀ a : Nat, a < s.heap.size → ¬ A a) : ∃ tt, ZP tt A s s.heap := by
  have hs := flat_of_before _ hgv
  obtain ⟨tt, e1, e2⟩ := va_Tof (tm := (.static "RidingYard" "PLACES_OF_SORT" "[I")) (ty := .int) (N := 6) (f := fun j => .int (plcF j)) (by decide) (hs (.arrayOf (.static "RidingYard" "PLACES_OF_SORT" "[I") .int) (by decide +kernel)) (va_eqt (hs (.eq (.length (.static "RidingYard" "PLACES_OF_SORT" "[I")) (.int 6)) (by decide +kernel))) (fun j hj => by
    rcases (show j = 0 ∨ j = 1 ∨ j = 2 ∨ j = 3 ∨ j = 4 ∨ j = 5 by omega) with rfl | rfl | rfl | rfl | rfl | rfl
    · exact va_eqt (hs (.eq (.elem (.static "RidingYard" "PLACES_OF_SORT" "[I") (.int 0)) (.int 10)) (by decide +kernel))
    · exact va_eqt (hs (.eq (.elem (.static "RidingYard" "PLACES_OF_SORT" "[I") (.int 1)) (.int 6)) (by decide +kernel))
    · exact va_eqt (hs (.eq (.elem (.static "RidingYard" "PLACES_OF_SORT" "[I") (.int 2)) (.int 6)) (by decide +kernel))
    · exact va_eqt (hs (.eq (.elem (.static "RidingYard" "PLACES_OF_SORT" "[I") (.int 3)) (.int 4)) (by decide +kernel))
    · exact va_eqt (hs (.eq (.elem (.static "RidingYard" "PLACES_OF_SORT" "[I") (.int 4)) (.int 4)) (by decide +kernel))
    · exact va_eqt (hs (.eq (.elem (.static "RidingYard" "PLACES_OF_SORT" "[I") (.int 5)) (.int 6)) (by decide +kernel))) hA
  exact ⟨tt, va_Zref (hts (.laysStatic "RidingYard" "PLACES_OF_SORT" "[I") (List.mem_of_getElem? (i := 298) (by decide +kernel))) (hts (.initialized RX9) (List.mem_of_getElem? (i := 42) (by decide +kernel))) e1 hA, e2⟩
