/-! teams, ledgers, tables, alarms -/
def frM (Z : StY) (k a len : Nat) (v : Int32) : StY := fun k' i' j => if k' = k ∧ i' = 0 ∧ a ≤ j ∧ j < a + len then v else Z k' i' j
theorem frM_0 (Z : StY) (k a : Nat) (v : Int32) : frM Z k a 0 v = Z := by
  funext k' i' j
  unfold frM
  rw [if_neg (fun z => by omega)]
theorem frM_step (Z : StY) (k a c : Nat) (v : Int32) : u3 (frM Z k a c v) k 0 (a + c) v = frM Z k a (c + 1) v := by
  funext k' i' j
  rw [u3_at]
  unfold frM
  by_cases h1 : k' = k ∧ i' = 0 ∧ j = a + c
  · rw [if_pos h1, if_pos ⟨h1.1, h1.2.1, by omega, by omega⟩]
  · rw [if_neg h1]
    by_cases h2 : k' = k ∧ i' = 0 ∧ a ≤ j ∧ j < a + c
    · rw [if_pos h2, if_pos ⟨h2.1, h2.2.1, h2.2.2.1, by omega⟩]
    · rw [if_neg h2, if_neg]
      intro z
      by_cases q : j = a + c
      · exact h1 ⟨z.1, z.2.1, q⟩
      · exact h2 ⟨z.1, z.2.1, z.2.2.1, by omega⟩
theorem frM_in {Z : StY} {k a len j : Nat} {v : Int32} (h : j < len) : frM Z k a len v k 0 (a + j) = v := if_pos ⟨rfl, rfl, by omega, by omega⟩
theorem frM_out {Z : StY} {k a len j : Nat} {v : Int32} (h : ¬ (a ≤ j ∧ j < a + len)) : frM Z k a len v k 0 j = Z k 0 j := if_neg (fun z => h z.2.2)
theorem frY_in {Z : StY} {k i len j : Nat} {v : Int32} (h : j < len) : frY Z k i len v k i j = v := if_pos ⟨rfl, rfl, h⟩
theorem frY_out {Z : StY} {k i len i' j : Nat} {v : Int32} (h : i' ≠ i) : frY Z k i len v k i' j = Z k i' j := if_neg (fun z => h z.2.1)
theorem ge_no {B i : Nat} (hB : B < 2 ^ 31) (h : i < B) : ¬ nI B ≤ nI i := nI_ge h hB
theorem lp_form (i0 : Nat) (p0 p1 : Int32) (Z : StY) : ∀ n i, i ≤ 8 → i + n = 9 → gX6_form_17 i0 p0 p1 n (nI i) (frY Z 13 i0 i (-1)) = frY Z 13 i0 8 (-1)
  | 0, i, h1, h2 => absurd h2 (by omega)
  | n + 1, i, h1, h2 => by
    rw [gX6_form_17_s]
    by_cases c : i = 8
    · subst c
      rw [if_pos (by decide)]
    · rw [if_neg (show ¬ (8 : Int32) ≤ nI i from ge_no (B := 8) (by decide) (by omega)), nI_clamp (by omega), frY_step, nI_1]
      exact lp_form i0 p0 p1 Z n (i + 1) (by omega) (by omega)
theorem lp_team (p0 p2 p3 : Int32) {t : Nat} (ht : t < 6) (Z : StY) : ∀ n i, i ≤ 8 → i + n = 9 → gX10_ofTeam_40 p0 (nI t) p2 p3 n (nI i) (frM Z 15 (8 * t) i (-1)) = (0, u3 (frM Z 15 (8 * t) 8 (-1)) 0 0 34 (Z 13 0 t))
  | 0, i, h1, h2 => absurd h2 (by omega)
  | n + 1, i, h1, h2 => by
    rw [gX10_ofTeam_40_s]
    by_cases c : i = 8
    · subst c
      rw [if_pos (by decide), nI_clamp (by omega)]
      rfl
    · rw [if_neg (show ¬ (8 : Int32) ≤ nI i from ge_no (B := 8) (by decide) (by omega)), ix8 ht (by omega), frM_step, nI_1]
      exact lp_team p0 p2 p3 ht Z n (i + 1) (by omega) (by omega)
theorem lp_led (p0 p2 p3 : Int32) {t : Nat} (ht : t < 4) (Z : StY) : ∀ n i, i ≤ 12 → i + n = 13 → gX10_ofLedger_27 p0 (nI t) p2 p3 n (nI i) (frM Z 17 (12 * t) i 0) = (0, u3 (frM Z 17 (12 * t) 12 0) 0 0 34 (Z 16 0 t))
  | 0, i, h1, h2 => absurd h2 (by omega)
  | n + 1, i, h1, h2 => by
    rw [gX10_ofLedger_27_s]
    by_cases c : i = 12
    · subst c
      rw [if_pos (by decide), nI_clamp (by omega)]
      rfl
    · rw [if_neg (show ¬ (12 : Int32) ≤ nI i from ge_no (B := 12) (by decide) (by omega)), ix12 ht (by omega), frM_step, nI_1]
      exact lp_led p0 p2 p3 ht Z n (i + 1) (by omega) (by omega)
theorem lp_cells (p0 p2 p3 : Int32) {t : Nat} (ht : t < 4) (Z : StY) : ∀ n i, i ≤ 36 → i + n = 37 → gX10_ofTable_74 p0 (nI t) p2 p3 n (nI i) (frM Z 21 (36 * t) i 0) = (0, u3 (frM Z 21 (36 * t) 36 0) 0 0 34 1)
  | 0, i, h1, h2 => absurd h2 (by omega)
  | n + 1, i, h1, h2 => by
    rw [gX10_ofTable_74_s]
    by_cases c : i = 36
    · subst c
      rw [if_pos (by decide)]
    · rw [if_neg (show ¬ (36 : Int32) ≤ nI i from ge_no (B := 36) (by decide) (by omega)), ix36b ht (by omega), frM_step, nI_1]
      exact lp_cells p0 p2 p3 ht Z n (i + 1) (by omega) (by omega)
theorem lp_rows (p0 p2 p3 : Int32) {t : Nat} (ht : t < 4) (Z : StY) : ∀ n i, i ≤ 6 → i + n = 7 → gX10_ofTable_45 p0 (nI t) p2 p3 n (nI i) (frM Z 20 (6 * t) i 1) = (0, u3 (frM (frM Z 20 (6 * t) 6 1) 21 (36 * t) 36 0) 0 0 34 1)
  | 0, i, h1, h2 => absurd h2 (by omega)
  | n + 1, i, h1, h2 => by
    rw [gX10_ofTable_45_s]
    by_cases c : i = 6
    · subst c
      rw [if_pos (by decide)]
      have e := lp_cells p0 p2 p3 ht (frM Z 20 (6 * t) 6 1) 37 0 (by decide) (by decide)
      rw [frM_0] at e
      exact e
    · rw [if_neg (show ¬ (6 : Int32) ≤ nI i from ge_no (B := 6) (by decide) (by omega)), ix6 ht (by omega), frM_step, nI_1]
      exact lp_rows p0 p2 p3 ht Z n (i + 1) (by omega) (by omega)
def tbY (Z : StY) (t n : Nat) : StY := fun k i j => if k = 19 ∧ i = t ∧ j < n then 1 else if k = 18 ∧ 6 * t ≤ i ∧ i < 6 * t + n ∧ j < 6 then 0 else Z k i j
theorem tbY_0 (Z : StY) (t : Nat) : tbY Z t 0 = Z := by
  funext k i j
  unfold tbY
  rw [if_neg (fun z => by omega), if_neg (fun z => by omega)]
theorem tbY_step (Z : StY) (t n : Nat) : frY (u3 (tbY Z t n) 19 t n 1) 18 (6 * t + n) 6 0 = tbY Z t (n + 1) := by
  funext k i j
  unfold frY
  rw [u3_at]
  unfold tbY
  by_cases k18 : k = 18
  · subst k18
    rw [if_neg (c := 18 = 19 ∧ i = t ∧ j < n + 1) (fun z => absurd z.1 (by decide)), if_neg (c := 18 = 19 ∧ i = t ∧ j = n) (fun z => absurd z.1 (by decide)), if_neg (c := 18 = 19 ∧ i = t ∧ j < n) (fun z => absurd z.1 (by decide))]
    by_cases h1 : 18 = 18 ∧ i = 6 * t + n ∧ j < 6
    · rw [if_pos h1, if_pos ⟨rfl, by omega, by omega, h1.2.2⟩]
    · rw [if_neg h1]
      by_cases h2 : 18 = 18 ∧ 6 * t ≤ i ∧ i < 6 * t + n ∧ j < 6
      · rw [if_pos h2, if_pos ⟨rfl, h2.2.1, by omega, h2.2.2.2⟩]
      · rw [if_neg h2, if_neg]
        intro z
        by_cases q : i = 6 * t + n
        · exact h1 ⟨rfl, q, z.2.2.2⟩
        · exact h2 ⟨rfl, z.2.1, by omega, z.2.2.2⟩
  · rw [if_neg (c := k = 18 ∧ i = 6 * t + n ∧ j < 6) (fun z => k18 z.1), if_neg (c := k = 18 ∧ 6 * t ≤ i ∧ i < 6 * t + n ∧ j < 6) (fun z => k18 z.1), if_neg (c := k = 18 ∧ 6 * t ≤ i ∧ i < 6 * t + (n + 1) ∧ j < 6) (fun z => k18 z.1)]
    by_cases h1 : k = 19 ∧ i = t ∧ j = n
    · rw [if_pos h1, if_pos ⟨h1.1, h1.2.1, by omega⟩]
    · rw [if_neg h1]
      by_cases h2 : k = 19 ∧ i = t ∧ j < n
      · rw [if_pos h2, if_pos ⟨h2.1, h2.2.1, by omega⟩]
      · rw [if_neg h2, if_neg]
        intro z
        by_cases q : j = n
        · exact h1 ⟨z.1, z.2.1, q⟩
        · exact h2 ⟨z.1, z.2.1, by omega⟩
theorem lp_set (t : Nat) (p0 p1 : Int32) (Z : StY) : ∀ n i, i ≤ 6 → i + n = 7 → gX5_set_17 t p0 p1 n (nI i) (tbY Z t i) = tbY Z t 6
  | 0, i, h1, h2 => absurd h2 (by omega)
  | n + 1, i, h1, h2 => by
    rw [gX5_set_17_s]
    by_cases c : i = 6
    · subst c
      rw [if_pos (by decide)]
    · rw [if_neg (show ¬ (6 : Int32) ≤ nI i from ge_no (B := 6) (by decide) (by omega)), nI_clamp (by omega), tbY_step, nI_1]
      exact lp_set t p0 p1 Z n (i + 1) (by omega) (by omega)
theorem least_eq (c B : Int32) : (if B < c then B else c) = fX10_least c B := by
  unfold fX10_least
  by_cases h : B < c
  · rw [if_pos h, if_pos (Int32.le_of_lt h)]
  · rw [if_neg h]
    by_cases h2 : B ≤ c
    · rw [if_pos h2]
      exact Int32.le_antisymm (Int32.not_lt.mp h) h2
    · rw [if_neg h2]
theorem least_ok {c : Int32} {B : Nat} (hB : B < 2 ^ 31) (h : 0 ≤ c) : okZ B (fX10_least c (nI B)) := by
  obtain ⟨j, hj, e⟩ := nI_of (nle_of h)
  unfold fX10_least
  rw [e]
  by_cases h2 : nI B ≤ nI j
  · rw [if_pos h2]; exact ⟨B, Nat.le_refl _, rfl⟩
  · rw [if_neg h2]
    rw [nI_leI hB hj] at h2
    exact ⟨j, by omega, rfl⟩
section SIMB
variable {nh nv na kk : Nat} {Y M : StY}
theorem RR.formed (h : RR nh nv na kk Y M) {t : Nat} {kd sz : Int32} (hs : okZ 8 sz) : RR nh nv na kk (frY (u3 (u3 (u3 Y 12 t 1 1) 12 t 2 kd) 12 t 3 sz) 13 t 8 (-1)) (frM (u3 (u3 M 13 0 t sz) 14 0 t kd) 15 (8 * t) 8 (-1)) := by
  have e1 : u3 (u3 (u3 Y 12 t 1 1) 12 t 2 kd) 12 t 3 sz 12 t 1 = 1 := by
    rw [u3_sl (by decide), u3_sl (by decide), u3_rd]
  have e2 : u3 (u3 (u3 Y 12 t 1 1) 12 t 2 kd) 12 t 3 sz 12 t 2 = kd := by
    rw [u3_sl (by decide), u3_rd]
  have e3 : u3 (u3 (u3 Y 12 t 1 1) 12 t 2 kd) 12 t 3 sz 12 t 3 = sz := u3_rd
  have en : ∀ y, y ≠ t → u3 (u3 (u3 Y 12 t 1 1) 12 t 2 kd) 12 t 3 sz 12 y = Y 12 y := fun y q => by
    rw [u3_ne (fun z => q z.2), u3_ne (fun z => q z.2), u3_ne (fun z => q z.2)]
  generalize hZ : u3 (u3 (u3 Y 12 t 1 1) 12 t 2 kd) 12 t 3 sz = Z at e1 e2 e3 en ⊢
  have z1 : ∀ k, k ≠ 12 → Z k = Y k := fun k q => by
    funext i
    rw [← hZ, u3_ne (fun z => q z.1), u3_ne (fun z => q z.1), u3_ne (fun z => q z.1)]
  have f1 : ∀ k, k ≠ 13 → frY Z 13 t 8 (-1) k = Z k := fun k q => by
    funext i j
    exact if_neg (fun z => q z.1)
  have f2 : frY Z 13 t 8 (-1) 12 = Z 12 := f1 12 (by decide)
  have g : ∀ k, k ≠ 12 → k ≠ 13 → frY Z 13 t 8 (-1) k = Y k := fun k q1 q2 => (f1 k q2).trans (z1 k q1)
  have p1 : ∀ t', t' ≠ t → ∀ j, frY Z 13 t 8 (-1) 13 t' j = Y 13 t' j := fun t' q j => by
    rw [frY_out q, z1 13 (by decide)]
  obtain ⟨⟨i1, i2, i3, i4, i5, i6, i7, i8, i9, i10, i11, i12, i13, i14, i15, i16⟩, r1, r2, r3, r4, r5, r6, r7, r8, r9, r10, r11, r12⟩ := h
  refine ⟨⟨?_, ?_, ?_, ?_, ?_, ?_, ?_, ?_, fun y hy j hj => ?_, fun y hy => ?_, ?_, ?_, ?_, fun y hy => ?_, ?_, ?_⟩, ?_, ?_, ?_, fun y hy => ?_, ?_, ?_, ?_, ?_, ?_, ?_, ?_, ?_⟩
  · rw [g 0 (by decide) (by decide)]; exact i1
  · rw [g 0 (by decide) (by decide)]; exact i2
  · rw [g 0 (by decide) (by decide)]; exact i3
  · rw [g 0 (by decide) (by decide)]; exact i4
  · rw [g 0 (by decide) (by decide)]; exact i5
  · rw [g 1 (by decide) (by decide)]; exact i6
  · rw [g 2 (by decide) (by decide)]; exact i7
  · rw [g 6 (by decide) (by decide)]; exact i8
  · by_cases q : y = t
    · subst q
      rw [frY_in hj]; exact Or.inl rfl
    · rw [p1 y q]; exact i9 y hy j hj
  · rw [f2]
    by_cases q : y = t
    · subst q
      rw [e3]; exact hs
    · rw [en y q]; exact i10 y hy
  · rw [g 14 (by decide) (by decide)]; exact i11
  · rw [g 16 (by decide) (by decide)]; exact i12
  · rw [g 16 (by decide) (by decide)]; exact i13
  · rw [f2]
    by_cases q : y = t
    · subst q
      rw [e1]; exact Or.inr rfl
    · rw [en y q]; exact i14 y hy
  · rw [g 14 (by decide) (by decide)]; exact i15
  · rw [g 16 (by decide) (by decide)]; exact i16
  · unfold rSc; rw [g 0 (by decide) (by decide)]; exact r1
  · unfold rStl; rw [g 1 (by decide) (by decide)]; exact r2
  · unfold rShd; rw [g 2 (by decide) (by decide)]; exact r3
  · rw [f2]
    by_cases q : y = t
    · subst q
      rw [e1, e2, e3]
      refine Or.inr ⟨rfl, u3_rd (Y := M) (k := 13) (i := 0) (j := y) (v := sz), u3_rd (Y := u3 M 13 0 y sz) (k := 14) (i := 0) (j := y) (v := kd), fun j hj => ?_⟩
      rw [frM_in hj, frY_in hj]
    · rw [en y q]
      have m1 : frM (u3 (u3 M 13 0 t sz) 14 0 t kd) 15 (8 * t) 8 (-1) 13 0 y = M 13 0 y := u3_sl (Y := M) (k := 13) (i := 0) (v := sz) q
      have m2 : frM (u3 (u3 M 13 0 t sz) 14 0 t kd) 15 (8 * t) 8 (-1) 14 0 y = M 14 0 y := u3_sl (Y := u3 M 13 0 t sz) (k := 14) (i := 0) (v := kd) q
      rw [m1, m2]
      rcases r4 y hy with a | ⟨a, b, c, d⟩
      · exact Or.inl a
      · refine Or.inr ⟨a, b, c, fun j hj => ?_⟩
        rw [p1 y q, frM_out (by omega)]
        exact d j hj
  · unfold rLd; rw [g 14 (by decide) (by decide), g 15 (by decide) (by decide)]; exact r5
  · unfold rTb; rw [g 16 (by decide) (by decide), g 19 (by decide) (by decide), g 18 (by decide) (by decide)]; exact r6
  · unfold rHk; rw [g 6 (by decide) (by decide), g 22 (by decide) (by decide)]; exact r7
  · unfold rHo; rw [g 20 (by decide) (by decide)]; exact r8
  · unfold rWg; rw [g 21 (by decide) (by decide)]; exact r9
  · unfold rTk; rw [g 8 (by decide) (by decide)]; exact r10
  · unfold rPd; rw [g 9 (by decide) (by decide), g 10 (by decide) (by decide)]; exact r11
  · unfold rMt; rw [g 11 (by decide) (by decide)]; exact r12
theorem RR.opened (h : RR nh nv na kk Y M) {t : Nat} {sz : Int32} (hs : okZ 12 sz) : RR nh nv na kk (frY (u3 (u3 Y 14 t 1 1) 14 t 2 sz) 15 t 12 0) (frM (u3 M 16 0 t sz) 17 (12 * t) 12 0) := by
  have e1 : u3 (u3 Y 14 t 1 1) 14 t 2 sz 14 t 1 = 1 := by
    rw [u3_sl (by decide), u3_rd]
  have e2 : u3 (u3 Y 14 t 1 1) 14 t 2 sz 14 t 2 = sz := u3_rd
  have en : ∀ y, y ≠ t → u3 (u3 Y 14 t 1 1) 14 t 2 sz 14 y = Y 14 y := fun y q => by
    rw [u3_ne (fun z => q z.2), u3_ne (fun z => q z.2)]
  generalize hZ : u3 (u3 Y 14 t 1 1) 14 t 2 sz = Z at e1 e2 en ⊢
  have z1 : ∀ k, k ≠ 14 → Z k = Y k := fun k q => by
    funext i
    rw [← hZ, u3_ne (fun z => q z.1), u3_ne (fun z => q z.1)]
  have f1 : ∀ k, k ≠ 15 → frY Z 15 t 12 0 k = Z k := fun k q => by
    funext i j
    exact if_neg (fun z => q z.1)
  have f2 : frY Z 15 t 12 0 14 = Z 14 := f1 14 (by decide)
  have g : ∀ k, k ≠ 14 → k ≠ 15 → frY Z 15 t 12 0 k = Y k := fun k q1 q2 => (f1 k q2).trans (z1 k q1)
  obtain ⟨⟨i1, i2, i3, i4, i5, i6, i7, i8, i9, i10, i11, i12, i13, i14, i15, i16⟩, r1, r2, r3, r4, r5, r6, r7, r8, r9, r10, r11, r12⟩ := h
  refine ⟨⟨?_, ?_, ?_, ?_, ?_, ?_, ?_, ?_, ?_, ?_, fun y hy => ?_, ?_, ?_, ?_, fun y hy => ?_, ?_⟩, ?_, ?_, ?_, ?_, fun y hy => ?_, ?_, ?_, ?_, ?_, ?_, ?_, ?_⟩
  · rw [g 0 (by decide) (by decide)]; exact i1
  · rw [g 0 (by decide) (by decide)]; exact i2
  · rw [g 0 (by decide) (by decide)]; exact i3
  · rw [g 0 (by decide) (by decide)]; exact i4
  · rw [g 0 (by decide) (by decide)]; exact i5
  · rw [g 1 (by decide) (by decide)]; exact i6
  · rw [g 2 (by decide) (by decide)]; exact i7
  · rw [g 6 (by decide) (by decide)]; exact i8
  · rw [g 13 (by decide) (by decide)]; exact i9
  · rw [g 12 (by decide) (by decide)]; exact i10
  · rw [f2]
    by_cases q : y = t
    · subst q
      rw [e2]; exact hs
    · rw [en y q]; exact i11 y hy
  · rw [g 16 (by decide) (by decide)]; exact i12
  · rw [g 16 (by decide) (by decide)]; exact i13
  · rw [g 12 (by decide) (by decide)]; exact i14
  · rw [f2]
    by_cases q : y = t
    · subst q
      rw [e1]; exact Or.inr rfl
    · rw [en y q]; exact i15 y hy
  · rw [g 16 (by decide) (by decide)]; exact i16
  · unfold rSc; rw [g 0 (by decide) (by decide)]; exact r1
  · unfold rStl; rw [g 1 (by decide) (by decide)]; exact r2
  · unfold rShd; rw [g 2 (by decide) (by decide)]; exact r3
  · unfold rTm; rw [g 12 (by decide) (by decide), g 13 (by decide) (by decide)]; exact r4
  · rw [f2]
    by_cases q : y = t
    · subst q
      rw [e1, e2]
      refine Or.inr ⟨rfl, u3_rd (Y := M) (k := 16) (i := 0) (j := y) (v := sz), fun j hj => ?_⟩
      rw [frM_in hj, frY_in hj]
    · rw [en y q]
      have m1 : frM (u3 M 16 0 t sz) 17 (12 * t) 12 0 16 0 y = M 16 0 y := u3_sl (Y := M) (k := 16) (i := 0) (v := sz) q
      rw [m1]
      rcases r5 y hy with a | ⟨a, b, d⟩
      · exact Or.inl a
      · refine Or.inr ⟨a, b, fun j hj => ?_⟩
        rw [frY_out q, z1 15 (by decide), frM_out (by omega)]
        exact d j hj
  · unfold rTb; rw [g 16 (by decide) (by decide), g 19 (by decide) (by decide), g 18 (by decide) (by decide)]; exact r6
  · unfold rHk; rw [g 6 (by decide) (by decide), g 22 (by decide) (by decide)]; exact r7
  · unfold rHo; rw [g 20 (by decide) (by decide)]; exact r8
  · unfold rWg; rw [g 21 (by decide) (by decide)]; exact r9
  · unfold rTk; rw [g 8 (by decide) (by decide)]; exact r10
  · unfold rPd; rw [g 9 (by decide) (by decide), g 10 (by decide) (by decide)]; exact r11
  · unfold rMt; rw [g 11 (by decide) (by decide)]; exact r12
theorem RR.laid (h : RR nh nv na kk Y M) {t : Nat} {hg wd : Int32} (hs : okZ 6 hg) (hw : okZ 6 wd) : RR nh nv na kk (tbY (u3 (u3 (u3 Y 16 t 2 1) 16 t 3 hg) 16 t 4 wd) t 6) (frM (frM (u3 (u3 M 18 0 t hg) 19 0 t wd) 20 (6 * t) 6 1) 21 (36 * t) 36 0) := by
  have e1 : u3 (u3 (u3 Y 16 t 2 1) 16 t 3 hg) 16 t 4 wd 16 t 2 = 1 := by
    rw [u3_sl (by decide), u3_sl (by decide), u3_rd]
  have e2 : u3 (u3 (u3 Y 16 t 2 1) 16 t 3 hg) 16 t 4 wd 16 t 3 = hg := by
    rw [u3_sl (by decide), u3_rd]
  have e3 : u3 (u3 (u3 Y 16 t 2 1) 16 t 3 hg) 16 t 4 wd 16 t 4 = wd := u3_rd
  have en : ∀ y, y ≠ t → u3 (u3 (u3 Y 16 t 2 1) 16 t 3 hg) 16 t 4 wd 16 y = Y 16 y := fun y q => by
    rw [u3_ne (fun z => q z.2), u3_ne (fun z => q z.2), u3_ne (fun z => q z.2)]
  generalize hZ : u3 (u3 (u3 Y 16 t 2 1) 16 t 3 hg) 16 t 4 wd = Z at e1 e2 e3 en ⊢
  have z1 : ∀ k, k ≠ 16 → Z k = Y k := fun k q => by
    funext i
    rw [← hZ, u3_ne (fun z => q z.1), u3_ne (fun z => q z.1), u3_ne (fun z => q z.1)]
  have f1 : ∀ k, k ≠ 18 → k ≠ 19 → tbY Z t 6 k = Z k := fun k q1 q2 => by
    funext i j
    unfold tbY
    rw [if_neg (fun z => q2 z.1), if_neg (fun z => q1 z.1)]
  have f2 : tbY Z t 6 16 = Z 16 := f1 16 (by decide) (by decide)
  have g : ∀ k, k ≠ 16 → k ≠ 18 → k ≠ 19 → tbY Z t 6 k = Y k := fun k q1 q2 q3 => (f1 k q2 q3).trans (z1 k q1)
  have a19 : ∀ j, j < 6 → tbY Z t 6 19 t j = 1 := fun j hj => if_pos ⟨rfl, rfl, hj⟩
  have b19 : ∀ y, y ≠ t → ∀ j, tbY Z t 6 19 y j = Y 19 y j := fun y q j => by
    unfold tbY
    rw [if_neg (fun z => q z.2.1), if_neg (fun z => absurd z.1 (by decide)), z1 19 (by decide)]
  have a18 : ∀ r, r < 6 → ∀ j, j < 6 → tbY Z t 6 18 (6 * t + r) j = 0 := fun r hr j hj => by
    unfold tbY
    rw [if_neg (fun z => absurd z.1 (by decide)), if_pos ⟨rfl, by omega, by omega, hj⟩]
  have b18 : ∀ i, ¬ (6 * t ≤ i ∧ i < 6 * t + 6) → ∀ j, tbY Z t 6 18 i j = Y 18 i j := fun i q j => by
    unfold tbY
    rw [if_neg (fun z => absurd z.1 (by decide)), if_neg (fun z => q ⟨z.2.1, z.2.2.1⟩), z1 18 (by decide)]
  obtain ⟨⟨i1, i2, i3, i4, i5, i6, i7, i8, i9, i10, i11, i12, i13, i14, i15, i16⟩, r1, r2, r3, r4, r5, r6, r7, r8, r9, r10, r11, r12⟩ := h
  have dd : ∀ k : Nat, k ≠ 16 → k ≠ 18 → k ≠ 19 → tbY Z t 6 k = Y k := g
  refine ⟨⟨?_, ?_, ?_, ?_, ?_, ?_, ?_, ?_, ?_, ?_, ?_, fun y hy => ?_, fun y hy => ?_, ?_, ?_, fun y hy => ?_⟩, ?_, ?_, ?_, ?_, ?_, fun y hy => ?_, ?_, ?_, ?_, ?_, ?_, ?_⟩
  · rw [g 0 (by decide) (by decide) (by decide)]; exact i1
  · rw [g 0 (by decide) (by decide) (by decide)]; exact i2
  · rw [g 0 (by decide) (by decide) (by decide)]; exact i3
  · rw [g 0 (by decide) (by decide) (by decide)]; exact i4
  · rw [g 0 (by decide) (by decide) (by decide)]; exact i5
  · rw [g 1 (by decide) (by decide) (by decide)]; exact i6
  · rw [g 2 (by decide) (by decide) (by decide)]; exact i7
  · rw [g 6 (by decide) (by decide) (by decide)]; exact i8
  · rw [g 13 (by decide) (by decide) (by decide)]; exact i9
  · rw [g 12 (by decide) (by decide) (by decide)]; exact i10
  · rw [g 14 (by decide) (by decide) (by decide)]; exact i11
  · rw [f2]
    by_cases q : y = t
    · subst q
      rw [e2]; exact hs
    · rw [en y q]; exact i12 y hy
  · rw [f2]
    by_cases q : y = t
    · subst q
      rw [e3]; exact hw
    · rw [en y q]; exact i13 y hy
  · rw [g 12 (by decide) (by decide) (by decide)]; exact i14
  · rw [g 14 (by decide) (by decide) (by decide)]; exact i15
  · rw [f2]
    by_cases q : y = t
    · subst q
      rw [e1]; exact Or.inr rfl
    · rw [en y q]; exact i16 y hy
  · unfold rSc; rw [g 0 (by decide) (by decide) (by decide)]; exact r1
  · unfold rStl; rw [g 1 (by decide) (by decide) (by decide)]; exact r2
  · unfold rShd; rw [g 2 (by decide) (by decide) (by decide)]; exact r3
  · unfold rTm; rw [g 12 (by decide) (by decide) (by decide), g 13 (by decide) (by decide) (by decide)]; exact r4
  · unfold rLd; rw [g 14 (by decide) (by decide) (by decide), g 15 (by decide) (by decide) (by decide)]; exact r5
  · rw [f2]
    by_cases q : y = t
    · subst q
      have m1 : frM (frM (u3 (u3 M 18 0 y hg) 19 0 y wd) 20 (6 * y) 6 1) 21 (36 * y) 36 0 18 0 y = hg := u3_rd (Y := M) (k := 18) (i := 0) (j := y) (v := hg)
      have m2 : frM (frM (u3 (u3 M 18 0 y hg) 19 0 y wd) 20 (6 * y) 6 1) 21 (36 * y) 36 0 19 0 y = wd := u3_rd (Y := u3 M 18 0 y hg) (k := 19) (i := 0) (j := y) (v := wd)
      rw [m1, m2, e1, e2, e3]
      refine ⟨Or.inr hw, Or.inr ⟨rfl, rfl, rfl, fun r hr => ?_, fun r hr j hj => ?_⟩⟩
      · rw [a19 r hr]
        exact ⟨frM_in hr, Or.inr rfl⟩
      · rw [a18 r hr j hj, show 36 * y + 6 * r + j = 36 * y + (6 * r + j) by omega, frM_in (by omega)]
    · have m1 : frM (frM (u3 (u3 M 18 0 t hg) 19 0 t wd) 20 (6 * t) 6 1) 21 (36 * t) 36 0 18 0 y = M 18 0 y := u3_sl (Y := M) (k := 18) (i := 0) (v := hg) q
      have m2 : frM (frM (u3 (u3 M 18 0 t hg) 19 0 t wd) 20 (6 * t) 6 1) 21 (36 * t) 36 0 19 0 y = M 19 0 y := u3_sl (Y := u3 M 18 0 t hg) (k := 19) (i := 0) (v := wd) q
      rw [m1, m2, en y q]
      refine ⟨(r6 y hy).1, ?_⟩
      rcases (r6 y hy).2 with a | ⟨a, b, c, d, f⟩
      · exact Or.inl a
      · refine Or.inr ⟨a, b, c, fun r hr => ?_, fun r hr j hj => ?_⟩
        · rw [b19 y q r]
          have m3 : frM (frM (u3 (u3 M 18 0 t hg) 19 0 t wd) 20 (6 * t) 6 1) 21 (36 * t) 36 0 20 0 (6 * y + r) = M 20 0 (6 * y + r) := frM_out (Z := u3 (u3 M 18 0 t hg) 19 0 t wd) (by omega)
          rw [m3]
          exact d r hr
        · rw [b18 _ (by omega), frM_out (by omega)]
          exact f r hr j hj
  · unfold rHk; rw [g 6 (by decide) (by decide) (by decide), g 22 (by decide) (by decide) (by decide)]; exact r7
  · unfold rHo; rw [g 20 (by decide) (by decide) (by decide)]; exact r8
  · unfold rWg; rw [g 21 (by decide) (by decide) (by decide)]; exact r9
  · unfold rTk; rw [g 8 (by decide) (by decide) (by decide)]; exact r10
  · unfold rPd; rw [g 9 (by decide) (by decide) (by decide), g 10 (by decide) (by decide) (by decide)]; exact r11
  · unfold rMt; rw [g 11 (by decide) (by decide) (by decide)]; exact r12
end SIMB
