/-! the yard's numbers and the reference's -/
abbrev StY : Type := Nat → Nat → Nat → Int32
theorem u3_same (Y : StY) (k i j : Nat) : u3 Y k i j (Y k i j) = Y := by
  funext k' i' j'
  rw [u3_at]
  by_cases h : k' = k ∧ i' = i ∧ j' = j
  · rw [if_pos h, h.1, h.2.1, h.2.2]
  · rw [if_neg h]
theorem u3_over (Y : StY) (k i j : Nat) (a b : Int32) : u3 (u3 Y k i j a) k i j b = u3 Y k i j b := by
  funext k' i' j'
  rw [u3_at, u3_at, u3_at]
  by_cases h : k' = k ∧ i' = i ∧ j' = j
  · rw [if_pos h, if_pos h]
  · rw [if_neg h, if_neg h, if_neg h]
theorem u3_swap (Y : StY) {k i j k2 i2 j2 : Nat} (a b : Int32) (h : ¬ (k = k2 ∧ i = i2 ∧ j = j2)) : u3 (u3 Y k i j a) k2 i2 j2 b = u3 (u3 Y k2 i2 j2 b) k i j a := by
  funext k' i' j'
  rw [u3_at, u3_at, u3_at, u3_at]
  by_cases h1 : k' = k ∧ i' = i ∧ j' = j
  · by_cases h2 : k' = k2 ∧ i' = i2 ∧ j' = j2
    · exact absurd ⟨h1.1.symm.trans h2.1, h1.2.1.symm.trans h2.2.1, h1.2.2.symm.trans h2.2.2⟩ h
    · rw [if_neg h2, if_pos h1, if_pos h1]
  · rw [if_neg h1, if_neg h1]
theorem fmd10 (a : Int32) : ∃ t, t < 10 ∧ fJ9_floorMod_7cf53 a 10 = nI t ∧ fX10_modulo a 10 = nI t := ⟨fmN a 10, fmN_lt a (by decide), fm_eq (by decide) (by decide) (by decide), mod_eq (by decide) (by decide) (by decide)⟩
theorem fmd6 (a : Int32) : ∃ t, t < 6 ∧ fJ9_floorMod_7cf53 a 6 = nI t ∧ fX10_modulo a 6 = nI t := ⟨fmN a 6, fmN_lt a (by decide), fm_eq (by decide) (by decide) (by decide), mod_eq (by decide) (by decide) (by decide)⟩
theorem fmd4 (a : Int32) : ∃ t, t < 4 ∧ fJ9_floorMod_7cf53 a 4 = nI t ∧ fX10_modulo a 4 = nI t := ⟨fmN a 4, fmN_lt a (by decide), fm_eq (by decide) (by decide) (by decide), mod_eq (by decide) (by decide) (by decide)⟩
theorem fmd3 (a : Int32) : ∃ t, t < 3 ∧ fJ9_floorMod_7cf53 a 3 = nI t ∧ fX10_modulo a 3 = nI t := ⟨fmN a 3, fmN_lt a (by decide), fm_eq (by decide) (by decide) (by decide), mod_eq (by decide) (by decide) (by decide)⟩
theorem wi_01 (x n : Int32) : fX9_within x n = 0 ∨ fX9_within x n = 1 := by
  unfold fX9_within
  by_cases h : x < 0
  · rw [if_pos h]; exact Or.inl rfl
  · rw [if_neg h]
    by_cases h2 : n ≤ x
    · rw [if_pos h2]; exact Or.inl rfl
    · rw [if_neg h2]; exact Or.inr rfl
theorem in_01 (x a b : Int32) : fX10_in x a b = 0 ∨ fX10_in x a b = 1 := by
  unfold fX10_in
  by_cases h : x < a
  · rw [if_pos h]; exact Or.inl rfl
  · rw [if_neg h]
    by_cases h2 : b < x
    · rw [if_pos h2]; exact Or.inl rfl
    · rw [if_neg h2]; exact Or.inr rfl
theorem in_wi (x b n : Int32) (h : n.toInt = b.toInt + 1) : fX10_in x 0 b = fX9_within x n := by
  unfold fX10_in fX9_within
  by_cases h0 : x < 0
  · rw [if_pos h0, if_pos h0]
  · rw [if_neg h0, if_neg h0]
    by_cases h1 : b < x
    · rw [if_pos h1, if_pos]
      rw [Int32.lt_iff_toInt_lt] at h1
      rw [Int32.le_iff_toInt_le]
      omega
    · rw [if_neg h1, if_neg]
      rw [Int32.lt_iff_toInt_lt] at h1
      rw [Int32.le_iff_toInt_le]
      omega
theorem in_wiN (x : Int32) {n : Nat} (h : n < 2 ^ 30) : fX10_in x 0 (nI n - 1) = fX9_within x (nI n) := by
  refine in_wi _ _ _ ?_
  rw [Int32.toInt_sub, nI_toInt (by omega), show (1 : Int32).toInt = 1 from rfl, Int.bmod_eq_of_le (by omega) (by omega)]
  omega
theorem in_m1 (x : Int32) : fX10_in x 0 (-1 - 1) = 0 := by
  unfold fX10_in
  by_cases h0 : x < 0
  · rw [if_pos h0]
  · rw [if_neg h0, if_pos]
    rw [Int32.lt_iff_toInt_lt, Int32.toInt_zero] at h0
    rw [Int32.lt_iff_toInt_lt, show (-1 - 1 : Int32).toInt = -2 from by decide]
    omega
theorem wi_ex {x : Int32} {n : Nat} (hn : n < 2 ^ 30) (h : ¬ fX9_within x (nI n) = 0) : ∃ j, j < n ∧ x = nI j := by
  have h2 := wi_in h (N := n) (by rw [nI_toInt (by omega)]; omega)
  exact ⟨x.toNatClampNeg, vp_lt h2, vp_nI h2 (by omega)⟩
theorem nlt_le {x : Int32} (h : ¬ x < 0) : 0 ≤ x := Int32.not_lt.mp h
theorem lt_nle {x : Int32} (h : x < 0) : ¬ 0 ≤ x := Int32.not_le.mpr h
theorem ix8 {t j : Nat} (ht : t < 6) (hj : j < 8) : (8 * nI t + nI j).toNatClampNeg = 8 * t + j := by
  rw [show (8 : Int32) = nI 8 from rfl, pk_mul, nI_add, nI_clamp (by omega)]
theorem ix12 {t j : Nat} (ht : t < 4) (hj : j < 12) : (12 * nI t + nI j).toNatClampNeg = 12 * t + j := by
  rw [show (12 : Int32) = nI 12 from rfl, pk_mul, nI_add, nI_clamp (by omega)]
theorem ix6 {t j : Nat} (ht : t < 4) (hj : j < 6) : (6 * nI t + nI j).toNatClampNeg = 6 * t + j := by
  rw [show (6 : Int32) = nI 6 from rfl, pk_mul, nI_add, nI_clamp (by omega)]
theorem ix36 {t r j : Nat} (ht : t < 4) (hr : r < 6) (hj : j < 6) : ((36 * nI t + 6 * nI r) + nI j).toNatClampNeg = 36 * t + 6 * r + j := by
  rw [show (36 : Int32) = nI 36 from rfl, show (6 : Int32) = nI 6 from rfl, pk_mul, pk_mul, nI_add, nI_add, nI_clamp (by omega)]
theorem ix36b {t x : Nat} (ht : t < 4) (hx : x < 36) : (36 * nI t + nI x).toNatClampNeg = 36 * t + x := by
  rw [show (36 : Int32) = nI 36 from rfl, pk_mul, nI_add, nI_clamp (by omega)]
def rSc (Y M : StY) : Prop := M 0 0 0 = Y 0 0 6 ∧ M 0 0 7 = Y 0 0 7 ∧ M 0 0 10 = Y 0 0 8 ∧ M 0 0 24 = Y 0 0 10 ∧ M 0 0 29 = Y 0 0 14
def rStl (Y M : StY) : Prop := ∀ j, j < 10 → M 11 0 j = Y 1 0 j
def rShd (Y M : StY) : Prop := ∀ j, j < 6 → M 12 0 j = Y 2 0 j
def rTm (Y M : StY) : Prop := ∀ t, t < 6 → (Y 12 t 1 = 0 ∧ M 13 0 t = -1) ∨ (Y 12 t 1 = 1 ∧ M 13 0 t = Y 12 t 3 ∧ M 14 0 t = Y 12 t 2 ∧ ∀ j, j < 8 → M 15 0 (8 * t + j) = Y 13 t j)
def rLd (Y M : StY) : Prop := ∀ t, t < 4 → (Y 14 t 1 = 0 ∧ M 16 0 t = -1) ∨ (Y 14 t 1 = 1 ∧ M 16 0 t = Y 14 t 2 ∧ ∀ j, j < 12 → M 17 0 (12 * t + j) = Y 15 t j)
def rTb (Y M : StY) : Prop := ∀ t, t < 4 → okS 6 (M 19 0 t) ∧ ((Y 16 t 2 = 0 ∧ M 18 0 t = -1) ∨ (Y 16 t 2 = 1 ∧ M 18 0 t = Y 16 t 3 ∧ M 19 0 t = Y 16 t 4 ∧ (∀ r, r < 6 → M 20 0 (6 * t + r) = Y 19 t r ∧ (Y 19 t r = 0 ∨ Y 19 t r = 1)) ∧ ∀ r, r < 6 → ∀ j, j < 6 → M 21 0 (36 * t + 6 * r + j) = Y 18 (6 * t + r) j))
def rHk (Y M : StY) : Prop := ∀ j, j < 6 → (Y 6 0 j < 0 ∧ M 22 0 j = 0) ∨ (¬ Y 6 0 j < 0 ∧ M 22 0 j = 1 ∧ M 23 0 j = Y 22 (Y 6 0 j).toNatClampNeg 0)
def rHo (nh : Nat) (Y M : StY) : Prop := (∀ h, h < nh → M 1 0 h = Y 20 h 5 ∧ (Y 20 h 5 = 0 ∨ Y 20 h 5 = 1 ∨ Y 20 h 5 = 2) ∧ M 2 0 h = Y 20 h 0 ∧ M 3 0 h = Y 20 h 1 ∧ M 4 0 h = Y 20 h 2 ∧ M 5 0 h = Y 20 h 3 ∧ M 6 0 h = Y 20 h 4) ∧ ∀ h, nh ≤ h → h < 60 → M 3 0 h = 0 ∧ M 4 0 h = 0 ∧ M 5 0 h = 0 ∧ M 6 0 h = 0
def rWg (nv : Nat) (Y M : StY) : Prop := (∀ w, w < nv → M 8 0 w = Y 21 w 0 ∧ M 9 0 w = Y 21 w 1) ∧ ∀ w, nv ≤ w → w < 60 → M 9 0 w = 0
def rTk (Y M : StY) : Prop := ∀ i, i < 20 → (∃ n : Nat, n < 18 ∧ Y 8 i 0 = nI n) ∧ M 25 0 i = Y 8 i 0 ∧ M 26 0 i = Y 8 i 1 ∧ M 27 0 i = Y 8 i 2 ∧ M 28 0 i = Y 8 i 3
def rPd (Y M : StY) : Prop := ∀ j, j < 40 → M 30 0 j = Y 9 0 j ∧ M 31 0 j = Y 10 0 j
def rMt (Y M : StY) : Prop := ∀ j, j < 7 → M 32 0 j = Y 11 0 j
def RR (nh nv na kk : Nat) (Y M : StY) : Prop := InvY nh nv na kk Y ∧ rSc Y M ∧ rStl Y M ∧ rShd Y M ∧ rTm Y M ∧ rLd Y M ∧ rTb Y M ∧ rHk Y M ∧ rHo nh Y M ∧ rWg nv Y M ∧ rTk Y M ∧ rPd Y M ∧ rMt Y M
section RR
variable {nh nv na kk : Nat} {Y M : StY}
theorem RR.inv (h : RR nh nv na kk Y M) : InvY nh nv na kk Y := h.1
theorem RR.sc (h : RR nh nv na kk Y M) : rSc Y M := h.2.1
theorem RR.st (h : RR nh nv na kk Y M) : rStl Y M := h.2.2.1
theorem RR.sh (h : RR nh nv na kk Y M) : rShd Y M := h.2.2.2.1
theorem RR.tm (h : RR nh nv na kk Y M) : rTm Y M := h.2.2.2.2.1
theorem RR.ld (h : RR nh nv na kk Y M) : rLd Y M := h.2.2.2.2.2.1
theorem RR.tb (h : RR nh nv na kk Y M) : rTb Y M := h.2.2.2.2.2.2.1
theorem RR.hk (h : RR nh nv na kk Y M) : rHk Y M := h.2.2.2.2.2.2.2.1
theorem RR.ho (h : RR nh nv na kk Y M) : rHo nh Y M := h.2.2.2.2.2.2.2.2.1
theorem RR.wg (h : RR nh nv na kk Y M) : rWg nv Y M := h.2.2.2.2.2.2.2.2.2.1
theorem RR.tk (h : RR nh nv na kk Y M) : rTk Y M := h.2.2.2.2.2.2.2.2.2.2.1
theorem RR.pd (h : RR nh nv na kk Y M) : rPd Y M := h.2.2.2.2.2.2.2.2.2.2.2.1
theorem RR.mt (h : RR nh nv na kk Y M) : rMt Y M := h.2.2.2.2.2.2.2.2.2.2.2.2
theorem okN.okH {n : Nat} {c : Int32} (h : okN n c) (hn : n ≤ 60) : okH c := by
  rcases h with h | h
  · exact Or.inl h
  · exact Or.inr (vp_le h hn)
theorem okV.okW {n v : Nat} {c : Int32} (h : okV n v c) (hn : n ≤ 60) (hv : v ≤ 60) : okW c := by
  rcases h with h | h | ⟨j, hj, e⟩
  · exact Or.inl h
  · exact Or.inr (Or.inl (vp_le h hn))
  · exact Or.inr (Or.inr ⟨j, by omega, e⟩)
theorem RR.invM (h : RR nh nv na kk Y M) : InvM kk M := by
  obtain ⟨⟨⟨n1, e1⟩, ⟨n2, e2⟩, ⟨n3, e3⟩, i4, i5, i6, i7, i8, i9, i10, i11, i12, i13, i14, i15, i16⟩, ⟨s1, s2, s3, s4, s5⟩, r2, r3, r4, r5, r6, r7, r8, r9, r10, r11, r12⟩ := h
  refine ⟨⟨nh, n1, s1.trans e1⟩, ⟨nv, n2, s2.trans e2⟩, ⟨na, n3, s3.trans e3⟩, by rw [s4]; exact i4, by obtain ⟨n, a, b, c, -⟩ := i5; exact ⟨n, a, b, s5.trans c⟩, fun j hj => ?_, fun j hj => ?_, fun t ht => ?_, fun t ht hp j hj => ?_, fun t ht => ?_, fun t ht => ?_, fun t ht => (r6 t ht).1, fun j hj => ?_⟩
  · rw [r2 j hj]; exact (i6 j hj).okH n1
  · rw [r3 j hj]; exact (i7 j hj).okW n1 n2
  · rcases r4 t ht with ⟨-, e⟩ | ⟨-, e, -⟩
    · exact Or.inl e
    · rw [e]; exact Or.inr (i10 t ht)
  · rcases r4 t ht with ⟨-, e⟩ | ⟨-, -, -, e⟩
    · exact absurd (by rw [e]; decide) hp
    · rw [e j hj]; exact (i9 t ht j hj).okH n1
  · rcases r5 t ht with ⟨-, e⟩ | ⟨-, e, -⟩
    · exact Or.inl e
    · rw [e]; exact Or.inr (i11 t ht)
  · rcases (r6 t ht).2 with ⟨-, e⟩ | ⟨-, e, -⟩
    · exact Or.inl e
    · rw [e]; exact Or.inr (i12 t ht)
  · rcases r7 j hj with ⟨-, e⟩ | ⟨-, e, -⟩
    · exact Or.inl e
    · exact Or.inr e
theorem RR.more {k2 : Nat} (h : RR nh nv na kk Y M) (hk : kk ≤ k2) : RR nh nv na k2 Y M := by
  obtain ⟨⟨i1, i2, i3, i4, ⟨n, a, b, c⟩, i6⟩, r⟩ := h
  exact ⟨⟨i1, i2, i3, i4, ⟨n, by omega, b, c⟩, i6⟩, r⟩
/-- what no other reads -/
theorem RR.c15 (h : RR nh nv na kk Y M) (v : Int32) : RR nh nv na kk (u3 Y 0 0 16 v) M := h
theorem RR.m34 (h : RR nh nv na kk Y M) (v : Int32) : RR nh nv na kk Y (u3 M 0 0 34 v) := h
theorem RR.m33 (h : RR nh nv na kk Y M) (v : Int32) : RR nh nv na kk Y (u3 M 0 0 33 v) := h
/-- a horse's own -/
theorem RR.horse1 (h : RR nh nv na kk Y M) {x : Nat} (hx : x < nh) (v : Int32) : RR nh nv na kk (u3 Y 20 x 1 v) (u3 M 3 0 x v) := by
  obtain ⟨iv, r1, r2, r3, r4, r5, r6, r7, r8, r9, r10, r11, r12⟩ := h
  refine ⟨iv, r1, r2, r3, r4, r5, r6, r7, ⟨fun y hy => ?_, fun y h1 h2 => ?_⟩, r9, r10, r11, r12⟩
  · obtain ⟨a, b, c, d, e, f, g⟩ := r8.1 y hy
    by_cases q : y = x
    · subst q
      refine ⟨?_, ?_, ?_, ?_, ?_, ?_, ?_⟩ <;> simp [u3_at] <;> assumption
    · refine ⟨?_, ?_, ?_, ?_, ?_, ?_, ?_⟩ <;> simp [u3_at, q] <;> assumption
  · have q : y ≠ x := by omega
    obtain ⟨a, b, c, d⟩ := r8.2 y h1 h2
    refine ⟨?_, ?_, ?_, ?_⟩ <;> simp [u3_at, q] <;> assumption
theorem RR.horse2 (h : RR nh nv na kk Y M) {x : Nat} (hx : x < nh) (v : Int32) : RR nh nv na kk (u3 Y 20 x 2 v) (u3 M 4 0 x v) := by
  obtain ⟨iv, r1, r2, r3, r4, r5, r6, r7, r8, r9, r10, r11, r12⟩ := h
  refine ⟨iv, r1, r2, r3, r4, r5, r6, r7, ⟨fun y hy => ?_, fun y h1 h2 => ?_⟩, r9, r10, r11, r12⟩
  · obtain ⟨a, b, c, d, e, f, g⟩ := r8.1 y hy
    by_cases q : y = x
    · subst q
      refine ⟨?_, ?_, ?_, ?_, ?_, ?_, ?_⟩ <;> simp [u3_at] <;> assumption
    · refine ⟨?_, ?_, ?_, ?_, ?_, ?_, ?_⟩ <;> simp [u3_at, q] <;> assumption
  · have q : y ≠ x := by omega
    obtain ⟨a, b, c, d⟩ := r8.2 y h1 h2
    refine ⟨?_, ?_, ?_, ?_⟩ <;> simp [u3_at, q] <;> assumption
theorem RR.horse3 (h : RR nh nv na kk Y M) {x : Nat} (hx : x < nh) (v : Int32) : RR nh nv na kk (u3 Y 20 x 3 v) (u3 M 5 0 x v) := by
  obtain ⟨iv, r1, r2, r3, r4, r5, r6, r7, r8, r9, r10, r11, r12⟩ := h
  refine ⟨iv, r1, r2, r3, r4, r5, r6, r7, ⟨fun y hy => ?_, fun y h1 h2 => ?_⟩, r9, r10, r11, r12⟩
  · obtain ⟨a, b, c, d, e, f, g⟩ := r8.1 y hy
    by_cases q : y = x
    · subst q
      refine ⟨?_, ?_, ?_, ?_, ?_, ?_, ?_⟩ <;> simp [u3_at] <;> assumption
    · refine ⟨?_, ?_, ?_, ?_, ?_, ?_, ?_⟩ <;> simp [u3_at, q] <;> assumption
  · have q : y ≠ x := by omega
    obtain ⟨a, b, c, d⟩ := r8.2 y h1 h2
    refine ⟨?_, ?_, ?_, ?_⟩ <;> simp [u3_at, q] <;> assumption
theorem RR.horse4 (h : RR nh nv na kk Y M) {x : Nat} (hx : x < nh) (v : Int32) : RR nh nv na kk (u3 Y 20 x 4 v) (u3 M 6 0 x v) := by
  obtain ⟨iv, r1, r2, r3, r4, r5, r6, r7, r8, r9, r10, r11, r12⟩ := h
  refine ⟨iv, r1, r2, r3, r4, r5, r6, r7, ⟨fun y hy => ?_, fun y h1 h2 => ?_⟩, r9, r10, r11, r12⟩
  · obtain ⟨a, b, c, d, e, f, g⟩ := r8.1 y hy
    by_cases q : y = x
    · subst q
      refine ⟨?_, ?_, ?_, ?_, ?_, ?_, ?_⟩ <;> simp [u3_at] <;> assumption
    · refine ⟨?_, ?_, ?_, ?_, ?_, ?_, ?_⟩ <;> simp [u3_at, q] <;> assumption
  · have q : y ≠ x := by omega
    obtain ⟨a, b, c, d⟩ := r8.2 y h1 h2
    refine ⟨?_, ?_, ?_, ?_⟩ <;> simp [u3_at, q] <;> assumption
theorem RR.wagon1 (h : RR nh nv na kk Y M) {x : Nat} (hx : x < nv) (v : Int32) : RR nh nv na kk (u3 Y 21 x 1 v) (u3 M 9 0 x v) := by
  obtain ⟨iv, r1, r2, r3, r4, r5, r6, r7, r8, r9, r10, r11, r12⟩ := h
  refine ⟨iv, r1, r2, r3, r4, r5, r6, r7, r8, ⟨fun y hy => ?_, fun y h1 h2 => ?_⟩, r10, r11, r12⟩
  · obtain ⟨a, b⟩ := r9.1 y hy
    by_cases q : y = x
    · subst q
      refine ⟨?_, ?_⟩ <;> simp [u3_at] <;> assumption
    · refine ⟨?_, ?_⟩ <;> simp [u3_at, q] <;> assumption
  · have q : y ≠ x := by omega
    have a := r9.2 y h1 h2
    simp [u3_at, q]
    assumption
/-- a stall's, a shed's horse -/
theorem RR.stall (h : RR nh nv na kk Y M) {x : Nat} (v : Int32) (hv : okN nh v) : RR nh nv na kk (u3 Y 1 0 x v) (u3 M 11 0 x v) := by
  obtain ⟨⟨i1, i2, i3, i4, i5, i6, i7⟩, r1, r2, r3, r4, r5, r6, r7, r8, r9, r10, r11, r12⟩ := h
  refine ⟨⟨i1, i2, i3, i4, i5, fun y hy => ?_, i7⟩, r1, fun y hy => ?_, r3, r4, r5, r6, r7, r8, r9, r10, r11, r12⟩
  · by_cases q : y = x
    · subst q
      rw [u3_rd]; exact hv
    · rw [u3_sl q]; exact i6 y hy
  · by_cases q : y = x
    · subst q
      rw [u3_rd, u3_rd]
    · rw [u3_sl q, u3_sl q]; exact r2 y hy
theorem RR.shed (h : RR nh nv na kk Y M) {x : Nat} (v : Int32) (hv : okV nh nv v) : RR nh nv na kk (u3 Y 2 0 x v) (u3 M 12 0 x v) := by
  obtain ⟨⟨i1, i2, i3, i4, i5, i6, i7, i8⟩, r1, r2, r3, r4, r5, r6, r7, r8, r9, r10, r11, r12⟩ := h
  refine ⟨⟨i1, i2, i3, i4, i5, i6, fun y hy => ?_, i8⟩, r1, r2, fun y hy => ?_, r4, r5, r6, r7, r8, r9, r10, r11, r12⟩
  · by_cases q : y = x
    · subst q
      rw [u3_rd]; exact hv
    · rw [u3_sl q]; exact i7 y hy
  · by_cases q : y = x
    · subst q
      rw [u3_rd, u3_rd]
    · rw [u3_sl q, u3_sl q]; exact r3 y hy
/-- a place of a team -/
theorem RR.place (h : RR nh nv na kk Y M) {t x : Nat} (hx : x < 8) (hth : Y 12 t 1 = 1) (v : Int32) (hv : okN nh v) : RR nh nv na kk (u3 Y 13 t x v) (u3 M 15 0 (8 * t + x) v) := by
  obtain ⟨⟨i1, i2, i3, i4, i5, i6, i7, i8, i9, i10⟩, r1, r2, r3, r4, r5, r6, r7, r8, r9, r10, r11, r12⟩ := h
  refine ⟨⟨i1, i2, i3, i4, i5, i6, i7, i8, fun t' ht' y hy => ?_, i10⟩, r1, r2, r3, fun t' ht' => ?_, r5, r6, r7, r8, r9, r10, r11, r12⟩
  · rw [u3_at]
    by_cases q : 13 = 13 ∧ t' = t ∧ y = x
    · rw [if_pos q]; exact hv
    · rw [if_neg q]; exact i9 t' ht' y hy
  · rcases r4 t' ht' with ⟨a, b⟩ | ⟨a, b, c, d⟩
    · exact Or.inl ⟨a, b⟩
    · refine Or.inr ⟨a, b, c, fun y hy => ?_⟩
      rw [u3_at, u3_at]
      by_cases q : t' = t ∧ y = x
      · rw [if_pos ⟨rfl, rfl, by rw [q.1, q.2]⟩, if_pos ⟨rfl, q.1, q.2⟩]
      · rw [if_neg (fun z => q (by have := z.2.2; omega)), if_neg (fun z => q z.2)]
        exact d y hy
/-- an int of a ledger -/
theorem RR.int (h : RR nh nv na kk Y M) {t x : Nat} (hx : x < 12) (v : Int32) : RR nh nv na kk (u3 Y 15 t x v) (u3 M 17 0 (12 * t + x) v) := by
  obtain ⟨iv, r1, r2, r3, r4, r5, r6, r7, r8, r9, r10, r11, r12⟩ := h
  refine ⟨iv, r1, r2, r3, r4, fun t' ht' => ?_, r6, r7, r8, r9, r10, r11, r12⟩
  rcases r5 t' ht' with ⟨a, b⟩ | ⟨a, b, d⟩
  · exact Or.inl ⟨a, b⟩
  · refine Or.inr ⟨a, b, fun y hy => ?_⟩
    rw [u3_at, u3_at]
    by_cases q : t' = t ∧ y = x
    · rw [if_pos ⟨rfl, rfl, by rw [q.1, q.2]⟩, if_pos ⟨rfl, q.1, q.2⟩]
    · rw [if_neg (fun z => q (by have := z.2.2; omega)), if_neg (fun z => q z.2)]
      exact d y hy
/-- a cell of a table, a row of it -/
theorem RR.cell (h : RR nh nv na kk Y M) {t r x : Nat} (hr : r < 6) (hx : x < 6) (v : Int32) : RR nh nv na kk (u3 Y 18 (6 * t + r) x v) (u3 M 21 0 (36 * t + 6 * r + x) v) := by
  obtain ⟨iv, r1, r2, r3, r4, r5, r6, r7, r8, r9, r10, r11, r12⟩ := h
  refine ⟨iv, r1, r2, r3, r4, r5, fun t' ht' => ⟨(r6 t' ht').1, ?_⟩, r7, r8, r9, r10, r11, r12⟩
  rcases (r6 t' ht').2 with ⟨a, b⟩ | ⟨a, b, c, d, e⟩
  · exact Or.inl ⟨a, b⟩
  · refine Or.inr ⟨a, b, c, d, fun r' hr' y hy => ?_⟩
    rw [u3_at, u3_at]
    by_cases q : t' = t ∧ r' = r ∧ y = x
    · rw [if_pos ⟨rfl, rfl, by rw [q.1, q.2.1, q.2.2]⟩, if_pos ⟨rfl, by rw [q.1, q.2.1], q.2.2⟩]
    · rw [if_neg (fun z => q (by have := z.2.2; omega)), if_neg (fun z => q (by have := z.2; omega))]
      exact e r' hr' y hy
theorem RR.row (h : RR nh nv na kk Y M) {t x : Nat} (hx : x < 6) : RR nh nv na kk (u3 Y 19 t x 0) (u3 M 20 0 (6 * t + x) 0) := by
  obtain ⟨iv, r1, r2, r3, r4, r5, r6, r7, r8, r9, r10, r11, r12⟩ := h
  refine ⟨iv, r1, r2, r3, r4, r5, fun t' ht' => ⟨(r6 t' ht').1, ?_⟩, r7, r8, r9, r10, r11, r12⟩
  rcases (r6 t' ht').2 with ⟨a, b⟩ | ⟨a, b, c, d, e⟩
  · exact Or.inl ⟨a, b⟩
  · refine Or.inr ⟨a, b, c, fun y hy => ?_, e⟩
    rw [u3_at, u3_at]
    by_cases q : t' = t ∧ y = x
    · rw [if_pos ⟨rfl, rfl, by rw [q.1, q.2]⟩, if_pos ⟨rfl, q.1, q.2⟩]
      exact ⟨rfl, Or.inl rfl⟩
    · rw [if_neg (fun z => q (by have := z.2.2; omega)), if_neg (fun z => q z.2)]
      exact d y hy
/-- taken away -/
theorem RR.noTeam (h : RR nh nv na kk Y M) {x : Nat} : RR nh nv na kk (u3 Y 12 x 1 0) (u3 M 13 0 x (-1)) := by
  obtain ⟨⟨i1, i2, i3, i4, i5, i6, i7, i8, i9, i10, i11, i12, i13, i14, i15⟩, r1, r2, r3, r4, r5, r6, r7, r8, r9, r10, r11, r12⟩ := h
  refine ⟨⟨i1, i2, i3, i4, i5, i6, i7, i8, i9, fun y hy => ?_, i11, i12, i13, fun y hy => ?_, i15⟩, r1, r2, r3, fun y hy => ?_, r5, r6, r7, r8, r9, r10, r11, r12⟩
  · rw [u3_at, if_neg (fun q => absurd q.2.2 (by decide))]
    exact i10 y hy
  · rw [u3_at]
    by_cases q : 12 = 12 ∧ y = x ∧ 1 = 1
    · rw [if_pos q]; exact Or.inl rfl
    · rw [if_neg q]; exact i14 y hy
  · by_cases q : y = x
    · subst q
      exact Or.inl ⟨u3_rd, u3_rd⟩
    · have e1 : u3 Y 12 x 1 0 12 y = Y 12 y := u3_ne (fun z => q z.2)
      have e2 : u3 M 13 0 x (-1) 13 0 y = M 13 0 y := u3_sl q
      rw [e1, e2]
      exact r4 y hy
theorem RR.noLedger (h : RR nh nv na kk Y M) {x : Nat} : RR nh nv na kk (u3 Y 14 x 1 0) (u3 M 16 0 x (-1)) := by
  obtain ⟨⟨i1, i2, i3, i4, i5, i6, i7, i8, i9, i10, i11, i12, i13, i14, i15, i16⟩, r1, r2, r3, r4, r5, r6, r7, r8, r9, r10, r11, r12⟩ := h
  refine ⟨⟨i1, i2, i3, i4, i5, i6, i7, i8, i9, i10, fun y hy => ?_, i12, i13, i14, fun y hy => ?_, i16⟩, r1, r2, r3, r4, fun y hy => ?_, r6, r7, r8, r9, r10, r11, r12⟩
  · rw [u3_at, if_neg (fun q => absurd q.2.2 (by decide))]
    exact i11 y hy
  · rw [u3_at]
    by_cases q : 14 = 14 ∧ y = x ∧ 1 = 1
    · rw [if_pos q]; exact Or.inl rfl
    · rw [if_neg q]; exact i15 y hy
  · by_cases q : y = x
    · subst q
      exact Or.inl ⟨u3_rd, u3_rd⟩
    · have e1 : u3 Y 14 x 1 0 14 y = Y 14 y := u3_ne (fun z => q z.2)
      have e2 : u3 M 16 0 x (-1) 16 0 y = M 16 0 y := u3_sl q
      rw [e1, e2]
      exact r5 y hy
theorem RR.noTable (h : RR nh nv na kk Y M) {x : Nat} : RR nh nv na kk (u3 Y 16 x 2 0) (u3 M 18 0 x (-1)) := by
  obtain ⟨⟨i1, i2, i3, i4, i5, i6, i7, i8, i9, i10, i11, i12, i13, i14, i15, i16⟩, r1, r2, r3, r4, r5, r6, r7, r8, r9, r10, r11, r12⟩ := h
  refine ⟨⟨i1, i2, i3, i4, i5, i6, i7, i8, i9, i10, i11, fun y hy => ?_, fun y hy => ?_, i14, i15, fun y hy => ?_⟩, r1, r2, r3, r4, r5, fun y hy => ⟨(r6 y hy).1, ?_⟩, r7, r8, r9, r10, r11, r12⟩
  · rw [u3_at, if_neg (fun q => absurd q.2.2 (by decide))]
    exact i12 y hy
  · rw [u3_at, if_neg (fun q => absurd q.2.2 (by decide))]
    exact i13 y hy
  · rw [u3_at]
    by_cases q : 16 = 16 ∧ y = x ∧ 2 = 2
    · rw [if_pos q]; exact Or.inl rfl
    · rw [if_neg q]; exact i16 y hy
  · by_cases q : y = x
    · subst q
      exact Or.inl ⟨u3_rd, u3_rd⟩
    · have e1 : u3 Y 16 x 2 0 16 y = Y 16 y := u3_ne (fun z => q z.2)
      have e2 : u3 M 18 0 x (-1) 18 0 y = M 18 0 y := u3_sl q
      rw [e1, e2]
      exact (r6 y hy).2
theorem RR.noHook (h : RR nh nv na kk Y M) {x : Nat} : RR nh nv na kk (u3 Y 6 0 x (-1)) (u3 M 22 0 x 0) := by
  obtain ⟨⟨i1, i2, i3, i4, i5, i6, i7, i8, i9⟩, r1, r2, r3, r4, r5, r6, r7, r8, r9, r10, r11, r12⟩ := h
  refine ⟨⟨i1, i2, i3, i4, i5, i6, i7, fun y hy => ?_, i9⟩, r1, r2, r3, r4, r5, r6, fun y hy => ?_, r8, r9, r10, r11, r12⟩
  · by_cases q : y = x
    · subst q
      rw [u3_rd]; exact Or.inl rfl
    · rw [u3_sl q]; exact i8 y hy
  · by_cases q : y = x
    · subst q
      exact Or.inl ⟨by rw [u3_rd]; decide, u3_rd⟩
    · rw [u3_sl q, u3_sl q]
      exact r7 y hy
/-- counts, tasks, what is put down, what is met -/
theorem RR.met (h : RR nh nv na kk Y M) {x : Nat} (v : Int32) : RR nh nv na kk (u3 Y 11 0 x v) (u3 M 32 0 x v) := by
  obtain ⟨iv, r1, r2, r3, r4, r5, r6, r7, r8, r9, r10, r11, r12⟩ := h
  refine ⟨iv, r1, r2, r3, r4, r5, r6, r7, r8, r9, r10, r11, fun y hy => ?_⟩
  by_cases q : y = x
  · subst q
    rw [u3_rd, u3_rd]
  · rw [u3_sl q, u3_sl q]; exact r12 y hy
theorem RR.pdt (h : RR nh nv na kk Y M) {x : Nat} (v : Int32) : RR nh nv na kk (u3 Y 9 0 x v) (u3 M 30 0 x v) := by
  obtain ⟨iv, r1, r2, r3, r4, r5, r6, r7, r8, r9, r10, r11, r12⟩ := h
  refine ⟨iv, r1, r2, r3, r4, r5, r6, r7, r8, r9, r10, fun y hy => ⟨?_, (r11 y hy).2⟩, r12⟩
  by_cases q : y = x
  · subst q
    rw [u3_rd, u3_rd]
  · rw [u3_sl q, u3_sl q]; exact (r11 y hy).1
theorem RR.pdf (h : RR nh nv na kk Y M) {x : Nat} (v : Int32) : RR nh nv na kk (u3 Y 10 0 x v) (u3 M 31 0 x v) := by
  obtain ⟨iv, r1, r2, r3, r4, r5, r6, r7, r8, r9, r10, r11, r12⟩ := h
  refine ⟨iv, r1, r2, r3, r4, r5, r6, r7, r8, r9, r10, fun y hy => ⟨(r11 y hy).1, ?_⟩, r12⟩
  by_cases q : y = x
  · subst q
    rw [u3_rd, u3_rd]
  · rw [u3_sl q, u3_sl q]; exact (r11 y hy).2
theorem RR.pdn (h : RR nh nv na kk Y M) {v : Int32} {n : Nat} (hk : kk + 1 < 2 ^ 30) (hn : n ≤ kk) (e : v = nI (n + 1)) (e2 : Y 0 0 13 = nI (min (n + 1) 40)) : RR nh nv na (kk + 1) (u3 Y 0 0 14 v) (u3 M 0 0 29 v) := by
  obtain ⟨⟨i1, i2, i3, i4, i5, i6⟩, ⟨s1, s2, s3, s4, s5⟩, r⟩ := h
  exact ⟨⟨i1, i2, i3, i4, ⟨n + 1, by omega, by omega, e, e2⟩, i6⟩, ⟨s1, s2, s3, s4, rfl⟩, r⟩
theorem RR.pdw (h : RR nh nv na kk Y M) {v w : Int32} {n : Nat} (hk : kk + 1 < 2 ^ 30) (hn : n ≤ kk) (e : v = nI (n + 1)) (e2 : w = nI (min (n + 1) 40)) : RR nh nv na (kk + 1) (u3 (u3 Y 0 0 13 w) 0 0 14 v) (u3 M 0 0 29 v) := by
  obtain ⟨⟨i1, i2, i3, i4, i5, i6⟩, ⟨s1, s2, s3, s4, s5⟩, r⟩ := h
  exact ⟨⟨i1, i2, i3, i4, ⟨n + 1, by omega, by omega, e, e2⟩, i6⟩, ⟨s1, s2, s3, s4, rfl⟩, r⟩
theorem RR.tkn (h : RR nh nv na kk Y M) {v : Int32} (e : okZ 20 v) : RR nh nv na kk (u3 Y 0 0 10 v) (u3 M 0 0 24 v) := by
  obtain ⟨⟨i1, i2, i3, i4, i5⟩, ⟨s1, s2, s3, s4, s5⟩, r⟩ := h
  exact ⟨⟨i1, i2, i3, e, i5⟩, ⟨s1, s2, s3, rfl, s5⟩, r⟩
end RR
