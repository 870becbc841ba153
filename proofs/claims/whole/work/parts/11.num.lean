/-! numbers -/
theorem rq_toInt {a n : Int32} {N : Nat} (hn : n.toInt = N) (h1 : 0 < N) (hN : N < 2 ^ 30) : (a - a / n * n).toInt = a.toInt.tmod N := by
  rw [Int32.toInt_sub, Int32.toInt_mul, Int32.toInt_div, hn, Int.bmod_mul_bmod, Int.sub_bmod_bmod]
  have h2 := Int.tmod_add_tdiv_mul a.toInt (N : Int)
  have h3 := Int.tmod_lt_of_pos a.toInt (b := (N : Int)) (by omega)
  have h4 := Int.lt_tmod_of_pos a.toInt (b := (N : Int)) (by omega)
  have h5 : a.toInt - a.toInt.tdiv (N : Int) * (N : Int) = a.toInt.tmod N := by omega
  rw [h5]
  exact Int.bmod_eq_of_le (by omega) (by omega)
theorem nI_ofInt {x : Int32} {j : Nat} (h : x.toInt = (j : Int)) (hj : j < 2 ^ 31) : x = nI j := Int32.toInt_inj.mp (by rw [h, nI_toInt hj])
/-- the place that a names among N -/
def fmN (a : Int32) (N : Nat) : Nat := (a.toInt % (N : Int)).toNat
theorem fmN_lt (a : Int32) {N : Nat} (h : 0 < N) : fmN a N < N := by
  have h1 := Int.emod_nonneg a.toInt (b := (N : Int)) (by omega)
  have h2 := Int.emod_lt_of_pos a.toInt (b := (N : Int)) (by omega)
  unfold fmN
  omega
theorem mod_eq {a n : Int32} {N : Nat} (hn : n.toInt = N) (h1 : 0 < N) (hN : N < 2 ^ 20) : fX10_modulo a n = nI (fmN a N) := by
  have r1 := rq_toInt (a := a) hn h1 (by omega)
  have h3 := Int.tmod_lt_of_pos a.toInt (b := (N : Int)) (by omega)
  have h4 := Int.lt_tmod_of_pos a.toInt (b := (N : Int)) (by omega)
  have s1 : ((a - a / n * n) + n).toInt = a.toInt.tmod N + N := by
    rw [Int32.toInt_add, r1, hn]
    exact Int.bmod_eq_of_le (by omega) (by omega)
  have r2 := rq_toInt (a := (a - a / n * n) + n) hn h1 (by omega)
  refine nI_ofInt ?_ (by have := fmN_lt a h1; omega)
  unfold fX10_modulo
  rw [r2, s1, Int.tmod_eq_emod_of_nonneg (by omega)]
  have h5 := Int.emod_nonneg a.toInt (b := (N : Int)) (by omega)
  unfold fmN
  rw [Int.toNat_of_nonneg h5, Int.add_emod_right, Int.tmod_eq_emod]
  by_cases hc : 0 ≤ a.toInt ∨ (N : Int) ∣ a.toInt
  · rw [if_pos hc]; simp
  · rw [if_neg hc]; simp
theorem xor_sign {a n : Int32} (hn : 0 ≤ n.toInt) : 0 ≤ a ^^^ n ↔ 0 ≤ a.toInt := by
  rw [Int32.le_iff_toInt_le, Int32.toInt_zero]
  have e1 : ∀ x : Int32, 0 ≤ x.toInt ↔ x.toBitVec.msb = false := by
    intro x
    have := BitVec.msb_eq_toInt (x := x.toBitVec)
    have e : x.toBitVec.toInt = x.toInt := rfl
    rw [e] at this
    rw [this]
    simp
  rw [e1, e1] at *
  rw [Int32.toBitVec_xor, BitVec.msb_xor, hn]
  simp
theorem fm_eq {a n : Int32} {N : Nat} (hn : n.toInt = N) (h1 : 0 < N) (hN : N < 2 ^ 20) : fJ9_floorMod_7cf53 a n = nI (fmN a N) := by
  have r1 := rq_toInt (a := a) hn h1 (by omega)
  have h3 := Int.tmod_lt_of_pos a.toInt (b := (N : Int)) (by omega)
  have h4 := Int.lt_tmod_of_pos a.toInt (b := (N : Int)) (by omega)
  have h5 := Int.emod_nonneg a.toInt (b := (N : Int)) (by omega)
  have h6 := Int.emod_lt_of_pos a.toInt (b := (N : Int)) (by omega)
  have h7 := Int.tmod_eq_emod (a := a.toInt) (b := (N : Int))
  have hs := xor_sign (a := a) (n := n) (by omega)
  refine nI_ofInt ?_ (by have := fmN_lt a h1; omega)
  unfold fmN
  rw [Int.toNat_of_nonneg h5]
  unfold fJ9_floorMod_7cf53
  by_cases hc : 0 ≤ a ^^^ n
  · rw [if_pos hc, r1, Int.tmod_eq_emod_of_nonneg (hs.mp hc)]
  · rw [if_neg hc]
    have hneg : ¬ 0 ≤ a.toInt := fun h => hc (hs.mpr h)
    by_cases hz : a - a / n * n = 0
    · rw [if_pos hz, r1]
      have hz0 : a.toInt.tmod N = 0 := by rw [← r1, hz]; rfl
      have hd : (N : Int) ∣ a.toInt := Int.dvd_of_tmod_eq_zero hz0
      rw [hz0, Int.emod_eq_zero_of_dvd hd]
    · rw [if_neg hz, Int32.toInt_add, r1, hn]
      have hnd : ¬ (N : Int) ∣ a.toInt := fun hd => hz (Int32.toInt_inj.mp (by rw [r1, Int.tmod_eq_zero_of_dvd hd]; rfl))
      rw [if_neg (by rintro (h | h); exact hneg h; exact hnd h)] at h7
      have e2 : a.toInt.tmod N + N = a.toInt % N := by rw [h7]; simp
      rw [e2]
      exact Int.bmod_eq_of_le (by omega) (by omega)
theorem in_spec {x a b : Int32} (h : ¬ fX10_in x a b = 0) : a.toInt ≤ x.toInt ∧ x.toInt ≤ b.toInt := by
  unfold fX10_in at h
  by_cases h1 : x < a
  · rw [if_pos h1] at h; exact absurd rfl h
  · rw [if_neg h1] at h
    by_cases h2 : b < x
    · rw [if_pos h2] at h; exact absurd rfl h
    · rw [Int32.lt_iff_toInt_lt] at h1 h2; omega
theorem in_not {x a b : Int32} (h : fX10_in x a b = 0) : ¬ (a.toInt ≤ x.toInt ∧ x.toInt ≤ b.toInt) := by
  unfold fX10_in at h
  intro hc
  rw [if_neg (by rw [Int32.lt_iff_toInt_lt]; omega), if_neg (by rw [Int32.lt_iff_toInt_lt]; omega)] at h
  exact absurd h (by decide)
theorem in_in {x b : Int32} {n : Nat} (h : ¬ fX10_in x 0 b = 0) (hb : b.toInt < (n : Int)) : vp_in x n := by
  have h1 := in_spec h
  rw [Int32.toInt_zero] at h1
  exact vp_in_iff.mpr ⟨h1.1, by omega⟩
theorem wi_spec {x n : Int32} : (¬ fX9_within x n = 0) ↔ (0 ≤ x.toInt ∧ x.toInt < n.toInt) := by
  unfold fX9_within
  by_cases h1 : x < 0
  · rw [if_pos h1]
    rw [Int32.lt_iff_toInt_lt, Int32.toInt_zero] at h1
    exact ⟨fun h => absurd rfl h, fun h => by omega⟩
  · rw [if_neg h1]
    rw [Int32.lt_iff_toInt_lt, Int32.toInt_zero] at h1
    by_cases h2 : n ≤ x
    · rw [if_pos h2]
      rw [Int32.le_iff_toInt_le] at h2
      exact ⟨fun h => absurd rfl h, fun h => by omega⟩
    · rw [if_neg h2]
      rw [Int32.le_iff_toInt_le] at h2
      exact ⟨fun _ => by omega, fun _ => by decide⟩
theorem wi_in {x n : Int32} {N : Nat} (h : ¬ fX9_within x n = 0) (hn : n.toInt ≤ (N : Int)) : vp_in x N := by
  have := wi_spec.mp h
  exact vp_in_iff.mpr ⟨this.1, by omega⟩
theorem vp_lt {x : Int32} {n : Nat} (h : vp_in x n) : x.toNatClampNeg < n := Nat.not_le.mp fun q => h (Or.inr q)
theorem vp_toInt {x : Int32} {n : Nat} (h : vp_in x n) : x.toInt = (x.toNatClampNeg : Int) := by
  have h1 := (vp_in_iff.mp h).1
  show x.toInt = ((x.toInt.toNat : Nat) : Int)
  omega
theorem vp_nI {x : Int32} {n : Nat} (h : vp_in x n) (hn : n < 2 ^ 31) : x = nI x.toNatClampNeg := nI_ofInt (vp_toInt h) (by have := vp_lt h; omega)
