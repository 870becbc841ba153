theorem fm_in {a n : Int32} {N : Nat} (hn : n.toInt = N) (h1 : 0 < N) (hN : N < 2 ^ 20) : vp_in (fJ9_floorMod_7cf53 a n) N := by
  rw [fm_eq hn h1 hN]
  exact vp_in_nI (fmN_lt a h1) (by omega)
theorem fm_in10 (a : Int32) : vp_in (fJ9_floorMod_7cf53 a 10) 10 := fm_in (by decide) (by decide) (by decide)
theorem fm_in6 (a : Int32) : vp_in (fJ9_floorMod_7cf53 a 6) 6 := fm_in (by decide) (by decide) (by decide)
theorem fm_in4 (a : Int32) : vp_in (fJ9_floorMod_7cf53 a 4) 4 := fm_in (by decide) (by decide) (by decide)
theorem cn_in {x : Int32} {i N : Nat} (e : x = nI i) (h : i < N) (hN : N < 2 ^ 31) : vp_in x N := by
  rw [e]; exact vp_in_nI h hN
theorem vp_le {x : Int32} {n m : Nat} (h : vp_in x n) (hle : n ≤ m) : vp_in x m := by
  rw [vp_in_iff] at h ⊢
  omega
def okN (n : Nat) (c : Int32) : Prop := c = -1 ∨ vp_in c n
def okV (nh nv : Nat) (c : Int32) : Prop := c = -1 ∨ vp_in c nh ∨ ∃ j : Nat, j < nv ∧ c = nI (100 + j)
def okB (c : Int32) : Prop := c = 0 ∨ c = 1
def okZ (B : Nat) (c : Int32) : Prop := ∃ n : Nat, n ≤ B ∧ c = nI n
theorem okN.in {n : Nat} {c : Int32} (h : okN n c) (hc : ¬ c < 0) : vp_in c n := by
  rcases h with rfl | h
  · exact absurd (by decide) hc
  · exact h
theorem okZ.wi {B : Nat} {q x : Int32} (h : okZ B q) (hB : B < 2 ^ 30) (c : ¬ fX9_within x q = 0) : vp_in x B := by
  obtain ⟨n, hn, e⟩ := h
  exact wi_in c (by rw [e, nI_toInt (by omega)]; omega)
theorem okZ.lt {B i : Nat} {q x : Int32} (h : okZ B q) (hB : B < 2 ^ 30) (e : x = nI i) (hi : i < 2 ^ 31) (c : ¬ q ≤ x) : i < B := by
  obtain ⟨n, hn, eq⟩ := h
  rw [eq, e, nI_leI (by omega) hi] at c
  omega
def InvY (nh nv na kk : Nat) (Y : Nat → Nat → Nat → Int32) : Prop := (nh ≤ 60 ∧ Y 0 0 6 = nI nh) ∧ (nv ≤ 60 ∧ Y 0 0 7 = nI nv) ∧ (na ≤ 60 ∧ Y 0 0 8 = nI na) ∧ okZ 20 (Y 0 0 10) ∧ (∃ n : Nat, n ≤ kk ∧ n < 2 ^ 30 ∧ Y 0 0 14 = nI n ∧ Y 0 0 13 = nI (min n 40)) ∧ (∀ j, j < 10 → okN nh (Y 1 0 j)) ∧ (∀ j, j < 6 → okV nh nv (Y 2 0 j)) ∧ (∀ j, j < 6 → okN na (Y 6 0 j)) ∧ (∀ t, t < 6 → ∀ j, j < 8 → okN nh (Y 13 t j)) ∧ (∀ t, t < 6 → okZ 8 (Y 12 t 3)) ∧ (∀ t, t < 4 → okZ 12 (Y 14 t 2)) ∧ (∀ t, t < 4 → okZ 6 (Y 16 t 3)) ∧ (∀ t, t < 4 → okZ 6 (Y 16 t 4)) ∧ (∀ t, t < 6 → okB (Y 12 t 1)) ∧ (∀ t, t < 4 → okB (Y 14 t 1)) ∧ (∀ t, t < 4 → okB (Y 16 t 2))
section IY
variable {nh nv na kk : Nat} {Y : Nat → Nat → Nat → Int32}
theorem InvY.le60 (h : InvY nh nv na kk Y) : nh ≤ 60 := h.1.1
theorem InvY.sts (h : InvY nh nv na kk Y) : ∀ j, j < 10 → okN nh (Y 1 0 j) := h.2.2.2.2.2.1
theorem InvY.shs (h : InvY nh nv na kk Y) : ∀ j, j < 6 → okV nh nv (Y 2 0 j) := h.2.2.2.2.2.2.1
theorem InvY.hks (h : InvY nh nv na kk Y) : ∀ j, j < 6 → okN na (Y 6 0 j) := h.2.2.2.2.2.2.2.1
theorem InvY.pls (h : InvY nh nv na kk Y) : ∀ t, t < 6 → ∀ j, j < 8 → okN nh (Y 13 t j) := h.2.2.2.2.2.2.2.2.1
theorem InvY.tsz (h : InvY nh nv na kk Y) : ∀ t, t < 6 → okZ 8 (Y 12 t 3) := h.2.2.2.2.2.2.2.2.2.1
theorem InvY.lsz (h : InvY nh nv na kk Y) : ∀ t, t < 4 → okZ 12 (Y 14 t 2) := h.2.2.2.2.2.2.2.2.2.2.1
theorem InvY.hsz (h : InvY nh nv na kk Y) : ∀ t, t < 4 → okZ 6 (Y 16 t 3) := h.2.2.2.2.2.2.2.2.2.2.2.1
theorem InvY.wsz (h : InvY nh nv na kk Y) : ∀ t, t < 4 → okZ 6 (Y 16 t 4) := h.2.2.2.2.2.2.2.2.2.2.2.2.1
theorem InvY.zt (h : InvY nh nv na kk Y) {t : Nat} (ht : t < 6) : Y 12 t 1 = 0 ∨ Y 12 t 1 = 1 := h.2.2.2.2.2.2.2.2.2.2.2.2.2.1 t ht
theorem InvY.zl (h : InvY nh nv na kk Y) {t : Nat} (ht : t < 4) : Y 14 t 1 = 0 ∨ Y 14 t 1 = 1 := h.2.2.2.2.2.2.2.2.2.2.2.2.2.2.1 t ht
theorem InvY.zw (h : InvY nh nv na kk Y) {t : Nat} (ht : t < 4) : Y 16 t 2 = 0 ∨ Y 16 t 2 = 1 := h.2.2.2.2.2.2.2.2.2.2.2.2.2.2.2 t ht
theorem InvY.stV (h : InvY nh nv na kk Y) {x : Int32} (hb : vp_in x 10) (c : ¬ Y 1 0 ((x : Int32).toNatClampNeg) < 0) : vp_in (Y 1 0 ((x : Int32).toNatClampNeg)) nh := (h.sts _ (vp_lt hb)).in c
theorem InvY.st (h : InvY nh nv na kk Y) {x : Int32} (hb : vp_in x 10) (c : ¬ Y 1 0 ((x : Int32).toNatClampNeg) < 0) : (Y 1 0 ((x : Int32).toNatClampNeg) : Int32).toNatClampNeg < nh := vp_lt (h.stV hb c)
theorem InvY.plV (h : InvY nh nv na kk Y) {t : Nat} {x : Int32} (ht : t < 6) (hb : vp_in x 8) (c : ¬ Y 13 t ((x : Int32).toNatClampNeg) < 0) : vp_in (Y 13 t ((x : Int32).toNatClampNeg)) nh := (h.pls _ ht _ (vp_lt hb)).in c
theorem InvY.pl (h : InvY nh nv na kk Y) {t : Nat} {x : Int32} (ht : t < 6) (hb : vp_in x 8) (c : ¬ Y 13 t ((x : Int32).toNatClampNeg) < 0) : (Y 13 t ((x : Int32).toNatClampNeg) : Int32).toNatClampNeg < nh := vp_lt (h.plV ht hb c)
theorem InvY.hk (h : InvY nh nv na kk Y) {x : Int32} (hb : vp_in x 6) (c : ¬ Y 6 0 ((x : Int32).toNatClampNeg) < 0) : (Y 6 0 ((x : Int32).toNatClampNeg) : Int32).toNatClampNeg < na := vp_lt ((h.hks _ (vp_lt hb)).in c)
theorem okV.hw {c : Int32} (h : okV nh nv c) (hn : nh ≤ 60) (hv : nv ≤ 60) (c0 : ¬ c < 0) : (c < 100 → c.toNatClampNeg < nh) ∧ (¬ c < 100 → c.toNatClampNeg - 100 < nv) := by
  rcases h with rfl | h | ⟨j, hj, e⟩
  · exact absurd (by decide) c0
  · exact ⟨fun _ => vp_lt h, fun q => absurd (lt100 (vp_le h hn)) q⟩
  · refine ⟨fun q => ?_, fun _ => ?_⟩
    · rw [e, show (100 : Int32) = nI 100 from rfl, nI_ltI (by omega) (by decide)] at q
      omega
    · rw [e, nI_clamp (by omega)]
      omega
theorem InvY.sh (h : InvY nh nv na kk Y) {x : Int32} (hb : vp_in x 6) (c0 : ¬ Y 2 0 ((x : Int32).toNatClampNeg) < 0) (c1 : Y 2 0 ((x : Int32).toNatClampNeg) < 100) : (Y 2 0 ((x : Int32).toNatClampNeg) : Int32).toNatClampNeg < nh := ((h.shs _ (vp_lt hb)).hw h.1.1 h.2.1.1 c0).1 c1
theorem InvY.sw (h : InvY nh nv na kk Y) {x : Int32} (hb : vp_in x 6) (c0 : ¬ Y 2 0 ((x : Int32).toNatClampNeg) < 0) (c1 : ¬ Y 2 0 ((x : Int32).toNatClampNeg) < 100) : (Y 2 0 ((x : Int32).toNatClampNeg) : Int32).toNatClampNeg - 100 < nv := ((h.shs _ (vp_lt hb)).hw h.1.1 h.2.1.1 c0).2 c1
theorem InvY.tb (h : InvY nh nv na kk Y) {t : Nat} {x : Int32} (ht : t < 6) (c : ¬ fX9_within x (Y 12 t 3) = 0) : vp_in x 8 := (h.tsz t ht).wi (by decide) c
theorem InvY.lb (h : InvY nh nv na kk Y) {t : Nat} {x : Int32} (ht : t < 4) (c : ¬ fX9_within x (Y 14 t 2) = 0) : vp_in x 12 := (h.lsz t ht).wi (by decide) c
theorem InvY.rb (h : InvY nh nv na kk Y) {t : Nat} {x : Int32} (ht : t < 4) (c : ¬ fX9_within x (Y 16 t 3) = 0) : vp_in x 6 := (h.hsz t ht).wi (by decide) c
theorem InvY.wb (h : InvY nh nv na kk Y) {t : Nat} {x : Int32} (ht : t < 4) (c : ¬ fX9_within x (Y 16 t 4) = 0) : vp_in x 6 := (h.wsz t ht).wi (by decide) c
theorem InvY.tc (h : InvY nh nv na kk Y) (c : Y 0 0 10 < 20) : vp_in (Y 0 0 10) 20 := by
  obtain ⟨n, hn, e⟩ := h.2.2.2.1
  rw [e, show (20 : Int32) = nI 20 from rfl, nI_ltI (by omega) (by decide)] at c
  rw [e]
  exact vp_in_nI c (by decide)
theorem InvY.pd (h : InvY nh nv na kk Y) (c : ¬ 40 ≤ Y 0 0 13) : vp_in (Y 0 0 13) 40 := by
  obtain ⟨n, -, hn, -, e⟩ := h.2.2.2.2.1
  rw [e, show (40 : Int32) = nI 40 from rfl, nI_leI (by decide) (by omega)] at c
  rw [e]
  exact vp_in_nI (by omega) (by decide)
theorem InvY.bk (h : InvY nh nv na kk Y) {x : Int32} (c : ¬ fX9_within x (Y 0 0 13) = 0) : vp_in x 40 := by
  obtain ⟨n, -, hn, -, e⟩ := h.2.2.2.2.1
  exact okZ.wi (B := 40) ⟨min n 40, by omega, e⟩ (by decide) c
theorem InvY.lin (h : InvY nh nv na kk Y) {t i : Nat} {x : Int32} (ht : t < 4) (e : x = nI i) (hi : i ≤ 12) (c : ¬ Y 14 t 2 ≤ x) : vp_in x 12 := cn_in e ((h.lsz t ht).lt (by decide) e (by omega) c) (by decide)
theorem InvY.lback (h : InvY nh nv na kk Y) {t i n : Nat} {x : Int32} (ht : t < 4) (e : x = nI i) (hi : i ≤ 12) (hn : i + (n + 1) = 13) (c : ¬ Y 14 t 2 ≤ x) : ∃ j : Nat, x + 1 = nI j ∧ j ≤ 12 ∧ j + n = 13 := by
  have := (h.lsz t ht).lt (by decide) e (by omega) c
  exact ⟨i + 1, by rw [e]; exact nI_1 i, by omega, by omega⟩
theorem InvY.tlin (h : InvY nh nv na kk Y) {t i : Nat} {x : Int32} (ht : t < 6) (e : x = nI i) (hi : i ≤ 8) (c : ¬ Y 12 t 3 ≤ x) : vp_in x 8 := cn_in e ((h.tsz t ht).lt (by decide) e (by omega) c) (by decide)
theorem InvY.tback (h : InvY nh nv na kk Y) {t i n : Nat} {x : Int32} (ht : t < 6) (e : x = nI i) (hi : i ≤ 8) (hn : i + (n + 1) = 9) (c : ¬ Y 12 t 3 ≤ x) : ∃ j : Nat, x + 1 = nI j ∧ j ≤ 8 ∧ j + n = 9 := by
  have := (h.tsz t ht).lt (by decide) e (by omega) c
  exact ⟨i + 1, by rw [e]; exact nI_1 i, by omega, by omega⟩
/-- it says nothing of horses' and wagons' own numbers -/
theorem InvY.u20 (h : InvY nh nv na kk Y) (i j : Nat) (v : Int32) : InvY nh nv na kk (u3 Y 20 i j v) := h
theorem invY_w2 (h : InvY nh nv na kk Y) (i : Nat) (b : Int32) : InvY nh nv na kk (fX2_workFor Y i b).2 := h.u20 i 4 _
theorem invY_w1 (h : InvY nh nv na kk Y) (i : Nat) (b : Int32) : InvY nh nv na kk (fX1_workFor Y i b).2 := h.u20 i 4 _
theorem invY_w3 (h : InvY nh nv na kk Y) (i : Nat) (b : Int32) : InvY nh nv na kk (fX3_workFor Y i b).2 := (invY_w1 h i b).u20 i 4 _
theorem cntY_in {x : Int32} (c1 : ¬ x ≤ 5) (c2 : x ≤ 11) : vp_in (x - 5) 7 := by
  rw [Int32.le_iff_toInt_le, show (5 : Int32).toInt = 5 from rfl] at c1
  rw [Int32.le_iff_toInt_le, show (11 : Int32).toInt = 11 from rfl] at c2
  refine vp_in_iff.mpr ?_
  rw [Int32.toInt_sub, show (5 : Int32).toInt = 5 from rfl, Int.bmod_eq_of_le (by omega) (by omega)]
  omega
theorem InvY.inj (h : InvY nh nv na kk Y) {D : va_G} {C : Nat → ClassId} {A : Nat → Prop} {ad : Nat → Nat → Nat} {H : Heap} (hN : nw D (enY C) (domY nh nv na) A ad Y H) {x y : Int32} (hx : vp_in x 10) (hy : vp_in y 10) (e : oH ad (Y 1 0 ((x : Int32).toNatClampNeg)) = oH ad (Y 1 0 ((y : Int32).toNatClampNeg))) : Y 1 0 ((x : Int32).toNatClampNeg) = Y 1 0 ((y : Int32).toNatClampNeg) := by
  have h1 := h.sts _ (vp_lt hx)
  have h2 := h.sts _ (vp_lt hy)
  generalize Y 1 0 ((x : Int32).toNatClampNeg) = a at *
  generalize Y 1 0 ((y : Int32).toNatClampNeg) = b at *
  have hle := h.le60
  rcases h1 with rfl | h1 <;> rcases h2 with rfl | h2
  · rfl
  · rw [oH_m1, oH_1 (vp_pos h2)] at e; cases e
  · rw [oH_m1, oH_1 (vp_pos h1)] at e; cases e
  · rw [oH_1 (vp_pos h1), oH_1 (vp_pos h2)] at e
    have := (hN.2.1 20 a.toNatClampNeg 20 b.toNatClampNeg (vp_lt h1) (vp_lt h2) (Option.some.inj e)).2
    rw [vp_nI h1 (by omega), vp_nI h2 (by omega), this]
end IY
