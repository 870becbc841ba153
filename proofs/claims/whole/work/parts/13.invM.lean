/-! what always holds of the reference's numbers -/
theorem mod_in {a n : Int32} {N : Nat} (hn : n.toInt = N) (h1 : 0 < N) (hN : N < 2 ^ 20) : vp_in (fX10_modulo a n) N := by
  rw [mod_eq hn h1 hN]
  exact vp_in_nI (fmN_lt a h1) (by omega)
theorem mod_in10 (a : Int32) : vp_in (fX10_modulo a 10) 10 := mod_in (by decide) (by decide) (by decide)
theorem mod_in6 (a : Int32) : vp_in (fX10_modulo a 6) 6 := mod_in (by decide) (by decide) (by decide)
theorem mod_in4 (a : Int32) : vp_in (fX10_modulo a 4) 4 := mod_in (by decide) (by decide) (by decide)
theorem cnt_lt {x b : Int32} {i B n : Nat} (e : x = nI i) (hi : i + (n + 1) = B + 1) (eb : b = nI B) (hB : B < 2 ^ 31) (c : ¬ b ≤ x) : i < B := by
  rcases Nat.lt_or_ge i B with h | h
  · exact h
  · exact absurd (by rw [e, eb]; exact nI_le h (by omega)) c
theorem cnt_back {x b : Int32} {i B n : Nat} (e : x = nI i) (hi : i + (n + 1) = B + 1) (eb : b = nI B) (hB : B < 2 ^ 31) (c : ¬ b ≤ x) : ∃ j : Nat, x + 1 = nI j ∧ j ≤ B ∧ j + n = B + 1 := by
  have := cnt_lt e hi eb hB c
  exact ⟨i + 1, by rw [e]; exact nI_1 i, by omega, by omega⟩
theorem ix_in {q x b : Int32} {N B i : Nat} (hb : b = nI B ∧ N * B < 2 ^ 31 ∧ N < 2 ^ 31) (hq : vp_in q N) (e : x = nI i) (hi : i < B) : vp_in (b * q + x) (N * B) := by
  have hlt := vp_lt hq
  rw [vp_nI hq hb.2.2, hb.1, e, pk_mul, nI_add]
  refine vp_in_nI ?_ hb.2.1
  have h1 : B * q.toNatClampNeg + B ≤ B * N := by
    have := Nat.mul_le_mul_left B (show q.toNatClampNeg + 1 ≤ N by omega)
    rw [Nat.mul_add, Nat.mul_one] at this
    exact this
  rw [Nat.mul_comm N B]
  omega
theorem ix_at {q x b : Int32} {N B i : Nat} (hb : b = nI B) (hN : N * B < 2 ^ 31 ∧ N < 2 ^ 31) (hq : vp_in q N) (e : x = nI i) (hi : i < B) : (b * q + x).toNatClampNeg = B * q.toNatClampNeg + i := by
  have hlt := vp_lt hq
  have h1 : B * q.toNatClampNeg + B ≤ B * N := by
    have := Nat.mul_le_mul_left B (show q.toNatClampNeg + 1 ≤ N by omega)
    rw [Nat.mul_add, Nat.mul_one] at this
    exact this
  have e2 : b * q + x = nI (B * q.toNatClampNeg + i) := by
    rw [hb, e]
    conv => lhs; rw [vp_nI hq hN.2]
    rw [pk_mul, nI_add]
  rw [e2, nI_clamp]
  rw [Nat.mul_comm N B] at hN
  omega
def okH (c : Int32) : Prop := c = -1 ∨ vp_in c 60
def okW (c : Int32) : Prop := c = -1 ∨ vp_in c 60 ∨ ∃ j : Nat, j < 60 ∧ c = nI (100 + j)
def okS (B : Nat) (c : Int32) : Prop := c = -1 ∨ ∃ j : Nat, j ≤ B ∧ c = nI j
def InvM (kk : Nat) (M : Nat → Nat → Nat → Int32) : Prop := (∃ n : Nat, n ≤ 60 ∧ M 0 0 0 = nI n) ∧ (∃ n : Nat, n ≤ 60 ∧ M 0 0 7 = nI n) ∧ (∃ n : Nat, n ≤ 60 ∧ M 0 0 10 = nI n) ∧ (∃ n : Nat, n ≤ 20 ∧ M 0 0 24 = nI n) ∧ (∃ n : Nat, n ≤ kk ∧ n < 2 ^ 30 ∧ M 0 0 29 = nI n) ∧ (∀ j, j < 10 → okH (M 11 0 j)) ∧ (∀ j, j < 6 → okW (M 12 0 j)) ∧ (∀ t, t < 6 → okS 8 (M 13 0 t)) ∧ (∀ t, t < 6 → ¬ M 13 0 t < 0 → ∀ j, j < 8 → okH (M 15 0 (8 * t + j))) ∧ (∀ t, t < 4 → okS 12 (M 16 0 t)) ∧ (∀ t, t < 4 → okS 6 (M 18 0 t)) ∧ (∀ t, t < 4 → okS 6 (M 19 0 t)) ∧ (∀ j, j < 6 → M 22 0 j = 0 ∨ M 22 0 j = 1)
section IM
variable {kk : Nat} {M : Nat → Nat → Nat → Int32}
theorem InvM.hooked (h : InvM kk M) : ∀ j, j < 6 → M 22 0 j = 0 ∨ M 22 0 j = 1 := h.2.2.2.2.2.2.2.2.2.2.2.2
theorem InvM.stall (h : InvM kk M) : ∀ j, j < 10 → okH (M 11 0 j) := h.2.2.2.2.2.1
theorem InvM.shed (h : InvM kk M) : ∀ j, j < 6 → okW (M 12 0 j) := h.2.2.2.2.2.2.1
theorem InvM.team (h : InvM kk M) : ∀ t, t < 6 → okS 8 (M 13 0 t) := h.2.2.2.2.2.2.2.1
theorem InvM.place (h : InvM kk M) : ∀ t, t < 6 → ¬ M 13 0 t < 0 → ∀ j, j < 8 → okH (M 15 0 (8 * t + j)) := h.2.2.2.2.2.2.2.2.1
theorem InvM.ledger (h : InvM kk M) : ∀ t, t < 4 → okS 12 (M 16 0 t) := h.2.2.2.2.2.2.2.2.2.1
theorem InvM.table (h : InvM kk M) : ∀ t, t < 4 → okS 6 (M 18 0 t) := h.2.2.2.2.2.2.2.2.2.2.1
theorem InvM.wide (h : InvM kk M) : ∀ t, t < 4 → okS 6 (M 19 0 t) := h.2.2.2.2.2.2.2.2.2.2.2.1
theorem zn_b {v : Int32} (h : v = 0 ∨ v = 1) : narrow .boolean (.int v) = .int v := by
  rcases h with rfl | rfl <;> rfl
theorem lim_in {x b : Int32} {B n : Nat} (hn : n ≤ B) (e : x = nI n) (eb : b = nI B) (hB : B < 2 ^ 31) (c : ¬ x = b) : vp_in x B := by
  have hne : n ≠ B := fun q => c (by rw [e, eb, q])
  rw [e]
  exact vp_in_nI (by omega) hB
theorem invM_h (h : InvM kk M) (c : ¬ M 0 0 0 = 60) : vp_in (M 0 0 0) 60 := by
  obtain ⟨n, h1, h2⟩ := h.1
  exact lim_in h1 h2 rfl (by decide) c
theorem invM_w (h : InvM kk M) (c : ¬ M 0 0 7 = 60) : vp_in (M 0 0 7) 60 := by
  obtain ⟨n, h1, h2⟩ := h.2.1
  exact lim_in h1 h2 rfl (by decide) c
theorem invM_t (h : InvM kk M) (c : ¬ M 0 0 24 = 20) : vp_in (M 0 0 24) 20 := by
  obtain ⟨n, h1, h2⟩ := h.2.2.2.1
  exact lim_in h1 h2 rfl (by decide) c
theorem emp0 {p0 p1 : Int32} (h : ¬ fX10_in p1 0 (if p0 = 0 then 9 else (if p0 = 3 then 3 else (if p0 = 4 then 3 else 5))) = 0) (e : p0 = 0) : vp_in p1 10 := by
  rw [if_pos e] at h; exact in_in h (by decide)
theorem emp1 {p0 p1 : Int32} (h : ¬ fX10_in p1 0 (if p0 = 0 then 9 else (if p0 = 3 then 3 else (if p0 = 4 then 3 else 5))) = 0) (e : p0 = 1) : vp_in p1 6 := by
  rw [if_neg (by rw [e]; decide), if_neg (by rw [e]; decide), if_neg (by rw [e]; decide)] at h; exact in_in h (by decide)
theorem emp2 {p0 p1 : Int32} (h : ¬ fX10_in p1 0 (if p0 = 0 then 9 else (if p0 = 3 then 3 else (if p0 = 4 then 3 else 5))) = 0) (e : p0 = 2) : vp_in p1 6 := by
  rw [if_neg (by rw [e]; decide), if_neg (by rw [e]; decide), if_neg (by rw [e]; decide)] at h; exact in_in h (by decide)
theorem emp3 {p0 p1 : Int32} (h : ¬ fX10_in p1 0 (if p0 = 0 then 9 else (if p0 = 3 then 3 else (if p0 = 4 then 3 else 5))) = 0) (e : p0 = 3) : vp_in p1 4 := by
  rw [if_neg (by rw [e]; decide), if_pos e] at h; exact in_in h (by decide)
theorem emp4 {p0 p1 : Int32} (h : ¬ fX10_in p1 0 (if p0 = 0 then 9 else (if p0 = 3 then 3 else (if p0 = 4 then 3 else 5))) = 0) (e : p0 = 4) : vp_in p1 4 := by
  rw [if_neg (by rw [e]; decide), if_neg (by rw [e]; decide), if_pos e] at h; exact in_in h (by decide)
theorem emp5 {p0 p1 : Int32} (h : ¬ fX10_in p1 0 (if p0 = 0 then 9 else (if p0 = 3 then 3 else (if p0 = 4 then 3 else 5))) = 0) (e0 : ¬ p0 = 0) (_ : ¬ p0 = 1) (_ : ¬ p0 = 2) (e3 : ¬ p0 = 3) (e4 : ¬ p0 = 4) : vp_in p1 6 := by
  rw [if_neg e0, if_neg e3, if_neg e4] at h; exact in_in h (by decide)
theorem okH.in {c : Int32} (h : okH c) (hc : ¬ c < 0) : vp_in c 60 := by
  rcases h with rfl | h
  · exact absurd (by decide) hc
  · exact h
theorem vp_pos {x : Int32} {n : Nat} (h : vp_in x n) : ¬ x < 0 := fun q => h (Or.inl q)
theorem nle_of {x : Int32} (h : 0 ≤ x) : ¬ x < 0 := Int32.not_lt.mpr h
/-- an int below a size -/
theorem sz_in {q x : Int32} {B : Nat} (hs : okS B q) (hB : B < 2 ^ 30) (c : ¬ fX10_in x 0 (q - 1) = 0) : vp_in x B ∧ ¬ q < 0 ∧ x.toInt < q.toInt := by
  have h1 := in_spec c
  rw [Int32.toInt_zero] at h1
  rcases hs with rfl | ⟨j, hj, e⟩
  · have h2 : ((-1 : Int32) - 1).toInt = -2 := by decide
    omega
  · rw [e] at h1 ⊢
    rw [Int32.toInt_sub, nI_toInt (by omega), show (1 : Int32).toInt = 1 from rfl, Int.bmod_eq_of_le (by omega) (by omega)] at h1
    exact ⟨vp_in_iff.mpr ⟨h1.1, by omega⟩, nI_pos (by omega), by rw [nI_toInt (by omega)]; omega⟩
theorem sz_lt {q x : Int32} {B i : Nat} (hs : okS B q) (hB : B < 2 ^ 30) (e : x = nI i) (hi : i < 2 ^ 31) (c : ¬ q ≤ x) : i < B ∧ ¬ q < 0 ∧ nI i < q := by
  rcases hs with rfl | ⟨j, hj, ej⟩
  · exfalso
    apply c
    rw [e, Int32.le_iff_toInt_le, nI_toInt hi, show (-1 : Int32).toInt = -1 from rfl]
    omega
  · rw [e, ej, nI_leI (by omega) hi] at c
    rw [ej]
    exact ⟨by omega, nI_pos (by omega), nI_lt (by omega) (by omega)⟩
theorem invM_tear {p0 p1 : Int32} (h : InvM kk M) (c1 : ¬ fX10_in p0 0 3 = 0) (c2 : ¬ fX10_in p1 0 (M 18 0 ((p0 : Int32).toNatClampNeg) - 1) = 0) : vp_in (6 * p0 + p1) 24 := by
  have hq : vp_in p0 4 := in_in c1 (by decide)
  have hx := (sz_in (h.table _ (vp_lt hq)) (by decide) c2).1
  exact ix_in (N := 4) (B := 6) ⟨rfl, by decide, by decide⟩ hq (vp_nI hx (by decide)) (vp_lt hx)
theorem invM_row {p1 p2 : Int32} (h : InvM kk M) (hq : vp_in p1 4) (c2 : ¬ fX10_in p2 0 (M 18 0 ((p1 : Int32).toNatClampNeg) - 1) = 0) : vp_in (6 * p1 + p2) 24 := by
  have hx := (sz_in (h.table _ (vp_lt hq)) (by decide) c2).1
  exact ix_in (N := 4) (B := 6) ⟨rfl, by decide, by decide⟩ hq (vp_nI hx (by decide)) (vp_lt hx)
theorem invM_cell {p1 p2 p3 : Int32} (h : InvM kk M) (hq : vp_in p1 4) (c2 : ¬ fX10_in p2 0 (M 18 0 ((p1 : Int32).toNatClampNeg) - 1) = 0) (c3 : ¬ fX10_in p3 0 (M 19 0 ((p1 : Int32).toNatClampNeg) - 1) = 0) : vp_in ((36 * p1 + 6 * p2) + p3) 144 := by
  have hx := (sz_in (h.table _ (vp_lt hq)) (by decide) c2).1
  have hy := (sz_in (h.wide _ (vp_lt hq)) (by decide) c3).1
  have a1 := vp_lt hq
  have a2 := vp_lt hx
  have a3 := vp_lt hy
  rw [vp_nI hq (by decide), vp_nI hx (by decide), vp_nI hy (by decide), show (36 : Int32) = nI 36 from rfl, show (6 : Int32) = nI 6 from rfl, pk_mul, pk_mul, nI_add, nI_add]
  exact vp_in_nI (by omega) (by decide)
theorem invM_pl {p1 p2 : Int32} (h : InvM kk M) (hq : vp_in p1 6) (c2 : ¬ fX10_in p2 0 (M 13 0 ((p1 : Int32).toNatClampNeg) - 1) = 0) : vp_in (8 * p1 + p2) 48 := by
  have hx := (sz_in (h.team _ (vp_lt hq)) (by decide) c2).1
  exact ix_in (N := 6) (B := 8) ⟨rfl, by decide, by decide⟩ hq (vp_nI hx (by decide)) (vp_lt hx)
theorem invM_led {p1 p2 : Int32} (h : InvM kk M) (hq : vp_in p1 4) (c2 : ¬ fX10_in p2 0 (M 16 0 ((p1 : Int32).toNatClampNeg) - 1) = 0) : vp_in (12 * p1 + p2) 48 := by
  have hx := (sz_in (h.ledger _ (vp_lt hq)) (by decide) c2).1
  exact ix_in (N := 4) (B := 12) ⟨rfl, by decide, by decide⟩ hq (vp_nI hx (by decide)) (vp_lt hx)
theorem invM_sum {p1 x : Int32} {i : Nat} (h : InvM kk M) (hq : vp_in p1 4) (e : x = nI i) (hi : i ≤ 12) (c : ¬ M 16 0 ((p1 : Int32).toNatClampNeg) ≤ x) : vp_in (12 * p1 + x) 48 := by
  have hx := (sz_lt (h.ledger _ (vp_lt hq)) (by decide) e (by omega) c).1
  exact ix_in (N := 4) (B := 12) ⟨rfl, by decide, by decide⟩ hq e hx
theorem sum_back {p1 x : Int32} {i n : Nat} (h : InvM kk M) (hq : vp_in p1 4) (e : x = nI i) (hi : i ≤ 12) (hn : i + (n + 1) = 13) (c : ¬ M 16 0 ((p1 : Int32).toNatClampNeg) ≤ x) : ∃ j : Nat, x + 1 = nI j ∧ j ≤ 12 ∧ j + n = 13 := by
  have hx := (sz_lt (h.ledger _ (vp_lt hq)) (by decide) e (by omega) c).1
  exact ⟨i + 1, by rw [e]; exact nI_1 i, by omega, by omega⟩
theorem wa_idx {p0 x : Int32} {i : Nat} (h : InvM kk M) (hq : vp_in p0 6) (e : x = nI i) (hi : i ≤ 8) (c : ¬ M 13 0 ((p0 : Int32).toNatClampNeg) ≤ x) : vp_in (8 * p0 + x) 48 := by
  have hx := (sz_lt (h.team _ (vp_lt hq)) (by decide) e (by omega) c).1
  exact ix_in (N := 6) (B := 8) ⟨rfl, by decide, by decide⟩ hq e hx
theorem wa_pl {p0 x : Int32} {i : Nat} (h : InvM kk M) (hq : vp_in p0 6) (e : x = nI i) (hi : i ≤ 8) (c : ¬ M 13 0 ((p0 : Int32).toNatClampNeg) ≤ x) : okH (M 15 0 ((8 * p0 + x : Int32).toNatClampNeg)) := by
  obtain ⟨hx, hp, -⟩ := sz_lt (h.team _ (vp_lt hq)) (by decide) e (by omega) c
  rw [ix_at (b := 8) (N := 6) (B := 8) rfl ⟨by decide, by decide⟩ hq e hx]
  exact h.place _ (vp_lt hq) hp i hx
theorem wa_x2 {p0 x : Int32} {i : Nat} (h : InvM kk M) (hq : vp_in p0 6) (e : x = nI i) (hi : i ≤ 8) (c : ¬ M 13 0 ((p0 : Int32).toNatClampNeg) ≤ x) (c2 : 0 ≤ M 15 0 ((8 * p0 + x : Int32).toNatClampNeg)) : M 15 0 ((8 * p0 + x : Int32).toNatClampNeg) < 100 → vp_in (M 15 0 ((8 * p0 + x : Int32).toNatClampNeg)) 60 := fun _ => (wa_pl h hq e hi c).in (nle_of c2)
theorem lt100 {x : Int32} (h : vp_in x 60) : x < 100 := by
  have := vp_in_iff.mp h
  rw [Int32.lt_iff_toInt_lt, show (100 : Int32).toInt = 100 from rfl]
  omega
theorem wa_x1 {p0 x : Int32} {i : Nat} (h : InvM kk M) (hq : vp_in p0 6) (e : x = nI i) (hi : i ≤ 8) (c : ¬ M 13 0 ((p0 : Int32).toNatClampNeg) ≤ x) (c2 : 0 ≤ M 15 0 ((8 * p0 + x : Int32).toNatClampNeg)) : ¬ M 15 0 ((8 * p0 + x : Int32).toNatClampNeg) < 100 → vp_in (M 15 0 ((8 * p0 + x : Int32).toNatClampNeg) - 100) 60 := fun q => absurd (lt100 ((wa_pl h hq e hi c).in (nle_of c2))) q
theorem cnt_in {p0 : Int32} (c : ¬ fX10_in p0 6 11 = 0) : vp_in (p0 - 5) 7 := by
  have h1 := in_spec c
  rw [show (6 : Int32).toInt = 6 from rfl, show (11 : Int32).toInt = 11 from rfl] at h1
  refine vp_in_iff.mpr ?_
  rw [Int32.toInt_sub, show (5 : Int32).toInt = 5 from rfl, Int.bmod_eq_of_le (by omega) (by omega)]
  omega
theorem invM_st {p0 : Int32} (h : InvM kk M) (hb : vp_in p0 10) (c : 0 ≤ M 11 0 ((p0 : Int32).toNatClampNeg)) : vp_in (M 11 0 ((p0 : Int32).toNatClampNeg)) 60 := (h.stall _ (vp_lt hb)).in (nle_of c)
theorem invM_stm (h : InvM kk M) (a : Int32) : ¬ M 11 0 ((fX10_modulo a 10 : Int32).toNatClampNeg) < 0 → vp_in (M 11 0 ((fX10_modulo a 10 : Int32).toNatClampNeg)) 60 := fun c => (h.stall _ (vp_lt (mod_in10 a))).in c
theorem invM_book {p0 : Int32} (h : InvM kk M) (c : ¬ fX10_in p0 0 (fX10_least (M 0 0 29) 40 - 1) = 0) : vp_in p0 40 := by
  obtain ⟨n, -, h2, h3⟩ := h.2.2.2.2.1
  have hs : okS 40 (fX10_least (M 0 0 29) 40) := by
    unfold fX10_least
    rw [h3]
    by_cases hc : (40 : Int32) ≤ nI n
    · rw [if_pos hc]; exact Or.inr ⟨40, by omega, rfl⟩
    · rw [if_neg hc]
      rw [show (40 : Int32) = nI 40 from rfl, nI_leI (by decide) (by omega)] at hc
      exact Or.inr ⟨n, by omega, rfl⟩
  exact (sz_in hs (by decide) c).1
theorem no45 {p0 : Int32} (c1 : ¬ p0 < 4) (c2 : ¬ 6 ≤ p0) (c3 : ¬ p0 = 5) (c4 : ¬ p0 = 4) : False := by
  rw [Int32.lt_iff_toInt_lt, show (4 : Int32).toInt = 4 from rfl] at c1
  rw [Int32.le_iff_toInt_le, show (6 : Int32).toInt = 6 from rfl] at c2
  have h3 := lv_neT (a := 5) c3 (by decide)
  have h4 := lv_neT (a := 4) c4 (by decide)
  omega
theorem okW.hw {c : Int32} (h : okW c) : (¬ c < 100 → vp_in (c - 100) 60) ∧ (0 ≤ c → c < 100 → vp_in c 60) := by
  rcases h with rfl | h | ⟨j, hj, e⟩
  · exact ⟨fun q => absurd (by decide) q, fun q _ => absurd q (by decide)⟩
  · exact ⟨fun q => absurd (lt100 h) q, fun _ _ => h⟩
  · refine ⟨fun _ => ?_, fun _ q => ?_⟩
    · rw [e, show (100 : Int32) = nI 100 from rfl, pk_sub (by omega), Nat.add_sub_cancel_left]
      exact vp_in_nI hj (by decide)
    · rw [e, show (100 : Int32) = nI 100 from rfl, nI_ltI (by omega) (by decide)] at q
      omega
theorem invM_shs (h : InvM kk M) (a : Int32) (c1 : 0 ≤ M 12 0 ((fX10_modulo a 6 : Int32).toNatClampNeg)) (c2 : M 12 0 ((fX10_modulo a 6 : Int32).toNatClampNeg) < 100) : vp_in (M 12 0 ((fX10_modulo a 6 : Int32).toNatClampNeg)) 60 := (h.shed _ (vp_lt (mod_in6 a))).hw.2 c1 c2
theorem invM_shw (h : InvM kk M) (a : Int32) : ¬ M 12 0 ((fX10_modulo a 6 : Int32).toNatClampNeg) < 100 → vp_in (M 12 0 ((fX10_modulo a 6 : Int32).toNatClampNeg) - 100) 60 := (h.shed _ (vp_lt (mod_in6 a))).hw.1
theorem invM_shh (h : InvM kk M) (a : Int32) (c1 : 0 ≤ M 12 0 ((fX10_modulo a 6 : Int32).toNatClampNeg)) : M 12 0 ((fX10_modulo a 6 : Int32).toNatClampNeg) < 100 → vp_in (M 12 0 ((fX10_modulo a 6 : Int32).toNatClampNeg)) 60 := (h.shed _ (vp_lt (mod_in6 a))).hw.2 c1
theorem InvM.keep {M' : Nat → Nat → Nat → Int32} (h : InvM kk M) (e0 : M' 0 0 0 = M 0 0 0) (e7 : M' 0 0 7 = M 0 0 7) (e10 : M' 0 0 10 = M 0 0 10) (e24 : M' 0 0 24 = M 0 0 24) (e29 : M' 0 0 29 = M 0 0 29) (e11 : ∀ j, M' 11 0 j = M 11 0 j) (e12 : ∀ j, M' 12 0 j = M 12 0 j) (e13 : ∀ j, M' 13 0 j = M 13 0 j) (e15 : ∀ j, M' 15 0 j = M 15 0 j) (e16 : ∀ j, M' 16 0 j = M 16 0 j) (e18 : ∀ j, M' 18 0 j = M 18 0 j) (e19 : ∀ j, M' 19 0 j = M 19 0 j) (e22 : ∀ j, M' 22 0 j = M 22 0 j) : InvM kk M' := by
  unfold InvM at h ⊢
  simp only [e0, e7, e10, e24, e29, e11, e12, e13, e15, e16, e18, e19, e22]
  exact h
theorem invM_work (h : InvM kk M) (a b : Int32) : InvM kk (fX10_work M a b).2 := by
  unfold fX10_work
  repeat' split
  all_goals exact h.keep rfl rfl rfl rfl rfl (fun _ => rfl) (fun _ => rfl) (fun _ => rfl) (fun _ => rfl) (fun _ => rfl) (fun _ => rfl) (fun _ => rfl) (fun _ => rfl)
theorem wa_back {p0 x : Int32} {i n : Nat} {v b : Int32} (h : InvM kk M) (hq : vp_in p0 6) (e : x = nI i) (hi : i ≤ 8) (hn : i + (n + 1) = 9) (c : ¬ M 13 0 ((p0 : Int32).toNatClampNeg) ≤ x) (_ : 0 ≤ v) : InvM kk (fX10_work M v b).2 ∧ ∃ j : Nat, x + 1 = nI j ∧ j ≤ 8 ∧ j + n = 9 := by
  have hx := (sz_lt (h.team _ (vp_lt hq)) (by decide) e (by omega) c).1
  exact ⟨invM_work h v b, i + 1, by rw [e]; exact nI_1 i, by omega, by omega⟩
theorem day_tk {x : Int32} {i : Nat} (h : InvM kk M) (e : x = nI i) (hi : i ≤ 20) (c : ¬ M 0 0 24 ≤ x) : vp_in x 20 := by
  obtain ⟨n, h1, h2⟩ := h.2.2.2.1
  rw [e, h2, nI_leI (by omega) (by omega)] at c
  rw [e]
  exact vp_in_nI (by omega) (by decide)
theorem day_put (h : InvM kk M) (c : ¬ 40 ≤ M 0 0 29) : vp_in (M 0 0 29) 40 := by
  obtain ⟨n, -, h2, h3⟩ := h.2.2.2.2.1
  rw [h3, show (40 : Int32) = nI 40 from rfl, nI_leI (by decide) (by omega)] at c
  rw [h3]
  exact vp_in_nI (by omega) (by decide)
end IM
