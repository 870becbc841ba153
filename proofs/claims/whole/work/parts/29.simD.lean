/-! attempts, what is put down, the calls -/
def RC (nh nv na kk : Nat) (Y M : StY) : Prop := RR nh nv na kk Y M ∧ Y 0 0 16 = M 0 0 33
def RY (nh nv na kk : Nat) (Y : StY) : Prop := ∃ M, RC nh nv na kk Y M
def RM (kk : Nat) (M : StY) : Prop := ∃ nh nv na Y, RC nh nv na kk Y M
def SC (nh nv na kk : Nat) (a b : Int32 × StY) : Prop := a.1 = b.1 ∧ RC nh nv na kk a.2 b.2
def pdM (M : StY) (x f : Int32) : StY := if 40 ≤ M 0 0 29 then u3 M 0 0 29 (M 0 0 29 + 1) else u3 (u3 (u3 M 30 0 (M 0 0 29).toNatClampNeg x) 31 0 (M 0 0 29).toNatClampNeg f) 0 0 29 (M 0 0 29 + 1)
section SIMD
variable {nh nv na kk : Nat} {Y M : StY}
theorem sim_at (h : RC nh nv na kk Y M) {n : Nat} (hn : n < 18) (a b c : Int32) : (fX9_perform Y (nI n) a b c).1 = (fX10_attempt M (nI n) a b c).1 ∧ RC nh nv na kk (fX9_perform Y (nI n) a b c).2 (fX10_attempt M (nI n) a b c).2 ∧ (fX10_attempt M (nI n) a b c).2 0 0 24 = M 0 0 24 := by
  have s := sim_act h.1 a b c n hn
  have hr := does_rng M (nI n) a b c
  unfold fX9_perform fX10_attempt
  generalize fX9_faultOf Y (nI n) a b c = fy at s ⊢
  generalize fX10_does M (nI n) a b c = fm at s hr ⊢
  obtain ⟨s1, s2, ⟨s3, s5⟩, s4⟩ := s
  dsimp only
  rw [s1, s2.mt _ (vp_lt hr)]
  refine ⟨rfl, ⟨(s2.m33 _).met _, ?_⟩, s5⟩
  show fy.2 0 0 16 = if fm.1 = 0 then fm.2 0 0 34 else (if fm.1 = 6 then fm.2 0 0 34 else fm.2 0 0 33)
  rw [s1] at s4
  rcases s4 with ⟨q, e⟩ | ⟨q, e⟩
  · rcases q with q | q
    · rw [if_pos q]; exact e
    · rw [if_neg (by rw [q]; decide), if_pos q]; exact e
  · rw [if_neg (fun z => q (Or.inl z)), if_neg (fun z => q (Or.inr z)), s3, e]
    exact h.2
theorem sim_pd (h : RC nh nv na kk Y M) (hk : kk + 1 < 2 ^ 30) (x f : Int32) : RC nh nv na (kk + 1) (fX9_putDown Y x f) (pdM M x f) ∧ pdM M x f 0 0 24 = M 0 0 24 := by
  obtain ⟨n, hn, hn2, en, ek⟩ := h.1.inv.2.2.2.2.1
  have e29 : M 0 0 29 = Y 0 0 14 := h.1.sc.2.2.2.2
  unfold fX9_putDown pdM
  rw [e29, ek, en]
  by_cases c : 40 ≤ n
  · have c1 : (40 : Int32) ≤ nI (min n 40) := by
      rw [show (40 : Int32) = nI 40 from rfl, nI_leI (by decide) (by omega)]; omega
    have c2 : (40 : Int32) ≤ nI n := by
      rw [show (40 : Int32) = nI 40 from rfl, nI_leI (by decide) (by omega)]; omega
    rw [if_pos c1, if_pos c2]
    exact ⟨⟨h.1.pdn hk hn (nI_1 n) (by rw [ek, show min n 40 = min (n + 1) 40 by omega]), h.2⟩, rfl⟩
  · have c2 : ¬ (40 : Int32) ≤ nI n := by
      rw [show (40 : Int32) = nI 40 from rfl, nI_leI (by decide) (by omega)]; omega
    rw [show min n 40 = n by omega, if_neg c2, if_neg c2]
    exact ⟨⟨((h.1.pdt _).pdf _).pdw hk hn (nI_1 n) (by rw [nI_1, show min (n + 1) 40 = n + 1 by omega]), h.2⟩, rfl⟩
theorem RC.more {k2 : Nat} (h : RC nh nv na kk Y M) (hk : kk ≤ k2) : RC nh nv na k2 Y M := ⟨h.1.more hk, h.2⟩
theorem RY.inv (h : RY nh nv na kk Y) : InvY nh nv na kk Y := by
  obtain ⟨M, h⟩ := h
  exact h.1.inv
theorem RM.inv (h : RM kk M) : InvM kk M := by
  obtain ⟨nh, nv, na, Y, h⟩ := h
  exact h.1.invM
theorem tk_lt {x q : Int32} {i : Nat} (hq : okZ 20 q) (e : x = nI i) (hi : i ≤ 20) (c : ¬ q ≤ x) : i < 20 := by
  obtain ⟨m, hm, em⟩ := hq
  rw [e, em, nI_leI (by omega) (by omega)] at c
  omega
theorem RY.tk {x : Int32} {i : Nat} (h : RY nh nv na kk Y) (e : x = nI i) (hi : i ≤ 20) (c : ¬ Y 0 0 10 ≤ x) : vp_in x 20 := by
  rw [e]
  exact vp_in_nI (tk_lt h.inv.2.2.2.1 e hi c) (by decide)
theorem RY.att {x : Int32} {i : Nat} (h : RY nh nv na kk Y) (e : x = nI i) (hi : i ≤ 20) (c : ¬ Y 0 0 10 ≤ x) : RY nh nv na kk (fX9_perform Y (Y 8 ((x : Int32).toNatClampNeg) ((0 : Int32).toNatClampNeg)) (Y 8 ((x : Int32).toNatClampNeg) ((1 : Int32).toNatClampNeg)) (Y 8 ((x : Int32).toNatClampNeg) ((2 : Int32).toNatClampNeg)) (Y 8 ((x : Int32).toNatClampNeg) ((3 : Int32).toNatClampNeg))).2 := by
  have hi2 := tk_lt h.inv.2.2.2.1 e hi c
  obtain ⟨M, h⟩ := h
  rw [e, nI_clamp (by omega)]
  obtain ⟨⟨n, hn, en⟩, -⟩ := h.1.tk i hi2
  rw [show Y 8 i ((0 : Int32).toNatClampNeg) = nI n from en]
  exact ⟨_, (sim_at h hn _ _ _).2.1⟩
theorem RY.b0 {x : Int32} {i n : Nat} (h : RY nh nv na (kk + i) Y) (e : x = nI i) (hi : i ≤ 20) (hn : i + (n + 1) = 21) (c : ¬ Y 0 0 10 ≤ x) : ∃ j : Nat, x + 1 = nI j ∧ j ≤ 20 ∧ j + n = 21 ∧ RY nh nv na (kk + j) (fX9_perform Y (Y 8 ((x : Int32).toNatClampNeg) ((0 : Int32).toNatClampNeg)) (Y 8 ((x : Int32).toNatClampNeg) ((1 : Int32).toNatClampNeg)) (Y 8 ((x : Int32).toNatClampNeg) ((2 : Int32).toNatClampNeg)) (Y 8 ((x : Int32).toNatClampNeg) ((3 : Int32).toNatClampNeg))).2 := by
  have hi2 := tk_lt h.inv.2.2.2.1 e hi c
  obtain ⟨M, h2⟩ := h.att e hi c
  exact ⟨i + 1, by rw [e, nI_1], by omega, by omega, M, h2.more (by omega)⟩
theorem RY.b1 {x f : Int32} {i n : Nat} (h : RY nh nv na (kk + i) Y) (e : x = nI i) (hi : i ≤ 20) (hn : i + (n + 1) = 21) (c : ¬ Y 0 0 10 ≤ x) (hk : kk + 20 < 2 ^ 30) : ∃ j : Nat, x + 1 = nI j ∧ j ≤ 20 ∧ j + n = 21 ∧ RY nh nv na (kk + j) (fX9_putDown (fX9_perform Y (Y 8 ((x : Int32).toNatClampNeg) ((0 : Int32).toNatClampNeg)) (Y 8 ((x : Int32).toNatClampNeg) ((1 : Int32).toNatClampNeg)) (Y 8 ((x : Int32).toNatClampNeg) ((2 : Int32).toNatClampNeg)) (Y 8 ((x : Int32).toNatClampNeg) ((3 : Int32).toNatClampNeg))).2 x f) := by
  have hi2 := tk_lt h.inv.2.2.2.1 e hi c
  obtain ⟨M, h2⟩ := h.att e hi c
  exact ⟨i + 1, by rw [e, nI_1], by omega, by omega, _, (sim_pd h2 (by omega) x f).1⟩
theorem RM.att {x : Int32} {i : Nat} (h : RM kk M) (e : x = nI i) (hi : i ≤ 20) (c : ¬ M 0 0 24 ≤ x) : RM kk (fX10_attempt M (M 25 0 ((x : Int32).toNatClampNeg)) (M 26 0 ((x : Int32).toNatClampNeg)) (M 27 0 ((x : Int32).toNatClampNeg)) (M 28 0 ((x : Int32).toNatClampNeg))).2 := by
  obtain ⟨nh, nv, na, Y, h⟩ := h
  have hi2 := tk_lt (by rw [h.1.sc.2.2.2.1]; exact h.1.inv.2.2.2.1) e hi c
  rw [e, nI_clamp (by omega)]
  obtain ⟨⟨n, hn, en⟩, m1, -⟩ := h.1.tk i hi2
  rw [m1, en]
  exact ⟨_, _, _, _, (sim_at h hn _ _ _).2.1⟩
theorem RM.lt {x : Int32} {i : Nat} (h : RM kk M) (e : x = nI i) (hi : i ≤ 20) (c : ¬ M 0 0 24 ≤ x) : i < 20 := by
  obtain ⟨nh, nv, na, Y, h⟩ := h
  exact tk_lt (by rw [h.1.sc.2.2.2.1]; exact h.1.inv.2.2.2.1) e hi c
theorem RM.b0 {x : Int32} {i n : Nat} (h : RM (kk + i) M) (e : x = nI i) (hi : i ≤ 20) (hn : i + (n + 1) = 21) (c : ¬ M 0 0 24 ≤ x) : ∃ j : Nat, x + 1 = nI j ∧ j ≤ 20 ∧ j + n = 21 ∧ RM (kk + j) (fX10_attempt M (M 25 0 ((x : Int32).toNatClampNeg)) (M 26 0 ((x : Int32).toNatClampNeg)) (M 27 0 ((x : Int32).toNatClampNeg)) (M 28 0 ((x : Int32).toNatClampNeg))).2 := by
  have hi2 := h.lt e hi c
  obtain ⟨nh, nv, na, Y, h2⟩ := h.att e hi c
  exact ⟨i + 1, by rw [e, nI_1], by omega, by omega, nh, nv, na, Y, h2.more (by omega)⟩
theorem RM.b1 {x f : Int32} {i n : Nat} (h : RM (kk + i) M) (e : x = nI i) (hi : i ≤ 20) (hn : i + (n + 1) = 21) (c : ¬ M 0 0 24 ≤ x) (hk : kk + 20 < 2 ^ 30) : ∃ j : Nat, x + 1 = nI j ∧ j ≤ 20 ∧ j + n = 21 ∧ RM (kk + j) (pdM (fX10_attempt M (M 25 0 ((x : Int32).toNatClampNeg)) (M 26 0 ((x : Int32).toNatClampNeg)) (M 27 0 ((x : Int32).toNatClampNeg)) (M 28 0 ((x : Int32).toNatClampNeg))).2 x f) := by
  have hi2 := h.lt e hi c
  obtain ⟨nh, nv, na, Y, h2⟩ := h.att e hi c
  exact ⟨i + 1, by rw [e, nI_1], by omega, by omega, nh, nv, na, _, (sim_pd h2 (by omega) x f).1⟩
theorem pdM_hi {M : StY} {x f : Int32} (c : 40 ≤ M 0 0 29) : pdM M x f = u3 M 0 0 29 (M 0 0 29 + 1) := if_pos c
theorem pdM_lo {M : StY} {x f : Int32} (c : ¬ 40 ≤ M 0 0 29) : pdM M x f = u3 (u3 (u3 M 30 0 (M 0 0 29).toNatClampNeg x) 31 0 (M 0 0 29).toNatClampNeg f) 0 0 29 (M 0 0 29 + 1) := if_neg c
/-- the calls -/
theorem cAct (h : RC nh nv na kk Y M) (p0 p1 p2 p3 : Int32) : SC nh nv na kk (fX9_act Y p0 p1 p2 p3) (fX10_act M p0 p1 p2 p3) := by
  unfold fX9_act fX10_act
  rw [in_wi p0 17 18 (by decide)]
  by_cases c0 : fX9_within p0 18 = 0
  · rw [if_pos c0, if_pos c0]
    exact ⟨rfl, h⟩
  · rw [if_neg c0, if_neg c0]
    obtain ⟨n, hn, rfl⟩ := wi_ex (n := 18) (by decide) c0
    have s := sim_at h hn p1 p2 p3
    rw [s.1]
    by_cases c1 : (fX10_attempt M (nI n) p1 p2 p3).1 = 0
    · rw [if_pos c1, if_pos c1]
      exact ⟨rfl, s.2.1⟩
    · rw [if_neg c1, if_neg c1]
      exact ⟨rfl, s.2.1⟩
theorem cCame (h : RC nh nv na kk Y M) : SC nh nv na kk (fX9_came Y) (fX10_came M) := ⟨h.2, h⟩
theorem cClear (h : RC nh nv na kk Y M) : SC nh nv na kk (fX9_clear Y) (fX10_clear M) := ⟨h.1.sc.2.2.2.1.symm, h.1.tkn ⟨0, by decide, rfl⟩, h.2⟩
theorem RR.tasked (h : RR nh nv na kk Y M) {m n : Nat} (hn : n < 18) (p1 p2 p3 : Int32) : RR nh nv na kk (u3 (u3 (u3 (u3 Y 8 m 0 (nI n)) 8 m 1 p1) 8 m 2 p2) 8 m 3 p3) (u3 (u3 (u3 (u3 M 25 0 m (nI n)) 26 0 m p1) 27 0 m p2) 28 0 m p3) := by
  obtain ⟨iv, r1, r2, r3, r4, r5, r6, r7, r8, r9, r10, r11, r12⟩ := h
  refine ⟨iv, r1, r2, r3, r4, r5, r6, r7, r8, r9, fun y hy => ?_, r11, r12⟩
  obtain ⟨⟨w, hw, ew⟩, b, c, d, f⟩ := r10 y hy
  by_cases q : y = m
  · subst q
    refine ⟨⟨n, hn, ?_⟩, ?_, ?_, ?_, ?_⟩ <;> simp [u3_at]
  · refine ⟨⟨w, hw, ?_⟩, ?_, ?_, ?_, ?_⟩ <;> simp [u3_at, q] <;> assumption
theorem cTask (h : RC nh nv na kk Y M) (p0 p1 p2 p3 : Int32) : SC nh nv na kk (fX9_task Y p0 p1 p2 p3) (fX10_task M p0 p1 p2 p3) := by
  unfold fX9_task fX10_task
  rw [in_wi p0 17 18 (by decide)]
  by_cases c0 : fX9_within p0 18 = 0
  · rw [if_pos c0, if_pos c0]
    exact ⟨rfl, h⟩
  · rw [if_neg c0, if_neg c0]
    obtain ⟨n, hn, rfl⟩ := wi_ex (n := 18) (by decide) c0
    obtain ⟨m, hm, em⟩ := h.1.inv.2.2.2.1
    rw [h.1.sc.2.2.2.1, em]
    by_cases c1 : m < 20
    · rw [if_pos (show nI m < 20 from nI_lt (b := 20) c1 (by decide)), if_neg (show ¬ nI m = 20 from fun z => by have := (nI_eq (a := m) (b := 20) (by omega) (by decide)).mp z; omega), nI_clamp (by omega), nI_1]
      exact ⟨rfl, (h.1.tasked hn p1 p2 p3).tkn ⟨m + 1, by omega, rfl⟩, h.2⟩
    · have e20 : m = 20 := by omega
      subst e20
      rw [if_neg (by decide), if_pos (show nI 20 = 20 from rfl)]
      exact ⟨rfl, h⟩
theorem no_in1 {p : Int32} (h0 : ¬ p = 0) (h1 : ¬ p = 1) : fX10_in p 0 1 = 0 := by
  rcases in_01 p 0 1 with e | e
  · exact e
  · exfalso
    rw [in_wi p 1 2 (by decide)] at e
    obtain ⟨j, hj, ej⟩ := wi_ex (x := p) (n := 2) (by decide) (by rw [show nI 2 = 2 from rfl, e]; decide)
    rcases (show j = 0 ∨ j = 1 by omega) with rfl | rfl
    · exact h0 ej
    · exact h1 ej
theorem cBook (h : RC nh nv na kk Y M) (p0 p1 : Int32) : SC nh nv na kk (fX9_book Y p0 p1) (fX10_book M p0 p1) := by
  obtain ⟨n, hn, hn2, en, ek⟩ := h.1.inv.2.2.2.2.1
  unfold fX9_book fX10_book
  have el : fX10_least (nI n) 40 = nI (min n 40) := by
    rw [← least_eq]
    by_cases c : 40 < n
    · rw [if_pos (by rw [show (40 : Int32) = nI 40 from rfl, nI_ltI (by decide) (by omega)]; exact c), show min n 40 = 40 by omega]
      rfl
    · rw [if_neg (by rw [show (40 : Int32) = nI 40 from rfl, nI_ltI (by decide) (by omega)]; exact c), show min n 40 = n by omega]
  obtain ⟨m, hm, em⟩ : ∃ m, m ≤ 40 ∧ m = min n 40 := ⟨_, by omega, rfl⟩
  rw [h.1.sc.2.2.2.2, en, ek, el, ← em, in_wiN _ (by omega)]
  by_cases c0 : fX9_within p0 (nI m) = 0
  · rw [if_pos c0, if_pos c0]
    exact ⟨rfl, h⟩
  · rw [if_neg c0, if_neg c0]
    obtain ⟨j, hj, rfl⟩ := wi_ex (by omega) c0
    rw [nI_clamp (n := j) (by omega), (h.1.pd j (by omega)).1, (h.1.pd j (by omega)).2]
    by_cases c1 : p1 = 0
    · subst c1
      rw [if_pos rfl, if_neg (by decide), if_pos rfl]
      exact ⟨rfl, h⟩
    · by_cases c2 : p1 = 1
      · subst c2
        rw [if_neg (by decide), if_pos rfl, if_neg (by decide), if_neg (by decide)]
        exact ⟨rfl, h⟩
      · rw [if_neg c1, if_neg c2, if_pos (no_in1 c1 c2)]
        exact ⟨rfl, h⟩
theorem cTells (h : RC nh nv na kk Y M) (p0 p1 : Int32) : SC nh nv na kk (fX9_horseTells Y p0 p1) (fX10_horseTells M p0 p1) := by
  unfold fX9_horseTells fX10_horseTells
  rw [in_wi p0 9 10 (by decide)]
  by_cases c0 : fX9_within p0 10 = 0
  · rw [if_pos c0, if_pos c0]
    exact ⟨rfl, h⟩
  · rw [if_neg c0, if_neg c0]
    obtain ⟨t, ht, rfl⟩ := wi_ex (n := 10) (by decide) c0
    rw [nI_clamp (n := t) (by omega), h.1.st t ht]
    by_cases c1 : Y 1 0 t < 0
    · rw [if_pos c1, if_neg (lt_nle c1)]
      by_cases c2 : fX10_in p1 0 5 = 0
      · rw [if_pos c2]
        exact ⟨rfl, h⟩
      · rw [if_neg c2]
        exact ⟨rfl, h⟩
    · obtain ⟨x, hx, hx2, ex⟩ := h.1.stx ht c1
      obtain ⟨k1, k2, k3, k4, k5, k6, k7⟩ := h.1.ho.1 x hx
      rw [if_neg c1, if_pos (nlt_le c1), ex, nI_clamp (n := x) (by omega), k1, k3, k4, k5, k6, k7]
      by_cases q0 : p1 = 0
      · subst q0
        rw [if_pos (rfl : (0 : Int32) = 0), if_neg (show ¬ fX10_in 0 0 5 = 0 by decide), if_pos (rfl : (0 : Int32) = 0)]
        rcases k2 with e | e | e
        · rw [e, if_pos rfl]; exact ⟨rfl, h⟩
        · rw [e, if_neg (by decide), if_pos rfl]; exact ⟨rfl, h⟩
        · rw [e, if_neg (by decide), if_neg (by decide)]; exact ⟨rfl, h⟩
      · rw [if_neg q0, if_neg q0]
        by_cases q1 : p1 = 1
        · subst q1
          rw [if_pos rfl, if_neg (by decide), if_pos rfl]; exact ⟨rfl, h⟩
        · rw [if_neg q1, if_neg q1]
          by_cases q2 : p1 = 2
          · subst q2
            rw [if_pos rfl, if_neg (by decide), if_pos rfl]; exact ⟨rfl, h⟩
          · rw [if_neg q2, if_neg q2]
            by_cases q3 : p1 = 3
            · subst q3
              rw [if_pos rfl, if_neg (by decide), if_pos rfl]; exact ⟨rfl, h⟩
            · rw [if_neg q3, if_neg q3]
              by_cases q4 : p1 = 4
              · subst q4
                rw [if_pos rfl, if_neg (by decide), if_pos rfl]; exact ⟨rfl, h⟩
              · rw [if_neg q4, if_neg q4]
                by_cases q5 : p1 = 5
                · subst q5
                  rw [if_pos rfl, if_neg (by decide)]; exact ⟨rfl, h⟩
                · rw [if_neg q5]
                  have hz : fX10_in p1 0 5 = 0 := by
                    rcases in_01 p1 0 5 with e | e
                    · exact e
                    · exfalso
                      rw [in_wi p1 5 6 (by decide)] at e
                      obtain ⟨j, hj, ej⟩ := wi_ex (x := p1) (n := 6) (by decide) (by rw [show nI 6 = 6 from rfl, e]; decide)
                      rcases (show j = 0 ∨ j = 1 ∨ j = 2 ∨ j = 3 ∨ j = 4 ∨ j = 5 by omega) with rfl | rfl | rfl | rfl | rfl | rfl
                      · exact q0 ej
                      · exact q1 ej
                      · exact q2 ej
                      · exact q3 ej
                      · exact q4 ej
                      · exact q5 ej
                  rw [if_pos hz]
                  exact ⟨rfl, h⟩
theorem cShed (h : RC nh nv na kk Y M) (p0 : Int32) : SC nh nv na kk (fX9_shed Y p0) (fX10_shed M p0) := by
  unfold fX9_shed fX10_shed
  rw [in_wi p0 5 6 (by decide)]
  by_cases c0 : fX9_within p0 6 = 0
  · rw [if_pos c0, if_pos c0]
    exact ⟨rfl, h⟩
  · rw [if_neg c0, if_neg c0]
    obtain ⟨t, ht, rfl⟩ := wi_ex (n := 6) (by decide) c0
    rw [nI_clamp (n := t) (by omega), h.1.sh t ht]
    by_cases c1 : Y 2 0 t < 0
    · rw [if_pos c1, if_neg (lt_nle c1)]
      exact ⟨rfl, h⟩
    · rw [if_neg c1, if_pos (nlt_le c1)]
      by_cases c2 : Y 2 0 t < 100
      · rw [if_pos c2, if_neg (Int32.not_le.mpr c2)]
        exact ⟨rfl, h⟩
      · rw [if_neg c2, if_pos (Int32.not_lt.mp c2)]
        exact ⟨rfl, h⟩
theorem cSame (h : RC nh nv na kk Y M) (p0 p1 : Int32) : SC nh nv na kk (fX9_same Y p0 p1) (fX10_same M p0 p1) := by
  unfold fX9_same fX10_same
  rw [in_wi p0 9 10 (by decide), in_wi p1 9 10 (by decide)]
  by_cases c0 : fX9_within p0 10 = 0
  · rw [if_pos c0, if_pos c0]
    exact ⟨rfl, h⟩
  · rw [if_neg c0, if_neg c0]
    by_cases c1 : fX9_within p1 10 = 0
    · rw [if_pos c1, if_pos c1]
      exact ⟨rfl, h⟩
    · rw [if_neg c1, if_neg c1]
      obtain ⟨t, ht, rfl⟩ := wi_ex (n := 10) (by decide) c0
      obtain ⟨u, hu, rfl⟩ := wi_ex (n := 10) (by decide) c1
      rw [nI_clamp (n := t) (by omega), nI_clamp (n := u) (by omega), h.1.st t ht, h.1.st u hu]
      by_cases c2 : Y 1 0 t = Y 1 0 u
      · rw [if_pos c2, if_pos c2]
        exact ⟨rfl, h⟩
      · rw [if_neg c2, if_neg c2]
        exact ⟨rfl, h⟩
theorem cCount (h : RC nh nv na kk Y M) (p0 : Int32) : SC nh nv na kk (fX9_count Y p0) (fX10_count M p0) := by
  unfold fX9_count fX10_count
  obtain ⟨s1, s2, s3, s4, s5⟩ := h.1.sc
  rw [s1, s2, s3, s4, s5]
  by_cases q0 : p0 = 0
  · rw [if_pos q0, if_pos q0]; exact ⟨rfl, h⟩
  · rw [if_neg q0, if_neg q0]
    by_cases q1 : p0 = 1
    · rw [if_pos q1, if_pos q1]; exact ⟨rfl, h⟩
    · rw [if_neg q1, if_neg q1]
      by_cases q2 : p0 = 2
      · rw [if_pos q2, if_pos q2]; exact ⟨rfl, h⟩
      · rw [if_neg q2, if_neg q2]
        by_cases q3 : p0 = 3
        · rw [if_pos q3, if_pos q3]; exact ⟨rfl, h⟩
        · rw [if_neg q3, if_neg q3]
          by_cases q4 : p0 = 4
          · rw [if_pos q4, if_pos q4]; exact ⟨rfl, h⟩
          · rw [if_neg q4, if_neg q4]
            by_cases q5 : p0 ≤ 5
            · have hz : fX10_in p0 6 11 = 0 := by
                unfold fX10_in
                rw [if_pos]
                rw [Int32.le_iff_toInt_le, show (5 : Int32).toInt = 5 from rfl] at q5
                rw [Int32.lt_iff_toInt_lt, show (6 : Int32).toInt = 6 from rfl]
                omega
              rw [if_pos q5, if_pos hz]; exact ⟨rfl, h⟩
            · rw [if_neg q5]
              have n6 : ¬ p0 < 6 := by
                rw [Int32.le_iff_toInt_le, show (5 : Int32).toInt = 5 from rfl] at q5
                rw [Int32.lt_iff_toInt_lt, show (6 : Int32).toInt = 6 from rfl]
                omega
              by_cases q6 : p0 ≤ 11
              · have hz : fX10_in p0 6 11 = 1 := by
                  unfold fX10_in
                  rw [if_neg n6, if_neg (Int32.not_lt.mpr q6)]
                rw [if_pos q6, if_neg (by rw [hz]; decide), h.1.mt _ (vp_lt (cntY_in q5 q6))]
                exact ⟨rfl, h⟩
              · have hz : fX10_in p0 6 11 = 0 := by
                  unfold fX10_in
                  rw [if_neg n6, if_pos (Int32.not_le.mp q6)]
                rw [if_neg q6, if_pos hz]; exact ⟨rfl, h⟩
theorem cLead (h : RC nh nv na kk Y M) (p0 p1 : Int32) : SC nh nv na kk (fX9_lead Y p0 p1) (fX10_lead M p0 p1) := by
  unfold fX9_lead fX10_lead
  rw [in_wi p0 9 10 (by decide), in_wi p1 5 6 (by decide)]
  by_cases c0 : fX9_within p0 10 = 0
  · rw [if_pos c0, if_pos c0]
    exact ⟨rfl, h⟩
  · rw [if_neg c0, if_neg c0]
    by_cases c1 : fX9_within p1 6 = 0
    · rw [if_pos c1, if_pos c1]
      exact ⟨rfl, h⟩
    · rw [if_neg c1, if_neg c1]
      obtain ⟨t, ht, rfl⟩ := wi_ex (n := 10) (by decide) c0
      obtain ⟨u, hu, rfl⟩ := wi_ex (n := 6) (by decide) c1
      rw [nI_clamp (n := t) (by omega), nI_clamp (n := u) (by omega), h.1.st t ht, u3_rd]
      have hv : okV nh nv (Y 1 0 t) := (h.1.inv.sts t ht).elim Or.inl (fun q => Or.inr (Or.inl q))
      by_cases c2 : Y 1 0 t < 0
      · rw [if_pos c2, if_pos c2]
        exact ⟨rfl, h.1.shed _ hv, h.2⟩
      · rw [if_neg c2, if_neg c2]
        exact ⟨rfl, h.1.shed _ hv, h.2⟩
theorem cTear (h : RC nh nv na kk Y M) (p0 p1 : Int32) : SC nh nv na kk (fX9_tear Y p0 p1) (fX10_tear M p0 p1) := by
  unfold fX9_tear fX10_tear
  rw [in_wi p0 3 4 (by decide)]
  by_cases c0 : fX9_within p0 4 = 0
  · rw [if_pos c0, if_pos c0]
    exact ⟨rfl, h⟩
  · rw [if_neg c0, if_neg c0]
    obtain ⟨t, ht, rfl⟩ := wi_ex (n := 4) (by decide) c0
    rw [nI_clamp (n := t) (by omega)]
    rcases (h.1.tb t ht).2 with ⟨y1, m1⟩ | ⟨y1, m1, m2, m3, m4⟩
    · rw [if_pos y1, m1, in_m1, if_pos rfl]
      exact ⟨rfl, h⟩
    · obtain ⟨n, hn, en⟩ := h.1.inv.hsz t ht
      rw [if_neg (show ¬ Y 16 t 2 = 0 by rw [y1]; decide), m1, en, in_wiN _ (by omega)]
      by_cases c1 : fX9_within p1 (nI n) = 0
      · rw [if_pos c1, if_pos c1]
        exact ⟨rfl, h⟩
      · rw [if_neg c1, if_neg c1]
        obtain ⟨r, hr, rfl⟩ := wi_ex (by omega) c1
        rw [nI_clamp (n := r) (by omega), ix6 ht (by omega), (m3 r (by omega)).1]
        rcases (m3 r (by omega)).2 with e | e
        · rw [e, if_pos rfl]
          exact ⟨rfl, h.1.row (by omega), h.2⟩
        · rw [e, if_neg (by decide)]
          exact ⟨rfl, h.1.row (by omega), h.2⟩
end SIMD
