theorem vp7_0 : vp_in 0 7 := vp_in_nI (n := 0) (by decide) (by decide)
theorem vp7_1 : vp_in 1 7 := vp_in_nI (n := 1) (by decide) (by decide)
theorem vp7_2 : vp_in 2 7 := vp_in_nI (n := 2) (by decide) (by decide)
theorem vp7_3 : vp_in 3 7 := vp_in_nI (n := 3) (by decide) (by decide)
theorem vp7_4 : vp_in 4 7 := vp_in_nI (n := 4) (by decide) (by decide)
theorem vp7_5 : vp_in 5 7 := vp_in_nI (n := 5) (by decide) (by decide)
theorem vp7_6 : vp_in 6 7 := vp_in_nI (n := 6) (by decide) (by decide)
/-- a fault's number, whatever state comes with it -/
def rgp (a : Int32 × (Nat → Nat → Nat → Int32)) : Prop := vp_in a.1 7
theorem rgp.ite {c : Prop} [Decidable c] {a b : Int32 × (Nat → Nat → Nat → Int32)} (h1 : rgp a) (h2 : rgp b) : rgp (if c then a else b) := by
  by_cases h : c
  · rw [if_pos h]; exact h1
  · rw [if_neg h]; exact h2
theorem rgp.mk {x : Int32} {Z : Nat → Nat → Nat → Int32} (h : vp_in x 7) : rgp (x, Z) := h
theorem rgp.eta {a : Int32 × (Nat → Nat → Nat → Int32)} (h : rgp a) : rgp (a.1, a.2) := h
theorem rgp_ofStall (M : Nat → Nat → Nat → Int32) (p0 p1 p2 : Int32) : rgp (fX10_ofStall M p0 p1 p2) := by
  unfold fX10_ofStall
  repeat' with_reducible apply rgp.ite
  all_goals first | exact rgp.mk vp7_0 | exact rgp.mk vp7_1 | exact rgp.mk vp7_3
theorem rgp_gwa (p0 p1 : Int32) : ∀ (n : Nat) (x y : Int32) (Z : Nat → Nat → Nat → Int32), rgp (gX10_worksAll_5 p0 p1 n x y Z)
  | 0, _, _, _ => vp7_0
  | n + 1, x, y, Z => by
    rw [gX10_worksAll_5_s]
    exact rgp.ite (rgp.mk vp7_0) (rgp.ite (rgp_gwa p0 p1 n _ _ _) (rgp.mk vp7_1))
theorem rgp_gt (p0 p1 p2 p3 : Int32) : ∀ (n : Nat) (x : Int32) (Z : Nat → Nat → Nat → Int32), rgp (gX10_ofTeam_40 p0 p1 p2 p3 n x Z)
  | 0, _, _ => vp7_0
  | n + 1, x, Z => by
    rw [gX10_ofTeam_40_s]
    exact rgp.ite (rgp.mk vp7_0) (rgp_gt p0 p1 p2 p3 n _ _)
theorem rgp_wa (M : Nat → Nat → Nat → Int32) (p0 p1 : Int32) : rgp (fX10_worksAll M p0 p1) := rgp_gwa _ _ _ _ _ _
theorem rgp_ofTeam (M : Nat → Nat → Nat → Int32) (p0 p1 p2 p3 : Int32) : rgp (fX10_ofTeam M p0 p1 p2 p3) := by
  unfold fX10_ofTeam
  repeat' with_reducible apply rgp.ite
  all_goals first | with_reducible exact rgp_gt _ _ _ _ _ _ _ | with_reducible exact rgp.eta (rgp_wa _ _ _) | exact rgp.mk vp7_0 | exact rgp.mk vp7_1 | exact rgp.mk vp7_2 | exact rgp.mk vp7_4 | exact rgp.mk vp7_5
theorem rgp_gl (p0 p1 p2 p3 : Int32) : ∀ (n : Nat) (x : Int32) (Z : Nat → Nat → Nat → Int32), rgp (gX10_ofLedger_27 p0 p1 p2 p3 n x Z)
  | 0, _, _ => vp7_0
  | n + 1, x, Z => by
    rw [gX10_ofLedger_27_s]
    exact rgp.ite (rgp.mk vp7_0) (rgp_gl p0 p1 p2 p3 n _ _)
theorem rgp_gs (p0 p1 p2 p3 : Int32) : ∀ (n : Nat) (x y : Int32) (Z : Nat → Nat → Nat → Int32), rgp (gX10_ofLedger_137 p0 p1 p2 p3 n x y Z)
  | 0, _, _, _ => vp7_0
  | n + 1, x, y, Z => by
    rw [gX10_ofLedger_137_s]
    exact rgp.ite (rgp.mk vp7_0) (rgp_gs p0 p1 p2 p3 n _ _ _)
theorem rgp_ofLedger (M : Nat → Nat → Nat → Int32) (p0 p1 p2 p3 : Int32) : rgp (fX10_ofLedger M p0 p1 p2 p3) := by
  unfold fX10_ofLedger
  repeat' with_reducible apply rgp.ite
  all_goals first | with_reducible exact rgp_gl _ _ _ _ _ _ _ | with_reducible exact rgp_gs _ _ _ _ _ _ _ _ | exact rgp.mk vp7_0 | exact rgp.mk vp7_1 | exact rgp.mk vp7_2 | exact rgp.mk vp7_5
theorem rgp_gc (p0 p1 p2 p3 : Int32) : ∀ (n : Nat) (x : Int32) (Z : Nat → Nat → Nat → Int32), rgp (gX10_ofTable_74 p0 p1 p2 p3 n x Z)
  | 0, _, _ => vp7_0
  | n + 1, x, Z => by
    rw [gX10_ofTable_74_s]
    exact rgp.ite (rgp.mk vp7_0) (rgp_gc p0 p1 p2 p3 n _ _)
theorem rgp_gr (p0 p1 p2 p3 : Int32) : ∀ (n : Nat) (x : Int32) (Z : Nat → Nat → Nat → Int32), rgp (gX10_ofTable_45 p0 p1 p2 p3 n x Z)
  | 0, _, _ => vp7_0
  | n + 1, x, Z => by
    rw [gX10_ofTable_45_s]
    exact rgp.ite (rgp_gc _ _ _ _ _ _ _) (rgp_gr p0 p1 p2 p3 n _ _)
theorem rgp_ofTable (M : Nat → Nat → Nat → Int32) (p0 p1 p2 p3 : Int32) : rgp (fX10_ofTable M p0 p1 p2 p3) := by
  unfold fX10_ofTable
  repeat' with_reducible apply rgp.ite
  all_goals first | with_reducible exact rgp_gr _ _ _ _ _ _ _ | exact rgp.mk vp7_0 | exact rgp.mk vp7_1 | exact rgp.mk vp7_2 | exact rgp.mk vp7_5
theorem does_rng (M : Nat → Nat → Nat → Int32) (p0 p1 p2 p3 : Int32) : vp_in (fX10_does M p0 p1 p2 p3).1 7 := by
  show rgp (fX10_does M p0 p1 p2 p3)
  unfold fX10_does
  repeat' with_reducible apply rgp.ite
  all_goals first | with_reducible exact rgp.eta (rgp_ofStall _ _ _ _) | with_reducible exact rgp.eta (rgp_ofTeam _ _ _ _ _) | with_reducible exact rgp.eta (rgp_ofLedger _ _ _ _ _) | with_reducible exact rgp.eta (rgp_ofTable _ _ _ _ _) | exact rgp.mk vp7_0 | exact rgp.mk vp7_1 | exact rgp.mk vp7_3 | exact rgp.mk vp7_6
