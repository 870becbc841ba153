/-! an act, on both sides -/
def SM (nh nv na kk : Nat) (Y M : StY) (a b : Int32 × StY) : Prop := a.1 = b.1 ∧ RR nh nv na kk a.2 b.2 ∧ (b.2 0 0 33 = M 0 0 33 ∧ b.2 0 0 24 = M 0 0 24) ∧ (((a.1 = 0 ∨ a.1 = 6) ∧ a.2 0 0 16 = b.2 0 0 34) ∨ (¬ (a.1 = 0 ∨ a.1 = 6) ∧ a.2 0 0 16 = Y 0 0 16))
theorem do_0 (M : StY) (a b c : Int32) : fX10_does M 0 a b c = fX10_ofStall M 0 (M 11 0 ((fX10_modulo a 10 : Int32).toNatClampNeg)) b := by
  unfold fX10_does
  rw [if_pos (by decide)]
theorem do_1 (M : StY) (a b c : Int32) : fX10_does M 1 a b c = fX10_ofStall M 1 (M 11 0 ((fX10_modulo a 10 : Int32).toNatClampNeg)) b := by
  unfold fX10_does
  rw [if_pos (by decide)]
theorem do_2 (M : StY) (a b c : Int32) : fX10_does M 2 a b c = fX10_ofStall M 2 (M 11 0 ((fX10_modulo a 10 : Int32).toNatClampNeg)) b := by
  unfold fX10_does
  rw [if_pos (by decide)]
theorem do_3 (M : StY) (a b c : Int32) : fX10_does M 3 a b c = fX10_ofStall M 3 (M 11 0 ((fX10_modulo a 10 : Int32).toNatClampNeg)) b := by
  unfold fX10_does
  rw [if_pos (by decide)]
theorem do_6 (M : StY) (a b c : Int32) : fX10_does M 6 a b c = fX10_ofStall M 6 (M 11 0 ((fX10_modulo a 10 : Int32).toNatClampNeg)) b := by
  unfold fX10_does
  rw [if_neg (by decide), if_pos (by decide)]
theorem do_7 (M : StY) (a b c : Int32) : fX10_does M 7 a b c = fX10_ofTeam M 7 (fX10_modulo a 6) b c := by
  unfold fX10_does
  rw [if_neg (by decide), if_neg (by decide), if_pos (by decide), if_neg (by decide)]
theorem do_8 (M : StY) (a b c : Int32) : fX10_does M 8 a b c = fX10_ofTeam M 8 (fX10_modulo a 6) b c := by
  unfold fX10_does
  rw [if_neg (by decide), if_neg (by decide), if_pos (by decide), if_neg (by decide)]
theorem do_9 (M : StY) (a b c : Int32) : fX10_does M 9 a b c = fX10_ofTeam M 9 (fX10_modulo a 6) b c := by
  unfold fX10_does
  rw [if_neg (by decide), if_neg (by decide), if_pos (by decide), if_neg (by decide)]
theorem do_10 (M : StY) (a b c : Int32) : fX10_does M 10 a b c = fX10_ofTeam M 10 (fX10_modulo a 6) b c := by
  unfold fX10_does
  rw [if_neg (by decide), if_neg (by decide), if_pos (by decide), if_neg (by decide)]
theorem do_11 (M : StY) (a b c : Int32) : fX10_does M 11 a b c = fX10_ofTeam M 11 (fX10_modulo a 6) b c := by
  unfold fX10_does
  rw [if_neg (by decide), if_neg (by decide), if_pos (by decide), if_neg (by decide)]
theorem do_12 (M : StY) (a b c : Int32) : fX10_does M 12 a b c = fX10_ofLedger M 12 (fX10_modulo a 4) b c := by
  unfold fX10_does
  rw [if_neg (by decide), if_neg (by decide), if_pos (by decide), if_pos (by decide), if_neg (by decide)]
theorem do_13 (M : StY) (a b c : Int32) : fX10_does M 13 a b c = fX10_ofLedger M 13 (fX10_modulo a 4) b c := by
  unfold fX10_does
  rw [if_neg (by decide), if_neg (by decide), if_pos (by decide), if_pos (by decide), if_neg (by decide)]
theorem do_14 (M : StY) (a b c : Int32) : fX10_does M 14 a b c = fX10_ofLedger M 14 (fX10_modulo a 4) b c := by
  unfold fX10_does
  rw [if_neg (by decide), if_neg (by decide), if_pos (by decide), if_pos (by decide), if_neg (by decide)]
theorem do_15 (M : StY) (a b c : Int32) : fX10_does M 15 a b c = fX10_ofTable M 15 (fX10_modulo a 4) b c := by
  unfold fX10_does
  rw [if_neg (by decide), if_neg (by decide), if_pos (by decide), if_pos (by decide), if_pos (by decide), if_neg (by decide)]
theorem do_16 (M : StY) (a b c : Int32) : fX10_does M 16 a b c = fX10_ofTable M 16 (fX10_modulo a 4) b c := by
  unfold fX10_does
  rw [if_neg (by decide), if_neg (by decide), if_pos (by decide), if_pos (by decide), if_pos (by decide), if_neg (by decide)]
theorem do_17 (M : StY) (a b c : Int32) : fX10_does M 17 a b c = (if (M 22 0 ((fX10_modulo a 6 : Int32).toNatClampNeg)) = 0 then (1, M) else (6, u3 M 0 0 34 (M 23 0 ((fX10_modulo a 6 : Int32).toNatClampNeg)))) := by
  unfold fX10_does
  rw [if_neg (by decide), if_neg (by decide), if_pos (by decide), if_pos (by decide), if_pos (by decide), if_pos (by decide)]
theorem do_4 (M : StY) (a b c : Int32) : fX10_does M 4 a b c = if 0 ≤ (M 12 0 ((fX10_modulo a 6 : Int32).toNatClampNeg)) then (0, u3 ((fX10_work M (M 12 0 ((fX10_modulo a 6 : Int32).toNatClampNeg)) b).2) 0 0 34 ((fX10_work M (M 12 0 ((fX10_modulo a 6 : Int32).toNatClampNeg)) b).1)) else (1, M) := by
  unfold fX10_does
  rw [if_neg (by decide), if_neg (by decide), if_neg (by decide), if_neg (by decide), if_pos (rfl : (4 : Int32) = 4)]
theorem do_5 (M : StY) (a b c : Int32) : fX10_does M 5 a b c = if (M 12 0 ((fX10_modulo a 6 : Int32).toNatClampNeg)) < 100 then (if 0 ≤ (M 12 0 ((fX10_modulo a 6 : Int32).toNatClampNeg)) then (0, u3 M 0 0 34 (M 2 0 ((M 12 0 ((fX10_modulo a 6 : Int32).toNatClampNeg)).toNatClampNeg))) else (1, M)) else (3, M) := by
  unfold fX10_does
  rw [if_neg (by decide), if_neg (by decide), if_neg (by decide), if_pos (by decide), if_neg (show ¬ (5 : Int32) = 4 by decide)]
section SIM
variable {nh nv na kk : Nat} {Y M : StY}
theorem SM.ok {Y' M' : StY} {v v' : Int32} (h : RR nh nv na kk Y' M') (e : M' 0 0 33 = M 0 0 33 ∧ M' 0 0 24 = M 0 0 24) (hv : v = v') : SM nh nv na kk Y M (0, u3 Y' 0 0 16 v) (0, u3 M' 0 0 34 v') := by
  subst hv
  exact ⟨rfl, (h.c15 v).m34 v, e, Or.inl ⟨Or.inl rfl, rfl⟩⟩
theorem SM.al {Y' M' : StY} {v v' : Int32} (h : RR nh nv na kk Y' M') (e : M' 0 0 33 = M 0 0 33 ∧ M' 0 0 24 = M 0 0 24) (hv : v = v') : SM nh nv na kk Y M (6, u3 Y' 0 0 16 v) (6, u3 M' 0 0 34 v') := by
  subst hv
  exact ⟨rfl, (h.c15 v).m34 v, e, Or.inl ⟨Or.inr rfl, rfl⟩⟩
theorem SM.no {Y' M' : StY} {f : Int32} (h : RR nh nv na kk Y' M') (e : M' 0 0 33 = M 0 0 33 ∧ M' 0 0 24 = M 0 0 24) (e15 : Y' 0 0 16 = Y 0 0 16) (hf : ¬ (f = 0 ∨ f = 6)) : SM nh nv na kk Y M (f, Y') (f, M') := ⟨rfl, h, e, Or.inr ⟨hf, e15⟩⟩
theorem okN.ex {n : Nat} {c : Int32} (h : okN n c) (hn : n ≤ 60) (hc : ¬ c < 0) : ∃ x, x < n ∧ x < 60 ∧ c = nI x := by
  have h2 := h.in hc
  exact ⟨c.toNatClampNeg, vp_lt h2, by have := vp_lt h2; omega, vp_nI h2 (by omega)⟩
theorem RR.stx (h : RR nh nv na kk Y M) {t : Nat} (ht : t < 10) (c : ¬ Y 1 0 t < 0) : ∃ x, x < nh ∧ x < 60 ∧ Y 1 0 t = nI x := (h.inv.sts t ht).ex h.inv.1.1 c
theorem RR.plx (h : RR nh nv na kk Y M) {t j : Nat} (ht : t < 6) (hj : j < 8) (c : ¬ Y 13 t j < 0) : ∃ x, x < nh ∧ x < 60 ∧ Y 13 t j = nI x := (h.inv.pls t ht j hj).ex h.inv.1.1 c
theorem RR.shx (h : RR nh nv na kk Y M) {t : Nat} (ht : t < 6) (c : ¬ Y 2 0 t < 0) : (∃ x, x < nh ∧ x < 60 ∧ Y 2 0 t = nI x) ∨ ∃ w, w < nv ∧ w < 60 ∧ Y 2 0 t = nI (100 + w) := by
  have h1 := h.inv.1.1
  have h2 := h.inv.2.1.1
  rcases h.inv.shs t ht with e | e | ⟨j, hj, e⟩
  · exact absurd (by rw [e]; decide) c
  · have := vp_lt e
    exact Or.inl ⟨_, this, by omega, vp_nI e (by omega)⟩
  · exact Or.inr ⟨j, hj, by omega, e⟩
theorem sim0 (h : RR nh nv na kk Y M) (a b c : Int32) : SM nh nv na kk Y M (fX9_feedHorse Y a b) (fX10_does M 0 a b c) := by
  obtain ⟨t, ht, e1, e2⟩ := fmd10 a
  rw [do_0]
  unfold fX9_feedHorse
  rw [e1, e2, nI_clamp (by omega), h.st t ht]
  by_cases c0 : Y 1 0 t < 0
  · rw [if_pos c0]
    unfold fX10_ofStall
    rw [if_neg (by decide), if_neg (lt_nle c0)]
    exact SM.no h ⟨rfl, rfl⟩ rfl (by decide)
  · obtain ⟨x, hx, hx2, ex⟩ := h.stx ht c0
    obtain ⟨k1, k2, k3, k4, k5, k6, k7⟩ := h.ho.1 x hx
    rw [if_neg c0, ex, nI_clamp (by omega)]
    unfold fX10_ofStall
    rw [if_neg (by decide), if_pos (nI_pos' (by omega)), if_pos rfl, nI_clamp (by omega), k4]
    exact SM.ok (h.horse1 hx _) ⟨rfl, rfl⟩ (by rw [u3_rd, u3_rd])
theorem sim1 (h : RR nh nv na kk Y M) (a b c : Int32) : SM nh nv na kk Y M (fX9_askStrength Y a) (fX10_does M 1 a b c) := by
  obtain ⟨t, ht, e1, e2⟩ := fmd10 a
  rw [do_1]
  unfold fX9_askStrength
  rw [e1, e2, nI_clamp (by omega), h.st t ht]
  by_cases c0 : Y 1 0 t < 0
  · rw [if_pos c0]
    unfold fX10_ofStall
    rw [if_neg (by decide), if_neg (lt_nle c0)]
    exact SM.no h ⟨rfl, rfl⟩ rfl (by decide)
  · obtain ⟨x, hx, hx2, ex⟩ := h.stx ht c0
    obtain ⟨k1, k2, k3, k4, k5, k6, k7⟩ := h.ho.1 x hx
    rw [if_neg c0, ex, nI_clamp (by omega)]
    unfold fX10_ofStall
    rw [if_neg (by decide), if_pos (nI_pos' (by omega)), if_neg (by decide), if_pos rfl, nI_clamp (by omega), k3]
    exact SM.ok h ⟨rfl, rfl⟩ rfl
theorem sim2 (h : RR nh nv na kk Y M) (a b c : Int32) : SM nh nv na kk Y M (fX9_coverHorse Y a b) (fX10_does M 2 a b c) := by
  obtain ⟨t, ht, e1, e2⟩ := fmd10 a
  rw [do_2]
  unfold fX9_coverHorse
  rw [e1, e2, nI_clamp (by omega), h.st t ht]
  by_cases c0 : Y 1 0 t < 0
  · rw [if_pos c0]
    unfold fX10_ofStall
    rw [if_neg (by decide), if_neg (lt_nle c0)]
    exact SM.no h ⟨rfl, rfl⟩ rfl (by decide)
  · obtain ⟨x, hx, hx2, ex⟩ := h.stx ht c0
    rw [if_neg c0, ex, nI_clamp (by omega)]
    unfold fX10_ofStall
    rw [if_neg (by decide), if_pos (nI_pos' (by omega)), if_neg (by decide), if_neg (by decide), if_pos rfl, nI_clamp (by omega)]
    exact SM.ok (h.horse2 hx _) ⟨rfl, rfl⟩ rfl
/-- what grooming, working does -/
def SW (nh nv na kk : Nat) (Y M : StY) (a b : Int32 × StY) : Prop := a.1 = b.1 ∧ RR nh nv na kk a.2 b.2 ∧ (b.2 0 0 33 = M 0 0 33 ∧ b.2 0 0 24 = M 0 0 24) ∧ a.2 0 0 16 = Y 0 0 16
theorem SW.sm {a b : Int32 × StY} (h : SW nh nv na kk Y M a b) : SM nh nv na kk Y M (0, u3 a.2 0 0 16 a.1) (0, u3 b.2 0 0 34 b.1) := SM.ok h.2.1 h.2.2.1 h.1
theorem groom0 (h : RR nh nv na kk Y M) {x : Nat} (hx : x < nh) (hx2 : x < 60) (e : Y 20 x 5 = 0) : SW nh nv na kk Y M (fX2_groom Y x) (fX10_groom M (nI x)) := by
  obtain ⟨k1, k2, k3, k4, k5, k6, k7⟩ := h.ho.1 x hx
  unfold fX2_groom fX10_groom
  rw [nI_clamp (by omega), k1, if_pos e, if_neg (by rw [e]; decide), k6]
  have es : u3 (u3 M 5 0 x (Y 20 x 3 + 1)) 4 0 x (M 4 0 x) = u3 M 5 0 x (Y 20 x 3 + 1) := u3_same (u3 M 5 0 x (Y 20 x 3 + 1)) 4 0 x
  rw [es]
  exact ⟨by rw [u3_rd, u3_rd], h.horse3 hx _, ⟨rfl, rfl⟩, rfl⟩
theorem groom1 (h : RR nh nv na kk Y M) {x : Nat} (hx : x < nh) (hx2 : x < 60) (e : Y 20 x 5 = 1) : SW nh nv na kk Y M (fX1_groom Y x) (fX10_groom M (nI x)) := by
  obtain ⟨k1, k2, k3, k4, k5, k6, k7⟩ := h.ho.1 x hx
  unfold fX1_groom fX10_groom
  rw [nI_clamp (by omega), k1, if_neg (by rw [e]; decide), if_neg (by rw [e]; decide), k6]
  have es : u3 (u3 M 5 0 x (Y 20 x 3 + 2)) 4 0 x (M 4 0 x) = u3 M 5 0 x (Y 20 x 3 + 2) := u3_same (u3 M 5 0 x (Y 20 x 3 + 2)) 4 0 x
  rw [es]
  exact ⟨by rw [u3_rd, u3_rd], h.horse3 hx _, ⟨rfl, rfl⟩, rfl⟩
theorem groom2 (h : RR nh nv na kk Y M) {x : Nat} (hx : x < nh) (hx2 : x < 60) (e : Y 20 x 5 = 2) : SW nh nv na kk Y M (fX3_groom Y x) (fX10_groom M (nI x)) := by
  obtain ⟨k1, k2, k3, k4, k5, k6, k7⟩ := h.ho.1 x hx
  unfold fX3_groom fX1_groom fX10_groom
  rw [nI_clamp (by omega), k1, if_neg (by rw [e]; decide), if_pos e, k6, u3_sl (show 3 ≠ 2 by decide)]
  have es : u3 (u3 Y 20 x 2 0) 20 x 3 (Y 20 x 3 + 2) = u3 (u3 Y 20 x 3 (Y 20 x 3 + 2)) 20 x 2 0 := u3_swap Y _ _ (fun z => absurd z.2.2 (by decide))
  refine ⟨?_, ?_, ⟨rfl, rfl⟩, rfl⟩
  · show u3 (u3 Y 20 x 2 0) 20 x 3 (Y 20 x 3 + 2) 20 x 3 = u3 M 5 0 x (Y 20 x 3 + 2) 5 0 x
    rw [u3_rd, u3_rd]
  · show RR nh nv na kk (u3 (u3 Y 20 x 2 0) 20 x 3 (Y 20 x 3 + 2)) _
    rw [es]
    exact (h.horse3 hx _).horse2 hx 0
theorem sim3 (h : RR nh nv na kk Y M) (a b c : Int32) : SM nh nv na kk Y M (fX9_groomHorse Y a) (fX10_does M 3 a b c) := by
  obtain ⟨t, ht, e1, e2⟩ := fmd10 a
  rw [do_3]
  unfold fX9_groomHorse
  rw [e1, e2, nI_clamp (by omega), h.st t ht]
  by_cases c0 : Y 1 0 t < 0
  · rw [if_pos c0]
    unfold fX10_ofStall
    rw [if_neg (by decide), if_neg (lt_nle c0)]
    exact SM.no h ⟨rfl, rfl⟩ rfl (by decide)
  · obtain ⟨x, hx, hx2, ex⟩ := h.stx ht c0
    obtain ⟨k1, k2, k3, k4, k5, k6, k7⟩ := h.ho.1 x hx
    rw [if_neg c0, ex, nI_clamp (by omega)]
    unfold fX10_ofStall
    rcases k2 with e | e | e
    · rw [if_pos e, if_neg (by decide), if_pos (nI_pos' (by omega)), if_neg (by decide), if_neg (by decide), if_neg (by decide), if_pos rfl]
      exact (groom0 h hx hx2 e).sm
    · rw [if_neg (by rw [e]; decide), if_pos e, if_neg (by decide), if_pos (nI_pos' (by omega)), if_neg (by decide), if_neg (by decide), if_neg (by decide), if_pos rfl]
      exact (groom1 h hx hx2 e).sm
    · rw [if_neg (by rw [e]; decide), if_neg (by rw [e]; decide), if_neg (by decide), if_pos (nI_pos' (by omega)), if_neg (by decide), if_neg (by decide), if_neg (by decide), if_pos rfl]
      exact (groom2 h hx hx2 e).sm
theorem lt100n {x : Nat} (h : x < 60) : nI x < 100 := by
  rw [show (100 : Int32) = nI 100 from rfl, nI_ltI (by omega) (by decide)]
  omega
theorem work0 (h : RR nh nv na kk Y M) {x : Nat} (hx : x < nh) (hx2 : x < 60) (b : Int32) (e : Y 20 x 5 = 0) : SW nh nv na kk Y M (fX2_workFor Y x b) (fX10_work M (nI x) b) := by
  obtain ⟨k1, k2, k3, k4, k5, k6, k7⟩ := h.ho.1 x hx
  unfold fX2_workFor fX10_work
  rw [if_pos (lt100n hx2), nI_clamp (by omega), k1, if_pos e, k7]
  exact ⟨by rw [u3_rd, u3_rd], h.horse4 hx _, ⟨rfl, rfl⟩, rfl⟩
theorem work1 (h : RR nh nv na kk Y M) {x : Nat} (hx : x < nh) (hx2 : x < 60) (b : Int32) (e : Y 20 x 5 = 1) : SW nh nv na kk Y M (fX1_workFor Y x b) (fX10_work M (nI x) b) := by
  obtain ⟨k1, k2, k3, k4, k5, k6, k7⟩ := h.ho.1 x hx
  unfold fX1_workFor fX10_work
  rw [if_pos (lt100n hx2), nI_clamp (by omega), k1, if_neg (by rw [e]; decide), if_pos e, k7]
  exact ⟨by rw [u3_rd, u3_rd], h.horse4 hx _, ⟨rfl, rfl⟩, rfl⟩
theorem work2 (h : RR nh nv na kk Y M) {x : Nat} (hx : x < nh) (hx2 : x < 60) (b : Int32) (e : Y 20 x 5 = 2) : SW nh nv na kk Y M (fX3_workFor Y x b) (fX10_work M (nI x) b) := by
  obtain ⟨k1, k2, k3, k4, k5, k6, k7⟩ := h.ho.1 x hx
  have e0 : fX3_workFor Y x b = (u3 Y 20 x 4 (Y 20 x 4 + 2 * b + 1) 20 x 4, u3 Y 20 x 4 (Y 20 x 4 + 2 * b + 1)) := by
    show (u3 (u3 Y 20 x 4 (Y 20 x 4 + 2 * b)) 20 x 4 (u3 Y 20 x 4 (Y 20 x 4 + 2 * b) 20 x 4 + 1) 20 x 4, u3 (u3 Y 20 x 4 (Y 20 x 4 + 2 * b)) 20 x 4 (u3 Y 20 x 4 (Y 20 x 4 + 2 * b) 20 x 4 + 1)) = _
    rw [u3_rd (Y := Y), u3_over]
  rw [e0]
  unfold fX10_work
  rw [if_pos (lt100n hx2), nI_clamp (by omega), k1, if_neg (by rw [e]; decide), if_neg (by rw [e]; decide), k7, ← Int32.add_assoc]
  exact ⟨by rw [u3_rd, u3_rd], h.horse4 hx _, ⟨rfl, rfl⟩, rfl⟩
theorem workW (h : RR nh nv na kk Y M) {x : Nat} (hx : x < nv) (hx2 : x < 60) (b : Int32) : SW nh nv na kk Y M (fX7_workFor Y x b) (fX10_work M (nI (100 + x)) b) := by
  obtain ⟨k1, k2⟩ := h.wg.1 x hx
  unfold fX7_workFor fX10_work
  rw [if_neg (by rw [show (100 : Int32) = nI 100 from rfl, nI_ltI (by omega) (by decide)]; omega), show (100 : Int32) = nI 100 from rfl, pk_sub (by omega), Nat.add_sub_cancel_left, nI_clamp (by omega), k1, k2]
  exact ⟨by rw [u3_rd, u3_rd], h.wagon1 hx _, ⟨rfl, rfl⟩, rfl⟩
theorem sim4 (h : RR nh nv na kk Y M) (a b c : Int32) : SM nh nv na kk Y M (fX9_workInShed Y a b) (fX10_does M 4 a b c) := by
  obtain ⟨t, ht, e1, e2⟩ := fmd6 a
  rw [do_4]
  unfold fX9_workInShed
  rw [e1, e2, nI_clamp (by omega), h.sh t ht]
  by_cases c0 : Y 2 0 t < 0
  · rw [if_pos c0, if_neg (lt_nle c0)]
    exact SM.no h ⟨rfl, rfl⟩ rfl (by decide)
  · rw [if_neg c0]
    rcases h.shx ht c0 with ⟨x, hx, hx2, ex⟩ | ⟨x, hx, hx2, ex⟩
    · obtain ⟨k1, k2, k3, k4, k5, k6, k7⟩ := h.ho.1 x hx
      rw [ex, if_pos (lt100n hx2), nI_clamp (by omega), if_pos (nI_pos' (by omega))]
      rcases k2 with e | e | e
      · rw [if_pos e]
        exact (work0 h hx hx2 b e).sm
      · rw [if_neg (by rw [e]; decide), if_pos e]
        exact (work1 h hx hx2 b e).sm
      · rw [if_neg (by rw [e]; decide), if_neg (by rw [e]; decide)]
        exact (work2 h hx hx2 b e).sm
    · rw [ex, if_neg (by rw [show (100 : Int32) = nI 100 from rfl, nI_ltI (by omega) (by decide)]; omega), nI_clamp (by omega), if_pos (nI_pos' (by omega)), Nat.add_sub_cancel_left]
      exact (workW h hx hx2 b).sm
theorem sim5 (h : RR nh nv na kk Y M) (a b c : Int32) : SM nh nv na kk Y M (fX9_askStrengthInShed Y a) (fX10_does M 5 a b c) := by
  obtain ⟨t, ht, e1, e2⟩ := fmd6 a
  rw [do_5]
  unfold fX9_askStrengthInShed
  rw [e1, e2, nI_clamp (by omega), h.sh t ht]
  by_cases c0 : Y 2 0 t < 0
  · have c1 : Y 2 0 t < 100 := by
      rw [Int32.lt_iff_toInt_lt, Int32.toInt_zero] at c0
      rw [Int32.lt_iff_toInt_lt, show (100 : Int32).toInt = 100 from rfl]
      omega
    rw [if_pos c0, if_pos c1, if_neg (lt_nle c0)]
    exact SM.no h ⟨rfl, rfl⟩ rfl (by decide)
  · rw [if_neg c0]
    rcases h.shx ht c0 with ⟨x, hx, hx2, ex⟩ | ⟨x, hx, hx2, ex⟩
    · obtain ⟨k1, k2, k3, k4, k5, k6, k7⟩ := h.ho.1 x hx
      rw [ex, if_pos (lt100n hx2), if_pos (lt100n hx2), nI_clamp (by omega), if_pos (nI_pos' (by omega)), k3]
      exact SM.ok h ⟨rfl, rfl⟩ rfl
    · have c1 : ¬ nI (100 + x) < 100 := by
        rw [show (100 : Int32) = nI 100 from rfl, nI_ltI (by omega) (by decide)]; omega
      rw [ex, if_neg c1, if_neg c1]
      exact SM.no h ⟨rfl, rfl⟩ rfl (by decide)
theorem sim6 (h : RR nh nv na kk Y M) (a b c : Int32) : SM nh nv na kk Y M (fX9_askRugOfHunter Y a) (fX10_does M 6 a b c) := by
  obtain ⟨t, ht, e1, e2⟩ := fmd10 a
  rw [do_6]
  unfold fX9_askRugOfHunter
  rw [e1, e2, nI_clamp (by omega), h.st t ht]
  by_cases c0 : Y 1 0 t < 0
  · rw [if_pos c0]
    unfold fX10_ofStall
    rw [if_pos rfl, if_pos c0]
    exact SM.no h ⟨rfl, rfl⟩ rfl (by decide)
  · obtain ⟨x, hx, hx2, ex⟩ := h.stx ht c0
    obtain ⟨k1, k2, k3, k4, k5, k6, k7⟩ := h.ho.1 x hx
    rw [if_neg c0, ex, nI_clamp (by omega)]
    unfold fX10_ofStall isHu
    rw [if_pos (rfl : (6 : Int32) = 6), if_neg (nI_pos (by omega)), nI_clamp (by omega), k1, k5]
    rcases k2 with e | e | e
    · rw [e, if_pos (by decide), if_neg (by decide)]
      exact SM.no h ⟨rfl, rfl⟩ rfl (by decide)
    · rw [e, if_pos (by decide), if_neg (by decide)]
      exact SM.no h ⟨rfl, rfl⟩ rfl (by decide)
    · rw [e, if_neg (by decide), if_pos rfl]
      exact SM.ok h ⟨rfl, rfl⟩ rfl
end SIM
