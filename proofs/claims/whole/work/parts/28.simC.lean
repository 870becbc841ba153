section SIMC
variable {nh nv na kk : Nat} {Y M : StY}
theorem sim7 (h : RR nh nv na kk Y M) (a b c : Int32) : SM nh nv na kk Y M (fX9_formTeam Y a b c) (fX10_does M 7 a b c) := by
  obtain ⟨t, ht, e1, e2⟩ := fmd6 a
  obtain ⟨kd, hkd, e3, e4⟩ := fmd3 b
  rw [do_7]
  unfold fX9_formTeam fX10_ofTeam fX6_form
  rw [e1, e2, e3, e4, if_pos (rfl : (7 : Int32) = 7), nI_clamp (by omega)]
  by_cases c0 : 0 ≤ c
  · rw [if_pos c0, if_pos c0, least_eq]
    have hs : okZ 8 (fX10_least c 8) := least_ok (B := 8) (by decide) c0
    have l1 := lp_form t (nI kd) (fX10_least c 8) (u3 (u3 (u3 Y 12 t 1 1) 12 t 2 (nI kd)) 12 t 3 (fX10_least c 8)) 9 0 (by decide) (by decide)
    have l2 := lp_team 7 b c ht (u3 (u3 M 13 0 t (fX10_least c 8)) 14 0 t (nI kd)) 9 0 (by decide) (by decide)
    rw [nI_0, frY_0] at l1
    rw [nI_0, frM_0] at l2
    rw [l1, l2]
    exact SM.ok (h.formed hs) ⟨rfl, rfl⟩ (u3_rd (Y := M) (k := 13) (i := 0) (j := t) (v := fX10_least c 8)).symm
  · rw [if_neg c0, if_neg c0]
    exact SM.no h ⟨rfl, rfl⟩ rfl (by decide)
theorem isFor_eq (h : RR nh nv na kk Y M) {t x : Nat} (ht : t < 6) (hx : x < nh) (hx2 : x < 60) (m2 : M 14 0 t = Y 12 t 2) : fX10_isFor M (nI t) (nI x) = (fX6_isFor Y t x, M) := by
  obtain ⟨k1, k2, k3, k4, k5, k6, k7⟩ := h.ho.1 x hx
  unfold fX10_isFor fX6_isFor
  rw [if_neg (nI_pos (by omega)), nI_clamp (by omega), nI_clamp (by omega), k1, m2]
  rcases k2 with e | e | e
  · rw [e, if_pos (rfl : (0 : Int32) = 0)]
    by_cases q : 0 < Y 12 t 2
    · rw [if_pos q, if_pos q]
    · rw [if_neg q, if_neg q]
  · rw [e, if_neg (show ¬ (1 : Int32) = 0 by decide), if_pos (rfl : (1 : Int32) = 1)]
    by_cases q : 1 < Y 12 t 2
    · rw [if_pos q, if_pos q]
    · rw [if_neg q, if_neg q]
  · rw [e, if_neg (show ¬ (2 : Int32) = 0 by decide), if_neg (show ¬ (2 : Int32) = 1 by decide)]
    by_cases q : 2 < Y 12 t 2
    · rw [if_pos q, if_pos q]
    · rw [if_neg q, if_neg q]
theorem sim8 (h : RR nh nv na kk Y M) (a b c : Int32) : SM nh nv na kk Y M (fX9_putInTeam Y a b c) (fX10_does M 8 a b c) := by
  obtain ⟨t, ht, e1, e2⟩ := fmd6 a
  obtain ⟨s, hs, f1, f2⟩ := fmd10 c
  rw [do_8]
  unfold fX9_putInTeam fX10_ofTeam
  rw [e1, e2, f1, f2, nI_clamp (n := t) (by omega), nI_clamp (n := s) (by omega)]
  rcases h.tm t ht with ⟨y1, m1⟩ | ⟨y1, m1, m2, m3⟩
  · rw [if_pos y1, if_neg (show ¬ (8 : Int32) = 7 by decide), m1, if_neg (show ¬ (0 : Int32) ≤ -1 by decide)]
    exact SM.no h ⟨rfl, rfl⟩ rfl (by decide)
  · obtain ⟨n, hn, en⟩ := h.inv.tsz t ht
    rw [if_neg (show ¬ Y 12 t 1 = 0 by rw [y1]; decide), if_neg (show ¬ (8 : Int32) = 7 by decide), m1, en, if_pos (nI_pos' (by omega)), if_neg (show ¬ (8 : Int32) = 10 by decide), if_neg (show ¬ (8 : Int32) = 11 by decide), in_wiN _ (by omega)]
    by_cases c1 : fX9_within b (nI n) = 0
    · rw [if_pos c1, if_pos c1]
      exact SM.no h ⟨rfl, rfl⟩ rfl (by decide)
    · rw [if_neg c1, if_neg c1]
      obtain ⟨j, hj, rfl⟩ := wi_ex (by omega) c1
      rw [if_neg (show ¬ (8 : Int32) = 9 by decide), nI_clamp (n := j) (by omega), ix8 ht (by omega), h.st s hs]
      by_cases c2 : Y 1 0 s < 0
      · have ef : fX10_isFor M (nI t) (Y 1 0 s) = (1, M) := by unfold fX10_isFor; rw [if_pos c2]
        rw [ef, if_pos c2]
        dsimp only
        rw [if_neg (show ¬ (1 : Int32) = 0 by decide), h.st s hs]
        exact SM.ok (h.place (by omega) y1 _ (h.inv.sts s hs)) ⟨rfl, rfl⟩ rfl
      · obtain ⟨x, hx, hx2, ex⟩ := h.stx hs c2
        have hv := h.inv.sts s hs
        rw [if_neg c2]
        have ef : fX10_isFor M (nI t) (Y 1 0 s) = (fX6_isFor Y t x, M) := by rw [ex]; exact isFor_eq h ht hx hx2 m2
        rw [ef]
        dsimp only
        rw [h.st s hs, show (Y 1 0 s).toNatClampNeg = x by rw [ex, nI_clamp (by omega)]]
        by_cases c3 : fX6_isFor Y t x = 0
        · rw [if_pos c3, if_pos c3]
          exact SM.no h ⟨rfl, rfl⟩ rfl (by decide)
        · rw [if_neg c3, if_neg c3]
          exact SM.ok (h.place (by omega) y1 _ hv) ⟨rfl, rfl⟩ rfl
theorem sim9 (h : RR nh nv na kk Y M) (a b c : Int32) : SM nh nv na kk Y M (fX9_takeFromTeam Y a b c) (fX10_does M 9 a b c) := by
  obtain ⟨t, ht, e1, e2⟩ := fmd6 a
  obtain ⟨s, hs, f1, f2⟩ := fmd10 c
  rw [do_9]
  unfold fX9_takeFromTeam fX10_ofTeam
  rw [e1, e2, f1, f2, nI_clamp (n := t) (by omega), nI_clamp (n := s) (by omega)]
  rcases h.tm t ht with ⟨y1, m1⟩ | ⟨y1, m1, m2, m3⟩
  · rw [if_pos y1, if_neg (show ¬ (9 : Int32) = 7 by decide), m1, if_neg (show ¬ (0 : Int32) ≤ -1 by decide)]
    exact SM.no h ⟨rfl, rfl⟩ rfl (by decide)
  · obtain ⟨n, hn, en⟩ := h.inv.tsz t ht
    rw [if_neg (show ¬ Y 12 t 1 = 0 by rw [y1]; decide), if_neg (show ¬ (9 : Int32) = 7 by decide), m1, en, if_pos (nI_pos' (by omega)), if_neg (show ¬ (9 : Int32) = 10 by decide), if_neg (show ¬ (9 : Int32) = 11 by decide), in_wiN _ (by omega)]
    by_cases c1 : fX9_within b (nI n) = 0
    · rw [if_pos c1, if_pos c1]
      exact SM.no h ⟨rfl, rfl⟩ rfl (by decide)
    · rw [if_neg c1, if_neg c1]
      obtain ⟨j, hj, rfl⟩ := wi_ex (by omega) c1
      rw [if_pos (rfl : (9 : Int32) = 9), nI_clamp (n := j) (by omega), ix8 ht (by omega), m3 j (by omega), u3_rd]
      by_cases c2 : Y 13 t j < 0
      · rw [if_pos c2, if_pos c2]
        exact SM.ok (h.stall _ (h.inv.pls t ht j (by omega))) ⟨rfl, rfl⟩ rfl
      · rw [if_neg c2, if_neg c2]
        exact SM.ok (h.stall _ (h.inv.pls t ht j (by omega))) ⟨rfl, rfl⟩ rfl
theorem sim10 (h : RR nh nv na kk Y M) (a b c : Int32) : SM nh nv na kk Y M (fX9_askPlaces Y a) (fX10_does M 10 a b c) := by
  obtain ⟨t, ht, e1, e2⟩ := fmd6 a
  rw [do_10]
  unfold fX9_askPlaces fX10_ofTeam
  rw [e1, e2, nI_clamp (n := t) (by omega)]
  rcases h.tm t ht with ⟨y1, m1⟩ | ⟨y1, m1, m2, m3⟩
  · rw [if_pos y1, if_neg (show ¬ (10 : Int32) = 7 by decide), m1, if_neg (show ¬ (0 : Int32) ≤ -1 by decide)]
    exact SM.no h ⟨rfl, rfl⟩ rfl (by decide)
  · obtain ⟨n, hn, en⟩ := h.inv.tsz t ht
    rw [if_neg (show ¬ Y 12 t 1 = 0 by rw [y1]; decide), if_neg (show ¬ (10 : Int32) = 7 by decide), m1, en, if_pos (nI_pos' (by omega)), if_pos (rfl : (10 : Int32) = 10)]
    exact SM.ok h ⟨rfl, rfl⟩ rfl
theorem lockW {t : Nat} (ht : t < 6) (p0 hours : Int32) (ep : fJ9_floorMod_7cf53 p0 6 = nI t) : ∀ (n i : Nat) (Z Z' : StY) (w : Int32), i ≤ 8 → i + n = 9 → RR nh nv na kk Z Z' → Z 12 t 1 = 1 → (Z' 0 0 33 = M 0 0 33 ∧ Z' 0 0 24 = M 0 0 24) → Z 0 0 16 = Y 0 0 16 → SM nh nv na kk Y M (gX9_workTeam_21 p0 hours n (nI i) w Z) (gX10_worksAll_5 (nI t) hours n (nI i) w Z')
  | 0, i, Z, Z', w, h1, h2, _, _, _, _ => absurd h2 (by omega)
  | n + 1, i, Z, Z', w, h1, h2, h, y1, e33, e15 => by
    rw [gX9_workTeam_21_s, gX10_worksAll_5_s, ep, nI_clamp (n := t) (by omega)]
    rcases h.tm t ht with ⟨y0, m1⟩ | ⟨-, m1, m2, m3⟩
    · rw [y1] at y0
      exact absurd y0 (by decide)
    · obtain ⟨sz, hsz, esz⟩ := h.inv.tsz t ht
      rw [m1, esz]
      by_cases c0 : nI sz ≤ nI i
      · rw [if_pos c0, if_pos c0]
        exact SM.ok h e33 rfl
      · rw [if_neg c0, if_neg c0]
        rw [nI_leI (by omega) (by omega)] at c0
        rw [ix8 ht (by omega), nI_clamp (n := i) (by omega), m3 i (by omega)]
        by_cases c1 : Z 13 t i < 0
        · rw [if_pos c1, if_neg (lt_nle c1)]
          exact SM.no h e33 e15 (by decide)
        · obtain ⟨x, hx, hx2, ex⟩ := h.plx ht (by omega) c1
          obtain ⟨-, k2, -⟩ := h.ho.1 x hx
          rw [if_neg c1, if_pos (nlt_le c1), ex, nI_clamp (n := x) (by omega), nI_1]
          rcases k2 with e | e | e
          · have w1 := work0 h hx hx2 hours e
            rw [if_pos e, ← w1.1]
            exact lockW ht p0 hours ep n (i + 1) _ _ _ (by omega) (by omega) w1.2.1 y1 ⟨w1.2.2.1.1.trans e33.1, w1.2.2.1.2.trans e33.2⟩ (w1.2.2.2.trans e15)
          · have w1 := work1 h hx hx2 hours e
            rw [if_neg (by rw [e]; decide), if_pos e, ← w1.1]
            exact lockW ht p0 hours ep n (i + 1) _ _ _ (by omega) (by omega) w1.2.1 y1 ⟨w1.2.2.1.1.trans e33.1, w1.2.2.1.2.trans e33.2⟩ (w1.2.2.2.trans e15)
          · have w1 := work2 h hx hx2 hours e
            rw [if_neg (by rw [e]; decide), if_neg (by rw [e]; decide), ← w1.1]
            exact lockW ht p0 hours ep n (i + 1) _ _ _ (by omega) (by omega) w1.2.1 y1 ⟨w1.2.2.1.1.trans e33.1, w1.2.2.1.2.trans e33.2⟩ (w1.2.2.2.trans e15)
theorem sim11 (h : RR nh nv na kk Y M) (a b c : Int32) : SM nh nv na kk Y M (fX9_workTeam Y a b) (fX10_does M 11 a b c) := by
  obtain ⟨t, ht, e1, e2⟩ := fmd6 a
  rw [do_11]
  unfold fX9_workTeam fX10_ofTeam
  rw [e1, e2, nI_clamp (n := t) (by omega)]
  rcases h.tm t ht with ⟨y1, m1⟩ | ⟨y1, m1, m2, m3⟩
  · rw [if_pos y1, if_neg (show ¬ (11 : Int32) = 7 by decide), m1, if_neg (show ¬ (0 : Int32) ≤ -1 by decide)]
    exact SM.no h ⟨rfl, rfl⟩ rfl (by decide)
  · obtain ⟨n, hn, en⟩ := h.inv.tsz t ht
    rw [if_neg (show ¬ Y 12 t 1 = 0 by rw [y1]; decide), if_neg (show ¬ (11 : Int32) = 7 by decide), m1, en, if_pos (nI_pos' (by omega)), if_neg (show ¬ (11 : Int32) = 10 by decide), if_pos (rfl : (11 : Int32) = 11)]
    have l := lockW (Y := Y) (M := M) ht a b e1 9 0 Y M 0 (by decide) (by decide) h y1 ⟨rfl, rfl⟩ rfl
    rw [nI_0] at l
    exact l
theorem sim12 (h : RR nh nv na kk Y M) (a b c : Int32) : SM nh nv na kk Y M (fX9_openLedger Y a b) (fX10_does M 12 a b c) := by
  obtain ⟨t, ht, e1, e2⟩ := fmd4 a
  rw [do_12]
  unfold fX9_openLedger fX10_ofLedger fX4_open
  rw [e1, e2, if_pos (rfl : (12 : Int32) = 12), nI_clamp (by omega)]
  by_cases c0 : 0 ≤ b
  · rw [if_pos c0, if_pos c0, least_eq]
    have hs : okZ 12 (fX10_least b 12) := least_ok (B := 12) (by decide) c0
    have l2 := lp_led 12 b c ht (u3 M 16 0 t (fX10_least b 12)) 13 0 (by decide) (by decide)
    rw [nI_0, frM_0] at l2
    rw [l2]
    exact SM.ok (h.opened hs) ⟨rfl, rfl⟩ (u3_rd (Y := M) (k := 16) (i := 0) (j := t) (v := fX10_least b 12)).symm
  · rw [if_neg c0, if_neg c0]
    exact SM.no h ⟨rfl, rfl⟩ rfl (by decide)
theorem sim13 (h : RR nh nv na kk Y M) (a b c : Int32) : SM nh nv na kk Y M (fX9_addInLedger Y a b c) (fX10_does M 13 a b c) := by
  obtain ⟨t, ht, e1, e2⟩ := fmd4 a
  rw [do_13]
  unfold fX9_addInLedger fX10_ofLedger
  rw [e1, e2, nI_clamp (n := t) (by omega)]
  rcases h.ld t ht with ⟨y1, m1⟩ | ⟨y1, m1, m3⟩
  · rw [if_pos y1, if_neg (show ¬ (13 : Int32) = 12 by decide), m1, if_neg (show ¬ (0 : Int32) ≤ -1 by decide)]
    exact SM.no h ⟨rfl, rfl⟩ rfl (by decide)
  · obtain ⟨n, hn, en⟩ := h.inv.lsz t ht
    rw [if_neg (show ¬ Y 14 t 1 = 0 by rw [y1]; decide), if_neg (show ¬ (13 : Int32) = 12 by decide), m1, en, if_pos (nI_pos' (by omega)), if_pos (rfl : (13 : Int32) = 13), in_wiN _ (by omega)]
    by_cases c1 : fX9_within b (nI n) = 0
    · rw [if_pos c1, if_pos c1]
      exact SM.no h ⟨rfl, rfl⟩ rfl (by decide)
    · rw [if_neg c1, if_neg c1]
      obtain ⟨j, hj, rfl⟩ := wi_ex (by omega) c1
      rw [nI_clamp (n := j) (by omega), ix12 ht (by omega), m3 j (by omega)]
      exact SM.ok (h.int (by omega) _) ⟨rfl, rfl⟩ (by rw [u3_rd, u3_rd])
theorem lockS (h : RR nh nv na kk Y M) {t : Nat} (ht : t < 4) (y1 : Y 14 t 1 = 1) (p0 p2 p3 : Int32) : ∀ (n i : Nat) (w : Int32), i ≤ 12 → i + n = 13 → ∃ v, gX4_sum_4 t n (nI i) w Y = (v, Y) ∧ gX10_ofLedger_137 p0 (nI t) p2 p3 n (nI i) w M = (0, u3 M 0 0 34 v)
  | 0, i, w, h1, h2 => absurd h2 (by omega)
  | n + 1, i, w, h1, h2 => by
    rw [gX4_sum_4_s, gX10_ofLedger_137_s, nI_clamp (n := t) (by omega)]
    rcases h.ld t ht with ⟨y0, m1⟩ | ⟨-, m1, m3⟩
    · rw [y1] at y0
      exact absurd y0 (by decide)
    · obtain ⟨sz, hsz, esz⟩ := h.inv.lsz t ht
      rw [m1, esz]
      by_cases c0 : nI sz ≤ nI i
      · rw [if_pos c0, if_pos c0]
        exact ⟨w, rfl, rfl⟩
      · rw [if_neg c0, if_neg c0]
        rw [nI_leI (by omega) (by omega)] at c0
        rw [ix12 ht (by omega), nI_clamp (n := i) (by omega), m3 i (by omega), nI_1]
        exact lockS h ht y1 p0 p2 p3 n (i + 1) _ (by omega) (by omega)
theorem sim14 (h : RR nh nv na kk Y M) (a b c : Int32) : SM nh nv na kk Y M (fX9_sumLedger Y a) (fX10_does M 14 a b c) := by
  obtain ⟨t, ht, e1, e2⟩ := fmd4 a
  rw [do_14]
  unfold fX9_sumLedger fX10_ofLedger fX4_sum
  rw [e1, e2, nI_clamp (n := t) (by omega)]
  rcases h.ld t ht with ⟨y1, m1⟩ | ⟨y1, m1, m3⟩
  · rw [if_pos y1, if_neg (show ¬ (14 : Int32) = 12 by decide), m1, if_neg (show ¬ (0 : Int32) ≤ -1 by decide)]
    exact SM.no h ⟨rfl, rfl⟩ rfl (by decide)
  · obtain ⟨n, hn, en⟩ := h.inv.lsz t ht
    rw [if_neg (show ¬ Y 14 t 1 = 0 by rw [y1]; decide), if_neg (show ¬ (14 : Int32) = 12 by decide), m1, en, if_pos (nI_pos' (by omega)), if_neg (show ¬ (14 : Int32) = 13 by decide)]
    obtain ⟨v, l1, l2⟩ := lockS h ht y1 14 b c 13 0 0 (by decide) (by decide)
    rw [nI_0] at l1 l2
    rw [l1, l2]
    exact SM.ok h ⟨rfl, rfl⟩ rfl
theorem sim15 (h : RR nh nv na kk Y M) (a b c : Int32) : SM nh nv na kk Y M (fX9_setTable Y a b c) (fX10_does M 15 a b c) := by
  obtain ⟨t, ht, e1, e2⟩ := fmd4 a
  rw [do_15]
  unfold fX9_setTable fX10_ofTable fX5_set
  rw [e1, e2, if_pos (rfl : (15 : Int32) = 15), nI_clamp (by omega)]
  by_cases c0 : b < 0
  · rw [if_pos c0, if_pos c0]
    exact SM.no h ⟨rfl, rfl⟩ rfl (by decide)
  · rw [if_neg c0, if_neg c0]
    by_cases c1 : 0 ≤ c
    · rw [if_pos c1, if_pos c1, least_eq, least_eq]
      have hs : okZ 6 (fX10_least b 6) := least_ok (B := 6) (by decide) (nlt_le c0)
      have hw : okZ 6 (fX10_least c 6) := least_ok (B := 6) (by decide) c1
      have l1 := lp_set t (fX10_least b 6) (fX10_least c 6) (u3 (u3 (u3 Y 16 t 2 1) 16 t 3 (fX10_least b 6)) 16 t 4 (fX10_least c 6)) 7 0 (by decide) (by decide)
      have l2 := lp_rows 15 b c ht (u3 (u3 M 18 0 t (fX10_least b 6)) 19 0 t (fX10_least c 6)) 7 0 (by decide) (by decide)
      rw [nI_0, tbY_0] at l1
      rw [nI_0, frM_0] at l2
      rw [l1, l2]
      exact SM.ok (h.laid hs hw) ⟨rfl, rfl⟩ rfl
    · rw [if_neg c1, if_neg c1]
      exact SM.no h ⟨rfl, rfl⟩ rfl (by decide)
theorem sim16 (h : RR nh nv na kk Y M) (a b c : Int32) : SM nh nv na kk Y M (fX9_markTable Y a b c) (fX10_does M 16 a b c) := by
  obtain ⟨t, ht, e1, e2⟩ := fmd4 a
  rw [do_16]
  unfold fX9_markTable fX10_ofTable
  rw [e1, e2, nI_clamp (n := t) (by omega)]
  rcases (h.tb t ht).2 with ⟨y1, m1⟩ | ⟨y1, m1, m2, m3, m4⟩
  · rw [if_pos y1, if_neg (show ¬ (16 : Int32) = 15 by decide), m1, if_neg (show ¬ (0 : Int32) ≤ -1 by decide)]
    exact SM.no h ⟨rfl, rfl⟩ rfl (by decide)
  · obtain ⟨n, hn, en⟩ := h.inv.hsz t ht
    obtain ⟨w, hw, ew⟩ := h.inv.wsz t ht
    rw [if_neg (show ¬ Y 16 t 2 = 0 by rw [y1]; decide), if_neg (show ¬ (16 : Int32) = 15 by decide), m1, m2, en, ew, if_pos (nI_pos' (by omega)), in_wiN _ (by omega), in_wiN _ (by omega)]
    by_cases c1 : fX9_within b (nI n) = 0
    · rw [if_pos c1, if_pos c1]
      exact SM.no h ⟨rfl, rfl⟩ rfl (by decide)
    · rw [if_neg c1, if_neg c1]
      obtain ⟨r, hr, rfl⟩ := wi_ex (by omega) c1
      rw [nI_clamp (n := r) (by omega), ix6 ht (by omega), (m3 r (by omega)).1]
      by_cases c2 : Y 19 t r = 0
      · rw [if_pos c2, if_pos c2]
        exact SM.no h ⟨rfl, rfl⟩ rfl (by decide)
      · rw [if_neg c2, if_neg c2]
        by_cases c3 : fX9_within c (nI w) = 0
        · rw [if_pos c3, if_pos c3]
          exact SM.no h ⟨rfl, rfl⟩ rfl (by decide)
        · rw [if_neg c3, if_neg c3]
          obtain ⟨j, hj, rfl⟩ := wi_ex (by omega) c3
          rw [nI_clamp (n := j) (by omega), ix36 ht (by omega) (by omega), m4 r (by omega) j (by omega)]
          exact SM.ok (h.cell (by omega) (by omega) _) ⟨rfl, rfl⟩ (by rw [u3_rd, u3_rd])
theorem sim17 (h : RR nh nv na kk Y M) (a b c : Int32) : SM nh nv na kk Y M (fX9_raiseAlarm Y a) (fX10_does M 17 a b c) := by
  obtain ⟨t, ht, e1, e2⟩ := fmd6 a
  rw [do_17]
  unfold fX9_raiseAlarm
  rw [e1, e2, nI_clamp (n := t) (by omega)]
  rcases h.hk t ht with ⟨y1, m1⟩ | ⟨y1, m1, m2⟩
  · rw [if_pos y1, if_pos m1]
    exact SM.no h ⟨rfl, rfl⟩ rfl (by decide)
  · rw [if_neg y1, if_neg (show ¬ M 22 0 t = 0 by rw [m1]; decide), m2]
    exact SM.al h ⟨rfl, rfl⟩ rfl
theorem sim_act (h : RR nh nv na kk Y M) (a b c : Int32) : ∀ n : Nat, n < 18 → SM nh nv na kk Y M (fX9_faultOf Y (nI n) a b c) (fX10_does M (nI n) a b c)
  | 0, _ => by
    show SM nh nv na kk Y M (fX9_faultOf Y 0 a b c) (fX10_does M 0 a b c)
    unfold fX9_faultOf
    rw [if_pos (rfl : (0 : Int32) = 0)]
    exact sim0 h a b c
  | 1, _ => by
    show SM nh nv na kk Y M (fX9_faultOf Y 1 a b c) (fX10_does M 1 a b c)
    unfold fX9_faultOf
    rw [if_neg (show ¬ (1 : Int32) = 0 by decide), if_pos (rfl : (1 : Int32) = 1)]
    exact sim1 h a b c
  | 2, _ => by
    show SM nh nv na kk Y M (fX9_faultOf Y 2 a b c) (fX10_does M 2 a b c)
    unfold fX9_faultOf
    rw [if_neg (show ¬ (2 : Int32) = 0 by decide), if_neg (show ¬ (2 : Int32) = 1 by decide), if_pos (rfl : (2 : Int32) = 2)]
    exact sim2 h a b c
  | 3, _ => by
    show SM nh nv na kk Y M (fX9_faultOf Y 3 a b c) (fX10_does M 3 a b c)
    unfold fX9_faultOf
    rw [if_neg (show ¬ (3 : Int32) = 0 by decide), if_neg (show ¬ (3 : Int32) = 1 by decide), if_neg (show ¬ (3 : Int32) = 2 by decide), if_pos (rfl : (3 : Int32) = 3)]
    exact sim3 h a b c
  | 4, _ => by
    show SM nh nv na kk Y M (fX9_faultOf Y 4 a b c) (fX10_does M 4 a b c)
    unfold fX9_faultOf
    rw [if_neg (show ¬ (4 : Int32) = 0 by decide), if_neg (show ¬ (4 : Int32) = 1 by decide), if_neg (show ¬ (4 : Int32) = 2 by decide), if_neg (show ¬ (4 : Int32) = 3 by decide), if_pos (rfl : (4 : Int32) = 4)]
    exact sim4 h a b c
  | 5, _ => by
    show SM nh nv na kk Y M (fX9_faultOf Y 5 a b c) (fX10_does M 5 a b c)
    unfold fX9_faultOf
    rw [if_neg (show ¬ (5 : Int32) = 0 by decide), if_neg (show ¬ (5 : Int32) = 1 by decide), if_neg (show ¬ (5 : Int32) = 2 by decide), if_neg (show ¬ (5 : Int32) = 3 by decide), if_neg (show ¬ (5 : Int32) = 4 by decide), if_pos (rfl : (5 : Int32) = 5)]
    exact sim5 h a b c
  | 6, _ => by
    show SM nh nv na kk Y M (fX9_faultOf Y 6 a b c) (fX10_does M 6 a b c)
    unfold fX9_faultOf
    rw [if_neg (show ¬ (6 : Int32) = 0 by decide), if_neg (show ¬ (6 : Int32) = 1 by decide), if_neg (show ¬ (6 : Int32) = 2 by decide), if_neg (show ¬ (6 : Int32) = 3 by decide), if_neg (show ¬ (6 : Int32) = 4 by decide), if_neg (show ¬ (6 : Int32) = 5 by decide), if_pos (rfl : (6 : Int32) = 6)]
    exact sim6 h a b c
  | 7, _ => by
    show SM nh nv na kk Y M (fX9_faultOf Y 7 a b c) (fX10_does M 7 a b c)
    unfold fX9_faultOf
    rw [if_neg (show ¬ (7 : Int32) = 0 by decide), if_neg (show ¬ (7 : Int32) = 1 by decide), if_neg (show ¬ (7 : Int32) = 2 by decide), if_neg (show ¬ (7 : Int32) = 3 by decide), if_neg (show ¬ (7 : Int32) = 4 by decide), if_neg (show ¬ (7 : Int32) = 5 by decide), if_neg (show ¬ (7 : Int32) = 6 by decide), if_pos (rfl : (7 : Int32) = 7)]
    exact sim7 h a b c
  | 8, _ => by
    show SM nh nv na kk Y M (fX9_faultOf Y 8 a b c) (fX10_does M 8 a b c)
    unfold fX9_faultOf
    rw [if_neg (show ¬ (8 : Int32) = 0 by decide), if_neg (show ¬ (8 : Int32) = 1 by decide), if_neg (show ¬ (8 : Int32) = 2 by decide), if_neg (show ¬ (8 : Int32) = 3 by decide), if_neg (show ¬ (8 : Int32) = 4 by decide), if_neg (show ¬ (8 : Int32) = 5 by decide), if_neg (show ¬ (8 : Int32) = 6 by decide), if_neg (show ¬ (8 : Int32) = 7 by decide), if_pos (rfl : (8 : Int32) = 8)]
    exact sim8 h a b c
  | 9, _ => by
    show SM nh nv na kk Y M (fX9_faultOf Y 9 a b c) (fX10_does M 9 a b c)
    unfold fX9_faultOf
    rw [if_neg (show ¬ (9 : Int32) = 0 by decide), if_neg (show ¬ (9 : Int32) = 1 by decide), if_neg (show ¬ (9 : Int32) = 2 by decide), if_neg (show ¬ (9 : Int32) = 3 by decide), if_neg (show ¬ (9 : Int32) = 4 by decide), if_neg (show ¬ (9 : Int32) = 5 by decide), if_neg (show ¬ (9 : Int32) = 6 by decide), if_neg (show ¬ (9 : Int32) = 7 by decide), if_neg (show ¬ (9 : Int32) = 8 by decide), if_pos (rfl : (9 : Int32) = 9)]
    exact sim9 h a b c
  | 10, _ => by
    show SM nh nv na kk Y M (fX9_faultOf Y 10 a b c) (fX10_does M 10 a b c)
    unfold fX9_faultOf
    rw [if_neg (show ¬ (10 : Int32) = 0 by decide), if_neg (show ¬ (10 : Int32) = 1 by decide), if_neg (show ¬ (10 : Int32) = 2 by decide), if_neg (show ¬ (10 : Int32) = 3 by decide), if_neg (show ¬ (10 : Int32) = 4 by decide), if_neg (show ¬ (10 : Int32) = 5 by decide), if_neg (show ¬ (10 : Int32) = 6 by decide), if_neg (show ¬ (10 : Int32) = 7 by decide), if_neg (show ¬ (10 : Int32) = 8 by decide), if_neg (show ¬ (10 : Int32) = 9 by decide), if_pos (rfl : (10 : Int32) = 10)]
    exact sim10 h a b c
  | 11, _ => by
    show SM nh nv na kk Y M (fX9_faultOf Y 11 a b c) (fX10_does M 11 a b c)
    unfold fX9_faultOf
    rw [if_neg (show ¬ (11 : Int32) = 0 by decide), if_neg (show ¬ (11 : Int32) = 1 by decide), if_neg (show ¬ (11 : Int32) = 2 by decide), if_neg (show ¬ (11 : Int32) = 3 by decide), if_neg (show ¬ (11 : Int32) = 4 by decide), if_neg (show ¬ (11 : Int32) = 5 by decide), if_neg (show ¬ (11 : Int32) = 6 by decide), if_neg (show ¬ (11 : Int32) = 7 by decide), if_neg (show ¬ (11 : Int32) = 8 by decide), if_neg (show ¬ (11 : Int32) = 9 by decide), if_neg (show ¬ (11 : Int32) = 10 by decide), if_pos (rfl : (11 : Int32) = 11)]
    exact sim11 h a b c
  | 12, _ => by
    show SM nh nv na kk Y M (fX9_faultOf Y 12 a b c) (fX10_does M 12 a b c)
    unfold fX9_faultOf
    rw [if_neg (show ¬ (12 : Int32) = 0 by decide), if_neg (show ¬ (12 : Int32) = 1 by decide), if_neg (show ¬ (12 : Int32) = 2 by decide), if_neg (show ¬ (12 : Int32) = 3 by decide), if_neg (show ¬ (12 : Int32) = 4 by decide), if_neg (show ¬ (12 : Int32) = 5 by decide), if_neg (show ¬ (12 : Int32) = 6 by decide), if_neg (show ¬ (12 : Int32) = 7 by decide), if_neg (show ¬ (12 : Int32) = 8 by decide), if_neg (show ¬ (12 : Int32) = 9 by decide), if_neg (show ¬ (12 : Int32) = 10 by decide), if_neg (show ¬ (12 : Int32) = 11 by decide), if_pos (rfl : (12 : Int32) = 12)]
    exact sim12 h a b c
  | 13, _ => by
    show SM nh nv na kk Y M (fX9_faultOf Y 13 a b c) (fX10_does M 13 a b c)
    unfold fX9_faultOf
    rw [if_neg (show ¬ (13 : Int32) = 0 by decide), if_neg (show ¬ (13 : Int32) = 1 by decide), if_neg (show ¬ (13 : Int32) = 2 by decide), if_neg (show ¬ (13 : Int32) = 3 by decide), if_neg (show ¬ (13 : Int32) = 4 by decide), if_neg (show ¬ (13 : Int32) = 5 by decide), if_neg (show ¬ (13 : Int32) = 6 by decide), if_neg (show ¬ (13 : Int32) = 7 by decide), if_neg (show ¬ (13 : Int32) = 8 by decide), if_neg (show ¬ (13 : Int32) = 9 by decide), if_neg (show ¬ (13 : Int32) = 10 by decide), if_neg (show ¬ (13 : Int32) = 11 by decide), if_neg (show ¬ (13 : Int32) = 12 by decide), if_pos (rfl : (13 : Int32) = 13)]
    exact sim13 h a b c
  | 14, _ => by
    show SM nh nv na kk Y M (fX9_faultOf Y 14 a b c) (fX10_does M 14 a b c)
    unfold fX9_faultOf
    rw [if_neg (show ¬ (14 : Int32) = 0 by decide), if_neg (show ¬ (14 : Int32) = 1 by decide), if_neg (show ¬ (14 : Int32) = 2 by decide), if_neg (show ¬ (14 : Int32) = 3 by decide), if_neg (show ¬ (14 : Int32) = 4 by decide), if_neg (show ¬ (14 : Int32) = 5 by decide), if_neg (show ¬ (14 : Int32) = 6 by decide), if_neg (show ¬ (14 : Int32) = 7 by decide), if_neg (show ¬ (14 : Int32) = 8 by decide), if_neg (show ¬ (14 : Int32) = 9 by decide), if_neg (show ¬ (14 : Int32) = 10 by decide), if_neg (show ¬ (14 : Int32) = 11 by decide), if_neg (show ¬ (14 : Int32) = 12 by decide), if_neg (show ¬ (14 : Int32) = 13 by decide), if_pos (rfl : (14 : Int32) = 14)]
    exact sim14 h a b c
  | 15, _ => by
    show SM nh nv na kk Y M (fX9_faultOf Y 15 a b c) (fX10_does M 15 a b c)
    unfold fX9_faultOf
    rw [if_neg (show ¬ (15 : Int32) = 0 by decide), if_neg (show ¬ (15 : Int32) = 1 by decide), if_neg (show ¬ (15 : Int32) = 2 by decide), if_neg (show ¬ (15 : Int32) = 3 by decide), if_neg (show ¬ (15 : Int32) = 4 by decide), if_neg (show ¬ (15 : Int32) = 5 by decide), if_neg (show ¬ (15 : Int32) = 6 by decide), if_neg (show ¬ (15 : Int32) = 7 by decide), if_neg (show ¬ (15 : Int32) = 8 by decide), if_neg (show ¬ (15 : Int32) = 9 by decide), if_neg (show ¬ (15 : Int32) = 10 by decide), if_neg (show ¬ (15 : Int32) = 11 by decide), if_neg (show ¬ (15 : Int32) = 12 by decide), if_neg (show ¬ (15 : Int32) = 13 by decide), if_neg (show ¬ (15 : Int32) = 14 by decide), if_pos (rfl : (15 : Int32) = 15)]
    exact sim15 h a b c
  | 16, _ => by
    show SM nh nv na kk Y M (fX9_faultOf Y 16 a b c) (fX10_does M 16 a b c)
    unfold fX9_faultOf
    rw [if_neg (show ¬ (16 : Int32) = 0 by decide), if_neg (show ¬ (16 : Int32) = 1 by decide), if_neg (show ¬ (16 : Int32) = 2 by decide), if_neg (show ¬ (16 : Int32) = 3 by decide), if_neg (show ¬ (16 : Int32) = 4 by decide), if_neg (show ¬ (16 : Int32) = 5 by decide), if_neg (show ¬ (16 : Int32) = 6 by decide), if_neg (show ¬ (16 : Int32) = 7 by decide), if_neg (show ¬ (16 : Int32) = 8 by decide), if_neg (show ¬ (16 : Int32) = 9 by decide), if_neg (show ¬ (16 : Int32) = 10 by decide), if_neg (show ¬ (16 : Int32) = 11 by decide), if_neg (show ¬ (16 : Int32) = 12 by decide), if_neg (show ¬ (16 : Int32) = 13 by decide), if_neg (show ¬ (16 : Int32) = 14 by decide), if_neg (show ¬ (16 : Int32) = 15 by decide), if_pos (rfl : (16 : Int32) = 16)]
    exact sim16 h a b c
  | 17, _ => by
    show SM nh nv na kk Y M (fX9_faultOf Y 17 a b c) (fX10_does M 17 a b c)
    unfold fX9_faultOf
    rw [if_neg (show ¬ (17 : Int32) = 0 by decide), if_neg (show ¬ (17 : Int32) = 1 by decide), if_neg (show ¬ (17 : Int32) = 2 by decide), if_neg (show ¬ (17 : Int32) = 3 by decide), if_neg (show ¬ (17 : Int32) = 4 by decide), if_neg (show ¬ (17 : Int32) = 5 by decide), if_neg (show ¬ (17 : Int32) = 6 by decide), if_neg (show ¬ (17 : Int32) = 7 by decide), if_neg (show ¬ (17 : Int32) = 8 by decide), if_neg (show ¬ (17 : Int32) = 9 by decide), if_neg (show ¬ (17 : Int32) = 10 by decide), if_neg (show ¬ (17 : Int32) = 11 by decide), if_neg (show ¬ (17 : Int32) = 12 by decide), if_neg (show ¬ (17 : Int32) = 13 by decide), if_neg (show ¬ (17 : Int32) = 14 by decide), if_neg (show ¬ (17 : Int32) = 15 by decide), if_neg (show ¬ (17 : Int32) = 16 by decide)]
    exact sim17 h a b c
  | k + 18, hk => absurd hk (by omega)
end SIMC
