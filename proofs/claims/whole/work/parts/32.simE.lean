section SIME
variable {nh nv na kk : Nat} {Y M : StY}
theorem hsY_0 (Y : StY) (p : Int32) : fX9_holdsSomething Y 0 p = if (Y 1 0 ((p : Int32).toNatClampNeg)) < 0 then (0, Y) else (1, Y) := by
  unfold fX9_holdsSomething
  rw [if_pos (rfl : (0 : Int32) = 0)]
theorem taY_0 (Y : StY) (p : Int32) : fX9_takeAway Y 0 p = u3 Y 1 0 ((p : Int32).toNatClampNeg) (-1) := by
  unfold fX9_takeAway
  rw [if_pos (rfl : (0 : Int32) = 0)]
theorem hoM_0 (M : StY) (p : Int32) : fX10_holds M 0 p = if (M 11 0 ((p : Int32).toNatClampNeg)) < 0 then (0, M) else (1, M) := by
  unfold fX10_holds
  rw [if_pos (rfl : (0 : Int32) = 0)]
theorem cEmpty0 (h : RC nh nv na kk Y M) (p1 : Int32) : SC nh nv na kk (fX9_empty Y 0 p1) (fX10_empty M 0 p1) := by
  unfold fX9_empty fX10_empty
  rw [if_neg (show ¬ fX9_within 0 6 = 0 by decide), if_neg (show ¬ fX10_in 0 0 5 = 0 by decide), show plcF ((0 : Int32).toNatClampNeg) = 10 from rfl, show (if (0 : Int32) = 0 then (9 : Int32) else (if (0 : Int32) = 3 then 3 else (if (0 : Int32) = 4 then 3 else 5))) = 9 by decide, in_wi p1 9 10 (by decide)]
  by_cases c0 : fX9_within p1 10 = 0
  · rw [if_pos c0, if_pos c0]
    exact ⟨rfl, h⟩
  · rw [if_neg c0, if_neg c0]
    obtain ⟨t, ht, rfl⟩ := wi_ex (n := 10) (by decide) c0
    rw [hsY_0, taY_0, hoM_0, nI_clamp (n := t) (by omega)]
    rw [h.1.st t ht]
    by_cases c1 : Y 1 0 t < 0
    · rw [if_pos c1, if_pos c1]
      (try dsimp only)
      repeat rw [if_pos (rfl : (0 : Int32) = 0)]
      exact ⟨rfl, h.1.stall (-1) (Or.inl rfl), h.2⟩
    · rw [if_neg c1, if_neg c1]
      (try dsimp only)
      rw [if_neg (show ¬ (1 : Int32) = 0 by decide)]
      rw [if_pos (rfl : (0 : Int32) = 0)]
      exact ⟨rfl, h.1.stall (-1) (Or.inl rfl), h.2⟩
theorem hsY_1 (Y : StY) (p : Int32) : fX9_holdsSomething Y 1 p = if (Y 2 0 ((p : Int32).toNatClampNeg)) < 0 then (0, Y) else (if (Y 2 0 ((p : Int32).toNatClampNeg)) < 100 then (1, Y) else (1, Y)) := by
  unfold fX9_holdsSomething
  rw [if_neg (show ¬ (1 : Int32) = 0 by decide), if_pos (rfl : (1 : Int32) = 1)]
theorem taY_1 (Y : StY) (p : Int32) : fX9_takeAway Y 1 p = u3 Y 2 0 ((p : Int32).toNatClampNeg) (-1) := by
  unfold fX9_takeAway
  rw [if_neg (show ¬ (1 : Int32) = 0 by decide), if_pos (rfl : (1 : Int32) = 1)]
theorem hoM_1 (M : StY) (p : Int32) : fX10_holds M 1 p = if (M 12 0 ((p : Int32).toNatClampNeg)) < 0 then (0, M) else (1, M) := by
  unfold fX10_holds
  rw [if_neg (show ¬ (1 : Int32) = 0 by decide), if_pos (rfl : (1 : Int32) = 1)]
theorem cEmpty1 (h : RC nh nv na kk Y M) (p1 : Int32) : SC nh nv na kk (fX9_empty Y 1 p1) (fX10_empty M 1 p1) := by
  unfold fX9_empty fX10_empty
  rw [if_neg (show ¬ fX9_within 1 6 = 0 by decide), if_neg (show ¬ fX10_in 1 0 5 = 0 by decide), show plcF ((1 : Int32).toNatClampNeg) = 6 from rfl, show (if (1 : Int32) = 0 then (9 : Int32) else (if (1 : Int32) = 3 then 3 else (if (1 : Int32) = 4 then 3 else 5))) = 5 by decide, in_wi p1 5 6 (by decide)]
  by_cases c0 : fX9_within p1 6 = 0
  · rw [if_pos c0, if_pos c0]
    exact ⟨rfl, h⟩
  · rw [if_neg c0, if_neg c0]
    obtain ⟨t, ht, rfl⟩ := wi_ex (n := 6) (by decide) c0
    rw [hsY_1, taY_1, hoM_1, nI_clamp (n := t) (by omega)]
    rw [h.1.sh t ht]
    by_cases c1 : Y 2 0 t < 0
    · rw [if_pos c1, if_pos c1]
      (try dsimp only)
      rw [if_pos (rfl : (0 : Int32) = 0)]
      rw [if_neg (show ¬ (1 : Int32) = 0 by decide), if_pos (rfl : (1 : Int32) = 1)]
      exact ⟨rfl, h.1.shed (-1) (Or.inl rfl), h.2⟩
    · rw [if_neg c1, if_neg c1]
      have e1 : (if Y 2 0 t < 100 then ((1 : Int32), Y) else (1, Y)) = (1, Y) := by
        by_cases c2 : Y 2 0 t < 100
        · rw [if_pos c2]
        · rw [if_neg c2]
      rw [e1]
      (try dsimp only)
      repeat rw [if_neg (show ¬ (1 : Int32) = 0 by decide)]
      rw [if_pos (rfl : (1 : Int32) = 1)]
      exact ⟨rfl, h.1.shed (-1) (Or.inl rfl), h.2⟩
theorem hsY_2 (Y : StY) (p : Int32) : fX9_holdsSomething Y 2 p = (Y 12 ((p : Int32).toNatClampNeg) 1, Y) := by
  unfold fX9_holdsSomething
  rw [if_neg (show ¬ (2 : Int32) = 0 by decide), if_neg (show ¬ (2 : Int32) = 1 by decide), if_pos (rfl : (2 : Int32) = 2)]
theorem taY_2 (Y : StY) (p : Int32) : fX9_takeAway Y 2 p = u3 Y 12 ((p : Int32).toNatClampNeg) 1 0 := by
  unfold fX9_takeAway
  rw [if_neg (show ¬ (2 : Int32) = 0 by decide), if_neg (show ¬ (2 : Int32) = 1 by decide), if_pos (rfl : (2 : Int32) = 2)]
theorem hoM_2 (M : StY) (p : Int32) : fX10_holds M 2 p = if (M 13 0 ((p : Int32).toNatClampNeg)) < 0 then (0, M) else (1, M) := by
  unfold fX10_holds
  rw [if_neg (show ¬ (2 : Int32) = 0 by decide), if_neg (show ¬ (2 : Int32) = 1 by decide), if_pos (rfl : (2 : Int32) = 2)]
theorem cEmpty2 (h : RC nh nv na kk Y M) (p1 : Int32) : SC nh nv na kk (fX9_empty Y 2 p1) (fX10_empty M 2 p1) := by
  unfold fX9_empty fX10_empty
  rw [if_neg (show ¬ fX9_within 2 6 = 0 by decide), if_neg (show ¬ fX10_in 2 0 5 = 0 by decide), show plcF ((2 : Int32).toNatClampNeg) = 6 from rfl, show (if (2 : Int32) = 0 then (9 : Int32) else (if (2 : Int32) = 3 then 3 else (if (2 : Int32) = 4 then 3 else 5))) = 5 by decide, in_wi p1 5 6 (by decide)]
  by_cases c0 : fX9_within p1 6 = 0
  · rw [if_pos c0, if_pos c0]
    exact ⟨rfl, h⟩
  · rw [if_neg c0, if_neg c0]
    obtain ⟨t, ht, rfl⟩ := wi_ex (n := 6) (by decide) c0
    rw [hsY_2, taY_2, hoM_2, nI_clamp (n := t) (by omega)]
    rcases h.1.tm t ht with ⟨y1, m1⟩ | ⟨y1, m1, -⟩
    · rw [y1, m1, if_pos (show (-1 : Int32) < 0 by decide)]
      (try dsimp only)
      rw [if_pos (rfl : (0 : Int32) = 0)]
      rw [if_neg (show ¬ (2 : Int32) = 0 by decide), if_neg (show ¬ (2 : Int32) = 1 by decide), if_pos (rfl : (2 : Int32) = 2)]
      exact ⟨rfl, h.1.noTeam, h.2⟩
    · obtain ⟨n, hn, en⟩ := h.1.inv.tsz t ht
      rw [y1, m1, en, if_neg (nI_pos (by omega))]
      (try dsimp only)
      rw [if_neg (show ¬ (1 : Int32) = 0 by decide)]
      rw [if_neg (show ¬ (2 : Int32) = 0 by decide), if_neg (show ¬ (2 : Int32) = 1 by decide), if_pos (rfl : (2 : Int32) = 2)]
      exact ⟨rfl, h.1.noTeam, h.2⟩
theorem hsY_3 (Y : StY) (p : Int32) : fX9_holdsSomething Y 3 p = (Y 14 ((p : Int32).toNatClampNeg) 1, Y) := by
  unfold fX9_holdsSomething
  rw [if_neg (show ¬ (3 : Int32) = 0 by decide), if_neg (show ¬ (3 : Int32) = 1 by decide), if_neg (show ¬ (3 : Int32) = 2 by decide), if_pos (rfl : (3 : Int32) = 3)]
theorem taY_3 (Y : StY) (p : Int32) : fX9_takeAway Y 3 p = u3 Y 14 ((p : Int32).toNatClampNeg) 1 0 := by
  unfold fX9_takeAway
  rw [if_neg (show ¬ (3 : Int32) = 0 by decide), if_neg (show ¬ (3 : Int32) = 1 by decide), if_neg (show ¬ (3 : Int32) = 2 by decide), if_pos (rfl : (3 : Int32) = 3)]
theorem hoM_3 (M : StY) (p : Int32) : fX10_holds M 3 p = if (M 16 0 ((p : Int32).toNatClampNeg)) < 0 then (0, M) else (1, M) := by
  unfold fX10_holds
  rw [if_neg (show ¬ (3 : Int32) = 0 by decide), if_neg (show ¬ (3 : Int32) = 1 by decide), if_neg (show ¬ (3 : Int32) = 2 by decide), if_pos (rfl : (3 : Int32) = 3)]
theorem cEmpty3 (h : RC nh nv na kk Y M) (p1 : Int32) : SC nh nv na kk (fX9_empty Y 3 p1) (fX10_empty M 3 p1) := by
  unfold fX9_empty fX10_empty
  rw [if_neg (show ¬ fX9_within 3 6 = 0 by decide), if_neg (show ¬ fX10_in 3 0 5 = 0 by decide), show plcF ((3 : Int32).toNatClampNeg) = 4 from rfl, show (if (3 : Int32) = 0 then (9 : Int32) else (if (3 : Int32) = 3 then 3 else (if (3 : Int32) = 4 then 3 else 5))) = 3 by decide, in_wi p1 3 4 (by decide)]
  by_cases c0 : fX9_within p1 4 = 0
  · rw [if_pos c0, if_pos c0]
    exact ⟨rfl, h⟩
  · rw [if_neg c0, if_neg c0]
    obtain ⟨t, ht, rfl⟩ := wi_ex (n := 4) (by decide) c0
    rw [hsY_3, taY_3, hoM_3, nI_clamp (n := t) (by omega)]
    rcases h.1.ld t ht with ⟨y1, m1⟩ | ⟨y1, m1, -⟩
    · rw [y1, m1, if_pos (show (-1 : Int32) < 0 by decide)]
      (try dsimp only)
      rw [if_pos (rfl : (0 : Int32) = 0)]
      rw [if_neg (show ¬ (3 : Int32) = 0 by decide), if_neg (show ¬ (3 : Int32) = 1 by decide), if_neg (show ¬ (3 : Int32) = 2 by decide), if_pos (rfl : (3 : Int32) = 3)]
      exact ⟨rfl, h.1.noLedger, h.2⟩
    · obtain ⟨n, hn, en⟩ := h.1.inv.lsz t ht
      rw [y1, m1, en, if_neg (nI_pos (by omega))]
      (try dsimp only)
      rw [if_neg (show ¬ (1 : Int32) = 0 by decide)]
      rw [if_neg (show ¬ (3 : Int32) = 0 by decide), if_neg (show ¬ (3 : Int32) = 1 by decide), if_neg (show ¬ (3 : Int32) = 2 by decide), if_pos (rfl : (3 : Int32) = 3)]
      exact ⟨rfl, h.1.noLedger, h.2⟩
theorem hsY_4 (Y : StY) (p : Int32) : fX9_holdsSomething Y 4 p = (Y 16 ((p : Int32).toNatClampNeg) 2, Y) := by
  unfold fX9_holdsSomething
  rw [if_neg (show ¬ (4 : Int32) = 0 by decide), if_neg (show ¬ (4 : Int32) = 1 by decide), if_neg (show ¬ (4 : Int32) = 2 by decide), if_neg (show ¬ (4 : Int32) = 3 by decide), if_pos (rfl : (4 : Int32) = 4)]
theorem taY_4 (Y : StY) (p : Int32) : fX9_takeAway Y 4 p = u3 Y 16 ((p : Int32).toNatClampNeg) 2 0 := by
  unfold fX9_takeAway
  rw [if_neg (show ¬ (4 : Int32) = 0 by decide), if_neg (show ¬ (4 : Int32) = 1 by decide), if_neg (show ¬ (4 : Int32) = 2 by decide), if_neg (show ¬ (4 : Int32) = 3 by decide), if_pos (rfl : (4 : Int32) = 4)]
theorem hoM_4 (M : StY) (p : Int32) : fX10_holds M 4 p = if (M 18 0 ((p : Int32).toNatClampNeg)) < 0 then (0, M) else (1, M) := by
  unfold fX10_holds
  rw [if_neg (show ¬ (4 : Int32) = 0 by decide), if_neg (show ¬ (4 : Int32) = 1 by decide), if_neg (show ¬ (4 : Int32) = 2 by decide), if_neg (show ¬ (4 : Int32) = 3 by decide), if_pos (rfl : (4 : Int32) = 4)]
theorem cEmpty4 (h : RC nh nv na kk Y M) (p1 : Int32) : SC nh nv na kk (fX9_empty Y 4 p1) (fX10_empty M 4 p1) := by
  unfold fX9_empty fX10_empty
  rw [if_neg (show ¬ fX9_within 4 6 = 0 by decide), if_neg (show ¬ fX10_in 4 0 5 = 0 by decide), show plcF ((4 : Int32).toNatClampNeg) = 4 from rfl, show (if (4 : Int32) = 0 then (9 : Int32) else (if (4 : Int32) = 3 then 3 else (if (4 : Int32) = 4 then 3 else 5))) = 3 by decide, in_wi p1 3 4 (by decide)]
  by_cases c0 : fX9_within p1 4 = 0
  · rw [if_pos c0, if_pos c0]
    exact ⟨rfl, h⟩
  · rw [if_neg c0, if_neg c0]
    obtain ⟨t, ht, rfl⟩ := wi_ex (n := 4) (by decide) c0
    rw [hsY_4, taY_4, hoM_4, nI_clamp (n := t) (by omega)]
    rcases (h.1.tb t ht).2 with ⟨y1, m1⟩ | ⟨y1, m1, -⟩
    · rw [y1, m1, if_pos (show (-1 : Int32) < 0 by decide)]
      (try dsimp only)
      rw [if_pos (rfl : (0 : Int32) = 0)]
      rw [if_neg (show ¬ (4 : Int32) = 0 by decide), if_neg (show ¬ (4 : Int32) = 1 by decide), if_neg (show ¬ (4 : Int32) = 2 by decide), if_neg (show ¬ (4 : Int32) = 3 by decide), if_pos (rfl : (4 : Int32) = 4)]
      exact ⟨rfl, h.1.noTable, h.2⟩
    · obtain ⟨n, hn, en⟩ := h.1.inv.hsz t ht
      rw [y1, m1, en, if_neg (nI_pos (by omega))]
      (try dsimp only)
      rw [if_neg (show ¬ (1 : Int32) = 0 by decide)]
      rw [if_neg (show ¬ (4 : Int32) = 0 by decide), if_neg (show ¬ (4 : Int32) = 1 by decide), if_neg (show ¬ (4 : Int32) = 2 by decide), if_neg (show ¬ (4 : Int32) = 3 by decide), if_pos (rfl : (4 : Int32) = 4)]
      exact ⟨rfl, h.1.noTable, h.2⟩
theorem hsY_5 (Y : StY) (p : Int32) : fX9_holdsSomething Y 5 p = if (Y 6 0 ((p : Int32).toNatClampNeg)) < 0 then (0, Y) else (1, Y) := by
  unfold fX9_holdsSomething
  rw [if_neg (show ¬ (5 : Int32) = 0 by decide), if_neg (show ¬ (5 : Int32) = 1 by decide), if_neg (show ¬ (5 : Int32) = 2 by decide), if_neg (show ¬ (5 : Int32) = 3 by decide), if_neg (show ¬ (5 : Int32) = 4 by decide)]
theorem taY_5 (Y : StY) (p : Int32) : fX9_takeAway Y 5 p = u3 Y 6 0 ((p : Int32).toNatClampNeg) (-1) := by
  unfold fX9_takeAway
  rw [if_neg (show ¬ (5 : Int32) = 0 by decide), if_neg (show ¬ (5 : Int32) = 1 by decide), if_neg (show ¬ (5 : Int32) = 2 by decide), if_neg (show ¬ (5 : Int32) = 3 by decide), if_neg (show ¬ (5 : Int32) = 4 by decide)]
theorem hoM_5 (M : StY) (p : Int32) : fX10_holds M 5 p = (M 22 0 ((p : Int32).toNatClampNeg), M) := by
  unfold fX10_holds
  rw [if_neg (show ¬ (5 : Int32) = 0 by decide), if_neg (show ¬ (5 : Int32) = 1 by decide), if_neg (show ¬ (5 : Int32) = 2 by decide), if_neg (show ¬ (5 : Int32) = 3 by decide), if_neg (show ¬ (5 : Int32) = 4 by decide)]
theorem cEmpty5 (h : RC nh nv na kk Y M) (p1 : Int32) : SC nh nv na kk (fX9_empty Y 5 p1) (fX10_empty M 5 p1) := by
  unfold fX9_empty fX10_empty
  rw [if_neg (show ¬ fX9_within 5 6 = 0 by decide), if_neg (show ¬ fX10_in 5 0 5 = 0 by decide), show plcF ((5 : Int32).toNatClampNeg) = 6 from rfl, show (if (5 : Int32) = 0 then (9 : Int32) else (if (5 : Int32) = 3 then 3 else (if (5 : Int32) = 4 then 3 else 5))) = 5 by decide, in_wi p1 5 6 (by decide)]
  by_cases c0 : fX9_within p1 6 = 0
  · rw [if_pos c0, if_pos c0]
    exact ⟨rfl, h⟩
  · rw [if_neg c0, if_neg c0]
    obtain ⟨t, ht, rfl⟩ := wi_ex (n := 6) (by decide) c0
    rw [hsY_5, taY_5, hoM_5, nI_clamp (n := t) (by omega)]
    rcases h.1.hk t ht with ⟨y1, m1⟩ | ⟨y1, m1, -⟩
    · rw [if_pos y1, m1]
      (try dsimp only)
      rw [if_pos (rfl : (0 : Int32) = 0)]
      rw [if_neg (show ¬ (5 : Int32) = 0 by decide), if_neg (show ¬ (5 : Int32) = 1 by decide), if_neg (show ¬ (5 : Int32) = 2 by decide), if_neg (show ¬ (5 : Int32) = 3 by decide), if_neg (show ¬ (5 : Int32) = 4 by decide)]
      exact ⟨rfl, h.1.noHook, h.2⟩
    · rw [if_neg y1, m1]
      (try dsimp only)
      rw [if_neg (show ¬ (1 : Int32) = 0 by decide)]
      rw [if_neg (show ¬ (5 : Int32) = 0 by decide), if_neg (show ¬ (5 : Int32) = 1 by decide), if_neg (show ¬ (5 : Int32) = 2 by decide), if_neg (show ¬ (5 : Int32) = 3 by decide), if_neg (show ¬ (5 : Int32) = 4 by decide)]
      exact ⟨rfl, h.1.noHook, h.2⟩
theorem cEmpty (h : RC nh nv na kk Y M) (p0 p1 : Int32) : SC nh nv na kk (fX9_empty Y p0 p1) (fX10_empty M p0 p1) := by
  by_cases c0 : fX9_within p0 6 = 0
  · unfold fX9_empty fX10_empty
    rw [in_wi p0 5 6 (by decide), if_pos c0, if_pos c0]
    exact ⟨rfl, h⟩
  · obtain ⟨j, hj, rfl⟩ := wi_ex (n := 6) (by decide) c0
    rcases (show j = 0 ∨ j = 1 ∨ j = 2 ∨ j = 3 ∨ j = 4 ∨ j = 5 by omega) with rfl | rfl | rfl | rfl | rfl | rfl
    · exact cEmpty0 h p1
    · exact cEmpty1 h p1
    · exact cEmpty2 h p1
    · exact cEmpty3 h p1
    · exact cEmpty4 h p1
    · exact cEmpty5 h p1
/-- new horses, wagons, alarms -/
theorem okN.up {n : Nat} {c : Int32} (h : okN n c) : okN (n + 1) c := h.elim Or.inl (fun q => Or.inr (vp_le q (Nat.le_succ n)))
theorem newHorse_eq (Y : StY) (n : Nat) {k : Nat} (hk : k < 3) (p : Int32) : fX9_newHorse Y n (nI k) p = u3 (setr Y 20 n (hr0 (nI k))) 20 n 0 p := by
  unfold fX9_newHorse
  rcases (show k = 0 ∨ k = 1 ∨ k = 2 by omega) with rfl | rfl | rfl
  · rw [if_neg (by decide), if_neg (by decide)]
    rfl
  · rw [if_pos (by decide)]
    rfl
  · rw [if_neg (by decide), if_pos (by decide)]
    rfl
theorem RR.newHorse (h : RR nh nv na kk Y M) (hn : nh < 60) {k : Nat} (hk : k < 3) {t : Nat} (p : Int32) : RR (nh + 1) nv na kk (u3 (u3 (u3 (setr Y 20 nh (hr0 (nI k))) 20 nh 0 p) 1 0 t (nI nh)) 0 0 6 (nI (nh + 1))) (u3 (u3 (u3 (u3 M 1 0 nh (nI k)) 2 0 nh p) 11 0 t (nI nh)) 0 0 0 (nI (nh + 1))) := by
  obtain ⟨⟨i1, i2, i3, i4, i5, i6, i7, i8, i9, i10, i11, i12, i13, i14, i15, i16⟩, ⟨s1, s2, s3, s4, s5⟩, r2, r3, r4, r5, r6, r7, r8, r9, r10, r11, r12⟩ := h
  refine ⟨⟨⟨by omega, rfl⟩, i2, i3, i4, i5, fun y hy => ?_, fun y hy => ?_, i8, fun t' ht' y hy => (i9 t' ht' y hy).up, i10, i11, i12, i13, i14, i15, i16⟩, ⟨rfl, s2, s3, s4, s5⟩, fun y hy => ?_, r3, r4, r5, r6, r7, ⟨fun y hy => ?_, fun y h1 h2 => ?_⟩, r9, r10, r11, r12⟩
  · show okN (nh + 1) (u3 (u3 (setr Y 20 nh (hr0 (nI k))) 20 nh 0 p) 1 0 t (nI nh) 1 0 y)
    by_cases q : y = t
    · subst q
      rw [u3_rd]
      exact Or.inr (vp_in_nI (by omega) (by omega))
    · rw [u3_sl q]
      exact (i6 y hy).up
  · rcases i7 y hy with a | a | a
    · exact Or.inl a
    · exact Or.inr (Or.inl (vp_le a (Nat.le_succ nh)))
    · exact Or.inr (Or.inr a)
  · show u3 (u3 (u3 M 1 0 nh (nI k)) 2 0 nh p) 11 0 t (nI nh) 11 0 y = u3 (u3 (setr Y 20 nh (hr0 (nI k))) 20 nh 0 p) 1 0 t (nI nh) 1 0 y
    by_cases q : y = t
    · subst q
      rw [u3_rd, u3_rd]
    · rw [u3_sl q, u3_sl q]
      exact r2 y hy
  · by_cases q : y = nh
    · subst q
      obtain ⟨a, b, c, d⟩ := r8.2 y (Nat.le_refl y) hn
      refine ⟨?_, ?_, ?_, ?_, ?_, ?_, ?_⟩
      · simp [u3_at, setr, hr0]
      · simp [u3_at, setr, hr0]
        rcases (show k = 0 ∨ k = 1 ∨ k = 2 by omega) with rfl | rfl | rfl
        · exact Or.inl rfl
        · exact Or.inr (Or.inl rfl)
        · exact Or.inr (Or.inr rfl)
      · simp [u3_at, setr, hr0]
      · simp [u3_at, setr, hr0]; exact a
      · simp [u3_at, setr, hr0]; exact b
      · simp [u3_at, setr, hr0]; exact c
      · simp [u3_at, setr, hr0]; exact d
    · obtain ⟨a, b, c, d, e, f, g⟩ := r8.1 y (by omega)
      refine ⟨?_, ?_, ?_, ?_, ?_, ?_, ?_⟩ <;> simp [u3_at, setr, q] <;> assumption
  · have q : y ≠ nh := by omega
    obtain ⟨a, b, c, d⟩ := r8.2 y (by omega) h2
    exact ⟨a, b, c, d⟩
theorem cHorse (h : RC nh nv na kk Y M) (p0 p1 p2 : Int32) : (fX9_horse Y nh p0 p1 p2).1 = (fX10_horse M p0 p1 p2).1 ∧ ∃ n', RC n' nv na kk (fX9_horse Y nh p0 p1 p2).2 (fX10_horse M p0 p1 p2).2 := by
  unfold fX9_horse fX10_horse
  rw [in_wi p0 9 10 (by decide), in_wi p1 2 3 (by decide)]
  by_cases c0 : fX9_within p0 10 = 0
  · rw [if_pos c0, if_pos c0]
    exact ⟨rfl, nh, h⟩
  · rw [if_neg c0, if_neg c0]
    by_cases c1 : fX9_within p1 3 = 0
    · rw [if_pos c1, if_pos c1]
      exact ⟨rfl, nh, h⟩
    · rw [if_neg c1, if_neg c1]
      obtain ⟨t, ht, rfl⟩ := wi_ex (n := 10) (by decide) c0
      obtain ⟨k, hk, rfl⟩ := wi_ex (n := 3) (by decide) c1
      obtain ⟨n6, e6⟩ := h.1.inv.1
      rw [h.1.sc.1, nH_0, e6, newHorse_eq Y nh hk]
      by_cases c2 : nh < 60
      · rw [if_pos (show nI nh < 60 from nI_lt (b := 60) c2 (by decide)), if_neg (show ¬ nI nh = 60 from fun z => by have := (nI_eq (a := nh) (b := 60) (by omega) (by decide)).mp z; omega), nI_clamp (n := t) (by omega), nI_clamp (n := nh) (by omega), nI_1]
        exact ⟨rfl, nh + 1, h.1.newHorse c2 hk p2, h.2⟩
      · have e60 : nh = 60 := by omega
        subst e60
        rw [if_neg (by decide), if_pos (show nI 60 = 60 from rfl)]
        exact ⟨rfl, 60, h⟩
theorem RR.newWagon (h : RR nh nv na kk Y M) (hn : nv < 60) {t : Nat} (p : Int32) : RR nh (nv + 1) na kk (u3 (u3 (u3 (setr Y 21 nv (fun _ => 0)) 21 nv 0 p) 2 0 t (100 + nI nv)) 0 0 7 (nI (nv + 1))) (u3 (u3 (u3 M 8 0 nv p) 12 0 t (100 + nI nv)) 0 0 7 (nI (nv + 1))) := by
  obtain ⟨⟨i1, i2, i3, i4, i5, i6, i7, i8, i9, i10, i11, i12, i13, i14, i15, i16⟩, ⟨s1, s2, s3, s4, s5⟩, r2, r3, r4, r5, r6, r7, r8, r9, r10, r11, r12⟩ := h
  refine ⟨⟨i1, ⟨by omega, rfl⟩, i3, i4, i5, i6, fun y hy => ?_, i8, i9, i10, i11, i12, i13, i14, i15, i16⟩, ⟨s1, rfl, s3, s4, s5⟩, r2, fun y hy => ?_, r4, r5, r6, r7, r8, ⟨fun y hy => ?_, fun y h1 h2 => r9.2 y (by omega) h2⟩, r10, r11, r12⟩
  · show okV nh (nv + 1) (u3 (u3 (setr Y 21 nv (fun _ => 0)) 21 nv 0 p) 2 0 t (100 + nI nv) 2 0 y)
    by_cases q : y = t
    · subst q
      rw [u3_rd]
      exact Or.inr (Or.inr ⟨nv, by omega, by rw [show (100 : Int32) = nI 100 from rfl, nI_add]⟩)
    · rw [u3_sl q]
      rcases i7 y hy with a | a | ⟨j, hj, e⟩
      · exact Or.inl a
      · exact Or.inr (Or.inl a)
      · exact Or.inr (Or.inr ⟨j, by omega, e⟩)
  · show u3 (u3 M 8 0 nv p) 12 0 t (100 + nI nv) 12 0 y = u3 (u3 (setr Y 21 nv (fun _ => 0)) 21 nv 0 p) 2 0 t (100 + nI nv) 2 0 y
    by_cases q : y = t
    · subst q
      rw [u3_rd, u3_rd]
    · rw [u3_sl q, u3_sl q]
      exact r3 y hy
  · by_cases q : y = nv
    · subst q
      have a := r9.2 y (Nat.le_refl y) hn
      refine ⟨?_, ?_⟩
      · simp [u3_at, setr]
      · simp [u3_at, setr]; exact a
    · obtain ⟨a, b⟩ := r9.1 y (by omega)
      refine ⟨?_, ?_⟩ <;> simp [u3_at, setr, q] <;> assumption
theorem cWagon (h : RC nh nv na kk Y M) (p0 p1 : Int32) : (fX9_wagon Y nv p0 p1).1 = (fX10_wagon M p0 p1).1 ∧ ∃ n', RC nh n' na kk (fX9_wagon Y nv p0 p1).2 (fX10_wagon M p0 p1).2 := by
  unfold fX9_wagon fX10_wagon
  rw [in_wi p0 5 6 (by decide)]
  by_cases c0 : fX9_within p0 6 = 0
  · rw [if_pos c0, if_pos c0]
    exact ⟨rfl, nv, h⟩
  · rw [if_neg c0, if_neg c0]
    obtain ⟨t, ht, rfl⟩ := wi_ex (n := 6) (by decide) c0
    obtain ⟨n6, e6⟩ := h.1.inv.2.1
    rw [h.1.sc.2.1, show setr Y 21 nv (fun _ => 0) 0 0 7 = Y 0 0 7 from rfl, e6]
    by_cases c2 : nv < 60
    · rw [if_pos (show nI nv < 60 from nI_lt (b := 60) c2 (by decide)), if_neg (show ¬ nI nv = 60 from fun z => by have := (nI_eq (a := nv) (b := 60) (by omega) (by decide)).mp z; omega), nI_clamp (n := t) (by omega), nI_clamp (n := nv) (by omega), nI_1]
      exact ⟨rfl, nv + 1, h.1.newWagon c2 p1, h.2⟩
    · have e60 : nv = 60 := by omega
      subst e60
      rw [if_neg (by decide), if_pos (show nI 60 = 60 from rfl)]
      exact ⟨rfl, 60, h⟩
theorem RR.newAlarm (h : RR nh nv na kk Y M) (hn : na < 60) {t : Nat} (p : Int32) : RR nh nv (na + 1) kk (u3 (u3 (u3 (setr Y 22 na (fun _ => 0)) 22 na 0 p) 6 0 t (nI na)) 0 0 8 (nI (na + 1))) (u3 (u3 (u3 M 0 0 10 (nI (na + 1))) 22 0 t 1) 23 0 t p) := by
  obtain ⟨⟨i1, i2, i3, i4, i5, i6, i7, i8, i9, i10, i11, i12, i13, i14, i15, i16⟩, ⟨s1, s2, s3, s4, s5⟩, r2, r3, r4, r5, r6, r7, r8, r9, r10, r11, r12⟩ := h
  refine ⟨⟨i1, i2, ⟨by omega, rfl⟩, i4, i5, i6, i7, fun y hy => ?_, i9, i10, i11, i12, i13, i14, i15, i16⟩, ⟨s1, s2, rfl, s4, s5⟩, r2, r3, r4, r5, r6, fun y hy => ?_, r8, r9, r10, r11, r12⟩
  · show okN (na + 1) (u3 (u3 (setr Y 22 na (fun _ => 0)) 22 na 0 p) 6 0 t (nI na) 6 0 y)
    by_cases q : y = t
    · subst q
      rw [u3_rd]
      exact Or.inr (vp_in_nI (by omega) (by omega))
    · rw [u3_sl q]
      exact (i8 y hy).up
  · have e6 : u3 (u3 (u3 (setr Y 22 na (fun _ => 0)) 22 na 0 p) 6 0 t (nI na)) 0 0 8 (nI (na + 1)) 6 0 y = if y = t then nI na else Y 6 0 y := by
      simp [u3_at, setr]
    have e22 : ∀ c, u3 (u3 (u3 (setr Y 22 na (fun _ => 0)) 22 na 0 p) 6 0 t (nI na)) 0 0 8 (nI (na + 1)) 22 c 0 = if c = na then p else Y 22 c 0 := fun c => by
      by_cases q : c = na
      · subst q; simp [u3_at, setr]
      · simp [u3_at, setr, q]
    have m22 : u3 (u3 (u3 M 0 0 10 (nI (na + 1))) 22 0 t 1) 23 0 t p 22 0 y = if y = t then 1 else M 22 0 y := by
      simp [u3_at]
    have m23 : u3 (u3 (u3 M 0 0 10 (nI (na + 1))) 22 0 t 1) 23 0 t p 23 0 y = if y = t then p else M 23 0 y := by
      simp [u3_at]
    rw [e6, e22, m22, m23]
    by_cases q : y = t
    · rw [if_pos q, if_pos q, if_pos q]
      exact Or.inr ⟨nI_pos (by omega), rfl, by rw [nI_clamp (by omega), if_pos rfl]⟩
    · rw [if_neg q, if_neg q, if_neg q]
      rcases r7 y hy with a | ⟨a, b, c⟩
      · exact Or.inl a
      · have hlt := vp_lt ((i8 y hy).in a)
        exact Or.inr ⟨a, b, by rw [if_neg (Nat.ne_of_lt hlt)]; exact c⟩
theorem cHang (h : RC nh nv na kk Y M) (p0 p1 : Int32) : (fX9_hang Y na p0 p1).1 = (fX10_hang M p0 p1).1 ∧ ∃ n', RC nh nv n' kk (fX9_hang Y na p0 p1).2 (fX10_hang M p0 p1).2 := by
  unfold fX9_hang fX10_hang
  rw [in_wi p0 5 6 (by decide)]
  by_cases c0 : fX9_within p0 6 = 0
  · rw [if_pos c0, if_pos c0]
    exact ⟨rfl, na, h⟩
  · rw [if_neg c0, if_neg c0]
    obtain ⟨t, ht, rfl⟩ := wi_ex (n := 6) (by decide) c0
    obtain ⟨n6, e6⟩ := h.1.inv.2.2.1
    rw [h.1.sc.2.2.1, show setr Y 22 na (fun _ => 0) 0 0 8 = Y 0 0 8 from rfl, e6]
    by_cases c2 : na < 60
    · rw [if_pos (show nI na < 60 from nI_lt (b := 60) c2 (by decide)), if_neg (show ¬ nI na = 60 from fun z => by have := (nI_eq (a := na) (b := 60) (by omega) (by decide)).mp z; omega), nI_clamp (n := t) (by omega), nI_1]
      exact ⟨rfl, na + 1, h.1.newAlarm c2 p1, h.2⟩
    · have e60 : na = 60 := by omega
      subst e60
      rw [if_neg (by decide), if_pos (show nI 60 = 60 from rfl)]
      exact ⟨rfl, 60, h⟩
/-- a day -/
theorem lockD (hk : kk + 20 < 2 ^ 30) : ∀ (n i d f m : Nat) (Z Z' : StY), i ≤ 20 → i + n = 21 → d + f = i → RC nh nv na (kk + i) Z Z' → Z 0 0 10 = nI m → i ≤ m → m ≤ 20 → (gX9_day_4 n (nI i) (nI f) Z).1 = (gX10_day_6 n (nI i) (nI d) (nI f) Z').1 ∧ RC nh nv na (kk + 20) (gX9_day_4 n (nI i) (nI f) Z).2 (gX10_day_6 n (nI i) (nI d) (nI f) Z').2
  | 0, i, d, f, m, Z, Z', h1, h2, _, _, _, _, _ => absurd h2 (by omega)
  | n + 1, i, d, f, m, Z, Z', h1, h2, hdf, h, em, him, hm => by
    have e24 : Z' 0 0 24 = Z 0 0 10 := h.1.sc.2.2.2.1
    rw [gX9_day_4_s, gX10_day_6_s, e24, em]
    by_cases c0 : nI m ≤ nI i
    · rw [if_pos c0, if_pos c0]
      rw [nI_leI (by omega) (by omega)] at c0
      have e : m = d + f := by omega
      refine ⟨?_, h.more (by omega)⟩
      show nI m - nI f = nI d
      rw [e, pk_sub (by omega), Nat.add_sub_cancel]
    · rw [if_neg c0, if_neg c0]
      rw [nI_leI (by omega) (by omega)] at c0
      obtain ⟨⟨q, hq, eq⟩, t1, t2, t3, t4⟩ := h.1.tk i (by omega)
      rw [nI_clamp (n := i) (by omega), show (0 : Int32).toNatClampNeg = 0 from rfl, show (1 : Int32).toNatClampNeg = 1 from rfl, show (2 : Int32).toNatClampNeg = 2 from rfl, show (3 : Int32).toNatClampNeg = 3 from rfl, t1, t2, t3, t4, eq]
      have s := sim_at h hq (Z 8 i 1) (Z 8 i 2) (Z 8 i 3)
      generalize fX9_perform Z (nI q) (Z 8 i 1) (Z 8 i 2) (Z 8 i 3) = P at s ⊢
      generalize fX10_attempt Z' (nI q) (Z 8 i 1) (Z 8 i 2) (Z 8 i 3) = R at s ⊢
      obtain ⟨s1, s2, s3⟩ := s
      have cP : P.2 0 0 10 = nI m := by rw [← s2.1.sc.2.2.2.1, s3, e24, em]
      rw [s1]
      by_cases c1 : R.1 = 0
      · have c2 : ¬ R.1 = 6 := by rw [c1]; decide
        rw [if_pos c1, if_pos c1, if_neg c2, if_neg c2, nI_1, nI_1]
        exact lockD hk n (i + 1) (d + 1) f m P.2 R.2 (by omega) (by omega) (by omega) (s2.more (by omega)) cP (by omega) hm
      · have pd := sim_pd s2 (by omega) (nI i) R.1
        have cD : fX9_putDown P.2 (nI i) R.1 0 0 10 = nI m := by rw [← pd.1.1.sc.2.2.2.1, pd.2, s3, e24, em]
        rw [if_neg c1, if_neg c1]
        by_cases c4 : 40 ≤ R.2 0 0 29
        · rw [if_pos c4, ← pdM_hi (x := nI i) (f := R.1) c4]
          by_cases c2 : R.1 = 6
          · rw [if_pos c2, if_pos c2]
            exact ⟨rfl, pd.1.more (by omega)⟩
          · rw [if_neg c2, if_neg c2, nI_1, nI_1]
            exact lockD hk n (i + 1) d (f + 1) m _ _ (by omega) (by omega) (by omega) (pd.1.more (by omega)) cD (by omega) hm
        · rw [if_neg c4, ← pdM_lo (x := nI i) (f := R.1) c4]
          by_cases c2 : R.1 = 6
          · rw [if_pos c2, if_pos c2]
            exact ⟨rfl, pd.1.more (by omega)⟩
          · rw [if_neg c2, if_neg c2, nI_1, nI_1]
            exact lockD hk n (i + 1) d (f + 1) m _ _ (by omega) (by omega) (by omega) (pd.1.more (by omega)) cD (by omega) hm
theorem cDay (h : RC nh nv na kk Y M) (hk : kk + 20 < 2 ^ 30) : SC nh nv na (kk + 20) (fX9_day Y) (fX10_day M) := by
  obtain ⟨m, hm, em⟩ := h.1.inv.2.2.2.1
  have l := lockD hk 21 0 0 0 m Y M (by decide) (by decide) rfl h em (by omega) hm
  rw [nI_0] at l
  exact l
end SIME
