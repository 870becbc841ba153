theorem rgp_wt (p0 p1 : Int32) : ∀ (n : Nat) (x y : Int32) (Z : Nat → Nat → Nat → Int32), rgp (gX9_workTeam_21 p0 p1 n x y Z)
  | 0, _, _, _ => vp7_0
  | n + 1, x, y, Z => by
    rw [gX9_workTeam_21_s]
    exact rgp.ite (rgp.mk vp7_0) (rgp.ite (rgp.mk vp7_1) (rgp.ite (rgp_wt p0 p1 n _ _ _) (rgp.ite (rgp_wt p0 p1 n _ _ _) (rgp_wt p0 p1 n _ _ _))))
theorem rgp_feedHorse (Y : Nat → Nat → Nat → Int32) (p0 p1 : Int32) : rgp (fX9_feedHorse Y p0 p1) := by
  unfold fX9_feedHorse
  repeat' with_reducible apply rgp.ite
  all_goals first | exact rgp.mk vp7_0 | exact rgp.mk vp7_1 | exact rgp.mk vp7_2 | exact rgp.mk vp7_3 | exact rgp.mk vp7_4 | exact rgp.mk vp7_5 | exact rgp.mk vp7_6
theorem rgp_askStrength (Y : Nat → Nat → Nat → Int32) (p0 : Int32) : rgp (fX9_askStrength Y p0) := by
  unfold fX9_askStrength
  repeat' with_reducible apply rgp.ite
  all_goals first | exact rgp.mk vp7_0 | exact rgp.mk vp7_1 | exact rgp.mk vp7_2 | exact rgp.mk vp7_3 | exact rgp.mk vp7_4 | exact rgp.mk vp7_5 | exact rgp.mk vp7_6
theorem rgp_coverHorse (Y : Nat → Nat → Nat → Int32) (p0 p1 : Int32) : rgp (fX9_coverHorse Y p0 p1) := by
  unfold fX9_coverHorse
  repeat' with_reducible apply rgp.ite
  all_goals first | exact rgp.mk vp7_0 | exact rgp.mk vp7_1 | exact rgp.mk vp7_2 | exact rgp.mk vp7_3 | exact rgp.mk vp7_4 | exact rgp.mk vp7_5 | exact rgp.mk vp7_6
theorem rgp_groomHorse (Y : Nat → Nat → Nat → Int32) (p0 : Int32) : rgp (fX9_groomHorse Y p0) := by
  unfold fX9_groomHorse
  repeat' with_reducible apply rgp.ite
  all_goals first | exact rgp.mk vp7_0 | exact rgp.mk vp7_1 | exact rgp.mk vp7_2 | exact rgp.mk vp7_3 | exact rgp.mk vp7_4 | exact rgp.mk vp7_5 | exact rgp.mk vp7_6
theorem rgp_workInShed (Y : Nat → Nat → Nat → Int32) (p0 p1 : Int32) : rgp (fX9_workInShed Y p0 p1) := by
  unfold fX9_workInShed
  repeat' with_reducible apply rgp.ite
  all_goals first | exact rgp.mk vp7_0 | exact rgp.mk vp7_1 | exact rgp.mk vp7_2 | exact rgp.mk vp7_3 | exact rgp.mk vp7_4 | exact rgp.mk vp7_5 | exact rgp.mk vp7_6
theorem rgp_askStrengthInShed (Y : Nat → Nat → Nat → Int32) (p0 : Int32) : rgp (fX9_askStrengthInShed Y p0) := by
  unfold fX9_askStrengthInShed
  repeat' with_reducible apply rgp.ite
  all_goals first | exact rgp.mk vp7_0 | exact rgp.mk vp7_1 | exact rgp.mk vp7_2 | exact rgp.mk vp7_3 | exact rgp.mk vp7_4 | exact rgp.mk vp7_5 | exact rgp.mk vp7_6
theorem rgp_askRugOfHunter (Y : Nat → Nat → Nat → Int32) (p0 : Int32) : rgp (fX9_askRugOfHunter Y p0) := by
  unfold fX9_askRugOfHunter
  repeat' with_reducible apply rgp.ite
  all_goals first | exact rgp.mk vp7_0 | exact rgp.mk vp7_1 | exact rgp.mk vp7_2 | exact rgp.mk vp7_3 | exact rgp.mk vp7_4 | exact rgp.mk vp7_5 | exact rgp.mk vp7_6
theorem rgp_formTeam (Y : Nat → Nat → Nat → Int32) (p0 p1 p2 : Int32) : rgp (fX9_formTeam Y p0 p1 p2) := by
  unfold fX9_formTeam
  repeat' with_reducible apply rgp.ite
  all_goals first | exact rgp.mk vp7_0 | exact rgp.mk vp7_1 | exact rgp.mk vp7_2 | exact rgp.mk vp7_3 | exact rgp.mk vp7_4 | exact rgp.mk vp7_5 | exact rgp.mk vp7_6
theorem rgp_putInTeam (Y : Nat → Nat → Nat → Int32) (p0 p1 p2 : Int32) : rgp (fX9_putInTeam Y p0 p1 p2) := by
  unfold fX9_putInTeam
  repeat' with_reducible apply rgp.ite
  all_goals first | exact rgp.mk vp7_0 | exact rgp.mk vp7_1 | exact rgp.mk vp7_2 | exact rgp.mk vp7_3 | exact rgp.mk vp7_4 | exact rgp.mk vp7_5 | exact rgp.mk vp7_6
theorem rgp_takeFromTeam (Y : Nat → Nat → Nat → Int32) (p0 p1 p2 : Int32) : rgp (fX9_takeFromTeam Y p0 p1 p2) := by
  unfold fX9_takeFromTeam
  repeat' with_reducible apply rgp.ite
  all_goals first | exact rgp.mk vp7_0 | exact rgp.mk vp7_1 | exact rgp.mk vp7_2 | exact rgp.mk vp7_3 | exact rgp.mk vp7_4 | exact rgp.mk vp7_5 | exact rgp.mk vp7_6
theorem rgp_askPlaces (Y : Nat → Nat → Nat → Int32) (p0 : Int32) : rgp (fX9_askPlaces Y p0) := by
  unfold fX9_askPlaces
  repeat' with_reducible apply rgp.ite
  all_goals first | exact rgp.mk vp7_0 | exact rgp.mk vp7_1 | exact rgp.mk vp7_2 | exact rgp.mk vp7_3 | exact rgp.mk vp7_4 | exact rgp.mk vp7_5 | exact rgp.mk vp7_6
theorem rgp_workTeam (Y : Nat → Nat → Nat → Int32) (p0 p1 : Int32) : rgp (fX9_workTeam Y p0 p1) := by
  unfold fX9_workTeam
  repeat' with_reducible apply rgp.ite
  all_goals first | with_reducible exact rgp_wt _ _ _ _ _ _ | exact rgp.mk vp7_0 | exact rgp.mk vp7_1 | exact rgp.mk vp7_2 | exact rgp.mk vp7_3 | exact rgp.mk vp7_4 | exact rgp.mk vp7_5 | exact rgp.mk vp7_6
theorem rgp_openLedger (Y : Nat → Nat → Nat → Int32) (p0 p1 : Int32) : rgp (fX9_openLedger Y p0 p1) := by
  unfold fX9_openLedger
  repeat' with_reducible apply rgp.ite
  all_goals first | exact rgp.mk vp7_0 | exact rgp.mk vp7_1 | exact rgp.mk vp7_2 | exact rgp.mk vp7_3 | exact rgp.mk vp7_4 | exact rgp.mk vp7_5 | exact rgp.mk vp7_6
theorem rgp_addInLedger (Y : Nat → Nat → Nat → Int32) (p0 p1 p2 : Int32) : rgp (fX9_addInLedger Y p0 p1 p2) := by
  unfold fX9_addInLedger
  repeat' with_reducible apply rgp.ite
  all_goals first | exact rgp.mk vp7_0 | exact rgp.mk vp7_1 | exact rgp.mk vp7_2 | exact rgp.mk vp7_3 | exact rgp.mk vp7_4 | exact rgp.mk vp7_5 | exact rgp.mk vp7_6
theorem rgp_sumLedger (Y : Nat → Nat → Nat → Int32) (p0 : Int32) : rgp (fX9_sumLedger Y p0) := by
  unfold fX9_sumLedger
  repeat' with_reducible apply rgp.ite
  all_goals first | exact rgp.mk vp7_0 | exact rgp.mk vp7_1 | exact rgp.mk vp7_2 | exact rgp.mk vp7_3 | exact rgp.mk vp7_4 | exact rgp.mk vp7_5 | exact rgp.mk vp7_6
theorem rgp_setTable (Y : Nat → Nat → Nat → Int32) (p0 p1 p2 : Int32) : rgp (fX9_setTable Y p0 p1 p2) := by
  unfold fX9_setTable
  repeat' with_reducible apply rgp.ite
  all_goals first | exact rgp.mk vp7_0 | exact rgp.mk vp7_1 | exact rgp.mk vp7_2 | exact rgp.mk vp7_3 | exact rgp.mk vp7_4 | exact rgp.mk vp7_5 | exact rgp.mk vp7_6
theorem rgp_markTable (Y : Nat → Nat → Nat → Int32) (p0 p1 p2 : Int32) : rgp (fX9_markTable Y p0 p1 p2) := by
  unfold fX9_markTable
  repeat' with_reducible apply rgp.ite
  all_goals first | exact rgp.mk vp7_0 | exact rgp.mk vp7_1 | exact rgp.mk vp7_2 | exact rgp.mk vp7_3 | exact rgp.mk vp7_4 | exact rgp.mk vp7_5 | exact rgp.mk vp7_6
theorem rgp_raiseAlarm (Y : Nat → Nat → Nat → Int32) (p0 : Int32) : rgp (fX9_raiseAlarm Y p0) := by
  unfold fX9_raiseAlarm
  repeat' with_reducible apply rgp.ite
  all_goals first | exact rgp.mk vp7_0 | exact rgp.mk vp7_1 | exact rgp.mk vp7_2 | exact rgp.mk vp7_3 | exact rgp.mk vp7_4 | exact rgp.mk vp7_5 | exact rgp.mk vp7_6
theorem fault_rng (Y : Nat → Nat → Nat → Int32) (p0 p1 p2 p3 : Int32) : vp_in (fX9_faultOf Y p0 p1 p2 p3).1 7 := by
  show rgp (fX9_faultOf Y p0 p1 p2 p3)
  unfold fX9_faultOf
  repeat' with_reducible apply rgp.ite
  all_goals first | with_reducible exact rgp.eta (rgp_feedHorse _ _ _) | with_reducible exact rgp.eta (rgp_askStrength _ _) | with_reducible exact rgp.eta (rgp_coverHorse _ _ _) | with_reducible exact rgp.eta (rgp_groomHorse _ _) | with_reducible exact rgp.eta (rgp_workInShed _ _ _) | with_reducible exact rgp.eta (rgp_askStrengthInShed _ _) | with_reducible exact rgp.eta (rgp_askRugOfHunter _ _) | with_reducible exact rgp.eta (rgp_formTeam _ _ _ _) | with_reducible exact rgp.eta (rgp_putInTeam _ _ _ _) | with_reducible exact rgp.eta (rgp_takeFromTeam _ _ _ _) | with_reducible exact rgp.eta (rgp_askPlaces _ _) | with_reducible exact rgp.eta (rgp_workTeam _ _ _) | with_reducible exact rgp.eta (rgp_openLedger _ _ _) | with_reducible exact rgp.eta (rgp_addInLedger _ _ _ _) | with_reducible exact rgp.eta (rgp_sumLedger _ _) | with_reducible exact rgp.eta (rgp_setTable _ _ _ _) | with_reducible exact rgp.eta (rgp_markTable _ _ _ _) | with_reducible exact rgp.eta (rgp_raiseAlarm _ _)
