/-! empty: the sizes stand in a row of the class's own -/
def plcF (j : Nat) : Int32 := match j with
  | 0 => 10 | 1 => 6 | 2 => 6 | 3 => 4 | 4 => 4 | _ => 6
def ZP (tt : Nat) (A : Nat → Prop) (U : State) (H : Heap) : Prop := va_Z "RidingYard" "PLACES_OF_SORT" "[I" (.ref tt) A U H ∧ va_T .int tt 6 (fun j => .int (plcF j)) A U H
def PZ (D : va_G) (C : Nat → ClassId) (A : Nat → Prop) (G : Heap → Prop) (tt : Nat) : State → Prop := fun U => PW D C A G U ∧ ZP tt A U U.heap
theorem PZ.blind {D : va_G} {C : Nat → ClassId} {A : Nat → Prop} {G : Heap → Prop} {tt : Nat} {av : List Value} : FrameBlind (va_Pc av (PZ D C A G tt)) := fun a U g mk q => ⟨q.1, ⟨KK.calling g mk a q.2.1.1, q.2.1.2⟩, va_Z.moved (u := U) (U := U.calling g mk a) (Vm.Alike.refl U.vm) q.2.2.1, va_T.moved (u := U) (U := U.calling g mk a) (Vm.Alike.refl U.vm) q.2.2.2⟩
def fX9_empty (Y : Nat → Nat → Nat → Int32) (p0 p1 : Int32) : Int32 × (Nat → Nat → Nat → Int32) := if fX9_within p0 6 = 0 then (-1000000001, Y) else if fX9_within p1 (plcF p0.toNatClampNeg) = 0 then (-1000000001, Y) else (fX9_oneIf (fX9_holdsSomething Y p0 p1).1, fX9_takeAway Y p0 p1)
theorem hs_2 (Y : Nat → Nat → Nat → Int32) (p0 p1 : Int32) : (fX9_holdsSomething Y p0 p1).2 = Y := by
  unfold fX9_holdsSomething
  repeat' split
  all_goals rfl
theorem plc_in {p0 p1 : Int32} {N j : Nat} (h : ¬ fX9_within p1 (plcF p0.toNatClampNeg) = 0) (e : p0 = nI j) (hj : j < 6) (hN : (plcF j).toInt ≤ (N : Int)) : vp_in p1 N := by
  rw [e, nI_clamp (by omega)] at h
  exact wi_in h hN
theorem plc_5 {p0 : Int32} (h : ¬ fX9_within p0 6 = 0) (c0 : ¬ p0 = 0) (c1 : ¬ p0 = 1) (c2 : ¬ p0 = 2) (c3 : ¬ p0 = 3) (c4 : ¬ p0 = 4) : p0 = nI 5 := by
  have h2 := wi_in h (N := 6) (by decide)
  have h3 := vp_nI h2 (by decide)
  have h4 := vp_lt h2
  generalize p0.toNatClampNeg = j at h3 h4
  rcases (show j = 0 ∨ j = 1 ∨ j = 2 ∨ j = 3 ∨ j = 4 ∨ j = 5 by omega) with rfl | rfl | rfl | rfl | rfl | rfl
  · exact absurd h3 c0
  · exact absurd h3 c1
  · exact absurd h3 c2
  · exact absurd h3 c3
  · exact absurd h3 c4
  · exact h3
theorem hqX9_empty : yX9_empty.cls = RX9 ∧ yX9_empty.cls ≠ "java/lang/invoke/MethodHandle" ∧ yX9_empty.cls ≠ "java/lang/invoke/VarHandle" ∧ (parseMethodDescriptor yX9_empty.desc).map (fun d => d.parameters.length) = some 2 := by decide +kernel
set_option maxHeartbeats 4000000 in
set_option maxRecDepth 100000 in
theorem kX9_empty (l : Launch) (D : va_G) (C : Nat → ClassId) (A : Nat → Prop) (ad : Nat → Nat → Nat) (nh nv na : Nat) (Y : Nat → Nat → Nat → Int32) (p0 p1 : Int32) (kk tt : Nat) (hI : InvY nh nv na kk Y) : Met l yX9_empty wsX9_empty ({ frames := 1, cells := 0, slots := 0, locals := 22 }) (va_Pc [.ref (ad 0 0), .int p0, .int p1] (PZ D C A (nw D (enY C) (domY nh nv na) A ad Y) tt)) (nQ A (some (.int (fX9_empty Y p0 p1).1)) (nw D (enY C) (domY nh nv na) A ad (fX9_empty Y p0 p1).2)) 0 0 A := by
  refine Met.ofW (cc := cX9_empty) (maxL := 4) (ret := (some .int)) (by decide) rfl ?_
  intro p e s m args below meth c s₁ B hml hv
  obtain ⟨rfl, ⟨hK, hN, hA⟩, hZ, hT⟩ := hv
  have hx := B.exec
  have hb := B.bytes
  have hr := B.returns
  have hts := atoms_spec (ws := wsX9_empty) B.pre
  have hown : s.vm.findClass RX9 = some m.cls := findClass_of_methodNamed B.named
  have hlocks := B.notSynchronized
  have S : CallFix p m c cX9_empty 4 s _ wsX9_empty RX9 := ⟨hx, hb, hml, hown, hts⟩
  have hin9 : ∀ w ∈ wsX90, w ∈ wsX9_empty := (fun _ h => List.mem_cons_of_mem _ (List.mem_append_left _ (List.mem_append_left _ (List.mem_append_left _ (List.mem_append_right _ (h))))))
  have hin6 : ∀ w ∈ wsX60, w ∈ wsX9_empty := (fun _ h => List.mem_cons_of_mem _ (List.mem_append_left _ (List.mem_append_left _ (List.mem_append_right _ (h)))))
  have hin4 : ∀ w ∈ wsX40, w ∈ wsX9_empty := (fun _ h => List.mem_cons_of_mem _ (List.mem_append_left _ (List.mem_append_right _ (h))))
  have hin5 : ∀ w ∈ wsX50, w ∈ wsX9_empty := (fun _ h => List.mem_cons_of_mem _ (List.mem_append_right _ (h)))
  have hS : va_S A s.heap s.heap [] := va_S.rf
  have hl := lv_entry ([.ref (ad 0 0), .int p0, .int p1]) (n := 4) (Nat.le_of_ble_eq_true rfl)
  rw [lg_entry_eq]
  generalize (lg_sl ([.ref (ad 0 0), .int p0, .int p1]) ++ List.replicate (4 - (lg_sl ([.ref (ad 0 0), .int p0, .int p1])).length) Slot.unset).toArray = ls at hl ⊢
  have hl : lv_has ls 4 [(0, .ref (ad 0 0)), (1, .int p0), (2, .int p1)] := hl
  refine lv_iload_n hx hb dX9_empty_0 rfl (lv_at hl 1 rfl) ?_
  refine va_gets hx hb hZ hS hown (hts (.fieldLink RX9 89 "RidingYard" "PLACES_OF_SORT" "[I") (List.mem_cons_of_mem _ (List.mem_append_left _ (List.mem_append_left _ (List.mem_append_left _ (List.mem_append_left _ (List.mem_append_left _ (List.mem_of_getElem? (i := 0) rfl)))))))) (fun _ h => h) dX9_empty_1 ?_
  refine va_tlen hx hb hT hS (v := 6) rfl dX9_empty_4 ?_
  refine nw_callS (As := [.int p0, .int 6]) (rest := []) S (kX9_within l p0 6) gX9_empty_X9_within rfl ⟨rfl, rfl⟩ hqX9_within ⟨Nat.le_of_ble_eq_true rfl, Nat.le_of_ble_eq_true rfl⟩ rfl hl.1 rfl (Nat.le_of_ble_eq_true rfl) dX9_empty_5 ⟨Nat.le_of_ble_eq_true rfl, Nat.le_of_ble_eq_true rfl⟩ ?_
  refine lv_if_eq (x := fX9_within p0 6) (tgt := 23) hx hb dX9_empty_8 (by decide) (fun c_1 => ?_) (fun c_1 => ?_)
  · have hf : fX9_empty Y p0 p1 = (-1000000001, Y) := by unfold fX9_empty; rw [if_pos c_1]
    refine lv_ldc (v := (-1000000001)) hx hb hown (hts (.constant RX9 67 (-1000000001)) (List.mem_cons_of_mem _ (List.mem_append_left _ (List.mem_append_left _ (List.mem_append_left _ (List.mem_append_left _ (List.mem_append_left _ (List.mem_of_getElem? (i := 1) rfl)))))))) dX9_empty_23 ?_
    exact W.iret (v := -1000000001) hx hb hr (fun t ht _ => by rw [hf]; exact nw_end hS hN ht) hS.2.2 dX9_empty_25
  · refine lv_iload_n hx hb dX9_empty_11 rfl (lv_at hl 2 rfl) ?_
    refine va_gets hx hb hZ hS hown (hts (.fieldLink RX9 89 "RidingYard" "PLACES_OF_SORT" "[I") (List.mem_cons_of_mem _ (List.mem_append_left _ (List.mem_append_left _ (List.mem_append_left _ (List.mem_append_left _ (List.mem_append_left _ (List.mem_of_getElem? (i := 0) rfl)))))))) (fun _ h => h) dX9_empty_12 ?_
    refine lv_iload_n hx hb dX9_empty_15 rfl (lv_at hl 1 rfl) ?_
    refine va_ti hx hb hT hS (i := p0) (wi_in c_1 (by decide)) rfl dX9_empty_16 ?_
    refine nw_callS (As := [.int p1, .int (plcF p0.toNatClampNeg)]) (rest := []) S (kX9_within l p1 (plcF p0.toNatClampNeg)) gX9_empty_X9_within rfl ⟨rfl, rfl⟩ hqX9_within ⟨Nat.le_of_ble_eq_true rfl, Nat.le_of_ble_eq_true rfl⟩ rfl hl.1 rfl (Nat.le_of_ble_eq_true rfl) dX9_empty_17 ⟨Nat.le_of_ble_eq_true rfl, Nat.le_of_ble_eq_true rfl⟩ ?_
    refine lv_if_ne (x := fX9_within p1 (plcF p0.toNatClampNeg)) (tgt := 26) hx hb dX9_empty_20 (by decide) (fun c_2 => ?_) (fun c_2 => ?_)
    · refine lv_aload_n hx hb dX9_empty_26 rfl (lv_at hl 0 rfl) ?_
      refine lv_iload_n hx hb dX9_empty_27 rfl (lv_at hl 1 rfl) ?_
      refine lv_iload_n hx hb dX9_empty_28 rfl (lv_at hl 2 rfl) ?_
      refine nwY_calli (As := [.int p0, .int p1]) (rest := []) S (kX9_holdsSomething l D C A ad nh nv na Y p0 p1 kk hI (fun c => plc_in c_2 c (by decide) (by decide)) (fun c => plc_in c_2 c (by decide) (by decide)) (fun c => plc_in c_2 c (by decide) (by decide)) (fun c => plc_in c_2 c (by decide) (by decide)) (fun c => plc_in c_2 c (by decide) (by decide)) (fun q0 q1 q2 q3 q4 => plc_in c_2 (plc_5 c_1 q0 q1 q2 q3 q4) (by decide) (by decide))) gX9_empty_X9_holdsSomething rfl ⟨rfl, rfl⟩ hqX9_holdsSomething ⟨Nat.le_of_ble_eq_true rfl, Nat.le_of_ble_eq_true rfl⟩ hK (nw_recv hK hN (k := 0) (i := 0) ⟨by decide, rfl⟩ rfl rfl) hN hA hS rfl hl.1 rfl (Nat.le_of_ble_eq_true rfl) dX9_empty_29 ⟨Nat.le_of_ble_eq_true rfl, Nat.le_of_ble_eq_true rfl⟩ (fun H locs hN hS => ?_)
      replace hN := hN.to (hs_2 Y p0 p1)
      refine lv_istore_n (lv' := [(3, .int ((fX9_holdsSomething Y p0 p1).1)), (0, .ref (ad 0 0)), (1, .int p0), (2, .int p1)]) hx hb dX9_empty_32 rfl hl (by decide) rfl (fun ls hl => ?_)
      refine lv_aload_n hx hb dX9_empty_33 rfl (lv_at hl 1 rfl) ?_
      refine lv_iload_n hx hb dX9_empty_34 rfl (lv_at hl 2 rfl) ?_
      refine lv_iload_n hx hb dX9_empty_35 rfl (lv_at hl 3 rfl) ?_
      refine nwY_callv (As := [.int p0, .int p1]) (rest := []) S (kX9_takeAway l D C A ad nh nv na Y p0 p1 (fun c => plc_in c_2 c (by decide) (by decide)) (fun c => plc_in c_2 c (by decide) (by decide)) (fun c => plc_in c_2 c (by decide) (by decide)) (fun c => plc_in c_2 c (by decide) (by decide)) (fun c => plc_in c_2 c (by decide) (by decide)) (fun q0 q1 q2 q3 q4 => plc_in c_2 (plc_5 c_1 q0 q1 q2 q3 q4) (by decide) (by decide))) gX9_empty_X9_takeAway rfl ⟨rfl, rfl⟩ hqX9_takeAway ⟨Nat.le_of_ble_eq_true rfl, Nat.le_of_ble_eq_true rfl⟩ hK (nw_recv hK hN (k := 0) (i := 0) ⟨by decide, rfl⟩ rfl rfl) hN hA hS rfl hl.1 rfl (Nat.le_of_ble_eq_true rfl) dX9_empty_36 ⟨Nat.le_of_ble_eq_true rfl, Nat.le_of_ble_eq_true rfl⟩ (fun H locs hN hS => ?_)
      refine lv_iload_n hx hb dX9_empty_39 rfl (lv_at hl 0 rfl) ?_
      refine nw_callS (As := [.int (fX9_holdsSomething Y p0 p1).1]) (rest := []) S (kX9_oneIf l (fX9_holdsSomething Y p0 p1).1) gX9_empty_X9_oneIf rfl ⟨rfl, rfl⟩ hqX9_oneIf ⟨Nat.le_of_ble_eq_true rfl, Nat.le_of_ble_eq_true rfl⟩ rfl hl.1 rfl (Nat.le_of_ble_eq_true rfl) dX9_empty_40 ⟨Nat.le_of_ble_eq_true rfl, Nat.le_of_ble_eq_true rfl⟩ ?_
      have hf : fX9_empty Y p0 p1 = (fX9_oneIf (fX9_holdsSomething Y p0 p1).1, fX9_takeAway Y p0 p1) := by unfold fX9_empty; rw [if_neg c_1, if_neg c_2]
      exact W.iret (v := fX9_oneIf (fX9_holdsSomething Y p0 p1).1) hx hb hr (fun t ht _ => by rw [hf]; exact nw_end hS hN ht) hS.2.2 dX9_empty_43
    · have hf : fX9_empty Y p0 p1 = (-1000000001, Y) := by unfold fX9_empty; rw [if_neg c_1, if_pos c_2]
      refine lv_ldc (v := (-1000000001)) hx hb hown (hts (.constant RX9 67 (-1000000001)) (List.mem_cons_of_mem _ (List.mem_append_left _ (List.mem_append_left _ (List.mem_append_left _ (List.mem_append_left _ (List.mem_append_left _ (List.mem_of_getElem? (i := 1) rfl)))))))) dX9_empty_23 ?_
      exact W.iret (v := -1000000001) hx hb hr (fun t ht _ => by rw [hf]; exact nw_end hS hN ht) hS.2.2 dX9_empty_25
