def hr0 (k : Int32) : Nat → Int32 := fun j => if j = 5 then k else 0
def fX9_newHorse (Y : Nat → Nat → Nat → Int32) (nh : Nat) (p0 p1 : Int32) : Nat → Nat → Nat → Int32 := if p0 = 1 then u3 (setr Y 20 nh (hr0 1)) 20 nh 0 p1 else if p0 = 2 then u3 (setr Y 20 nh (hr0 2)) 20 nh 0 p1 else u3 (setr Y 20 nh (hr0 0)) 20 nh 0 p1
theorem hqX9_newHorse : yX9_newHorse.cls ≠ "java/lang/invoke/MethodHandle" ∧ yX9_newHorse.cls ≠ "java/lang/invoke/VarHandle" ∧ (parseMethodDescriptor yX9_newHorse.desc).map (fun d => d.parameters.length) = some 2 := by decide +kernel
set_option maxHeartbeats 4000000 in
set_option maxRecDepth 100000 in
theorem kX9_newHorse (l : Launch) (D : va_G) (C : Nat → ClassId) (A : Nat → Prop) (ad : Nat → Nat → Nat) (nh nv na : Nat) (Y : Nat → Nat → Nat → Int32) (sz kk : Nat) (hI : InvY nh nv na kk Y) (p0 p1 : Int32) : Met l yX9_newHorse wsX9_newHorse ({ frames := 5, cells := 1, slots := 5, locals := 95 }) (va_Pc [.int p0, .int p1] (PW D C A (fun H => H.size = sz ∧ nw D (enY C) (domY nh nv na) A ad Y H))) (nQ A (some (.ref (adset ad 20 nh sz 20 nh))) (nw D (enY C) (domY (nh + 1) nv na) A (adset ad 20 nh sz) (fX9_newHorse Y nh p0 p1))) 1 5 A := by
  refine Met.ofW (cc := cX9_newHorse) (maxL := 2) (ret := (some (.object "RidingYard$Horse"))) (by decide) rfl ?_
  intro p e s m args below meth c s₁ B hml hv
  obtain ⟨rfl, hK, ⟨hsz, hN⟩, hA⟩ := hv
  subst hsz
  have hx := B.exec
  have hb := B.bytes
  have hr := B.returns
  have hts := atoms_spec (ws := wsX9_newHorse) B.pre
  have hown : s.vm.findClass RX9 = some m.cls := findClass_of_methodNamed B.named
  have hlocks := B.notSynchronized
  have S : CallFix p m c cX9_newHorse 2 s _ wsX9_newHorse RX9 := ⟨hx, hb, hml, hown, hts⟩
  have hin1 : ∀ w ∈ wsX10, w ∈ wsX9_newHorse := (fun _ h => List.mem_cons_of_mem _ (List.mem_append_left _ (List.mem_append_left _ (List.mem_append_right _ (h)))))
  have hin2 : ∀ w ∈ wsX20, w ∈ wsX9_newHorse := (fun _ h => List.mem_cons_of_mem _ (List.mem_append_right _ (h)))
  have hin3 : ∀ w ∈ wsX30, w ∈ wsX9_newHorse := (fun _ h => List.mem_cons_of_mem _ (List.mem_append_left _ (List.mem_append_right _ (h))))
  have hS : va_S A s.heap s.heap [] := va_S.rf
  have hl := lv_entry ([.int p0, .int p1]) (n := 2) (Nat.le_of_ble_eq_true rfl)
  rw [lg_entry_eq]
  generalize (lg_sl ([.int p0, .int p1]) ++ List.replicate (2 - (lg_sl ([.int p0, .int p1])).length) Slot.unset).toArray = ls at hl ⊢
  have hl : lv_has ls 2 [(0, .int p0), (1, .int p1)] := hl
  refine lv_iload_n hx hb dX9_newHorse_0 rfl (lv_at hl 0 rfl) ?_
  by_cases c_1 : p0 = 1
  · have hf : fX9_newHorse Y nh p0 p1 = u3 (setr Y 20 nh (hr0 1)) 20 nh 0 p1 := by unfold fX9_newHorse; rw [if_pos c_1]
    refine lv_lookup (x := p0) (tgt := 28) (off := 27) hx hb dX9_newHorse_1 (by decide) (by rw [c_1]; decide) (by decide) ?_
    refine nw_newO S hK hN hS hA 20 nh (dom' := domY (nh + 1) nv na) (ci := 1) (CN := RX1) (T := TX1) (N := 5) rfl hin1 tyX1 tyX1_ok (List.mem_cons_of_mem _ (List.mem_append_left _ (List.mem_append_left _ (List.mem_append_left _ (List.mem_append_left _ (List.mem_of_getElem? (i := 0) rfl)))))) (List.mem_cons_of_mem _ (List.mem_append_left _ (List.mem_append_left _ (List.mem_append_left _ (List.mem_append_left _ (List.mem_of_getElem? (i := 1) rfl)))))) (List.mem_cons_of_mem _ (List.mem_append_left _ (List.mem_append_left _ (List.mem_append_left _ (List.mem_append_left _ (List.mem_of_getElem? (i := 2) rfl)))))) dom20 (Nat.lt_irrefl _) (fun H1 => hold20 hI _) (r := hr0 1) (enH1 rfl) (fun j hj => by rcases (show j = 0 ∨ j = 1 ∨ j = 2 ∨ j = 3 ∨ j = 4 by omega) with rfl | rfl | rfl | rfl | rfl <;> rfl) (Nat.le_of_ble_eq_true rfl) (Nat.le_of_ble_eq_true rfl) dX9_newHorse_28 (fun H hN hz hS => ?_)
    refine lv_dup hx hb dX9_newHorse_31 rfl ?_
    refine lv_iload_n hx hb dX9_newHorse_32 rfl (lv_at hl 1 rfl) ?_
    refine nwY_callI (As := [.int p1]) (rest := [.ref (adset ad 20 nh s.heap.size 20 nh)]) S (kX1_init l D C A (adset ad 20 nh s.heap.size) (nh + 1) nv na (setr Y 20 nh (hr0 1)) nh (Nat.lt_succ_self nh) p1) (cwI 1 hts gX9_newHorse_X1_init rfl rfl rfl (hts (.initialized RX1) (List.mem_cons_of_mem _ (List.mem_append_left _ (List.mem_append_left _ (List.mem_append_left _ (List.mem_append_left _ (List.mem_of_getElem? (i := 2) rfl))))))) (hts (.methodLink RX9 155 yX1_init) (List.mem_cons_of_mem _ (List.mem_append_left _ (List.mem_append_left _ (List.mem_append_left _ (List.mem_append_left _ (List.mem_of_getElem? (i := 9) rfl))))))) (hts (.instanceMethod yX1_init) (List.mem_cons_of_mem _ (List.mem_append_left _ (List.mem_append_left _ (List.mem_append_left _ (List.mem_append_left _ (List.mem_of_getElem? (i := 10) rfl))))))) rfl (by decide +kernel) ⟨Nat.le_of_ble_eq_true rfl, Nat.le_of_ble_eq_true rfl⟩) hK hN hA hS rfl hl.1 rfl (Nat.le_of_ble_eq_true rfl) dX9_newHorse_33 ⟨Nat.le_of_ble_eq_true rfl, Nat.le_of_ble_eq_true rfl⟩ (fun H locs hN hS => ?_)
    exact W.aret (v := .ref (adset ad 20 nh s.heap.size 20 nh)) hx hb hr (Or.inl ⟨_, rfl⟩) (Or.inr ⟨_, rfl⟩) (fun t ht _ => by rw [hf]; exact nw_end hS hN ht) hS.2.2 dX9_newHorse_36
  · by_cases c_2 : p0 = 2
    · have hf : fX9_newHorse Y nh p0 p1 = u3 (setr Y 20 nh (hr0 2)) 20 nh 0 p1 := by unfold fX9_newHorse; rw [if_neg c_1, if_pos c_2]
      refine lv_lookup (x := p0) (tgt := 37) (off := 36) hx hb dX9_newHorse_1 (by decide) (by rw [c_2]; decide) (by decide) ?_
      refine nw_newO S hK hN hS hA 20 nh (dom' := domY (nh + 1) nv na) (ci := 3) (CN := RX3) (T := TX3) (N := 5) rfl hin3 tyX3 tyX3_ok (List.mem_cons_of_mem _ (List.mem_append_left _ (List.mem_append_left _ (List.mem_append_left _ (List.mem_append_left _ (List.mem_of_getElem? (i := 3) rfl)))))) (List.mem_cons_of_mem _ (List.mem_append_left _ (List.mem_append_left _ (List.mem_append_left _ (List.mem_append_left _ (List.mem_of_getElem? (i := 4) rfl)))))) (List.mem_cons_of_mem _ (List.mem_append_left _ (List.mem_append_left _ (List.mem_append_left _ (List.mem_append_left _ (List.mem_of_getElem? (i := 5) rfl)))))) dom20 (Nat.lt_irrefl _) (fun H1 => hold20 hI _) (r := hr0 2) (enH2 (by decide) (by decide)) (fun j hj => by rcases (show j = 0 ∨ j = 1 ∨ j = 2 ∨ j = 3 ∨ j = 4 by omega) with rfl | rfl | rfl | rfl | rfl <;> rfl) (Nat.le_of_ble_eq_true rfl) (Nat.le_of_ble_eq_true rfl) dX9_newHorse_37 (fun H hN hz hS => ?_)
      refine lv_dup hx hb dX9_newHorse_40 rfl ?_
      refine lv_iload_n hx hb dX9_newHorse_41 rfl (lv_at hl 1 rfl) ?_
      refine nwY_callI (As := [.int p1]) (rest := [.ref (adset ad 20 nh s.heap.size 20 nh)]) S (kX3_init l D C A (adset ad 20 nh s.heap.size) (nh + 1) nv na (setr Y 20 nh (hr0 2)) nh (Nat.lt_succ_self nh) p1) (cwI 1 hts gX9_newHorse_X3_init rfl rfl rfl (hts (.initialized RX3) (List.mem_cons_of_mem _ (List.mem_append_left _ (List.mem_append_left _ (List.mem_append_left _ (List.mem_append_left _ (List.mem_of_getElem? (i := 5) rfl))))))) (hts (.methodLink RX9 158 yX3_init) (List.mem_cons_of_mem _ (List.mem_append_left _ (List.mem_append_left _ (List.mem_append_left _ (List.mem_append_left _ (List.mem_of_getElem? (i := 22) rfl))))))) (hts (.instanceMethod yX3_init) (List.mem_cons_of_mem _ (List.mem_append_left _ (List.mem_append_left _ (List.mem_append_left _ (List.mem_append_left _ (List.mem_of_getElem? (i := 23) rfl))))))) rfl (by decide +kernel) ⟨Nat.le_of_ble_eq_true rfl, Nat.le_of_ble_eq_true rfl⟩) hK hN hA hS rfl hl.1 rfl (Nat.le_of_ble_eq_true rfl) dX9_newHorse_42 ⟨Nat.le_of_ble_eq_true rfl, Nat.le_of_ble_eq_true rfl⟩ (fun H locs hN hS => ?_)
      exact W.aret (v := .ref (adset ad 20 nh s.heap.size 20 nh)) hx hb hr (Or.inl ⟨_, rfl⟩) (Or.inr ⟨_, rfl⟩) (fun t ht _ => by rw [hf]; exact nw_end hS hN ht) hS.2.2 dX9_newHorse_45
    · have hf : fX9_newHorse Y nh p0 p1 = u3 (setr Y 20 nh (hr0 0)) 20 nh 0 p1 := by unfold fX9_newHorse; rw [if_neg c_1, if_neg c_2]
      refine lv_lookup (x := p0) (tgt := 46) (off := 45) hx hb dX9_newHorse_1 (by decide) (by rw [lv_osw c_1 (by decide), lv_osw c_2 (by decide)]; rfl) (by decide) ?_
      refine nw_newO S hK hN hS hA 20 nh (dom' := domY (nh + 1) nv na) (ci := 2) (CN := RX2) (T := TX2) (N := 5) rfl hin2 tyX2 tyX2_ok (List.mem_cons_of_mem _ (List.mem_append_left _ (List.mem_append_left _ (List.mem_append_left _ (List.mem_append_left _ (List.mem_of_getElem? (i := 6) rfl)))))) (List.mem_cons_of_mem _ (List.mem_append_left _ (List.mem_append_left _ (List.mem_append_left _ (List.mem_append_left _ (List.mem_of_getElem? (i := 7) rfl)))))) (List.mem_cons_of_mem _ (List.mem_append_left _ (List.mem_append_left _ (List.mem_append_left _ (List.mem_append_left _ (List.mem_of_getElem? (i := 8) rfl)))))) dom20 (Nat.lt_irrefl _) (fun H1 => hold20 hI _) (r := hr0 0) (enH0 rfl) (fun j hj => by rcases (show j = 0 ∨ j = 1 ∨ j = 2 ∨ j = 3 ∨ j = 4 by omega) with rfl | rfl | rfl | rfl | rfl <;> rfl) (Nat.le_of_ble_eq_true rfl) (Nat.le_of_ble_eq_true rfl) dX9_newHorse_46 (fun H hN hz hS => ?_)
      refine lv_dup hx hb dX9_newHorse_49 rfl ?_
      refine lv_iload_n hx hb dX9_newHorse_50 rfl (lv_at hl 1 rfl) ?_
      refine nwY_callI (As := [.int p1]) (rest := [.ref (adset ad 20 nh s.heap.size 20 nh)]) S (kX2_init l D C A (adset ad 20 nh s.heap.size) (nh + 1) nv na (setr Y 20 nh (hr0 0)) nh (Nat.lt_succ_self nh) p1) (cwI 1 hts gX9_newHorse_X2_init rfl rfl rfl (hts (.initialized RX2) (List.mem_cons_of_mem _ (List.mem_append_left _ (List.mem_append_left _ (List.mem_append_left _ (List.mem_append_left _ (List.mem_of_getElem? (i := 8) rfl))))))) (hts (.methodLink RX9 159 yX2_init) (List.mem_cons_of_mem _ (List.mem_append_left _ (List.mem_append_left _ (List.mem_append_left _ (List.mem_append_right _ (List.mem_of_getElem? (i := 2) rfl))))))) (hts (.instanceMethod yX2_init) (List.mem_cons_of_mem _ (List.mem_append_left _ (List.mem_append_left _ (List.mem_append_left _ (List.mem_append_left _ (List.mem_of_getElem? (i := 13) rfl))))))) rfl (by decide +kernel) ⟨Nat.le_of_ble_eq_true rfl, Nat.le_of_ble_eq_true rfl⟩) hK hN hA hS rfl hl.1 rfl (Nat.le_of_ble_eq_true rfl) dX9_newHorse_51 ⟨Nat.le_of_ble_eq_true rfl, Nat.le_of_ble_eq_true rfl⟩ (fun H locs hN hS => ?_)
      exact W.aret (v := .ref (adset ad 20 nh s.heap.size 20 nh)) hx hb hr (Or.inl ⟨_, rfl⟩) (Or.inr ⟨_, rfl⟩) (fun t ht _ => by rw [hf]; exact nw_end hS hN ht) hS.2.2 dX9_newHorse_54

/-- the yard anew: some horses, wagons, alarms, somewhere; the yard itself where it was -/
def GY (D : va_G) (C : Nat → ClassId) (A : Nat → Prop) (b : Nat) (Y : Nat → Nat → Nat → Int32) (H : Heap) : Prop := ∃ (nh nv na : Nat) (ad : Nat → Nat → Nat), ad 0 0 = b ∧ (nh ≤ 60 ∧ Y 0 0 6 = nI nh) ∧ (nv ≤ 60 ∧ Y 0 0 7 = nI nv) ∧ (na ≤ 60 ∧ Y 0 0 8 = nI na) ∧ nw D (enY C) (domY nh nv na) A ad Y H
theorem oH_nI {ad : Nat → Nat → Nat} {c : Int32} {n : Nat} (e : c = nI n) (hn : n ≤ 60) : oH ad c = some (ad 20 n) := by
  rw [oH_1 (by rw [e]; exact nI_pos (by omega)), e, nI_clamp (by omega)]
theorem oA_nI {ad : Nat → Nat → Nat} {c : Int32} {n : Nat} (e : c = nI n) (hn : n ≤ 60) : oA ad c = some (ad 22 n) := by
  unfold oA
  rw [if_neg (by rw [e]; exact nI_pos (by omega)), e, nI_clamp (by omega)]
theorem oW_nI {ad : Nat → Nat → Nat} {c : Int32} {n : Nat} (e : c = nI n) (hn : n ≤ 60) : oW ad (100 + c) = some (ad 21 n) := by
  have e1 : 100 + c = nI (100 + n) := by rw [e, show (100 : Int32) = nI 100 from rfl, nI_add]
  unfold oW
  rw [e1, if_neg (nI_pos (by omega)), if_neg (by rw [show (100 : Int32) = nI 100 from rfl, nI_ltI (by omega) (by decide)]; omega), nI_clamp (by omega), Nat.add_sub_cancel_left]
theorem nH_0 (Y : Nat → Nat → Nat → Int32) (nh : Nat) (a b : Int32) (j : Nat) : fX9_newHorse Y nh a b 0 0 j = Y 0 0 j := by
  unfold fX9_newHorse
  by_cases h1 : a = 1
  · rw [if_pos h1]; rfl
  · rw [if_neg h1]
    by_cases h2 : a = 2
    · rw [if_pos h2]; rfl
    · rw [if_neg h2]; rfl
theorem inc_nI {c : Int32} {n : Nat} (e : c = nI n) : c + 1 = nI (n + 1) := by rw [e]; exact nI_1 n
theorem le_of_lt60 {c : Int32} {n : Nat} (e : c = nI n) (hn : n ≤ 60) (h : c < 60) : n + 1 ≤ 60 := by
  rw [e, show (60 : Int32) = nI 60 from rfl, nI_ltI (by omega) (by decide)] at h
  omega
def fX9_horse (Y : Nat → Nat → Nat → Int32) (nh : Nat) (p0 p1 p2 : Int32) : Int32 × (Nat → Nat → Nat → Int32) := (if (fX9_within p0 10) = 0 then ((-1000000001), Y) else (if (fX9_within p1 3) = 0 then ((-1000000001), Y) else (if (Y 0 0 6) < 60 then ((((fX9_newHorse Y nh p1 p2) 0 0 6) + 1) - 1, u3 (u3 (fX9_newHorse Y nh p1 p2) 1 0 ((p0 : Int32).toNatClampNeg) (Y 0 0 6)) 0 0 6 (((fX9_newHorse Y nh p1 p2) 0 0 6) + 1)) else ((-1000000003), Y))))
set_option maxHeartbeats 4000000 in
set_option maxRecDepth 100000 in
theorem kX9_horse (l : Launch) (D : va_G) (C : Nat → ClassId) (A : Nat → Prop) (ad : Nat → Nat → Nat) (nh nv na : Nat) (Y : Nat → Nat → Nat → Int32) (p0 p1 p2 : Int32) (kk : Nat) (hI : InvY nh nv na kk Y) : Met l yX9_horse wsX9_horse ({ frames := 6, cells := 1, slots := 5, locals := 116 }) (va_Pc [.ref (ad 0 0), .int p0, .int p1, .int p2] (PW D C A (nw D (enY C) (domY nh nv na) A ad Y))) (nQ A (some (.int (fX9_horse Y nh p0 p1 p2).1)) (GY D C A (ad 0 0) (fX9_horse Y nh p0 p1 p2).2)) 1 5 A := by
  refine Met.ofW (cc := cX9_horse) (maxL := 4) (ret := (some .int)) (by decide) rfl ?_
  intro p e s m args below meth c s₁ B hml hv
  obtain ⟨rfl, hK, hN, hA⟩ := hv
  have hx := B.exec
  have hb := B.bytes
  have hr := B.returns
  have hts := atoms_spec (ws := wsX9_horse) B.pre
  have hown : s.vm.findClass RX9 = some m.cls := findClass_of_methodNamed B.named
  have hlocks := B.notSynchronized
  have S : CallFix p m c cX9_horse 4 s _ wsX9_horse RX9 := ⟨hx, hb, hml, hown, hts⟩
  have hin9 : ∀ w ∈ wsX90, w ∈ wsX9_horse := (fun _ h => List.mem_cons_of_mem _ (List.mem_append_left _ (List.mem_append_left _ (List.mem_append_left _ (List.mem_append_right _ (h))))))
  have hin1 : ∀ w ∈ wsX10, w ∈ wsX9_horse := (fun _ h => List.mem_cons_of_mem _ (List.mem_append_left _ (List.mem_append_left _ (List.mem_append_right _ (h)))))
  have hin2 : ∀ w ∈ wsX20, w ∈ wsX9_horse := (fun _ h => List.mem_cons_of_mem _ (List.mem_append_right _ (h)))
  have hin3 : ∀ w ∈ wsX30, w ∈ wsX9_horse := (fun _ h => List.mem_cons_of_mem _ (List.mem_append_left _ (List.mem_append_right _ (h))))
  have hS : va_S A s.heap s.heap [] := va_S.rf
  have hl := lv_entry ([.ref (ad 0 0), .int p0, .int p1, .int p2]) (n := 4) (Nat.le_of_ble_eq_true rfl)
  rw [lg_entry_eq]
  generalize (lg_sl ([.ref (ad 0 0), .int p0, .int p1, .int p2]) ++ List.replicate (4 - (lg_sl ([.ref (ad 0 0), .int p0, .int p1, .int p2])).length) Slot.unset).toArray = ls at hl ⊢
  have hl : lv_has ls 4 [(0, .ref (ad 0 0)), (1, .int p0), (2, .int p1), (3, .int p2)] := hl
  refine lv_iload_n hx hb dX9_horse_0 rfl (lv_at hl 1 rfl) ?_
  refine lv_bipush (v := 10) hx hb dX9_horse_1 (by decide) ?_
  refine nw_callS (As := [.int p0, .int 10]) (rest := []) S (kX9_within l p0 10) gX9_horse_X9_within rfl ⟨rfl, rfl⟩ hqX9_within ⟨Nat.le_of_ble_eq_true rfl, Nat.le_of_ble_eq_true rfl⟩ rfl hl.1 rfl (Nat.le_of_ble_eq_true rfl) dX9_horse_3 ⟨Nat.le_of_ble_eq_true rfl, Nat.le_of_ble_eq_true rfl⟩ ?_
  refine lv_if_eq (x := fX9_within p0 10) (tgt := 17) hx hb dX9_horse_6 (by decide) (fun c_1 => ?_) (fun c_1 => ?_)
  · refine lv_ldc (v := (-1000000001)) hx hb hown (hts (.constant RX9 67 (-1000000001)) (List.mem_cons_of_mem _ (List.mem_append_left _ (List.mem_append_left _ (List.mem_append_left _ (List.mem_append_left _ (List.mem_append_left _ (List.mem_of_getElem? (i := 0) rfl)))))))) dX9_horse_17 ?_
    have hf : fX9_horse Y nh p0 p1 p2 = ((-1000000001), Y) := by unfold fX9_horse; rw [if_pos c_1]
    refine W.widen (k := 1) (n := 5) (Nat.le_of_ble_eq_true rfl) (Nat.le_of_ble_eq_true rfl) ?_
    exact W.iret (v := (-1000000001)) hx hb hr (fun t ht _ => by rw [hf]; exact nw_end (G := GY D C A (ad 0 0) _) hS ⟨nh, nv, na, ad, rfl, hI.1, hI.2.1, hI.2.2.1, hN⟩ ht) hS.2.2 dX9_horse_19
  · refine lv_iload_n hx hb dX9_horse_9 rfl (lv_at hl 2 rfl) ?_
    refine lv_iconst (v := 3) hx hb dX9_horse_10 (by decide) ?_
    refine nw_callS (As := [.int p1, .int 3]) (rest := []) S (kX9_within l p1 3) gX9_horse_X9_within rfl ⟨rfl, rfl⟩ hqX9_within ⟨Nat.le_of_ble_eq_true rfl, Nat.le_of_ble_eq_true rfl⟩ rfl hl.1 rfl (Nat.le_of_ble_eq_true rfl) dX9_horse_11 ⟨Nat.le_of_ble_eq_true rfl, Nat.le_of_ble_eq_true rfl⟩ ?_
    refine lv_if_ne (x := fX9_within p1 3) (tgt := 20) hx hb dX9_horse_14 (by decide) (fun c_2 => ?_) (fun c_2 => ?_)
    · refine lv_aload_n hx hb dX9_horse_20 rfl (lv_at hl 0 rfl) ?_
      refine nw_get S hK hN (k := 0) (i := 0) ⟨by decide, rfl⟩ rfl rfl hin9 6 (by decide) (index := 68) (ref := "RidingYard") (List.mem_cons_of_mem _ (List.mem_append_left _ (List.mem_append_left _ (List.mem_append_left _ (List.mem_append_left _ (List.mem_append_left _ (List.mem_of_getElem? (i := 1) rfl))))))) (fun _ h => h) (v := .int (Y 0 0 6)) rfl dX9_horse_21 ?_
      refine lv_bipush (v := 60) hx hb dX9_horse_24 (by decide) ?_
      refine lv_icmp_lt (x := Y 0 0 6) (y := 60) (tgt := 32) hx hb dX9_horse_26 (by decide) (fun c_3 => ?_) (fun c_3 => ?_)
      · refine lv_aload_n hx hb dX9_horse_32 rfl (lv_at hl 0 rfl) ?_
        refine nw_get S hK hN (k := 0) (i := 0) ⟨by decide, rfl⟩ rfl rfl hin9 0 (by decide) (index := 11) (ref := "RidingYard") (List.mem_cons_of_mem _ (List.mem_append_left _ (List.mem_append_left _ (List.mem_append_left _ (List.mem_append_left _ (List.mem_append_left _ (List.mem_of_getElem? (i := 3) rfl))))))) (fun _ h => h) (v := .ref (ad 1 0)) rfl dX9_horse_33 ?_
        refine lv_iload_n hx hb dX9_horse_36 rfl (lv_at hl 1 rfl) ?_
        refine lv_iload_n hx hb dX9_horse_37 rfl (lv_at hl 2 rfl) ?_
        refine lv_iload_n hx hb dX9_horse_38 rfl (lv_at hl 3 rfl) ?_
        refine nwY_callSr (As := [.int p1, .int p2]) (rest := [.int p0, .ref (ad 1 0)]) S (kX9_newHorse l D C A ad nh nv na Y s.heap.size kk hI p1 p2) gX9_horse_X9_newHorse rfl ⟨rfl, rfl⟩ hqX9_newHorse ⟨Nat.le_of_ble_eq_true rfl, Nat.le_of_ble_eq_true rfl⟩ hK ⟨rfl, hN⟩ hA hS rfl hl.1 rfl (Nat.le_of_ble_eq_true rfl) dX9_horse_39 ⟨Nat.le_of_ble_eq_true rfl, Nat.le_of_ble_eq_true rfl⟩ (fun H locs hN hS => ?_)
        refine nw_aast S hK hN hS (k := 1) (i := 0) ⟨by decide, rfl⟩ 2 rfl (g := oH (adset ad 20 nh s.heap.size)) (fun _ => rfl) (x := p0) (v := Y 0 0 6) (oH_nI hI.1.2 hI.1.1) (nw_anyH hK hN (h := nh) (Nat.lt_succ_self nh)).1 (wi_in c_1 (by decide)) dX9_horse_42 (fun H locs hN hz hS => ?_)
        refine lv_aload_n hx hb dX9_horse_43 rfl (lv_at hl 0 rfl) ?_
        refine lv_dup hx hb dX9_horse_44 rfl ?_
        refine nw_get S hK hN (k := 0) (i := 0) ⟨by decide, rfl⟩ rfl rfl hin9 6 (by decide) (index := 68) (ref := "RidingYard") (List.mem_cons_of_mem _ (List.mem_append_left _ (List.mem_append_left _ (List.mem_append_left _ (List.mem_append_left _ (List.mem_append_left _ (List.mem_of_getElem? (i := 1) rfl))))))) (fun _ h => h) (v := .int ((fX9_newHorse Y nh p1 p2) 0 0 6)) rfl dX9_horse_45 ?_
        refine lv_iconst (v := 1) hx hb dX9_horse_48 (by decide) ?_
        refine lv_iadd hx hb dX9_horse_49 ?_
        refine nw_put S hK hN hS (k := 0) (i := 0) ⟨by decide, rfl⟩ rfl rfl hin9 tyX9_ok nmX9 6 (by decide) (index := 68) (ref := "RidingYard") (List.mem_cons_of_mem _ (List.mem_append_left _ (List.mem_append_left _ (List.mem_append_left _ (List.mem_append_left _ (List.mem_append_left _ (List.mem_of_getElem? (i := 1) rfl))))))) (fun _ h => h) rfl (((fX9_newHorse Y nh p1 p2) 0 0 6) + 1) rfl rfl rfl (Nat.le_of_ble_eq_true rfl) dX9_horse_50 (fun H locs hN hz hS => ?_)
        refine lv_aload_n hx hb dX9_horse_53 rfl (lv_at hl 0 rfl) ?_
        refine nw_get S hK hN (k := 0) (i := 0) ⟨by decide, rfl⟩ rfl rfl hin9 6 (by decide) (index := 68) (ref := "RidingYard") (List.mem_cons_of_mem _ (List.mem_append_left _ (List.mem_append_left _ (List.mem_append_left _ (List.mem_append_left _ (List.mem_append_left _ (List.mem_of_getElem? (i := 1) rfl))))))) (fun _ h => h) (v := .int (((fX9_newHorse Y nh p1 p2) 0 0 6) + 1)) rfl dX9_horse_54 ?_
        refine lv_iconst (v := 1) hx hb dX9_horse_57 (by decide) ?_
        refine lv_isub hx hb dX9_horse_58 ?_
        have hf : fX9_horse Y nh p0 p1 p2 = ((((fX9_newHorse Y nh p1 p2) 0 0 6) + 1) - 1, u3 (u3 (fX9_newHorse Y nh p1 p2) 1 0 ((p0 : Int32).toNatClampNeg) (Y 0 0 6)) 0 0 6 (((fX9_newHorse Y nh p1 p2) 0 0 6) + 1)) := by unfold fX9_horse; rw [if_neg c_1, if_neg c_2, if_pos c_3]
        exact W.iret (v := (((fX9_newHorse Y nh p1 p2) 0 0 6) + 1) - 1) hx hb hr (fun t ht _ => by rw [hf]; exact nw_end (G := GY D C A (ad 0 0) _) hS ⟨nh + 1, nv, na, adset ad 20 nh s.heap.size, rfl, ⟨le_of_lt60 hI.1.2 hI.1.1 c_3, inc_nI ((nH_0 _ _ _ _ _).trans hI.1.2)⟩, ⟨hI.2.1.1, (nH_0 _ _ _ _ _).trans hI.2.1.2⟩, ⟨hI.2.2.1.1, (nH_0 _ _ _ _ _).trans hI.2.2.1.2⟩, hN⟩ ht) hS.2.2 dX9_horse_59
      · refine lv_ldc (v := (-1000000003)) hx hb hown (hts (.constant RX9 72 (-1000000003)) (List.mem_cons_of_mem _ (List.mem_append_left _ (List.mem_append_left _ (List.mem_append_left _ (List.mem_append_left _ (List.mem_append_left _ (List.mem_of_getElem? (i := 2) rfl)))))))) dX9_horse_29 ?_
        have hf : fX9_horse Y nh p0 p1 p2 = ((-1000000003), Y) := by unfold fX9_horse; rw [if_neg c_1, if_neg c_2, if_neg c_3]
        refine W.widen (k := 1) (n := 5) (Nat.le_of_ble_eq_true rfl) (Nat.le_of_ble_eq_true rfl) ?_
        exact W.iret (v := (-1000000003)) hx hb hr (fun t ht _ => by rw [hf]; exact nw_end (G := GY D C A (ad 0 0) _) hS ⟨nh, nv, na, ad, rfl, hI.1, hI.2.1, hI.2.2.1, hN⟩ ht) hS.2.2 dX9_horse_31
    · refine lv_ldc (v := (-1000000001)) hx hb hown (hts (.constant RX9 67 (-1000000001)) (List.mem_cons_of_mem _ (List.mem_append_left _ (List.mem_append_left _ (List.mem_append_left _ (List.mem_append_left _ (List.mem_append_left _ (List.mem_of_getElem? (i := 0) rfl)))))))) dX9_horse_17 ?_
      have hf : fX9_horse Y nh p0 p1 p2 = ((-1000000001), Y) := by unfold fX9_horse; rw [if_neg c_1, if_pos c_2]
      refine W.widen (k := 1) (n := 5) (Nat.le_of_ble_eq_true rfl) (Nat.le_of_ble_eq_true rfl) ?_
      exact W.iret (v := (-1000000001)) hx hb hr (fun t ht _ => by rw [hf]; exact nw_end (G := GY D C A (ad 0 0) _) hS ⟨nh, nv, na, ad, rfl, hI.1, hI.2.1, hI.2.2.1, hN⟩ ht) hS.2.2 dX9_horse_19

def fX9_wagon (Y : Nat → Nat → Nat → Int32) (nv : Nat) (p0 p1 : Int32) : Int32 × (Nat → Nat → Nat → Int32) := (if (fX9_within p0 6) = 0 then ((-1000000001), Y) else (if (Y 0 0 7) < 60 then ((((setr Y 21 nv (fun _ => 0)) 0 0 7) + 1) - 1, u3 (u3 (u3 (setr Y 21 nv (fun _ => 0)) 21 nv 0 p1) 2 0 ((p0 : Int32).toNatClampNeg) (100 + (Y 0 0 7))) 0 0 7 (((setr Y 21 nv (fun _ => 0)) 0 0 7) + 1)) else ((-1000000003), Y)))
set_option maxHeartbeats 4000000 in
set_option maxRecDepth 100000 in
theorem kX9_wagon (l : Launch) (D : va_G) (C : Nat → ClassId) (A : Nat → Prop) (ad : Nat → Nat → Nat) (nh nv na : Nat) (Y : Nat → Nat → Nat → Int32) (p0 p1 : Int32) (kk : Nat) (hI : InvY nh nv na kk Y) : Met l yX9_wagon wsX9_wagon ({ frames := 3, cells := 1, slots := 2, locals := 53 }) (va_Pc [.ref (ad 0 0), .int p0, .int p1] (PW D C A (nw D (enY C) (domY nh nv na) A ad Y))) (nQ A (some (.int (fX9_wagon Y nv p0 p1).1)) (GY D C A (ad 0 0) (fX9_wagon Y nv p0 p1).2)) 1 2 A := by
  refine Met.ofW (cc := cX9_wagon) (maxL := 3) (ret := (some .int)) (by decide) rfl ?_
  intro p e s m args below meth c s₁ B hml hv
  obtain ⟨rfl, hK, hN, hA⟩ := hv
  have hx := B.exec
  have hb := B.bytes
  have hr := B.returns
  have hts := atoms_spec (ws := wsX9_wagon) B.pre
  have hown : s.vm.findClass RX9 = some m.cls := findClass_of_methodNamed B.named
  have hlocks := B.notSynchronized
  have S : CallFix p m c cX9_wagon 3 s _ wsX9_wagon RX9 := ⟨hx, hb, hml, hown, hts⟩
  have hin9 : ∀ w ∈ wsX90, w ∈ wsX9_wagon := (fun _ h => List.mem_cons_of_mem _ (List.mem_append_left _ (List.mem_append_right _ (h))))
  have hin7 : ∀ w ∈ wsX70, w ∈ wsX9_wagon := (fun _ h => List.mem_cons_of_mem _ (List.mem_append_right _ (h)))
  have hS : va_S A s.heap s.heap [] := va_S.rf
  have hl := lv_entry ([.ref (ad 0 0), .int p0, .int p1]) (n := 3) (Nat.le_of_ble_eq_true rfl)
  rw [lg_entry_eq]
  generalize (lg_sl ([.ref (ad 0 0), .int p0, .int p1]) ++ List.replicate (3 - (lg_sl ([.ref (ad 0 0), .int p0, .int p1])).length) Slot.unset).toArray = ls at hl ⊢
  have hl : lv_has ls 3 [(0, .ref (ad 0 0)), (1, .int p0), (2, .int p1)] := hl
  refine lv_iload_n hx hb dX9_wagon_0 rfl (lv_at hl 1 rfl) ?_
  refine lv_bipush (v := 6) hx hb dX9_wagon_1 (by decide) ?_
  refine nw_callS (As := [.int p0, .int 6]) (rest := []) S (kX9_within l p0 6) gX9_wagon_X9_within rfl ⟨rfl, rfl⟩ hqX9_within ⟨Nat.le_of_ble_eq_true rfl, Nat.le_of_ble_eq_true rfl⟩ rfl hl.1 rfl (Nat.le_of_ble_eq_true rfl) dX9_wagon_3 ⟨Nat.le_of_ble_eq_true rfl, Nat.le_of_ble_eq_true rfl⟩ ?_
  refine lv_if_ne (x := fX9_within p0 6) (tgt := 12) hx hb dX9_wagon_6 (by decide) (fun c_1 => ?_) (fun c_1 => ?_)
  · refine lv_aload_n hx hb dX9_wagon_12 rfl (lv_at hl 0 rfl) ?_
    refine nw_get S hK hN (k := 0) (i := 0) ⟨by decide, rfl⟩ rfl rfl hin9 7 (by decide) (index := 77) (ref := "RidingYard") (List.mem_cons_of_mem _ (List.mem_append_left _ (List.mem_append_left _ (List.mem_of_getElem? (i := 1) rfl)))) (fun _ h => h) (v := .int (Y 0 0 7)) rfl dX9_wagon_13 ?_
    refine lv_bipush (v := 60) hx hb dX9_wagon_16 (by decide) ?_
    refine lv_icmp_lt (x := Y 0 0 7) (y := 60) (tgt := 24) hx hb dX9_wagon_18 (by decide) (fun c_2 => ?_) (fun c_2 => ?_)
    · refine lv_aload_n hx hb dX9_wagon_24 rfl (lv_at hl 0 rfl) ?_
      refine nw_get S hK hN (k := 0) (i := 0) ⟨by decide, rfl⟩ rfl rfl hin9 1 (by decide) (index := 17) (ref := "RidingYard") (List.mem_cons_of_mem _ (List.mem_append_left _ (List.mem_append_left _ (List.mem_of_getElem? (i := 3) rfl)))) (fun _ h => h) (v := .ref (ad 2 0)) rfl dX9_wagon_25 ?_
      refine lv_iload_n hx hb dX9_wagon_28 rfl (lv_at hl 1 rfl) ?_
      refine nw_newO S hK hN hS hA 21 nv (dom' := domY nh (nv + 1) na) (ci := 7) (CN := RX7) (T := TX7) (N := 2) rfl hin7 tyX7 tyX7_ok (List.mem_cons_of_mem _ (List.mem_append_left _ (List.mem_append_left _ (List.mem_of_getElem? (i := 4) rfl)))) (List.mem_cons_of_mem _ (List.mem_append_left _ (List.mem_append_left _ (List.mem_of_getElem? (i := 5) rfl)))) (List.mem_cons_of_mem _ (List.mem_append_left _ (List.mem_append_left _ (List.mem_of_getElem? (i := 6) rfl)))) dom21 (Nat.lt_irrefl _) (fun H1 => hold21 hI _) (r := fun _ => 0) (fs := [.int 0, .int 0]) rfl (fun j hj => by rcases (show j = 0 ∨ j = 1 by omega) with rfl | rfl <;> rfl) (Nat.le_of_ble_eq_true rfl) (Nat.le_of_ble_eq_true rfl) dX9_wagon_29 (fun H hN hz hS => ?_)
      refine lv_dup hx hb dX9_wagon_32 rfl ?_
      refine lv_iload_n hx hb dX9_wagon_33 rfl (lv_at hl 2 rfl) ?_
      refine nwY_callI (As := [.int p1]) (rest := [.ref ((adset ad 21 nv s.heap.size) 21 nv), .int p0, .ref ((adset ad 21 nv s.heap.size) 2 0)]) S (kX7_init l D C A (adset ad 21 nv s.heap.size) nh (nv + 1) na (setr Y 21 nv (fun _ => 0)) nv (Nat.lt_succ_self nv) p1) (cwI 1 hts gX9_wagon_X7_init rfl rfl rfl (hts (.initialized RX7) (List.mem_cons_of_mem _ (List.mem_append_left _ (List.mem_append_left _ (List.mem_of_getElem? (i := 6) rfl))))) (hts (.methodLink RX9 82 yX7_init) (List.mem_cons_of_mem _ (List.mem_append_left _ (List.mem_append_left _ (List.mem_of_getElem? (i := 11) rfl))))) (hts (.instanceMethod yX7_init) (List.mem_cons_of_mem _ (List.mem_append_left _ (List.mem_append_left _ (List.mem_of_getElem? (i := 12) rfl))))) rfl (by decide +kernel) ⟨Nat.le_of_ble_eq_true rfl, Nat.le_of_ble_eq_true rfl⟩) hK hN hA hS rfl hl.1 rfl (Nat.le_of_ble_eq_true rfl) dX9_wagon_34 ⟨Nat.le_of_ble_eq_true rfl, Nat.le_of_ble_eq_true rfl⟩ (fun H locs hN hS => ?_)
      refine nw_aast S hK hN hS (k := 2) (i := 0) ⟨by decide, rfl⟩ 3 rfl (g := oW (adset ad 21 nv s.heap.size)) (fun _ => rfl) (x := p0) (v := 100 + (Y 0 0 7)) (oW_nI hI.2.1.2 hI.2.1.1) (nw_any hK hN (k := 21) (i := nv) (Nat.lt_succ_self nv) rfl (r := (RX7, TX7, 2)) rfl (Or.inr hK.2.1.2.2.2.2.2)) (wi_in c_1 (by decide)) dX9_wagon_37 (fun H locs hN hz hS => ?_)
      refine lv_aload_n hx hb dX9_wagon_38 rfl (lv_at hl 0 rfl) ?_
      refine lv_dup hx hb dX9_wagon_39 rfl ?_
      refine nw_get S hK hN (k := 0) (i := 0) ⟨by decide, rfl⟩ rfl rfl hin9 7 (by decide) (index := 77) (ref := "RidingYard") (List.mem_cons_of_mem _ (List.mem_append_left _ (List.mem_append_left _ (List.mem_of_getElem? (i := 1) rfl)))) (fun _ h => h) (v := .int ((setr Y 21 nv (fun _ => 0)) 0 0 7)) rfl dX9_wagon_40 ?_
      refine lv_iconst (v := 1) hx hb dX9_wagon_43 (by decide) ?_
      refine lv_iadd hx hb dX9_wagon_44 ?_
      refine nw_put S hK hN hS (k := 0) (i := 0) ⟨by decide, rfl⟩ rfl rfl hin9 tyX9_ok nmX9 7 (by decide) (index := 77) (ref := "RidingYard") (List.mem_cons_of_mem _ (List.mem_append_left _ (List.mem_append_left _ (List.mem_of_getElem? (i := 1) rfl)))) (fun _ h => h) rfl (((setr Y 21 nv (fun _ => 0)) 0 0 7) + 1) rfl rfl rfl (Nat.le_of_ble_eq_true rfl) dX9_wagon_45 (fun H locs hN hz hS => ?_)
      refine lv_aload_n hx hb dX9_wagon_48 rfl (lv_at hl 0 rfl) ?_
      refine nw_get S hK hN (k := 0) (i := 0) ⟨by decide, rfl⟩ rfl rfl hin9 7 (by decide) (index := 77) (ref := "RidingYard") (List.mem_cons_of_mem _ (List.mem_append_left _ (List.mem_append_left _ (List.mem_of_getElem? (i := 1) rfl)))) (fun _ h => h) (v := .int (((setr Y 21 nv (fun _ => 0)) 0 0 7) + 1)) rfl dX9_wagon_49 ?_
      refine lv_iconst (v := 1) hx hb dX9_wagon_52 (by decide) ?_
      refine lv_isub hx hb dX9_wagon_53 ?_
      have hf : fX9_wagon Y nv p0 p1 = ((((setr Y 21 nv (fun _ => 0)) 0 0 7) + 1) - 1, u3 (u3 (u3 (setr Y 21 nv (fun _ => 0)) 21 nv 0 p1) 2 0 ((p0 : Int32).toNatClampNeg) (100 + (Y 0 0 7))) 0 0 7 (((setr Y 21 nv (fun _ => 0)) 0 0 7) + 1)) := by unfold fX9_wagon; rw [if_neg c_1, if_pos c_2]
      exact W.iret (v := (((setr Y 21 nv (fun _ => 0)) 0 0 7) + 1) - 1) hx hb hr (fun t ht _ => by rw [hf]; exact nw_end (G := GY D C A (ad 0 0) _) hS ⟨nh, nv + 1, na, adset ad 21 nv s.heap.size, rfl, ⟨hI.1.1, hI.1.2⟩, ⟨le_of_lt60 hI.2.1.2 hI.2.1.1 c_2, inc_nI hI.2.1.2⟩, ⟨hI.2.2.1.1, hI.2.2.1.2⟩, hN⟩ ht) hS.2.2 dX9_wagon_54
    · refine lv_ldc (v := (-1000000003)) hx hb hown (hts (.constant RX9 72 (-1000000003)) (List.mem_cons_of_mem _ (List.mem_append_left _ (List.mem_append_left _ (List.mem_of_getElem? (i := 2) rfl))))) dX9_wagon_21 ?_
      have hf : fX9_wagon Y nv p0 p1 = ((-1000000003), Y) := by unfold fX9_wagon; rw [if_neg c_1, if_neg c_2]
      refine W.widen (k := 1) (n := 2) (Nat.le_of_ble_eq_true rfl) (Nat.le_of_ble_eq_true rfl) ?_
      exact W.iret (v := (-1000000003)) hx hb hr (fun t ht _ => by rw [hf]; exact nw_end (G := GY D C A (ad 0 0) _) hS ⟨nh, nv, na, ad, rfl, hI.1, hI.2.1, hI.2.2.1, hN⟩ ht) hS.2.2 dX9_wagon_23
  · refine lv_ldc (v := (-1000000001)) hx hb hown (hts (.constant RX9 67 (-1000000001)) (List.mem_cons_of_mem _ (List.mem_append_left _ (List.mem_append_left _ (List.mem_of_getElem? (i := 0) rfl))))) dX9_wagon_9 ?_
    have hf : fX9_wagon Y nv p0 p1 = ((-1000000001), Y) := by unfold fX9_wagon; rw [if_pos c_1]
    refine W.widen (k := 1) (n := 2) (Nat.le_of_ble_eq_true rfl) (Nat.le_of_ble_eq_true rfl) ?_
    exact W.iret (v := (-1000000001)) hx hb hr (fun t ht _ => by rw [hf]; exact nw_end (G := GY D C A (ad 0 0) _) hS ⟨nh, nv, na, ad, rfl, hI.1, hI.2.1, hI.2.2.1, hN⟩ ht) hS.2.2 dX9_wagon_11

def fX9_hang (Y : Nat → Nat → Nat → Int32) (na : Nat) (p0 p1 : Int32) : Int32 × (Nat → Nat → Nat → Int32) := (if (fX9_within p0 6) = 0 then ((-1000000001), Y) else (if (Y 0 0 8) < 60 then (1, u3 (u3 (u3 (setr Y 22 na (fun _ => 0)) 22 na 0 p1) 6 0 ((p0 : Int32).toNatClampNeg) (Y 0 0 8)) 0 0 8 (((setr Y 22 na (fun _ => 0)) 0 0 8) + 1)) else ((-1000000003), Y)))
set_option maxHeartbeats 4000000 in
set_option maxRecDepth 100000 in
theorem kX9_hang (l : Launch) (D : va_G) (C : Nat → ClassId) (A : Nat → Prop) (ad : Nat → Nat → Nat) (nh nv na : Nat) (Y : Nat → Nat → Nat → Int32) (p0 p1 : Int32) (kk : Nat) (hI : InvY nh nv na kk Y) : Met l yX9_hang wsX9_hang ({ frames := 2, cells := 1, slots := 1, locals := 33 }) (va_Pc [.ref (ad 0 0), .int p0, .int p1] (PW D C A (nw D (enY C) (domY nh nv na) A ad Y))) (nQ A (some (.int (fX9_hang Y na p0 p1).1)) (GY D C A (ad 0 0) (fX9_hang Y na p0 p1).2)) 1 1 A := by
  refine Met.ofW (cc := cX9_hang) (maxL := 3) (ret := (some .int)) (by decide) rfl ?_
  intro p e s m args below meth c s₁ B hml hv
  obtain ⟨rfl, hK, hN, hA⟩ := hv
  have hx := B.exec
  have hb := B.bytes
  have hr := B.returns
  have hts := atoms_spec (ws := wsX9_hang) B.pre
  have hown : s.vm.findClass RX9 = some m.cls := findClass_of_methodNamed B.named
  have hlocks := B.notSynchronized
  have S : CallFix p m c cX9_hang 3 s _ wsX9_hang RX9 := ⟨hx, hb, hml, hown, hts⟩
  have hin9 : ∀ w ∈ wsX90, w ∈ wsX9_hang := (fun _ h => List.mem_cons_of_mem _ (List.mem_append_left _ (List.mem_append_right _ (h))))
  have hin0 : ∀ w ∈ wsX00, w ∈ wsX9_hang := (fun _ h => List.mem_cons_of_mem _ (List.mem_append_right _ (h)))
  have hS : va_S A s.heap s.heap [] := va_S.rf
  have hl := lv_entry ([.ref (ad 0 0), .int p0, .int p1]) (n := 3) (Nat.le_of_ble_eq_true rfl)
  rw [lg_entry_eq]
  generalize (lg_sl ([.ref (ad 0 0), .int p0, .int p1]) ++ List.replicate (3 - (lg_sl ([.ref (ad 0 0), .int p0, .int p1])).length) Slot.unset).toArray = ls at hl ⊢
  have hl : lv_has ls 3 [(0, .ref (ad 0 0)), (1, .int p0), (2, .int p1)] := hl
  refine lv_iload_n hx hb dX9_hang_0 rfl (lv_at hl 1 rfl) ?_
  refine lv_bipush (v := 6) hx hb dX9_hang_1 (by decide) ?_
  refine nw_callS (As := [.int p0, .int 6]) (rest := []) S (kX9_within l p0 6) gX9_hang_X9_within rfl ⟨rfl, rfl⟩ hqX9_within ⟨Nat.le_of_ble_eq_true rfl, Nat.le_of_ble_eq_true rfl⟩ rfl hl.1 rfl (Nat.le_of_ble_eq_true rfl) dX9_hang_3 ⟨Nat.le_of_ble_eq_true rfl, Nat.le_of_ble_eq_true rfl⟩ ?_
  refine lv_if_ne (x := fX9_within p0 6) (tgt := 12) hx hb dX9_hang_6 (by decide) (fun c_1 => ?_) (fun c_1 => ?_)
  · refine lv_aload_n hx hb dX9_hang_12 rfl (lv_at hl 0 rfl) ?_
    refine nw_get S hK hN (k := 0) (i := 0) ⟨by decide, rfl⟩ rfl rfl hin9 8 (by decide) (index := 110) (ref := "RidingYard") (List.mem_cons_of_mem _ (List.mem_append_left _ (List.mem_append_left _ (List.mem_of_getElem? (i := 1) rfl)))) (fun _ h => h) (v := .int (Y 0 0 8)) rfl dX9_hang_13 ?_
    refine lv_bipush (v := 60) hx hb dX9_hang_16 (by decide) ?_
    refine lv_icmp_lt (x := Y 0 0 8) (y := 60) (tgt := 24) hx hb dX9_hang_18 (by decide) (fun c_2 => ?_) (fun c_2 => ?_)
    · refine lv_aload_n hx hb dX9_hang_24 rfl (lv_at hl 0 rfl) ?_
      refine nw_get S hK hN (k := 0) (i := 0) ⟨by decide, rfl⟩ rfl rfl hin9 5 (by decide) (index := 41) (ref := "RidingYard") (List.mem_cons_of_mem _ (List.mem_append_left _ (List.mem_append_left _ (List.mem_of_getElem? (i := 3) rfl)))) (fun _ h => h) (v := .ref (ad 6 0)) rfl dX9_hang_25 ?_
      refine lv_iload_n hx hb dX9_hang_28 rfl (lv_at hl 1 rfl) ?_
      refine nw_newO S hK hN hS hA 22 na (dom' := domY nh nv (na + 1)) (ci := 0) (CN := RX0) (T := TX0) (N := 1) rfl hin0 tyX0 tyX0_ok (List.mem_cons_of_mem _ (List.mem_append_left _ (List.mem_append_left _ (List.mem_of_getElem? (i := 4) rfl)))) (List.mem_cons_of_mem _ (List.mem_append_left _ (List.mem_append_left _ (List.mem_of_getElem? (i := 5) rfl)))) (List.mem_cons_of_mem _ (List.mem_append_left _ (List.mem_append_left _ (List.mem_of_getElem? (i := 6) rfl)))) dom22 (Nat.lt_irrefl _) (fun H1 => hold22 hI _) (r := fun _ => 0) (fs := [.int 0]) rfl (fun j hj => by rcases (show j = 0 by omega) with rfl <;> rfl) (Nat.le_of_ble_eq_true rfl) (Nat.le_of_ble_eq_true rfl) dX9_hang_29 (fun H hN hz hS => ?_)
      refine lv_dup hx hb dX9_hang_32 rfl ?_
      refine lv_iload_n hx hb dX9_hang_33 rfl (lv_at hl 2 rfl) ?_
      refine nwY_callI (As := [.int p1]) (rest := [.ref ((adset ad 22 na s.heap.size) 22 na), .int p0, .ref ((adset ad 22 na s.heap.size) 6 0)]) S (kX0_init l D C A (adset ad 22 na s.heap.size) nh nv (na + 1) (setr Y 22 na (fun _ => 0)) na (Nat.lt_succ_self na) p1) (cwI 1 hts gX9_hang_X0_init rfl rfl rfl (hts (.initialized RX0) (List.mem_cons_of_mem _ (List.mem_append_left _ (List.mem_append_left _ (List.mem_of_getElem? (i := 6) rfl))))) (hts (.methodLink RX9 113 yX0_init) (List.mem_cons_of_mem _ (List.mem_append_left _ (List.mem_append_left _ (List.mem_of_getElem? (i := 11) rfl))))) (hts (.instanceMethod yX0_init) (List.mem_cons_of_mem _ (List.mem_append_left _ (List.mem_append_left _ (List.mem_of_getElem? (i := 12) rfl))))) rfl (by decide +kernel) ⟨Nat.le_of_ble_eq_true rfl, Nat.le_of_ble_eq_true rfl⟩) hK hN hA hS rfl hl.1 rfl (Nat.le_of_ble_eq_true rfl) dX9_hang_34 ⟨Nat.le_of_ble_eq_true rfl, Nat.le_of_ble_eq_true rfl⟩ (fun H locs hN hS => ?_)
      refine nw_aast S hK hN hS (k := 6) (i := 0) ⟨by decide, rfl⟩ 7 rfl (g := oA (adset ad 22 na s.heap.size)) (fun _ => rfl) (x := p0) (v := Y 0 0 8) (oA_nI hI.2.2.1.2 hI.2.2.1.1) (nw_any hK hN (k := 22) (i := na) (Nat.lt_succ_self na) rfl (r := (RX0, TX0, 1)) rfl (Or.inl rfl)) (wi_in c_1 (by decide)) dX9_hang_37 (fun H locs hN hz hS => ?_)
      refine lv_aload_n hx hb dX9_hang_38 rfl (lv_at hl 0 rfl) ?_
      refine lv_dup hx hb dX9_hang_39 rfl ?_
      refine nw_get S hK hN (k := 0) (i := 0) ⟨by decide, rfl⟩ rfl rfl hin9 8 (by decide) (index := 110) (ref := "RidingYard") (List.mem_cons_of_mem _ (List.mem_append_left _ (List.mem_append_left _ (List.mem_of_getElem? (i := 1) rfl)))) (fun _ h => h) (v := .int ((setr Y 22 na (fun _ => 0)) 0 0 8)) rfl dX9_hang_40 ?_
      refine lv_iconst (v := 1) hx hb dX9_hang_43 (by decide) ?_
      refine lv_iadd hx hb dX9_hang_44 ?_
      refine nw_put S hK hN hS (k := 0) (i := 0) ⟨by decide, rfl⟩ rfl rfl hin9 tyX9_ok nmX9 8 (by decide) (index := 110) (ref := "RidingYard") (List.mem_cons_of_mem _ (List.mem_append_left _ (List.mem_append_left _ (List.mem_of_getElem? (i := 1) rfl)))) (fun _ h => h) rfl (((setr Y 22 na (fun _ => 0)) 0 0 8) + 1) rfl rfl rfl (Nat.le_of_ble_eq_true rfl) dX9_hang_45 (fun H locs hN hz hS => ?_)
      refine lv_iconst (v := 1) hx hb dX9_hang_48 (by decide) ?_
      have hf : fX9_hang Y na p0 p1 = (1, u3 (u3 (u3 (setr Y 22 na (fun _ => 0)) 22 na 0 p1) 6 0 ((p0 : Int32).toNatClampNeg) (Y 0 0 8)) 0 0 8 (((setr Y 22 na (fun _ => 0)) 0 0 8) + 1)) := by unfold fX9_hang; rw [if_neg c_1, if_pos c_2]
      exact W.iret (v := 1) hx hb hr (fun t ht _ => by rw [hf]; exact nw_end (G := GY D C A (ad 0 0) _) hS ⟨nh, nv, na + 1, adset ad 22 na s.heap.size, rfl, ⟨hI.1.1, hI.1.2⟩, ⟨hI.2.1.1, hI.2.1.2⟩, ⟨le_of_lt60 hI.2.2.1.2 hI.2.2.1.1 c_2, inc_nI hI.2.2.1.2⟩, hN⟩ ht) hS.2.2 dX9_hang_49
    · refine lv_ldc (v := (-1000000003)) hx hb hown (hts (.constant RX9 72 (-1000000003)) (List.mem_cons_of_mem _ (List.mem_append_left _ (List.mem_append_left _ (List.mem_of_getElem? (i := 2) rfl))))) dX9_hang_21 ?_
      have hf : fX9_hang Y na p0 p1 = ((-1000000003), Y) := by unfold fX9_hang; rw [if_neg c_1, if_neg c_2]
      refine W.widen (k := 1) (n := 1) (Nat.le_of_ble_eq_true rfl) (Nat.le_of_ble_eq_true rfl) ?_
      exact W.iret (v := (-1000000003)) hx hb hr (fun t ht _ => by rw [hf]; exact nw_end (G := GY D C A (ad 0 0) _) hS ⟨nh, nv, na, ad, rfl, hI.1, hI.2.1, hI.2.2.1, hN⟩ ht) hS.2.2 dX9_hang_23
  · refine lv_ldc (v := (-1000000001)) hx hb hown (hts (.constant RX9 67 (-1000000001)) (List.mem_cons_of_mem _ (List.mem_append_left _ (List.mem_append_left _ (List.mem_of_getElem? (i := 0) rfl))))) dX9_hang_9 ?_
    have hf : fX9_hang Y na p0 p1 = ((-1000000001), Y) := by unfold fX9_hang; rw [if_pos c_1]
    refine W.widen (k := 1) (n := 1) (Nat.le_of_ble_eq_true rfl) (Nat.le_of_ble_eq_true rfl) ?_
    exact W.iret (v := (-1000000001)) hx hb hr (fun t ht _ => by rw [hf]; exact nw_end (G := GY D C A (ad 0 0) _) hS ⟨nh, nv, na, ad, rfl, hI.1, hI.2.1, hI.2.2.1, hN⟩ ht) hS.2.2 dX9_hang_11
