set_option maxHeartbeats 4000000 in
set_option maxRecDepth 100000 in
theorem law_c8 {p : Program} {l : Launch} {e : Env} {s : State} {m : MethodId} {below : List Frame} {meth : Method} {c : Code} {b L : Nat} {xs : Nat → Int32} {D : va_G} {C : Nat → ClassId} {bx bm tt : Nat} {Q : State → Prop} (S : CallFix p m c cL_law 4 s #[Value.ref b] wsL_law RL) (hK : KK D C s) (hX : va_X b L xs s s.heap) (hbl : b < s.heap.size) (hZ : ZP tt (fun q => s.heap.size ≤ q) s s.heap) (hL : L ≤ 2560) {t kk : Nat} (ht : 5 * t + 5 ≤ L) (hkk : kk + 20 < 2 ^ 30) {H : Heap} {locs : List Loc} {ls : Array Slot} {cells slots : Nat} (hc : cells + 1 ≤ 600000) (hsl : slots + 5 ≤ 7302250) (hl : lv_has ls 4 [(3, .int (nI (5 * t))), (2, .ref bm), (1, .ref bx), (0, .ref b)]) (hW : LW D C s.heap.size bx bm kk H) (hS : va_S (fun q => s.heap.size ≤ q) s.heap H locs) (kk6 : ∀ (H1 : Heap) (locs1 : List Loc), LW D C s.heap.size bx bm (kk + 20) H1 → va_S (fun q => s.heap.size ≤ q) s.heap H1 locs1 → W p l e room_1 s m #[Value.ref b] below meth c H1 locs1 (cells + 1) (slots + 5) Q (F0 m 610 ls [])) : W p l e room_1 s m #[Value.ref b] below meth c H locs cells slots Q (F0 m 386 ls []) := by
  obtain ⟨nh, nv, na, Y, M, aY, aM, hRC, rfl, rfl, hY, hM, hdj⟩ := hW
  have hbA : ¬ s.heap.size ≤ b := Nat.not_le.mpr hbl
  refine lv_aload_n S.1 S.2.1 dL_law_386 rfl (lv_at hl 2 rfl) ?_
  refine lv_aload_n S.1 S.2.1 dL_law_387 rfl (lv_at hl 3 rfl) ?_
  refine lv_iload_n S.1 S.2.1 dL_law_388 rfl (lv_at hl 0 rfl) ?_
  refine lv_iconst (v := 1) S.1 S.2.1 dL_law_389 (by decide) ?_
  refine lv_iadd S.1 S.2.1 dL_law_390 ?_
  refine va_sld S.1 S.2.1 hX hbl hbA hS (i := nI (5 * t) + 1) (lin (k := 1) ht (by decide) hL) dL_law_391 ?_
  refine lv_aload_n S.1 S.2.1 dL_law_392 rfl (lv_at hl 3 rfl) ?_
  refine lv_iload_n S.1 S.2.1 dL_law_393 rfl (lv_at hl 0 rfl) ?_
  refine lv_iconst (v := 2) S.1 S.2.1 dL_law_394 (by decide) ?_
  refine lv_iadd S.1 S.2.1 dL_law_395 ?_
  refine va_sld S.1 S.2.1 hX hbl hbA hS (i := nI (5 * t) + 2) (lin (k := 2) ht (by decide) hL) dL_law_396 ?_
  refine lv_aload_n S.1 S.2.1 dL_law_397 rfl (lv_at hl 3 rfl) ?_
  refine lv_iload_n S.1 S.2.1 dL_law_398 rfl (lv_at hl 0 rfl) ?_
  refine lv_iconst (v := 3) S.1 S.2.1 dL_law_399 (by decide) ?_
  refine lv_iadd S.1 S.2.1 dL_law_400 ?_
  refine va_sld S.1 S.2.1 hX hbl hbA hS (i := nI (5 * t) + 3) (lin (k := 3) ht (by decide) hL) dL_law_401 ?_
  refine lv_aload_n S.1 S.2.1 dL_law_402 rfl (lv_at hl 3 rfl) ?_
  refine lv_iload_n S.1 S.2.1 dL_law_403 rfl (lv_at hl 0 rfl) ?_
  refine lv_iconst (v := 4) S.1 S.2.1 dL_law_404 (by decide) ?_
  refine lv_iadd S.1 S.2.1 dL_law_405 ?_
  refine va_sld S.1 S.2.1 hX hbl hbA hS (i := nI (5 * t) + 4) (lin (k := 4) ht (by decide) hL) dL_law_406 ?_
  refine nwL_V (A0 := fun q => s.heap.size ≤ q) (A := ownA (domY nh nv na) aY H.size) (b := aY 0 0) (As := [.int (xs ((nI (5 * t) + 1).toNatClampNeg)), .int (xs ((nI (5 * t) + 2).toNatClampNeg)), .int (xs ((nI (5 * t) + 3).toNatClampNeg)), .int (xs ((nI (5 * t) + 4).toNatClampNeg))]) (rest := []) S (kX9_task l D C (ownA (domY nh nv na) aY H.size) aY nh nv na Y (xs ((nI (5 * t) + 1).toNatClampNeg)) (xs ((nI (5 * t) + 2).toNatClampNeg)) (xs ((nI (5 * t) + 3).toNatClampNeg)) (xs ((nI (5 * t) + 4).toNatClampNeg)) kk hRC.1.inv) gL_law_X9_task rfl ⟨rfl, rfl⟩ hqX9_task ⟨Nat.le_of_ble_eq_true rfl, Nat.le_of_ble_eq_true rfl⟩ (nwL_preV hK hY.own (fun _ h => Or.inr h) (nw_recv hK hY (k := 0) (i := 0) ⟨by decide, rfl⟩ rfl rfl)) hS (ownA_sub hY hS.1) rfl hl.1 rfl (Nat.le_of_ble_eq_true rfl) dL_law_407 ⟨show cells + 0 ≤ 600000 by omega, show slots + 0 ≤ 7302250 by omega⟩ (fun H1 locs hG hz hq hS1 => ?_)
  obtain ⟨s1, s2⟩ := cTask hRC (xs ((nI (5 * t) + 1).toNatClampNeg)) (xs ((nI (5 * t) + 2).toNatClampNeg)) (xs ((nI (5 * t) + 3).toNatClampNeg)) (xs ((nI (5 * t) + 4).toNatClampNeg))
  obtain ⟨hY1, hM1, hdj1⟩ := joinY hS.1 hY hM hdj hG hq
  have hS := hS1
  refine lv_aload_n S.1 S.2.1 dL_law_410 rfl (lv_at hl 1 rfl) ?_
  refine lv_aload_n S.1 S.2.1 dL_law_411 rfl (lv_at hl 3 rfl) ?_
  refine lv_iload_n S.1 S.2.1 dL_law_412 rfl (lv_at hl 0 rfl) ?_
  refine lv_iconst (v := 1) S.1 S.2.1 dL_law_413 (by decide) ?_
  refine lv_iadd S.1 S.2.1 dL_law_414 ?_
  refine va_sld S.1 S.2.1 hX hbl hbA hS (i := nI (5 * t) + 1) (lin (k := 1) ht (by decide) hL) dL_law_415 ?_
  refine lv_aload_n S.1 S.2.1 dL_law_416 rfl (lv_at hl 3 rfl) ?_
  refine lv_iload_n S.1 S.2.1 dL_law_417 rfl (lv_at hl 0 rfl) ?_
  refine lv_iconst (v := 2) S.1 S.2.1 dL_law_418 (by decide) ?_
  refine lv_iadd S.1 S.2.1 dL_law_419 ?_
  refine va_sld S.1 S.2.1 hX hbl hbA hS (i := nI (5 * t) + 2) (lin (k := 2) ht (by decide) hL) dL_law_420 ?_
  refine lv_aload_n S.1 S.2.1 dL_law_421 rfl (lv_at hl 3 rfl) ?_
  refine lv_iload_n S.1 S.2.1 dL_law_422 rfl (lv_at hl 0 rfl) ?_
  refine lv_iconst (v := 3) S.1 S.2.1 dL_law_423 (by decide) ?_
  refine lv_iadd S.1 S.2.1 dL_law_424 ?_
  refine va_sld S.1 S.2.1 hX hbl hbA hS (i := nI (5 * t) + 3) (lin (k := 3) ht (by decide) hL) dL_law_425 ?_
  refine lv_aload_n S.1 S.2.1 dL_law_426 rfl (lv_at hl 3 rfl) ?_
  refine lv_iload_n S.1 S.2.1 dL_law_427 rfl (lv_at hl 0 rfl) ?_
  refine lv_iconst (v := 4) S.1 S.2.1 dL_law_428 (by decide) ?_
  refine lv_iadd S.1 S.2.1 dL_law_429 ?_
  refine va_sld S.1 S.2.1 hX hbl hbA hS (i := nI (5 * t) + 4) (lin (k := 4) ht (by decide) hL) dL_law_430 ?_
  refine nwL_V (A0 := fun q => s.heap.size ≤ q) (A := ownA domM aM H1.size) (b := aM 0 0) (As := [.int (xs ((nI (5 * t) + 1).toNatClampNeg)), .int (xs ((nI (5 * t) + 2).toNatClampNeg)), .int (xs ((nI (5 * t) + 3).toNatClampNeg)), .int (xs ((nI (5 * t) + 4).toNatClampNeg))]) (rest := [.int (fX9_task Y (xs ((nI (5 * t) + 1).toNatClampNeg)) (xs ((nI (5 * t) + 2).toNatClampNeg)) (xs ((nI (5 * t) + 3).toNatClampNeg)) (xs ((nI (5 * t) + 4).toNatClampNeg))).1]) S (kX10_task l D C (ownA domM aM H1.size) aM M (xs ((nI (5 * t) + 1).toNatClampNeg)) (xs ((nI (5 * t) + 2).toNatClampNeg)) (xs ((nI (5 * t) + 3).toNatClampNeg)) (xs ((nI (5 * t) + 4).toNatClampNeg)) kk hRC.1.invM) gL_law_X10_task rfl ⟨rfl, rfl⟩ hqX10_task ⟨Nat.le_of_ble_eq_true rfl, Nat.le_of_ble_eq_true rfl⟩ (nwL_preV hK hM1.own (fun _ h => Or.inr h) (nw_recv hK hM1 (k := 0) (i := 0) ⟨rfl, rfl⟩ rfl rfl)) hS (ownA_sub hM1 hS.1) rfl hl.1 rfl (Nat.le_of_ble_eq_true rfl) dL_law_431 ⟨show cells + 0 + 0 ≤ 600000 by omega, show slots + 0 + 0 ≤ 7302250 by omega⟩ (fun H2 locs hG2 hz2 hq2 hS2 => ?_)
  refine lv_icmp_eq (x := (fX9_task Y (xs ((nI (5 * t) + 1).toNatClampNeg)) (xs ((nI (5 * t) + 2).toNatClampNeg)) (xs ((nI (5 * t) + 3).toNatClampNeg)) (xs ((nI (5 * t) + 4).toNatClampNeg))).1) (y := (fX10_task M (xs ((nI (5 * t) + 1).toNatClampNeg)) (xs ((nI (5 * t) + 2).toNatClampNeg)) (xs ((nI (5 * t) + 3).toNatClampNeg)) (xs ((nI (5 * t) + 4).toNatClampNeg))).1) (tgt := 610) S.1 S.2.1 dL_law_434 (by decide) (fun _ => ?_) (fun ce => absurd s1 ce)
  refine W.widen (k := cells + 1) (n := slots + 5) (by omega) (by omega) ?_
  have hW2 := joinM hS.1 hY1 hM1 hdj1 hG2 hq2 (s2.more (Nat.le_add_right kk 20))
  exact kk6 _ _ hW2 hS2
set_option maxHeartbeats 4000000 in
set_option maxRecDepth 100000 in
theorem law_c9 {p : Program} {l : Launch} {e : Env} {s : State} {m : MethodId} {below : List Frame} {meth : Method} {c : Code} {b L : Nat} {xs : Nat → Int32} {D : va_G} {C : Nat → ClassId} {bx bm tt : Nat} {Q : State → Prop} (S : CallFix p m c cL_law 4 s #[Value.ref b] wsL_law RL) (hK : KK D C s) (hX : va_X b L xs s s.heap) (hbl : b < s.heap.size) (hZ : ZP tt (fun q => s.heap.size ≤ q) s s.heap) (hL : L ≤ 2560) {t kk : Nat} (ht : 5 * t + 5 ≤ L) (hkk : kk + 20 < 2 ^ 30) {H : Heap} {locs : List Loc} {ls : Array Slot} {cells slots : Nat} (hc : cells + 1 ≤ 600000) (hsl : slots + 5 ≤ 7302250) (hl : lv_has ls 4 [(3, .int (nI (5 * t))), (2, .ref bm), (1, .ref bx), (0, .ref b)]) (hW : LW D C s.heap.size bx bm kk H) (hS : va_S (fun q => s.heap.size ≤ q) s.heap H locs) (kk6 : ∀ (H1 : Heap) (locs1 : List Loc), LW D C s.heap.size bx bm (kk + 20) H1 → va_S (fun q => s.heap.size ≤ q) s.heap H1 locs1 → W p l e room_1 s m #[Value.ref b] below meth c H1 locs1 (cells + 1) (slots + 5) Q (F0 m 610 ls [])) : W p l e room_1 s m #[Value.ref b] below meth c H locs cells slots Q (F0 m 439 ls []) := by
  obtain ⟨nh, nv, na, Y, M, aY, aM, hRC, rfl, rfl, hY, hM, hdj⟩ := hW
  have hbA : ¬ s.heap.size ≤ b := Nat.not_le.mpr hbl
  refine lv_aload_n S.1 S.2.1 dL_law_439 rfl (lv_at hl 2 rfl) ?_
  refine nwL_V (A0 := fun q => s.heap.size ≤ q) (A := ownA (domY nh nv na) aY H.size) (b := aY 0 0) (As := []) (rest := []) S (kX9_clear l D C (ownA (domY nh nv na) aY H.size) aY nh nv na Y  ) gL_law_X9_clear rfl ⟨rfl, rfl⟩ hqX9_clear ⟨Nat.le_of_ble_eq_true rfl, Nat.le_of_ble_eq_true rfl⟩ (nwL_preV hK hY.own (fun _ h => Or.inr h) (nw_recv hK hY (k := 0) (i := 0) ⟨by decide, rfl⟩ rfl rfl)) hS (ownA_sub hY hS.1) rfl hl.1 rfl (Nat.le_of_ble_eq_true rfl) dL_law_440 ⟨show cells + 0 ≤ 600000 by omega, show slots + 0 ≤ 7302250 by omega⟩ (fun H1 locs hG hz hq hS1 => ?_)
  obtain ⟨s1, s2⟩ := cClear hRC 
  obtain ⟨hY1, hM1, hdj1⟩ := joinY hS.1 hY hM hdj hG hq
  have hS := hS1
  refine lv_aload_n S.1 S.2.1 dL_law_443 rfl (lv_at hl 1 rfl) ?_
  refine nwL_V (A0 := fun q => s.heap.size ≤ q) (A := ownA domM aM H1.size) (b := aM 0 0) (As := []) (rest := [.int (fX9_clear Y).1]) S (kX10_clear l D C (ownA domM aM H1.size) aM M  ) gL_law_X10_clear rfl ⟨rfl, rfl⟩ hqX10_clear ⟨Nat.le_of_ble_eq_true rfl, Nat.le_of_ble_eq_true rfl⟩ (nwL_preV hK hM1.own (fun _ h => Or.inr h) (nw_recv hK hM1 (k := 0) (i := 0) ⟨rfl, rfl⟩ rfl rfl)) hS (ownA_sub hM1 hS.1) rfl hl.1 rfl (Nat.le_of_ble_eq_true rfl) dL_law_444 ⟨show cells + 0 + 0 ≤ 600000 by omega, show slots + 0 + 0 ≤ 7302250 by omega⟩ (fun H2 locs hG2 hz2 hq2 hS2 => ?_)
  refine lv_icmp_eq (x := (fX9_clear Y).1) (y := (fX10_clear M).1) (tgt := 610) S.1 S.2.1 dL_law_447 (by decide) (fun _ => ?_) (fun ce => absurd s1 ce)
  refine W.widen (k := cells + 1) (n := slots + 5) (by omega) (by omega) ?_
  have hW2 := joinM hS.1 hY1 hM1 hdj1 hG2 hq2 (s2.more (Nat.le_add_right kk 20))
  exact kk6 _ _ hW2 hS2
set_option maxHeartbeats 4000000 in
set_option maxRecDepth 100000 in
theorem law_c10 {p : Program} {l : Launch} {e : Env} {s : State} {m : MethodId} {below : List Frame} {meth : Method} {c : Code} {b L : Nat} {xs : Nat → Int32} {D : va_G} {C : Nat → ClassId} {bx bm tt : Nat} {Q : State → Prop} (S : CallFix p m c cL_law 4 s #[Value.ref b] wsL_law RL) (hK : KK D C s) (hX : va_X b L xs s s.heap) (hbl : b < s.heap.size) (hZ : ZP tt (fun q => s.heap.size ≤ q) s s.heap) (hL : L ≤ 2560) {t kk : Nat} (ht : 5 * t + 5 ≤ L) (hkk : kk + 20 < 2 ^ 30) {H : Heap} {locs : List Loc} {ls : Array Slot} {cells slots : Nat} (hc : cells + 1 ≤ 600000) (hsl : slots + 5 ≤ 7302250) (hl : lv_has ls 4 [(3, .int (nI (5 * t))), (2, .ref bm), (1, .ref bx), (0, .ref b)]) (hW : LW D C s.heap.size bx bm kk H) (hS : va_S (fun q => s.heap.size ≤ q) s.heap H locs) (kk6 : ∀ (H1 : Heap) (locs1 : List Loc), LW D C s.heap.size bx bm (kk + 20) H1 → va_S (fun q => s.heap.size ≤ q) s.heap H1 locs1 → W p l e room_1 s m #[Value.ref b] below meth c H1 locs1 (cells + 1) (slots + 5) Q (F0 m 610 ls [])) : W p l e room_1 s m #[Value.ref b] below meth c H locs cells slots Q (F0 m 452 ls []) := by
  obtain ⟨nh, nv, na, Y, M, aY, aM, hRC, rfl, rfl, hY, hM, hdj⟩ := hW
  have hbA : ¬ s.heap.size ≤ b := Nat.not_le.mpr hbl
  refine lv_aload_n S.1 S.2.1 dL_law_452 rfl (lv_at hl 2 rfl) ?_
  refine nwL_V (A0 := fun q => s.heap.size ≤ q) (A := ownA (domY nh nv na) aY H.size) (b := aY 0 0) (As := []) (rest := []) S (kX9_day l D C (ownA (domY nh nv na) aY H.size) aY nh nv na Y  kk ⟨M, hRC⟩ hkk) gL_law_X9_day rfl ⟨rfl, rfl⟩ hqX9_day ⟨Nat.le_of_ble_eq_true rfl, Nat.le_of_ble_eq_true rfl⟩ (nwL_preV hK hY.own (fun _ h => Or.inr h) (nw_recv hK hY (k := 0) (i := 0) ⟨by decide, rfl⟩ rfl rfl)) hS (ownA_sub hY hS.1) rfl hl.1 rfl (Nat.le_of_ble_eq_true rfl) dL_law_453 ⟨show cells + 0 ≤ 600000 by omega, show slots + 0 ≤ 7302250 by omega⟩ (fun H1 locs hG hz hq hS1 => ?_)
  obtain ⟨s1, s2⟩ := cDay hRC  hkk
  obtain ⟨hY1, hM1, hdj1⟩ := joinY hS.1 hY hM hdj hG hq
  have hS := hS1
  refine lv_aload_n S.1 S.2.1 dL_law_456 rfl (lv_at hl 1 rfl) ?_
  refine nwL_V (A0 := fun q => s.heap.size ≤ q) (A := ownA domM aM H1.size) (b := aM 0 0) (As := []) (rest := [.int (fX9_day Y).1]) S (kX10_day l D C (ownA domM aM H1.size) aM M  kk ⟨nh, nv, na, Y, hRC⟩ hkk) gL_law_X10_day rfl ⟨rfl, rfl⟩ hqX10_day ⟨Nat.le_of_ble_eq_true rfl, Nat.le_of_ble_eq_true rfl⟩ (nwL_preV hK hM1.own (fun _ h => Or.inr h) (nw_recv hK hM1 (k := 0) (i := 0) ⟨rfl, rfl⟩ rfl rfl)) hS (ownA_sub hM1 hS.1) rfl hl.1 rfl (Nat.le_of_ble_eq_true rfl) dL_law_457 ⟨show cells + 0 + 0 ≤ 600000 by omega, show slots + 0 + 0 ≤ 7302250 by omega⟩ (fun H2 locs hG2 hz2 hq2 hS2 => ?_)
  refine lv_icmp_eq (x := (fX9_day Y).1) (y := (fX10_day M).1) (tgt := 610) S.1 S.2.1 dL_law_460 (by decide) (fun _ => ?_) (fun ce => absurd s1 ce)
  refine W.widen (k := cells + 1) (n := slots + 5) (by omega) (by omega) ?_
  have hW2 := joinM hS.1 hY1 hM1 hdj1 hG2 hq2 s2
  exact kk6 _ _ hW2 hS2
set_option maxHeartbeats 4000000 in
set_option maxRecDepth 100000 in
theorem law_c11 {p : Program} {l : Launch} {e : Env} {s : State} {m : MethodId} {below : List Frame} {meth : Method} {c : Code} {b L : Nat} {xs : Nat → Int32} {D : va_G} {C : Nat → ClassId} {bx bm tt : Nat} {Q : State → Prop} (S : CallFix p m c cL_law 4 s #[Value.ref b] wsL_law RL) (hK : KK D C s) (hX : va_X b L xs s s.heap) (hbl : b < s.heap.size) (hZ : ZP tt (fun q => s.heap.size ≤ q) s s.heap) (hL : L ≤ 2560) {t kk : Nat} (ht : 5 * t + 5 ≤ L) (hkk : kk + 20 < 2 ^ 30) {H : Heap} {locs : List Loc} {ls : Array Slot} {cells slots : Nat} (hc : cells + 1 ≤ 600000) (hsl : slots + 5 ≤ 7302250) (hl : lv_has ls 4 [(3, .int (nI (5 * t))), (2, .ref bm), (1, .ref bx), (0, .ref b)]) (hW : LW D C s.heap.size bx bm kk H) (hS : va_S (fun q => s.heap.size ≤ q) s.heap H locs) (kk6 : ∀ (H1 : Heap) (locs1 : List Loc), LW D C s.heap.size bx bm (kk + 20) H1 → va_S (fun q => s.heap.size ≤ q) s.heap H1 locs1 → W p l e room_1 s m #[Value.ref b] below meth c H1 locs1 (cells + 1) (slots + 5) Q (F0 m 610 ls [])) : W p l e room_1 s m #[Value.ref b] below meth c H locs cells slots Q (F0 m 465 ls []) := by
  obtain ⟨nh, nv, na, Y, M, aY, aM, hRC, rfl, rfl, hY, hM, hdj⟩ := hW
  have hbA : ¬ s.heap.size ≤ b := Nat.not_le.mpr hbl
  refine lv_aload_n S.1 S.2.1 dL_law_465 rfl (lv_at hl 2 rfl) ?_
  refine lv_aload_n S.1 S.2.1 dL_law_466 rfl (lv_at hl 3 rfl) ?_
  refine lv_iload_n S.1 S.2.1 dL_law_467 rfl (lv_at hl 0 rfl) ?_
  refine lv_iconst (v := 1) S.1 S.2.1 dL_law_468 (by decide) ?_
  refine lv_iadd S.1 S.2.1 dL_law_469 ?_
  refine va_sld S.1 S.2.1 hX hbl hbA hS (i := nI (5 * t) + 1) (lin (k := 1) ht (by decide) hL) dL_law_470 ?_
  refine lv_aload_n S.1 S.2.1 dL_law_471 rfl (lv_at hl 3 rfl) ?_
  refine lv_iload_n S.1 S.2.1 dL_law_472 rfl (lv_at hl 0 rfl) ?_
  refine lv_iconst (v := 2) S.1 S.2.1 dL_law_473 (by decide) ?_
  refine lv_iadd S.1 S.2.1 dL_law_474 ?_
  refine va_sld S.1 S.2.1 hX hbl hbA hS (i := nI (5 * t) + 2) (lin (k := 2) ht (by decide) hL) dL_law_475 ?_
  refine nwL_V (A0 := fun q => s.heap.size ≤ q) (A := ownA (domY nh nv na) aY H.size) (b := aY 0 0) (As := [.int (xs ((nI (5 * t) + 1).toNatClampNeg)), .int (xs ((nI (5 * t) + 2).toNatClampNeg))]) (rest := []) S (kX9_book l D C (ownA (domY nh nv na) aY H.size) aY nh nv na Y (xs ((nI (5 * t) + 1).toNatClampNeg)) (xs ((nI (5 * t) + 2).toNatClampNeg)) kk hRC.1.inv) gL_law_X9_book rfl ⟨rfl, rfl⟩ hqX9_book ⟨Nat.le_of_ble_eq_true rfl, Nat.le_of_ble_eq_true rfl⟩ (nwL_preV hK hY.own (fun _ h => Or.inr h) (nw_recv hK hY (k := 0) (i := 0) ⟨by decide, rfl⟩ rfl rfl)) hS (ownA_sub hY hS.1) rfl hl.1 rfl (Nat.le_of_ble_eq_true rfl) dL_law_476 ⟨show cells + 0 ≤ 600000 by omega, show slots + 0 ≤ 7302250 by omega⟩ (fun H1 locs hG hz hq hS1 => ?_)
  obtain ⟨s1, s2⟩ := cBook hRC (xs ((nI (5 * t) + 1).toNatClampNeg)) (xs ((nI (5 * t) + 2).toNatClampNeg))
  obtain ⟨hY1, hM1, hdj1⟩ := joinY hS.1 hY hM hdj hG hq
  have hS := hS1
  refine lv_aload_n S.1 S.2.1 dL_law_479 rfl (lv_at hl 1 rfl) ?_
  refine lv_aload_n S.1 S.2.1 dL_law_480 rfl (lv_at hl 3 rfl) ?_
  refine lv_iload_n S.1 S.2.1 dL_law_481 rfl (lv_at hl 0 rfl) ?_
  refine lv_iconst (v := 1) S.1 S.2.1 dL_law_482 (by decide) ?_
  refine lv_iadd S.1 S.2.1 dL_law_483 ?_
  refine va_sld S.1 S.2.1 hX hbl hbA hS (i := nI (5 * t) + 1) (lin (k := 1) ht (by decide) hL) dL_law_484 ?_
  refine lv_aload_n S.1 S.2.1 dL_law_485 rfl (lv_at hl 3 rfl) ?_
  refine lv_iload_n S.1 S.2.1 dL_law_486 rfl (lv_at hl 0 rfl) ?_
  refine lv_iconst (v := 2) S.1 S.2.1 dL_law_487 (by decide) ?_
  refine lv_iadd S.1 S.2.1 dL_law_488 ?_
  refine va_sld S.1 S.2.1 hX hbl hbA hS (i := nI (5 * t) + 2) (lin (k := 2) ht (by decide) hL) dL_law_489 ?_
  refine nwL_V (A0 := fun q => s.heap.size ≤ q) (A := ownA domM aM H1.size) (b := aM 0 0) (As := [.int (xs ((nI (5 * t) + 1).toNatClampNeg)), .int (xs ((nI (5 * t) + 2).toNatClampNeg))]) (rest := [.int (fX9_book Y (xs ((nI (5 * t) + 1).toNatClampNeg)) (xs ((nI (5 * t) + 2).toNatClampNeg))).1]) S (kX10_book l D C (ownA domM aM H1.size) aM M (xs ((nI (5 * t) + 1).toNatClampNeg)) (xs ((nI (5 * t) + 2).toNatClampNeg)) kk hRC.1.invM) gL_law_X10_book rfl ⟨rfl, rfl⟩ hqX10_book ⟨Nat.le_of_ble_eq_true rfl, Nat.le_of_ble_eq_true rfl⟩ (nwL_preV hK hM1.own (fun _ h => Or.inr h) (nw_recv hK hM1 (k := 0) (i := 0) ⟨rfl, rfl⟩ rfl rfl)) hS (ownA_sub hM1 hS.1) rfl hl.1 rfl (Nat.le_of_ble_eq_true rfl) dL_law_490 ⟨show cells + 0 + 0 ≤ 600000 by omega, show slots + 0 + 0 ≤ 7302250 by omega⟩ (fun H2 locs hG2 hz2 hq2 hS2 => ?_)
  refine lv_icmp_eq (x := (fX9_book Y (xs ((nI (5 * t) + 1).toNatClampNeg)) (xs ((nI (5 * t) + 2).toNatClampNeg))).1) (y := (fX10_book M (xs ((nI (5 * t) + 1).toNatClampNeg)) (xs ((nI (5 * t) + 2).toNatClampNeg))).1) (tgt := 610) S.1 S.2.1 dL_law_493 (by decide) (fun _ => ?_) (fun ce => absurd s1 ce)
  refine W.widen (k := cells + 1) (n := slots + 5) (by omega) (by omega) ?_
  have hW2 := joinM hS.1 hY1 hM1 hdj1 hG2 hq2 (s2.more (Nat.le_add_right kk 20))
  exact kk6 _ _ hW2 hS2
