set_option maxHeartbeats 4000000 in
set_option maxRecDepth 100000 in
theorem law_c12 {p : Program} {l : Launch} {e : Env} {s : State} {m : MethodId} {below : List Frame} {meth : Method} {c : Code} {b L : Nat} {xs : Nat → Int32} {D : va_G} {C : Nat → ClassId} {bx bm tt : Nat} {Q : State → Prop} (S : CallFix p m c cL_law 4 s #[Value.ref b] wsL_law RL) (hK : KK D C s) (hX : va_X b L xs s s.heap) (hbl : b < s.heap.size) (hZ : ZP tt (fun q => s.heap.size ≤ q) s s.heap) (hL : L ≤ 2560) {t kk : Nat} (ht : 5 * t + 5 ≤ L) (hkk : kk + 20 < 2 ^ 30) {H : Heap} {locs : List Loc} {ls : Array Slot} {cells slots : Nat} (hc : cells + 1 ≤ 600000) (hsl : slots + 5 ≤ 7302250) (hl : lv_has ls 4 [(3, .int (nI (5 * t))), (2, .ref bm), (1, .ref bx), (0, .ref b)]) (hW : LW D C s.heap.size bx bm kk H) (hS : va_S (fun q => s.heap.size ≤ q) s.heap H locs) (kk6 : ∀ (H1 : Heap) (locs1 : List Loc), LW D C s.heap.size bx bm (kk + 20) H1 → va_S (fun q => s.heap.size ≤ q) s.heap H1 locs1 → W p l e room_1 s m #[Value.ref b] below meth c H1 locs1 (cells + 1) (slots + 5) Q (F0 m 610 ls [])) : W p l e room_1 s m #[Value.ref b] below meth c H locs cells slots Q (F0 m 498 ls []) := by
  obtain ⟨nh, nv, na, Y, M, aY, aM, hRC, rfl, rfl, hY, hM, hdj⟩ := hW
  have hbA : ¬ s.heap.size ≤ b := Nat.not_le.mpr hbl
  refine lv_aload_n S.1 S.2.1 dL_law_498 rfl (lv_at hl 2 rfl) ?_
  refine lv_aload_n S.1 S.2.1 dL_law_499 rfl (lv_at hl 3 rfl) ?_
  refine lv_iload_n S.1 S.2.1 dL_law_500 rfl (lv_at hl 0 rfl) ?_
  refine lv_iconst (v := 1) S.1 S.2.1 dL_law_501 (by decide) ?_
  refine lv_iadd S.1 S.2.1 dL_law_502 ?_
  refine va_sld S.1 S.2.1 hX hbl hbA hS (i := nI (5 * t) + 1) (lin (k := 1) ht (by decide) hL) dL_law_503 ?_
  refine lv_aload_n S.1 S.2.1 dL_law_504 rfl (lv_at hl 3 rfl) ?_
  refine lv_iload_n S.1 S.2.1 dL_law_505 rfl (lv_at hl 0 rfl) ?_
  refine lv_iconst (v := 2) S.1 S.2.1 dL_law_506 (by decide) ?_
  refine lv_iadd S.1 S.2.1 dL_law_507 ?_
  refine va_sld S.1 S.2.1 hX hbl hbA hS (i := nI (5 * t) + 2) (lin (k := 2) ht (by decide) hL) dL_law_508 ?_
  refine nwL_V (A0 := fun q => s.heap.size ≤ q) (A := ownA (domY nh nv na) aY H.size) (b := aY 0 0) (As := [.int (xs ((nI (5 * t) + 1).toNatClampNeg)), .int (xs ((nI (5 * t) + 2).toNatClampNeg))]) (rest := []) S (kX9_horseTells l D C (ownA (domY nh nv na) aY H.size) aY nh nv na Y (xs ((nI (5 * t) + 1).toNatClampNeg)) (xs ((nI (5 * t) + 2).toNatClampNeg)) kk hRC.1.inv) gL_law_X9_horseTells rfl ⟨rfl, rfl⟩ hqX9_horseTells ⟨Nat.le_of_ble_eq_true rfl, Nat.le_of_ble_eq_true rfl⟩ (nwL_preV hK hY.own (fun _ h => Or.inr h) (nw_recv hK hY (k := 0) (i := 0) ⟨by decide, rfl⟩ rfl rfl)) hS (ownA_sub hY hS.1) rfl hl.1 rfl (Nat.le_of_ble_eq_true rfl) dL_law_509 ⟨show cells + 0 ≤ 600000 by omega, show slots + 0 ≤ 7302250 by omega⟩ (fun H1 locs hG hz hq hS1 => ?_)
  obtain ⟨s1, s2⟩ := cTells hRC (xs ((nI (5 * t) + 1).toNatClampNeg)) (xs ((nI (5 * t) + 2).toNatClampNeg))
  obtain ⟨hY1, hM1, hdj1⟩ := joinY hS.1 hY hM hdj hG hq
  have hS := hS1
  refine lv_aload_n S.1 S.2.1 dL_law_512 rfl (lv_at hl 1 rfl) ?_
  refine lv_aload_n S.1 S.2.1 dL_law_513 rfl (lv_at hl 3 rfl) ?_
  refine lv_iload_n S.1 S.2.1 dL_law_514 rfl (lv_at hl 0 rfl) ?_
  refine lv_iconst (v := 1) S.1 S.2.1 dL_law_515 (by decide) ?_
  refine lv_iadd S.1 S.2.1 dL_law_516 ?_
  refine va_sld S.1 S.2.1 hX hbl hbA hS (i := nI (5 * t) + 1) (lin (k := 1) ht (by decide) hL) dL_law_517 ?_
  refine lv_aload_n S.1 S.2.1 dL_law_518 rfl (lv_at hl 3 rfl) ?_
  refine lv_iload_n S.1 S.2.1 dL_law_519 rfl (lv_at hl 0 rfl) ?_
  refine lv_iconst (v := 2) S.1 S.2.1 dL_law_520 (by decide) ?_
  refine lv_iadd S.1 S.2.1 dL_law_521 ?_
  refine va_sld S.1 S.2.1 hX hbl hbA hS (i := nI (5 * t) + 2) (lin (k := 2) ht (by decide) hL) dL_law_522 ?_
  refine nwL_V (A0 := fun q => s.heap.size ≤ q) (A := ownA domM aM H1.size) (b := aM 0 0) (As := [.int (xs ((nI (5 * t) + 1).toNatClampNeg)), .int (xs ((nI (5 * t) + 2).toNatClampNeg))]) (rest := [.int (fX9_horseTells Y (xs ((nI (5 * t) + 1).toNatClampNeg)) (xs ((nI (5 * t) + 2).toNatClampNeg))).1]) S (kX10_horseTells l D C (ownA domM aM H1.size) aM M (xs ((nI (5 * t) + 1).toNatClampNeg)) (xs ((nI (5 * t) + 2).toNatClampNeg)) kk hRC.1.invM) gL_law_X10_horseTells rfl ⟨rfl, rfl⟩ hqX10_horseTells ⟨Nat.le_of_ble_eq_true rfl, Nat.le_of_ble_eq_true rfl⟩ (nwL_preV hK hM1.own (fun _ h => Or.inr h) (nw_recv hK hM1 (k := 0) (i := 0) ⟨rfl, rfl⟩ rfl rfl)) hS (ownA_sub hM1 hS.1) rfl hl.1 rfl (Nat.le_of_ble_eq_true rfl) dL_law_523 ⟨show cells + 0 + 0 ≤ 600000 by omega, show slots + 0 + 0 ≤ 7302250 by omega⟩ (fun H2 locs hG2 hz2 hq2 hS2 => ?_)
  refine lv_icmp_eq (x := (fX9_horseTells Y (xs ((nI (5 * t) + 1).toNatClampNeg)) (xs ((nI (5 * t) + 2).toNatClampNeg))).1) (y := (fX10_horseTells M (xs ((nI (5 * t) + 1).toNatClampNeg)) (xs ((nI (5 * t) + 2).toNatClampNeg))).1) (tgt := 610) S.1 S.2.1 dL_law_526 (by decide) (fun _ => ?_) (fun ce => absurd s1 ce)
  refine W.widen (k := cells + 1) (n := slots + 5) (by omega) (by omega) ?_
  have hW2 := joinM hS.1 hY1 hM1 hdj1 hG2 hq2 (s2.more (Nat.le_add_right kk 20))
  exact kk6 _ _ hW2 hS2
set_option maxHeartbeats 4000000 in
set_option maxRecDepth 100000 in
theorem law_c13 {p : Program} {l : Launch} {e : Env} {s : State} {m : MethodId} {below : List Frame} {meth : Method} {c : Code} {b L : Nat} {xs : Nat → Int32} {D : va_G} {C : Nat → ClassId} {bx bm tt : Nat} {Q : State → Prop} (S : CallFix p m c cL_law 4 s #[Value.ref b] wsL_law RL) (hK : KK D C s) (hX : va_X b L xs s s.heap) (hbl : b < s.heap.size) (hZ : ZP tt (fun q => s.heap.size ≤ q) s s.heap) (hL : L ≤ 2560) {t kk : Nat} (ht : 5 * t + 5 ≤ L) (hkk : kk + 20 < 2 ^ 30) {H : Heap} {locs : List Loc} {ls : Array Slot} {cells slots : Nat} (hc : cells + 1 ≤ 600000) (hsl : slots + 5 ≤ 7302250) (hl : lv_has ls 4 [(3, .int (nI (5 * t))), (2, .ref bm), (1, .ref bx), (0, .ref b)]) (hW : LW D C s.heap.size bx bm kk H) (hS : va_S (fun q => s.heap.size ≤ q) s.heap H locs) (kk6 : ∀ (H1 : Heap) (locs1 : List Loc), LW D C s.heap.size bx bm (kk + 20) H1 → va_S (fun q => s.heap.size ≤ q) s.heap H1 locs1 → W p l e room_1 s m #[Value.ref b] below meth c H1 locs1 (cells + 1) (slots + 5) Q (F0 m 610 ls [])) : W p l e room_1 s m #[Value.ref b] below meth c H locs cells slots Q (F0 m 531 ls []) := by
  obtain ⟨nh, nv, na, Y, M, aY, aM, hRC, rfl, rfl, hY, hM, hdj⟩ := hW
  have hbA : ¬ s.heap.size ≤ b := Nat.not_le.mpr hbl
  refine lv_aload_n S.1 S.2.1 dL_law_531 rfl (lv_at hl 2 rfl) ?_
  refine lv_aload_n S.1 S.2.1 dL_law_532 rfl (lv_at hl 3 rfl) ?_
  refine lv_iload_n S.1 S.2.1 dL_law_533 rfl (lv_at hl 0 rfl) ?_
  refine lv_iconst (v := 1) S.1 S.2.1 dL_law_534 (by decide) ?_
  refine lv_iadd S.1 S.2.1 dL_law_535 ?_
  refine va_sld S.1 S.2.1 hX hbl hbA hS (i := nI (5 * t) + 1) (lin (k := 1) ht (by decide) hL) dL_law_536 ?_
  refine nwL_V (A0 := fun q => s.heap.size ≤ q) (A := ownA (domY nh nv na) aY H.size) (b := aY 0 0) (As := [.int (xs ((nI (5 * t) + 1).toNatClampNeg))]) (rest := []) S (kX9_shed l D C (ownA (domY nh nv na) aY H.size) aY nh nv na Y (xs ((nI (5 * t) + 1).toNatClampNeg)) kk hRC.1.inv) gL_law_X9_shed rfl ⟨rfl, rfl⟩ hqX9_shed ⟨Nat.le_of_ble_eq_true rfl, Nat.le_of_ble_eq_true rfl⟩ (nwL_preV hK hY.own (fun _ h => Or.inr h) (nw_recv hK hY (k := 0) (i := 0) ⟨by decide, rfl⟩ rfl rfl)) hS (ownA_sub hY hS.1) rfl hl.1 rfl (Nat.le_of_ble_eq_true rfl) dL_law_537 ⟨show cells + 0 ≤ 600000 by omega, show slots + 0 ≤ 7302250 by omega⟩ (fun H1 locs hG hz hq hS1 => ?_)
  obtain ⟨s1, s2⟩ := cShed hRC (xs ((nI (5 * t) + 1).toNatClampNeg))
  obtain ⟨hY1, hM1, hdj1⟩ := joinY hS.1 hY hM hdj hG hq
  have hS := hS1
  refine lv_aload_n S.1 S.2.1 dL_law_540 rfl (lv_at hl 1 rfl) ?_
  refine lv_aload_n S.1 S.2.1 dL_law_541 rfl (lv_at hl 3 rfl) ?_
  refine lv_iload_n S.1 S.2.1 dL_law_542 rfl (lv_at hl 0 rfl) ?_
  refine lv_iconst (v := 1) S.1 S.2.1 dL_law_543 (by decide) ?_
  refine lv_iadd S.1 S.2.1 dL_law_544 ?_
  refine va_sld S.1 S.2.1 hX hbl hbA hS (i := nI (5 * t) + 1) (lin (k := 1) ht (by decide) hL) dL_law_545 ?_
  refine nwL_V (A0 := fun q => s.heap.size ≤ q) (A := ownA domM aM H1.size) (b := aM 0 0) (As := [.int (xs ((nI (5 * t) + 1).toNatClampNeg))]) (rest := [.int (fX9_shed Y (xs ((nI (5 * t) + 1).toNatClampNeg))).1]) S (kX10_shed l D C (ownA domM aM H1.size) aM M (xs ((nI (5 * t) + 1).toNatClampNeg)) ) gL_law_X10_shed rfl ⟨rfl, rfl⟩ hqX10_shed ⟨Nat.le_of_ble_eq_true rfl, Nat.le_of_ble_eq_true rfl⟩ (nwL_preV hK hM1.own (fun _ h => Or.inr h) (nw_recv hK hM1 (k := 0) (i := 0) ⟨rfl, rfl⟩ rfl rfl)) hS (ownA_sub hM1 hS.1) rfl hl.1 rfl (Nat.le_of_ble_eq_true rfl) dL_law_546 ⟨show cells + 0 + 0 ≤ 600000 by omega, show slots + 0 + 0 ≤ 7302250 by omega⟩ (fun H2 locs hG2 hz2 hq2 hS2 => ?_)
  refine lv_icmp_eq (x := (fX9_shed Y (xs ((nI (5 * t) + 1).toNatClampNeg))).1) (y := (fX10_shed M (xs ((nI (5 * t) + 1).toNatClampNeg))).1) (tgt := 610) S.1 S.2.1 dL_law_549 (by decide) (fun _ => ?_) (fun ce => absurd s1 ce)
  refine W.widen (k := cells + 1) (n := slots + 5) (by omega) (by omega) ?_
  have hW2 := joinM hS.1 hY1 hM1 hdj1 hG2 hq2 (s2.more (Nat.le_add_right kk 20))
  exact kk6 _ _ hW2 hS2
set_option maxHeartbeats 4000000 in
set_option maxRecDepth 100000 in
theorem law_c14 {p : Program} {l : Launch} {e : Env} {s : State} {m : MethodId} {below : List Frame} {meth : Method} {c : Code} {b L : Nat} {xs : Nat → Int32} {D : va_G} {C : Nat → ClassId} {bx bm tt : Nat} {Q : State → Prop} (S : CallFix p m c cL_law 4 s #[Value.ref b] wsL_law RL) (hK : KK D C s) (hX : va_X b L xs s s.heap) (hbl : b < s.heap.size) (hZ : ZP tt (fun q => s.heap.size ≤ q) s s.heap) (hL : L ≤ 2560) {t kk : Nat} (ht : 5 * t + 5 ≤ L) (hkk : kk + 20 < 2 ^ 30) {H : Heap} {locs : List Loc} {ls : Array Slot} {cells slots : Nat} (hc : cells + 1 ≤ 600000) (hsl : slots + 5 ≤ 7302250) (hl : lv_has ls 4 [(3, .int (nI (5 * t))), (2, .ref bm), (1, .ref bx), (0, .ref b)]) (hW : LW D C s.heap.size bx bm kk H) (hS : va_S (fun q => s.heap.size ≤ q) s.heap H locs) (kk6 : ∀ (H1 : Heap) (locs1 : List Loc), LW D C s.heap.size bx bm (kk + 20) H1 → va_S (fun q => s.heap.size ≤ q) s.heap H1 locs1 → W p l e room_1 s m #[Value.ref b] below meth c H1 locs1 (cells + 1) (slots + 5) Q (F0 m 610 ls [])) : W p l e room_1 s m #[Value.ref b] below meth c H locs cells slots Q (F0 m 554 ls []) := by
  obtain ⟨nh, nv, na, Y, M, aY, aM, hRC, rfl, rfl, hY, hM, hdj⟩ := hW
  have hbA : ¬ s.heap.size ≤ b := Nat.not_le.mpr hbl
  refine lv_aload_n S.1 S.2.1 dL_law_554 rfl (lv_at hl 2 rfl) ?_
  refine lv_aload_n S.1 S.2.1 dL_law_555 rfl (lv_at hl 3 rfl) ?_
  refine lv_iload_n S.1 S.2.1 dL_law_556 rfl (lv_at hl 0 rfl) ?_
  refine lv_iconst (v := 1) S.1 S.2.1 dL_law_557 (by decide) ?_
  refine lv_iadd S.1 S.2.1 dL_law_558 ?_
  refine va_sld S.1 S.2.1 hX hbl hbA hS (i := nI (5 * t) + 1) (lin (k := 1) ht (by decide) hL) dL_law_559 ?_
  refine lv_aload_n S.1 S.2.1 dL_law_560 rfl (lv_at hl 3 rfl) ?_
  refine lv_iload_n S.1 S.2.1 dL_law_561 rfl (lv_at hl 0 rfl) ?_
  refine lv_iconst (v := 2) S.1 S.2.1 dL_law_562 (by decide) ?_
  refine lv_iadd S.1 S.2.1 dL_law_563 ?_
  refine va_sld S.1 S.2.1 hX hbl hbA hS (i := nI (5 * t) + 2) (lin (k := 2) ht (by decide) hL) dL_law_564 ?_
  refine nwL_V (A0 := fun q => s.heap.size ≤ q) (A := ownA (domY nh nv na) aY H.size) (b := aY 0 0) (As := [.int (xs ((nI (5 * t) + 1).toNatClampNeg)), .int (xs ((nI (5 * t) + 2).toNatClampNeg))]) (rest := []) S (kX9_same l D C (ownA (domY nh nv na) aY H.size) aY nh nv na Y (xs ((nI (5 * t) + 1).toNatClampNeg)) (xs ((nI (5 * t) + 2).toNatClampNeg)) kk hRC.1.inv) gL_law_X9_same rfl ⟨rfl, rfl⟩ hqX9_same ⟨Nat.le_of_ble_eq_true rfl, Nat.le_of_ble_eq_true rfl⟩ (nwL_preV hK hY.own (fun _ h => Or.inr h) (nw_recv hK hY (k := 0) (i := 0) ⟨by decide, rfl⟩ rfl rfl)) hS (ownA_sub hY hS.1) rfl hl.1 rfl (Nat.le_of_ble_eq_true rfl) dL_law_565 ⟨show cells + 0 ≤ 600000 by omega, show slots + 0 ≤ 7302250 by omega⟩ (fun H1 locs hG hz hq hS1 => ?_)
  obtain ⟨s1, s2⟩ := cSame hRC (xs ((nI (5 * t) + 1).toNatClampNeg)) (xs ((nI (5 * t) + 2).toNatClampNeg))
  obtain ⟨hY1, hM1, hdj1⟩ := joinY hS.1 hY hM hdj hG hq
  have hS := hS1
  refine lv_aload_n S.1 S.2.1 dL_law_568 rfl (lv_at hl 1 rfl) ?_
  refine lv_aload_n S.1 S.2.1 dL_law_569 rfl (lv_at hl 3 rfl) ?_
  refine lv_iload_n S.1 S.2.1 dL_law_570 rfl (lv_at hl 0 rfl) ?_
  refine lv_iconst (v := 1) S.1 S.2.1 dL_law_571 (by decide) ?_
  refine lv_iadd S.1 S.2.1 dL_law_572 ?_
  refine va_sld S.1 S.2.1 hX hbl hbA hS (i := nI (5 * t) + 1) (lin (k := 1) ht (by decide) hL) dL_law_573 ?_
  refine lv_aload_n S.1 S.2.1 dL_law_574 rfl (lv_at hl 3 rfl) ?_
  refine lv_iload_n S.1 S.2.1 dL_law_575 rfl (lv_at hl 0 rfl) ?_
  refine lv_iconst (v := 2) S.1 S.2.1 dL_law_576 (by decide) ?_
  refine lv_iadd S.1 S.2.1 dL_law_577 ?_
  refine va_sld S.1 S.2.1 hX hbl hbA hS (i := nI (5 * t) + 2) (lin (k := 2) ht (by decide) hL) dL_law_578 ?_
  refine nwL_V (A0 := fun q => s.heap.size ≤ q) (A := ownA domM aM H1.size) (b := aM 0 0) (As := [.int (xs ((nI (5 * t) + 1).toNatClampNeg)), .int (xs ((nI (5 * t) + 2).toNatClampNeg))]) (rest := [.int (fX9_same Y (xs ((nI (5 * t) + 1).toNatClampNeg)) (xs ((nI (5 * t) + 2).toNatClampNeg))).1]) S (kX10_same l D C (ownA domM aM H1.size) aM M (xs ((nI (5 * t) + 1).toNatClampNeg)) (xs ((nI (5 * t) + 2).toNatClampNeg)) ) gL_law_X10_same rfl ⟨rfl, rfl⟩ hqX10_same ⟨Nat.le_of_ble_eq_true rfl, Nat.le_of_ble_eq_true rfl⟩ (nwL_preV hK hM1.own (fun _ h => Or.inr h) (nw_recv hK hM1 (k := 0) (i := 0) ⟨rfl, rfl⟩ rfl rfl)) hS (ownA_sub hM1 hS.1) rfl hl.1 rfl (Nat.le_of_ble_eq_true rfl) dL_law_579 ⟨show cells + 0 + 0 ≤ 600000 by omega, show slots + 0 + 0 ≤ 7302250 by omega⟩ (fun H2 locs hG2 hz2 hq2 hS2 => ?_)
  refine lv_icmp_eq (x := (fX9_same Y (xs ((nI (5 * t) + 1).toNatClampNeg)) (xs ((nI (5 * t) + 2).toNatClampNeg))).1) (y := (fX10_same M (xs ((nI (5 * t) + 1).toNatClampNeg)) (xs ((nI (5 * t) + 2).toNatClampNeg))).1) (tgt := 610) S.1 S.2.1 dL_law_582 (by decide) (fun _ => ?_) (fun ce => absurd s1 ce)
  refine W.widen (k := cells + 1) (n := slots + 5) (by omega) (by omega) ?_
  have hW2 := joinM hS.1 hY1 hM1 hdj1 hG2 hq2 (s2.more (Nat.le_add_right kk 20))
  exact kk6 _ _ hW2 hS2
set_option maxHeartbeats 4000000 in
set_option maxRecDepth 100000 in
theorem law_c15 {p : Program} {l : Launch} {e : Env} {s : State} {m : MethodId} {below : List Frame} {meth : Method} {c : Code} {b L : Nat} {xs : Nat → Int32} {D : va_G} {C : Nat → ClassId} {bx bm tt : Nat} {Q : State → Prop} (S : CallFix p m c cL_law 4 s #[Value.ref b] wsL_law RL) (hK : KK D C s) (hX : va_X b L xs s s.heap) (hbl : b < s.heap.size) (hZ : ZP tt (fun q => s.heap.size ≤ q) s s.heap) (hL : L ≤ 2560) {t kk : Nat} (ht : 5 * t + 5 ≤ L) (hkk : kk + 20 < 2 ^ 30) {H : Heap} {locs : List Loc} {ls : Array Slot} {cells slots : Nat} (hc : cells + 1 ≤ 600000) (hsl : slots + 5 ≤ 7302250) (hl : lv_has ls 4 [(3, .int (nI (5 * t))), (2, .ref bm), (1, .ref bx), (0, .ref b)]) (hW : LW D C s.heap.size bx bm kk H) (hS : va_S (fun q => s.heap.size ≤ q) s.heap H locs) (kk6 : ∀ (H1 : Heap) (locs1 : List Loc), LW D C s.heap.size bx bm (kk + 20) H1 → va_S (fun q => s.heap.size ≤ q) s.heap H1 locs1 → W p l e room_1 s m #[Value.ref b] below meth c H1 locs1 (cells + 1) (slots + 5) Q (F0 m 610 ls [])) : W p l e room_1 s m #[Value.ref b] below meth c H locs cells slots Q (F0 m 587 ls []) := by
  obtain ⟨nh, nv, na, Y, M, aY, aM, hRC, rfl, rfl, hY, hM, hdj⟩ := hW
  have hbA : ¬ s.heap.size ≤ b := Nat.not_le.mpr hbl
  refine lv_aload_n S.1 S.2.1 dL_law_587 rfl (lv_at hl 2 rfl) ?_
  refine lv_aload_n S.1 S.2.1 dL_law_588 rfl (lv_at hl 3 rfl) ?_
  refine lv_iload_n S.1 S.2.1 dL_law_589 rfl (lv_at hl 0 rfl) ?_
  refine lv_iconst (v := 1) S.1 S.2.1 dL_law_590 (by decide) ?_
  refine lv_iadd S.1 S.2.1 dL_law_591 ?_
  refine va_sld S.1 S.2.1 hX hbl hbA hS (i := nI (5 * t) + 1) (lin (k := 1) ht (by decide) hL) dL_law_592 ?_
  refine nwL_V (A0 := fun q => s.heap.size ≤ q) (A := ownA (domY nh nv na) aY H.size) (b := aY 0 0) (As := [.int (xs ((nI (5 * t) + 1).toNatClampNeg))]) (rest := []) S (kX9_count l D C (ownA (domY nh nv na) aY H.size) aY nh nv na Y (xs ((nI (5 * t) + 1).toNatClampNeg)) ) gL_law_X9_count rfl ⟨rfl, rfl⟩ hqX9_count ⟨Nat.le_of_ble_eq_true rfl, Nat.le_of_ble_eq_true rfl⟩ (nwL_preV hK hY.own (fun _ h => Or.inr h) (nw_recv hK hY (k := 0) (i := 0) ⟨by decide, rfl⟩ rfl rfl)) hS (ownA_sub hY hS.1) rfl hl.1 rfl (Nat.le_of_ble_eq_true rfl) dL_law_593 ⟨show cells + 0 ≤ 600000 by omega, show slots + 0 ≤ 7302250 by omega⟩ (fun H1 locs hG hz hq hS1 => ?_)
  obtain ⟨s1, s2⟩ := cCount hRC (xs ((nI (5 * t) + 1).toNatClampNeg))
  obtain ⟨hY1, hM1, hdj1⟩ := joinY hS.1 hY hM hdj hG hq
  have hS := hS1
  refine lv_aload_n S.1 S.2.1 dL_law_596 rfl (lv_at hl 1 rfl) ?_
  refine lv_aload_n S.1 S.2.1 dL_law_597 rfl (lv_at hl 3 rfl) ?_
  refine lv_iload_n S.1 S.2.1 dL_law_598 rfl (lv_at hl 0 rfl) ?_
  refine lv_iconst (v := 1) S.1 S.2.1 dL_law_599 (by decide) ?_
  refine lv_iadd S.1 S.2.1 dL_law_600 ?_
  refine va_sld S.1 S.2.1 hX hbl hbA hS (i := nI (5 * t) + 1) (lin (k := 1) ht (by decide) hL) dL_law_601 ?_
  refine nwL_V (A0 := fun q => s.heap.size ≤ q) (A := ownA domM aM H1.size) (b := aM 0 0) (As := [.int (xs ((nI (5 * t) + 1).toNatClampNeg))]) (rest := [.int (fX9_count Y (xs ((nI (5 * t) + 1).toNatClampNeg))).1]) S (kX10_count l D C (ownA domM aM H1.size) aM M (xs ((nI (5 * t) + 1).toNatClampNeg)) ) gL_law_X10_count rfl ⟨rfl, rfl⟩ hqX10_count ⟨Nat.le_of_ble_eq_true rfl, Nat.le_of_ble_eq_true rfl⟩ (nwL_preV hK hM1.own (fun _ h => Or.inr h) (nw_recv hK hM1 (k := 0) (i := 0) ⟨rfl, rfl⟩ rfl rfl)) hS (ownA_sub hM1 hS.1) rfl hl.1 rfl (Nat.le_of_ble_eq_true rfl) dL_law_602 ⟨show cells + 0 + 0 ≤ 600000 by omega, show slots + 0 + 0 ≤ 7302250 by omega⟩ (fun H2 locs hG2 hz2 hq2 hS2 => ?_)
  refine lv_icmp_eq (x := (fX9_count Y (xs ((nI (5 * t) + 1).toNatClampNeg))).1) (y := (fX10_count M (xs ((nI (5 * t) + 1).toNatClampNeg))).1) (tgt := 610) S.1 S.2.1 dL_law_605 (by decide) (fun _ => ?_) (fun ce => absurd s1 ce)
  refine W.widen (k := cells + 1) (n := slots + 5) (by omega) (by omega) ?_
  have hW2 := joinM hS.1 hY1 hM1 hdj1 hG2 hq2 (s2.more (Nat.le_add_right kk 20))
  exact kk6 _ _ hW2 hS2
