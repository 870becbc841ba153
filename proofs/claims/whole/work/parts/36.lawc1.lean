set_option maxHeartbeats 4000000 in
set_option maxRecDepth 100000 in
theorem law_c4 {p : Program} {l : Launch} {e : Env} {s : State} {m : MethodId} {below : List Frame} {meth : Method} {c : Code} {b L : Nat} {xs : Nat → Int32} {D : va_G} {C : Nat → ClassId} {bx bm tt : Nat} {Q : State → Prop} (S : CallFix p m c cL_law 4 s #[Value.ref b] wsL_law RL) (hK : KK D C s) (hX : va_X b L xs s s.heap) (hbl : b < s.heap.size) (hZ : ZP tt (fun q => s.heap.size ≤ q) s s.heap) (hL : L ≤ 2560) {t kk : Nat} (ht : 5 * t + 5 ≤ L) (hkk : kk + 20 < 2 ^ 30) {H : Heap} {locs : List Loc} {ls : Array Slot} {cells slots : Nat} (hc : cells + 1 ≤ 600000) (hsl : slots + 5 ≤ 7302250) (hl : lv_has ls 4 [(3, .int (nI (5 * t))), (2, .ref bm), (1, .ref bx), (0, .ref b)]) (hW : LW D C s.heap.size bx bm kk H) (hS : va_S (fun q => s.heap.size ≤ q) s.heap H locs) (kk6 : ∀ (H1 : Heap) (locs1 : List Loc), LW D C s.heap.size bx bm (kk + 20) H1 → va_S (fun q => s.heap.size ≤ q) s.heap H1 locs1 → W p l e room_1 s m #[Value.ref b] below meth c H1 locs1 (cells + 1) (slots + 5) Q (F0 m 610 ls [])) : W p l e room_1 s m #[Value.ref b] below meth c H locs cells slots Q (F0 m 254 ls []) := by
  obtain ⟨nh, nv, na, Y, M, aY, aM, hRC, rfl, rfl, hY, hM, hdj⟩ := hW
  have hbA : ¬ s.heap.size ≤ b := Nat.not_le.mpr hbl
  refine lv_aload_n S.1 S.2.1 dL_law_254 rfl (lv_at hl 2 rfl) ?_
  refine lv_aload_n S.1 S.2.1 dL_law_255 rfl (lv_at hl 3 rfl) ?_
  refine lv_iload_n S.1 S.2.1 dL_law_256 rfl (lv_at hl 0 rfl) ?_
  refine lv_iconst (v := 1) S.1 S.2.1 dL_law_257 (by decide) ?_
  refine lv_iadd S.1 S.2.1 dL_law_258 ?_
  refine va_sld S.1 S.2.1 hX hbl hbA hS (i := nI (5 * t) + 1) (lin (k := 1) ht (by decide) hL) dL_law_259 ?_
  refine lv_aload_n S.1 S.2.1 dL_law_260 rfl (lv_at hl 3 rfl) ?_
  refine lv_iload_n S.1 S.2.1 dL_law_261 rfl (lv_at hl 0 rfl) ?_
  refine lv_iconst (v := 2) S.1 S.2.1 dL_law_262 (by decide) ?_
  refine lv_iadd S.1 S.2.1 dL_law_263 ?_
  refine va_sld S.1 S.2.1 hX hbl hbA hS (i := nI (5 * t) + 2) (lin (k := 2) ht (by decide) hL) dL_law_264 ?_
  refine nwL_V (A0 := fun q => s.heap.size ≤ q) (A := ownA (domY nh nv na) aY H.size) (b := aY 0 0) (As := [.int (xs ((nI (5 * t) + 1).toNatClampNeg)), .int (xs ((nI (5 * t) + 2).toNatClampNeg))]) (rest := []) S (kX9_tear l D C (ownA (domY nh nv na) aY H.size) aY nh nv na Y (xs ((nI (5 * t) + 1).toNatClampNeg)) (xs ((nI (5 * t) + 2).toNatClampNeg)) kk hRC.1.inv) gL_law_X9_tear rfl ⟨rfl, rfl⟩ hqX9_tear ⟨Nat.le_of_ble_eq_true rfl, Nat.le_of_ble_eq_true rfl⟩ (nwL_preV hK hY.own (fun _ h => Or.inr h) (nw_recv hK hY (k := 0) (i := 0) ⟨by decide, rfl⟩ rfl rfl)) hS (ownA_sub hY hS.1) rfl hl.1 rfl (Nat.le_of_ble_eq_true rfl) dL_law_265 ⟨show cells + 0 ≤ 600000 by omega, show slots + 0 ≤ 7302250 by omega⟩ (fun H1 locs hG hz hq hS1 => ?_)
  obtain ⟨s1, s2⟩ := cTear hRC (xs ((nI (5 * t) + 1).toNatClampNeg)) (xs ((nI (5 * t) + 2).toNatClampNeg))
  obtain ⟨hY1, hM1, hdj1⟩ := joinY hS.1 hY hM hdj hG hq
  have hS := hS1
  refine lv_aload_n S.1 S.2.1 dL_law_268 rfl (lv_at hl 1 rfl) ?_
  refine lv_aload_n S.1 S.2.1 dL_law_269 rfl (lv_at hl 3 rfl) ?_
  refine lv_iload_n S.1 S.2.1 dL_law_270 rfl (lv_at hl 0 rfl) ?_
  refine lv_iconst (v := 1) S.1 S.2.1 dL_law_271 (by decide) ?_
  refine lv_iadd S.1 S.2.1 dL_law_272 ?_
  refine va_sld S.1 S.2.1 hX hbl hbA hS (i := nI (5 * t) + 1) (lin (k := 1) ht (by decide) hL) dL_law_273 ?_
  refine lv_aload_n S.1 S.2.1 dL_law_274 rfl (lv_at hl 3 rfl) ?_
  refine lv_iload_n S.1 S.2.1 dL_law_275 rfl (lv_at hl 0 rfl) ?_
  refine lv_iconst (v := 2) S.1 S.2.1 dL_law_276 (by decide) ?_
  refine lv_iadd S.1 S.2.1 dL_law_277 ?_
  refine va_sld S.1 S.2.1 hX hbl hbA hS (i := nI (5 * t) + 2) (lin (k := 2) ht (by decide) hL) dL_law_278 ?_
  refine nwL_V (A0 := fun q => s.heap.size ≤ q) (A := ownA domM aM H1.size) (b := aM 0 0) (As := [.int (xs ((nI (5 * t) + 1).toNatClampNeg)), .int (xs ((nI (5 * t) + 2).toNatClampNeg))]) (rest := [.int (fX9_tear Y (xs ((nI (5 * t) + 1).toNatClampNeg)) (xs ((nI (5 * t) + 2).toNatClampNeg))).1]) S (kX10_tear l D C (ownA domM aM H1.size) aM M (xs ((nI (5 * t) + 1).toNatClampNeg)) (xs ((nI (5 * t) + 2).toNatClampNeg)) kk hRC.1.invM) gL_law_X10_tear rfl ⟨rfl, rfl⟩ hqX10_tear ⟨Nat.le_of_ble_eq_true rfl, Nat.le_of_ble_eq_true rfl⟩ (nwL_preV hK hM1.own (fun _ h => Or.inr h) (nw_recv hK hM1 (k := 0) (i := 0) ⟨rfl, rfl⟩ rfl rfl)) hS (ownA_sub hM1 hS.1) rfl hl.1 rfl (Nat.le_of_ble_eq_true rfl) dL_law_279 ⟨show cells + 0 + 0 ≤ 600000 by omega, show slots + 0 + 0 ≤ 7302250 by omega⟩ (fun H2 locs hG2 hz2 hq2 hS2 => ?_)
  refine lv_icmp_eq (x := (fX9_tear Y (xs ((nI (5 * t) + 1).toNatClampNeg)) (xs ((nI (5 * t) + 2).toNatClampNeg))).1) (y := (fX10_tear M (xs ((nI (5 * t) + 1).toNatClampNeg)) (xs ((nI (5 * t) + 2).toNatClampNeg))).1) (tgt := 610) S.1 S.2.1 dL_law_282 (by decide) (fun _ => ?_) (fun ce => absurd s1 ce)
  refine W.widen (k := cells + 1) (n := slots + 5) (by omega) (by omega) ?_
  have hW2 := joinM hS.1 hY1 hM1 hdj1 hG2 hq2 (s2.more (Nat.le_add_right kk 20))
  exact kk6 _ _ hW2 hS2
set_option maxHeartbeats 4000000 in
set_option maxRecDepth 100000 in
theorem law_c5 {p : Program} {l : Launch} {e : Env} {s : State} {m : MethodId} {below : List Frame} {meth : Method} {c : Code} {b L : Nat} {xs : Nat → Int32} {D : va_G} {C : Nat → ClassId} {bx bm tt : Nat} {Q : State → Prop} (S : CallFix p m c cL_law 4 s #[Value.ref b] wsL_law RL) (hK : KK D C s) (hX : va_X b L xs s s.heap) (hbl : b < s.heap.size) (hZ : ZP tt (fun q => s.heap.size ≤ q) s s.heap) (hL : L ≤ 2560) {t kk : Nat} (ht : 5 * t + 5 ≤ L) (hkk : kk + 20 < 2 ^ 30) {H : Heap} {locs : List Loc} {ls : Array Slot} {cells slots : Nat} (hc : cells + 1 ≤ 600000) (hsl : slots + 5 ≤ 7302250) (hl : lv_has ls 4 [(3, .int (nI (5 * t))), (2, .ref bm), (1, .ref bx), (0, .ref b)]) (hW : LW D C s.heap.size bx bm kk H) (hS : va_S (fun q => s.heap.size ≤ q) s.heap H locs) (kk6 : ∀ (H1 : Heap) (locs1 : List Loc), LW D C s.heap.size bx bm (kk + 20) H1 → va_S (fun q => s.heap.size ≤ q) s.heap H1 locs1 → W p l e room_1 s m #[Value.ref b] below meth c H1 locs1 (cells + 1) (slots + 5) Q (F0 m 610 ls [])) : W p l e room_1 s m #[Value.ref b] below meth c H locs cells slots Q (F0 m 287 ls []) := by
  obtain ⟨nh, nv, na, Y, M, aY, aM, hRC, rfl, rfl, hY, hM, hdj⟩ := hW
  have hbA : ¬ s.heap.size ≤ b := Nat.not_le.mpr hbl
  refine lv_aload_n S.1 S.2.1 dL_law_287 rfl (lv_at hl 2 rfl) ?_
  refine lv_aload_n S.1 S.2.1 dL_law_288 rfl (lv_at hl 3 rfl) ?_
  refine lv_iload_n S.1 S.2.1 dL_law_289 rfl (lv_at hl 0 rfl) ?_
  refine lv_iconst (v := 1) S.1 S.2.1 dL_law_290 (by decide) ?_
  refine lv_iadd S.1 S.2.1 dL_law_291 ?_
  refine va_sld S.1 S.2.1 hX hbl hbA hS (i := nI (5 * t) + 1) (lin (k := 1) ht (by decide) hL) dL_law_292 ?_
  refine lv_aload_n S.1 S.2.1 dL_law_293 rfl (lv_at hl 3 rfl) ?_
  refine lv_iload_n S.1 S.2.1 dL_law_294 rfl (lv_at hl 0 rfl) ?_
  refine lv_iconst (v := 2) S.1 S.2.1 dL_law_295 (by decide) ?_
  refine lv_iadd S.1 S.2.1 dL_law_296 ?_
  refine va_sld S.1 S.2.1 hX hbl hbA hS (i := nI (5 * t) + 2) (lin (k := 2) ht (by decide) hL) dL_law_297 ?_
  refine nwL_V (A0 := fun q => s.heap.size ≤ q) (A := ownA (domY nh nv na) aY H.size) (b := aY 0 0) (As := [.int (xs ((nI (5 * t) + 1).toNatClampNeg)), .int (xs ((nI (5 * t) + 2).toNatClampNeg))]) (rest := []) S (kX9_hang l D C (ownA (domY nh nv na) aY H.size) aY nh nv na Y (xs ((nI (5 * t) + 1).toNatClampNeg)) (xs ((nI (5 * t) + 2).toNatClampNeg)) kk hRC.1.inv) gL_law_X9_hang rfl ⟨rfl, rfl⟩ hqX9_hang ⟨Nat.le_of_ble_eq_true rfl, Nat.le_of_ble_eq_true rfl⟩ (nwL_preV hK hY.own (fun _ h => Or.inr h) (nw_recv hK hY (k := 0) (i := 0) ⟨by decide, rfl⟩ rfl rfl)) hS (ownA_sub hY hS.1) rfl hl.1 rfl (Nat.le_of_ble_eq_true rfl) dL_law_298 ⟨show cells + 1 ≤ 600000 by omega, show slots + 1 ≤ 7302250 by omega⟩ (fun H1 locs hG hz hq hS1 => ?_)
  obtain ⟨s1, n', s2⟩ := cHang hRC (xs ((nI (5 * t) + 1).toNatClampNeg)) (xs ((nI (5 * t) + 2).toNatClampNeg))
  obtain ⟨aY', e0, hG⟩ := hG.fix s2
  obtain ⟨hY1, hM1, hdj1⟩ := joinY hS.1 hY hM hdj hG hq
  have hS := hS1
  refine lv_aload_n S.1 S.2.1 dL_law_301 rfl (lv_at hl 1 rfl) ?_
  refine lv_aload_n S.1 S.2.1 dL_law_302 rfl (lv_at hl 3 rfl) ?_
  refine lv_iload_n S.1 S.2.1 dL_law_303 rfl (lv_at hl 0 rfl) ?_
  refine lv_iconst (v := 1) S.1 S.2.1 dL_law_304 (by decide) ?_
  refine lv_iadd S.1 S.2.1 dL_law_305 ?_
  refine va_sld S.1 S.2.1 hX hbl hbA hS (i := nI (5 * t) + 1) (lin (k := 1) ht (by decide) hL) dL_law_306 ?_
  refine lv_aload_n S.1 S.2.1 dL_law_307 rfl (lv_at hl 3 rfl) ?_
  refine lv_iload_n S.1 S.2.1 dL_law_308 rfl (lv_at hl 0 rfl) ?_
  refine lv_iconst (v := 2) S.1 S.2.1 dL_law_309 (by decide) ?_
  refine lv_iadd S.1 S.2.1 dL_law_310 ?_
  refine va_sld S.1 S.2.1 hX hbl hbA hS (i := nI (5 * t) + 2) (lin (k := 2) ht (by decide) hL) dL_law_311 ?_
  refine nwL_V (A0 := fun q => s.heap.size ≤ q) (A := ownA domM aM H1.size) (b := aM 0 0) (As := [.int (xs ((nI (5 * t) + 1).toNatClampNeg)), .int (xs ((nI (5 * t) + 2).toNatClampNeg))]) (rest := [.int (fX9_hang Y na (xs ((nI (5 * t) + 1).toNatClampNeg)) (xs ((nI (5 * t) + 2).toNatClampNeg))).1]) S (kX10_hang l D C (ownA domM aM H1.size) aM M (xs ((nI (5 * t) + 1).toNatClampNeg)) (xs ((nI (5 * t) + 2).toNatClampNeg)) ) gL_law_X10_hang rfl ⟨rfl, rfl⟩ hqX10_hang ⟨Nat.le_of_ble_eq_true rfl, Nat.le_of_ble_eq_true rfl⟩ (nwL_preV hK hM1.own (fun _ h => Or.inr h) (nw_recv hK hM1 (k := 0) (i := 0) ⟨rfl, rfl⟩ rfl rfl)) hS (ownA_sub hM1 hS.1) rfl hl.1 rfl (Nat.le_of_ble_eq_true rfl) dL_law_312 ⟨show cells + 1 + 0 ≤ 600000 by omega, show slots + 1 + 0 ≤ 7302250 by omega⟩ (fun H2 locs hG2 hz2 hq2 hS2 => ?_)
  refine lv_icmp_eq (x := (fX9_hang Y na (xs ((nI (5 * t) + 1).toNatClampNeg)) (xs ((nI (5 * t) + 2).toNatClampNeg))).1) (y := (fX10_hang M (xs ((nI (5 * t) + 1).toNatClampNeg)) (xs ((nI (5 * t) + 2).toNatClampNeg))).1) (tgt := 610) S.1 S.2.1 dL_law_315 (by decide) (fun _ => ?_) (fun ce => absurd s1 ce)
  refine W.widen (k := cells + 1) (n := slots + 5) (by omega) (by omega) ?_
  have hW2 := joinM hS.1 hY1 hM1 hdj1 hG2 hq2 (s2.more (Nat.le_add_right kk 20))
  rw [e0] at hW2
  exact kk6 _ _ hW2 hS2
set_option maxHeartbeats 4000000 in
set_option maxRecDepth 100000 in
theorem law_c6 {p : Program} {l : Launch} {e : Env} {s : State} {m : MethodId} {below : List Frame} {meth : Method} {c : Code} {b L : Nat} {xs : Nat → Int32} {D : va_G} {C : Nat → ClassId} {bx bm tt : Nat} {Q : State → Prop} (S : CallFix p m c cL_law 4 s #[Value.ref b] wsL_law RL) (hK : KK D C s) (hX : va_X b L xs s s.heap) (hbl : b < s.heap.size) (hZ : ZP tt (fun q => s.heap.size ≤ q) s s.heap) (hL : L ≤ 2560) {t kk : Nat} (ht : 5 * t + 5 ≤ L) (hkk : kk + 20 < 2 ^ 30) {H : Heap} {locs : List Loc} {ls : Array Slot} {cells slots : Nat} (hc : cells + 1 ≤ 600000) (hsl : slots + 5 ≤ 7302250) (hl : lv_has ls 4 [(3, .int (nI (5 * t))), (2, .ref bm), (1, .ref bx), (0, .ref b)]) (hW : LW D C s.heap.size bx bm kk H) (hS : va_S (fun q => s.heap.size ≤ q) s.heap H locs) (kk6 : ∀ (H1 : Heap) (locs1 : List Loc), LW D C s.heap.size bx bm (kk + 20) H1 → va_S (fun q => s.heap.size ≤ q) s.heap H1 locs1 → W p l e room_1 s m #[Value.ref b] below meth c H1 locs1 (cells + 1) (slots + 5) Q (F0 m 610 ls [])) : W p l e room_1 s m #[Value.ref b] below meth c H locs cells slots Q (F0 m 320 ls []) := by
  obtain ⟨nh, nv, na, Y, M, aY, aM, hRC, rfl, rfl, hY, hM, hdj⟩ := hW
  have hbA : ¬ s.heap.size ≤ b := Nat.not_le.mpr hbl
  refine lv_aload_n S.1 S.2.1 dL_law_320 rfl (lv_at hl 2 rfl) ?_
  refine lv_aload_n S.1 S.2.1 dL_law_321 rfl (lv_at hl 3 rfl) ?_
  refine lv_iload_n S.1 S.2.1 dL_law_322 rfl (lv_at hl 0 rfl) ?_
  refine lv_iconst (v := 1) S.1 S.2.1 dL_law_323 (by decide) ?_
  refine lv_iadd S.1 S.2.1 dL_law_324 ?_
  refine va_sld S.1 S.2.1 hX hbl hbA hS (i := nI (5 * t) + 1) (lin (k := 1) ht (by decide) hL) dL_law_325 ?_
  refine lv_aload_n S.1 S.2.1 dL_law_326 rfl (lv_at hl 3 rfl) ?_
  refine lv_iload_n S.1 S.2.1 dL_law_327 rfl (lv_at hl 0 rfl) ?_
  refine lv_iconst (v := 2) S.1 S.2.1 dL_law_328 (by decide) ?_
  refine lv_iadd S.1 S.2.1 dL_law_329 ?_
  refine va_sld S.1 S.2.1 hX hbl hbA hS (i := nI (5 * t) + 2) (lin (k := 2) ht (by decide) hL) dL_law_330 ?_
  refine lv_aload_n S.1 S.2.1 dL_law_331 rfl (lv_at hl 3 rfl) ?_
  refine lv_iload_n S.1 S.2.1 dL_law_332 rfl (lv_at hl 0 rfl) ?_
  refine lv_iconst (v := 3) S.1 S.2.1 dL_law_333 (by decide) ?_
  refine lv_iadd S.1 S.2.1 dL_law_334 ?_
  refine va_sld S.1 S.2.1 hX hbl hbA hS (i := nI (5 * t) + 3) (lin (k := 3) ht (by decide) hL) dL_law_335 ?_
  refine lv_aload_n S.1 S.2.1 dL_law_336 rfl (lv_at hl 3 rfl) ?_
  refine lv_iload_n S.1 S.2.1 dL_law_337 rfl (lv_at hl 0 rfl) ?_
  refine lv_iconst (v := 4) S.1 S.2.1 dL_law_338 (by decide) ?_
  refine lv_iadd S.1 S.2.1 dL_law_339 ?_
  refine va_sld S.1 S.2.1 hX hbl hbA hS (i := nI (5 * t) + 4) (lin (k := 4) ht (by decide) hL) dL_law_340 ?_
  refine nwL_V (A0 := fun q => s.heap.size ≤ q) (A := ownA (domY nh nv na) aY H.size) (b := aY 0 0) (As := [.int (xs ((nI (5 * t) + 1).toNatClampNeg)), .int (xs ((nI (5 * t) + 2).toNatClampNeg)), .int (xs ((nI (5 * t) + 3).toNatClampNeg)), .int (xs ((nI (5 * t) + 4).toNatClampNeg))]) (rest := []) S (kX9_act l D C (ownA (domY nh nv na) aY H.size) aY nh nv na Y (xs ((nI (5 * t) + 1).toNatClampNeg)) (xs ((nI (5 * t) + 2).toNatClampNeg)) (xs ((nI (5 * t) + 3).toNatClampNeg)) (xs ((nI (5 * t) + 4).toNatClampNeg)) kk hRC.1.inv) gL_law_X9_act rfl ⟨rfl, rfl⟩ hqX9_act ⟨Nat.le_of_ble_eq_true rfl, Nat.le_of_ble_eq_true rfl⟩ (nwL_preV hK hY.own (fun _ h => Or.inr h) (nw_recv hK hY (k := 0) (i := 0) ⟨by decide, rfl⟩ rfl rfl)) hS (ownA_sub hY hS.1) rfl hl.1 rfl (Nat.le_of_ble_eq_true rfl) dL_law_341 ⟨show cells + 0 ≤ 600000 by omega, show slots + 0 ≤ 7302250 by omega⟩ (fun H1 locs hG hz hq hS1 => ?_)
  obtain ⟨s1, s2⟩ := cAct hRC (xs ((nI (5 * t) + 1).toNatClampNeg)) (xs ((nI (5 * t) + 2).toNatClampNeg)) (xs ((nI (5 * t) + 3).toNatClampNeg)) (xs ((nI (5 * t) + 4).toNatClampNeg))
  obtain ⟨hY1, hM1, hdj1⟩ := joinY hS.1 hY hM hdj hG hq
  have hS := hS1
  refine lv_aload_n S.1 S.2.1 dL_law_344 rfl (lv_at hl 1 rfl) ?_
  refine lv_aload_n S.1 S.2.1 dL_law_345 rfl (lv_at hl 3 rfl) ?_
  refine lv_iload_n S.1 S.2.1 dL_law_346 rfl (lv_at hl 0 rfl) ?_
  refine lv_iconst (v := 1) S.1 S.2.1 dL_law_347 (by decide) ?_
  refine lv_iadd S.1 S.2.1 dL_law_348 ?_
  refine va_sld S.1 S.2.1 hX hbl hbA hS (i := nI (5 * t) + 1) (lin (k := 1) ht (by decide) hL) dL_law_349 ?_
  refine lv_aload_n S.1 S.2.1 dL_law_350 rfl (lv_at hl 3 rfl) ?_
  refine lv_iload_n S.1 S.2.1 dL_law_351 rfl (lv_at hl 0 rfl) ?_
  refine lv_iconst (v := 2) S.1 S.2.1 dL_law_352 (by decide) ?_
  refine lv_iadd S.1 S.2.1 dL_law_353 ?_
  refine va_sld S.1 S.2.1 hX hbl hbA hS (i := nI (5 * t) + 2) (lin (k := 2) ht (by decide) hL) dL_law_354 ?_
  refine lv_aload_n S.1 S.2.1 dL_law_355 rfl (lv_at hl 3 rfl) ?_
  refine lv_iload_n S.1 S.2.1 dL_law_356 rfl (lv_at hl 0 rfl) ?_
  refine lv_iconst (v := 3) S.1 S.2.1 dL_law_357 (by decide) ?_
  refine lv_iadd S.1 S.2.1 dL_law_358 ?_
  refine va_sld S.1 S.2.1 hX hbl hbA hS (i := nI (5 * t) + 3) (lin (k := 3) ht (by decide) hL) dL_law_359 ?_
  refine lv_aload_n S.1 S.2.1 dL_law_360 rfl (lv_at hl 3 rfl) ?_
  refine lv_iload_n S.1 S.2.1 dL_law_361 rfl (lv_at hl 0 rfl) ?_
  refine lv_iconst (v := 4) S.1 S.2.1 dL_law_362 (by decide) ?_
  refine lv_iadd S.1 S.2.1 dL_law_363 ?_
  refine va_sld S.1 S.2.1 hX hbl hbA hS (i := nI (5 * t) + 4) (lin (k := 4) ht (by decide) hL) dL_law_364 ?_
  refine nwL_V (A0 := fun q => s.heap.size ≤ q) (A := ownA domM aM H1.size) (b := aM 0 0) (As := [.int (xs ((nI (5 * t) + 1).toNatClampNeg)), .int (xs ((nI (5 * t) + 2).toNatClampNeg)), .int (xs ((nI (5 * t) + 3).toNatClampNeg)), .int (xs ((nI (5 * t) + 4).toNatClampNeg))]) (rest := [.int (fX9_act Y (xs ((nI (5 * t) + 1).toNatClampNeg)) (xs ((nI (5 * t) + 2).toNatClampNeg)) (xs ((nI (5 * t) + 3).toNatClampNeg)) (xs ((nI (5 * t) + 4).toNatClampNeg))).1]) S (kX10_act l D C (ownA domM aM H1.size) aM M (xs ((nI (5 * t) + 1).toNatClampNeg)) (xs ((nI (5 * t) + 2).toNatClampNeg)) (xs ((nI (5 * t) + 3).toNatClampNeg)) (xs ((nI (5 * t) + 4).toNatClampNeg)) kk hRC.1.invM) gL_law_X10_act rfl ⟨rfl, rfl⟩ hqX10_act ⟨Nat.le_of_ble_eq_true rfl, Nat.le_of_ble_eq_true rfl⟩ (nwL_preV hK hM1.own (fun _ h => Or.inr h) (nw_recv hK hM1 (k := 0) (i := 0) ⟨rfl, rfl⟩ rfl rfl)) hS (ownA_sub hM1 hS.1) rfl hl.1 rfl (Nat.le_of_ble_eq_true rfl) dL_law_365 ⟨show cells + 0 + 0 ≤ 600000 by omega, show slots + 0 + 0 ≤ 7302250 by omega⟩ (fun H2 locs hG2 hz2 hq2 hS2 => ?_)
  refine lv_icmp_eq (x := (fX9_act Y (xs ((nI (5 * t) + 1).toNatClampNeg)) (xs ((nI (5 * t) + 2).toNatClampNeg)) (xs ((nI (5 * t) + 3).toNatClampNeg)) (xs ((nI (5 * t) + 4).toNatClampNeg))).1) (y := (fX10_act M (xs ((nI (5 * t) + 1).toNatClampNeg)) (xs ((nI (5 * t) + 2).toNatClampNeg)) (xs ((nI (5 * t) + 3).toNatClampNeg)) (xs ((nI (5 * t) + 4).toNatClampNeg))).1) (tgt := 610) S.1 S.2.1 dL_law_368 (by decide) (fun _ => ?_) (fun ce => absurd s1 ce)
  refine W.widen (k := cells + 1) (n := slots + 5) (by omega) (by omega) ?_
  have hW2 := joinM hS.1 hY1 hM1 hdj1 hG2 hq2 (s2.more (Nat.le_add_right kk 20))
  exact kk6 _ _ hW2 hS2
set_option maxHeartbeats 4000000 in
set_option maxRecDepth 100000 in
theorem law_c7 {p : Program} {l : Launch} {e : Env} {s : State} {m : MethodId} {below : List Frame} {meth : Method} {c : Code} {b L : Nat} {xs : Nat → Int32} {D : va_G} {C : Nat → ClassId} {bx bm tt : Nat} {Q : State → Prop} (S : CallFix p m c cL_law 4 s #[Value.ref b] wsL_law RL) (hK : KK D C s) (hX : va_X b L xs s s.heap) (hbl : b < s.heap.size) (hZ : ZP tt (fun q => s.heap.size ≤ q) s s.heap) (hL : L ≤ 2560) {t kk : Nat} (ht : 5 * t + 5 ≤ L) (hkk : kk + 20 < 2 ^ 30) {H : Heap} {locs : List Loc} {ls : Array Slot} {cells slots : Nat} (hc : cells + 1 ≤ 600000) (hsl : slots + 5 ≤ 7302250) (hl : lv_has ls 4 [(3, .int (nI (5 * t))), (2, .ref bm), (1, .ref bx), (0, .ref b)]) (hW : LW D C s.heap.size bx bm kk H) (hS : va_S (fun q => s.heap.size ≤ q) s.heap H locs) (kk6 : ∀ (H1 : Heap) (locs1 : List Loc), LW D C s.heap.size bx bm (kk + 20) H1 → va_S (fun q => s.heap.size ≤ q) s.heap H1 locs1 → W p l e room_1 s m #[Value.ref b] below meth c H1 locs1 (cells + 1) (slots + 5) Q (F0 m 610 ls [])) : W p l e room_1 s m #[Value.ref b] below meth c H locs cells slots Q (F0 m 373 ls []) := by
  obtain ⟨nh, nv, na, Y, M, aY, aM, hRC, rfl, rfl, hY, hM, hdj⟩ := hW
  have hbA : ¬ s.heap.size ≤ b := Nat.not_le.mpr hbl
  refine lv_aload_n S.1 S.2.1 dL_law_373 rfl (lv_at hl 2 rfl) ?_
  refine nwL_V (A0 := fun q => s.heap.size ≤ q) (A := ownA (domY nh nv na) aY H.size) (b := aY 0 0) (As := []) (rest := []) S (kX9_came l D C (ownA (domY nh nv na) aY H.size) aY nh nv na Y  ) gL_law_X9_came rfl ⟨rfl, rfl⟩ hqX9_came ⟨Nat.le_of_ble_eq_true rfl, Nat.le_of_ble_eq_true rfl⟩ (nwL_preV hK hY.own (fun _ h => Or.inr h) (nw_recv hK hY (k := 0) (i := 0) ⟨by decide, rfl⟩ rfl rfl)) hS (ownA_sub hY hS.1) rfl hl.1 rfl (Nat.le_of_ble_eq_true rfl) dL_law_374 ⟨show cells + 0 ≤ 600000 by omega, show slots + 0 ≤ 7302250 by omega⟩ (fun H1 locs hG hz hq hS1 => ?_)
  obtain ⟨s1, s2⟩ := cCame hRC 
  obtain ⟨hY1, hM1, hdj1⟩ := joinY hS.1 hY hM hdj hG hq
  have hS := hS1
  refine lv_aload_n S.1 S.2.1 dL_law_377 rfl (lv_at hl 1 rfl) ?_
  refine nwL_V (A0 := fun q => s.heap.size ≤ q) (A := ownA domM aM H1.size) (b := aM 0 0) (As := []) (rest := [.int (fX9_came Y).1]) S (kX10_came l D C (ownA domM aM H1.size) aM M  ) gL_law_X10_came rfl ⟨rfl, rfl⟩ hqX10_came ⟨Nat.le_of_ble_eq_true rfl, Nat.le_of_ble_eq_true rfl⟩ (nwL_preV hK hM1.own (fun _ h => Or.inr h) (nw_recv hK hM1 (k := 0) (i := 0) ⟨rfl, rfl⟩ rfl rfl)) hS (ownA_sub hM1 hS.1) rfl hl.1 rfl (Nat.le_of_ble_eq_true rfl) dL_law_378 ⟨show cells + 0 + 0 ≤ 600000 by omega, show slots + 0 + 0 ≤ 7302250 by omega⟩ (fun H2 locs hG2 hz2 hq2 hS2 => ?_)
  refine lv_icmp_eq (x := (fX9_came Y).1) (y := (fX10_came M).1) (tgt := 610) S.1 S.2.1 dL_law_381 (by decide) (fun _ => ?_) (fun ce => absurd s1 ce)
  refine W.widen (k := cells + 1) (n := slots + 5) (by omega) (by omega) ?_
  have hW2 := joinM hS.1 hY1 hM1 hdj1 hG2 hq2 (s2.more (Nat.le_add_right kk 20))
  exact kk6 _ _ hW2 hS2
