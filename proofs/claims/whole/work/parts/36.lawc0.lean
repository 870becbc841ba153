set_option maxHeartbeats 4000000 in
set_option maxRecDepth 100000 in
theorem law_c0 {p : Program} {l : Launch} {e : Env} {s : State} {m : MethodId} {below : List Frame} {meth : Method} {c : Code} {b L : Nat} {xs : Nat → Int32} {D : va_G} {C : Nat → ClassId} {bx bm tt : Nat} {Q : State → Prop} (S : CallFix p m c cL_law 4 s #[Value.ref b] wsL_law RL) (hK : KK D C s) (hX : va_X b L xs s s.heap) (hbl : b < s.heap.size) (hZ : ZP tt (fun q => s.heap.size ≤ q) s s.heap) (hL : L ≤ 2560) {t kk : Nat} (ht : 5 * t + 5 ≤ L) (hkk : kk + 20 < 2 ^ 30) {H : Heap} {locs : List Loc} {ls : Array Slot} {cells slots : Nat} (hc : cells + 1 ≤ 600000) (hsl : slots + 5 ≤ 7302250) (hl : lv_has ls 4 [(3, .int (nI (5 * t))), (2, .ref bm), (1, .ref bx), (0, .ref b)]) (hW : LW D C s.heap.size bx bm kk H) (hS : va_S (fun q => s.heap.size ≤ q) s.heap H locs) (kk6 : ∀ (H1 : Heap) (locs1 : List Loc), LW D C s.heap.size bx bm (kk + 20) H1 → va_S (fun q => s.heap.size ≤ q) s.heap H1 locs1 → W p l e room_1 s m #[Value.ref b] below meth c H1 locs1 (cells + 1) (slots + 5) Q (F0 m 610 ls [])) : W p l e room_1 s m #[Value.ref b] below meth c H locs cells slots Q (F0 m 112 ls []) := by
  obtain ⟨nh, nv, na, Y, M, aY, aM, hRC, rfl, rfl, hY, hM, hdj⟩ := hW
  have hbA : ¬ s.heap.size ≤ b := Nat.not_le.mpr hbl
  refine lv_aload_n S.1 S.2.1 dL_law_112 rfl (lv_at hl 2 rfl) ?_
  refine lv_aload_n S.1 S.2.1 dL_law_113 rfl (lv_at hl 3 rfl) ?_
  refine lv_iload_n S.1 S.2.1 dL_law_114 rfl (lv_at hl 0 rfl) ?_
  refine lv_iconst (v := 1) S.1 S.2.1 dL_law_115 (by decide) ?_
  refine lv_iadd S.1 S.2.1 dL_law_116 ?_
  refine va_sld S.1 S.2.1 hX hbl hbA hS (i := nI (5 * t) + 1) (lin (k := 1) ht (by decide) hL) dL_law_117 ?_
  refine lv_aload_n S.1 S.2.1 dL_law_118 rfl (lv_at hl 3 rfl) ?_
  refine lv_iload_n S.1 S.2.1 dL_law_119 rfl (lv_at hl 0 rfl) ?_
  refine lv_iconst (v := 2) S.1 S.2.1 dL_law_120 (by decide) ?_
  refine lv_iadd S.1 S.2.1 dL_law_121 ?_
  refine va_sld S.1 S.2.1 hX hbl hbA hS (i := nI (5 * t) + 2) (lin (k := 2) ht (by decide) hL) dL_law_122 ?_
  refine lv_aload_n S.1 S.2.1 dL_law_123 rfl (lv_at hl 3 rfl) ?_
  refine lv_iload_n S.1 S.2.1 dL_law_124 rfl (lv_at hl 0 rfl) ?_
  refine lv_iconst (v := 3) S.1 S.2.1 dL_law_125 (by decide) ?_
  refine lv_iadd S.1 S.2.1 dL_law_126 ?_
  refine va_sld S.1 S.2.1 hX hbl hbA hS (i := nI (5 * t) + 3) (lin (k := 3) ht (by decide) hL) dL_law_127 ?_
  refine nwL_V (A0 := fun q => s.heap.size ≤ q) (A := ownA (domY nh nv na) aY H.size) (b := aY 0 0) (As := [.int (xs ((nI (5 * t) + 1).toNatClampNeg)), .int (xs ((nI (5 * t) + 2).toNatClampNeg)), .int (xs ((nI (5 * t) + 3).toNatClampNeg))]) (rest := []) S (kX9_horse l D C (ownA (domY nh nv na) aY H.size) aY nh nv na Y (xs ((nI (5 * t) + 1).toNatClampNeg)) (xs ((nI (5 * t) + 2).toNatClampNeg)) (xs ((nI (5 * t) + 3).toNatClampNeg)) kk hRC.1.inv) gL_law_X9_horse rfl ⟨rfl, rfl⟩ hqX9_horse ⟨Nat.le_of_ble_eq_true rfl, Nat.le_of_ble_eq_true rfl⟩ (nwL_preV hK hY.own (fun _ h => Or.inr h) (nw_recv hK hY (k := 0) (i := 0) ⟨by decide, rfl⟩ rfl rfl)) hS (ownA_sub hY hS.1) rfl hl.1 rfl (Nat.le_of_ble_eq_true rfl) dL_law_128 ⟨show cells + 1 ≤ 600000 by omega, show slots + 5 ≤ 7302250 by omega⟩ (fun H1 locs hG hz hq hS1 => ?_)
  obtain ⟨s1, n', s2⟩ := cHorse hRC (xs ((nI (5 * t) + 1).toNatClampNeg)) (xs ((nI (5 * t) + 2).toNatClampNeg)) (xs ((nI (5 * t) + 3).toNatClampNeg))
  obtain ⟨aY', e0, hG⟩ := hG.fix s2
  obtain ⟨hY1, hM1, hdj1⟩ := joinY hS.1 hY hM hdj hG hq
  have hS := hS1
  refine lv_aload_n S.1 S.2.1 dL_law_131 rfl (lv_at hl 1 rfl) ?_
  refine lv_aload_n S.1 S.2.1 dL_law_132 rfl (lv_at hl 3 rfl) ?_
  refine lv_iload_n S.1 S.2.1 dL_law_133 rfl (lv_at hl 0 rfl) ?_
  refine lv_iconst (v := 1) S.1 S.2.1 dL_law_134 (by decide) ?_
  refine lv_iadd S.1 S.2.1 dL_law_135 ?_
  refine va_sld S.1 S.2.1 hX hbl hbA hS (i := nI (5 * t) + 1) (lin (k := 1) ht (by decide) hL) dL_law_136 ?_
  refine lv_aload_n S.1 S.2.1 dL_law_137 rfl (lv_at hl 3 rfl) ?_
  refine lv_iload_n S.1 S.2.1 dL_law_138 rfl (lv_at hl 0 rfl) ?_
  refine lv_iconst (v := 2) S.1 S.2.1 dL_law_139 (by decide) ?_
  refine lv_iadd S.1 S.2.1 dL_law_140 ?_
  refine va_sld S.1 S.2.1 hX hbl hbA hS (i := nI (5 * t) + 2) (lin (k := 2) ht (by decide) hL) dL_law_141 ?_
  refine lv_aload_n S.1 S.2.1 dL_law_142 rfl (lv_at hl 3 rfl) ?_
  refine lv_iload_n S.1 S.2.1 dL_law_143 rfl (lv_at hl 0 rfl) ?_
  refine lv_iconst (v := 3) S.1 S.2.1 dL_law_144 (by decide) ?_
  refine lv_iadd S.1 S.2.1 dL_law_145 ?_
  refine va_sld S.1 S.2.1 hX hbl hbA hS (i := nI (5 * t) + 3) (lin (k := 3) ht (by decide) hL) dL_law_146 ?_
  refine nwL_V (A0 := fun q => s.heap.size ≤ q) (A := ownA domM aM H1.size) (b := aM 0 0) (As := [.int (xs ((nI (5 * t) + 1).toNatClampNeg)), .int (xs ((nI (5 * t) + 2).toNatClampNeg)), .int (xs ((nI (5 * t) + 3).toNatClampNeg))]) (rest := [.int (fX9_horse Y nh (xs ((nI (5 * t) + 1).toNatClampNeg)) (xs ((nI (5 * t) + 2).toNatClampNeg)) (xs ((nI (5 * t) + 3).toNatClampNeg))).1]) S (kX10_horse l D C (ownA domM aM H1.size) aM M (xs ((nI (5 * t) + 1).toNatClampNeg)) (xs ((nI (5 * t) + 2).toNatClampNeg)) (xs ((nI (5 * t) + 3).toNatClampNeg)) kk hRC.1.invM) gL_law_X10_horse rfl ⟨rfl, rfl⟩ hqX10_horse ⟨Nat.le_of_ble_eq_true rfl, Nat.le_of_ble_eq_true rfl⟩ (nwL_preV hK hM1.own (fun _ h => Or.inr h) (nw_recv hK hM1 (k := 0) (i := 0) ⟨rfl, rfl⟩ rfl rfl)) hS (ownA_sub hM1 hS.1) rfl hl.1 rfl (Nat.le_of_ble_eq_true rfl) dL_law_147 ⟨show cells + 1 + 0 ≤ 600000 by omega, show slots + 5 + 0 ≤ 7302250 by omega⟩ (fun H2 locs hG2 hz2 hq2 hS2 => ?_)
  refine lv_icmp_eq (x := (fX9_horse Y nh (xs ((nI (5 * t) + 1).toNatClampNeg)) (xs ((nI (5 * t) + 2).toNatClampNeg)) (xs ((nI (5 * t) + 3).toNatClampNeg))).1) (y := (fX10_horse M (xs ((nI (5 * t) + 1).toNatClampNeg)) (xs ((nI (5 * t) + 2).toNatClampNeg)) (xs ((nI (5 * t) + 3).toNatClampNeg))).1) (tgt := 610) S.1 S.2.1 dL_law_150 (by decide) (fun _ => ?_) (fun ce => absurd s1 ce)
  refine W.widen (k := cells + 1) (n := slots + 5) (by omega) (by omega) ?_
  have hW2 := joinM hS.1 hY1 hM1 hdj1 hG2 hq2 (s2.more (Nat.le_add_right kk 20))
  rw [e0] at hW2
  exact kk6 _ _ hW2 hS2
set_option maxHeartbeats 4000000 in
set_option maxRecDepth 100000 in
theorem law_c1 {p : Program} {l : Launch} {e : Env} {s : State} {m : MethodId} {below : List Frame} {meth : Method} {c : Code} {b L : Nat} {xs : Nat → Int32} {D : va_G} {C : Nat → ClassId} {bx bm tt : Nat} {Q : State → Prop} (S : CallFix p m c cL_law 4 s #[Value.ref b] wsL_law RL) (hK : KK D C s) (hX : va_X b L xs s s.heap) (hbl : b < s.heap.size) (hZ : ZP tt (fun q => s.heap.size ≤ q) s s.heap) (hL : L ≤ 2560) {t kk : Nat} (ht : 5 * t + 5 ≤ L) (hkk : kk + 20 < 2 ^ 30) {H : Heap} {locs : List Loc} {ls : Array Slot} {cells slots : Nat} (hc : cells + 1 ≤ 600000) (hsl : slots + 5 ≤ 7302250) (hl : lv_has ls 4 [(3, .int (nI (5 * t))), (2, .ref bm), (1, .ref bx), (0, .ref b)]) (hW : LW D C s.heap.size bx bm kk H) (hS : va_S (fun q => s.heap.size ≤ q) s.heap H locs) (kk6 : ∀ (H1 : Heap) (locs1 : List Loc), LW D C s.heap.size bx bm (kk + 20) H1 → va_S (fun q => s.heap.size ≤ q) s.heap H1 locs1 → W p l e room_1 s m #[Value.ref b] below meth c H1 locs1 (cells + 1) (slots + 5) Q (F0 m 610 ls [])) : W p l e room_1 s m #[Value.ref b] below meth c H locs cells slots Q (F0 m 155 ls []) := by
  obtain ⟨nh, nv, na, Y, M, aY, aM, hRC, rfl, rfl, hY, hM, hdj⟩ := hW
  have hbA : ¬ s.heap.size ≤ b := Nat.not_le.mpr hbl
  refine lv_aload_n S.1 S.2.1 dL_law_155 rfl (lv_at hl 2 rfl) ?_
  refine lv_aload_n S.1 S.2.1 dL_law_156 rfl (lv_at hl 3 rfl) ?_
  refine lv_iload_n S.1 S.2.1 dL_law_157 rfl (lv_at hl 0 rfl) ?_
  refine lv_iconst (v := 1) S.1 S.2.1 dL_law_158 (by decide) ?_
  refine lv_iadd S.1 S.2.1 dL_law_159 ?_
  refine va_sld S.1 S.2.1 hX hbl hbA hS (i := nI (5 * t) + 1) (lin (k := 1) ht (by decide) hL) dL_law_160 ?_
  refine lv_aload_n S.1 S.2.1 dL_law_161 rfl (lv_at hl 3 rfl) ?_
  refine lv_iload_n S.1 S.2.1 dL_law_162 rfl (lv_at hl 0 rfl) ?_
  refine lv_iconst (v := 2) S.1 S.2.1 dL_law_163 (by decide) ?_
  refine lv_iadd S.1 S.2.1 dL_law_164 ?_
  refine va_sld S.1 S.2.1 hX hbl hbA hS (i := nI (5 * t) + 2) (lin (k := 2) ht (by decide) hL) dL_law_165 ?_
  refine nwL_V (A0 := fun q => s.heap.size ≤ q) (A := ownA (domY nh nv na) aY H.size) (b := aY 0 0) (As := [.int (xs ((nI (5 * t) + 1).toNatClampNeg)), .int (xs ((nI (5 * t) + 2).toNatClampNeg))]) (rest := []) S (kX9_wagon l D C (ownA (domY nh nv na) aY H.size) aY nh nv na Y (xs ((nI (5 * t) + 1).toNatClampNeg)) (xs ((nI (5 * t) + 2).toNatClampNeg)) kk hRC.1.inv) gL_law_X9_wagon rfl ⟨rfl, rfl⟩ hqX9_wagon ⟨Nat.le_of_ble_eq_true rfl, Nat.le_of_ble_eq_true rfl⟩ (nwL_preV hK hY.own (fun _ h => Or.inr h) (nw_recv hK hY (k := 0) (i := 0) ⟨by decide, rfl⟩ rfl rfl)) hS (ownA_sub hY hS.1) rfl hl.1 rfl (Nat.le_of_ble_eq_true rfl) dL_law_166 ⟨show cells + 1 ≤ 600000 by omega, show slots + 2 ≤ 7302250 by omega⟩ (fun H1 locs hG hz hq hS1 => ?_)
  obtain ⟨s1, n', s2⟩ := cWagon hRC (xs ((nI (5 * t) + 1).toNatClampNeg)) (xs ((nI (5 * t) + 2).toNatClampNeg))
  obtain ⟨aY', e0, hG⟩ := hG.fix s2
  obtain ⟨hY1, hM1, hdj1⟩ := joinY hS.1 hY hM hdj hG hq
  have hS := hS1
  refine lv_aload_n S.1 S.2.1 dL_law_169 rfl (lv_at hl 1 rfl) ?_
  refine lv_aload_n S.1 S.2.1 dL_law_170 rfl (lv_at hl 3 rfl) ?_
  refine lv_iload_n S.1 S.2.1 dL_law_171 rfl (lv_at hl 0 rfl) ?_
  refine lv_iconst (v := 1) S.1 S.2.1 dL_law_172 (by decide) ?_
  refine lv_iadd S.1 S.2.1 dL_law_173 ?_
  refine va_sld S.1 S.2.1 hX hbl hbA hS (i := nI (5 * t) + 1) (lin (k := 1) ht (by decide) hL) dL_law_174 ?_
  refine lv_aload_n S.1 S.2.1 dL_law_175 rfl (lv_at hl 3 rfl) ?_
  refine lv_iload_n S.1 S.2.1 dL_law_176 rfl (lv_at hl 0 rfl) ?_
  refine lv_iconst (v := 2) S.1 S.2.1 dL_law_177 (by decide) ?_
  refine lv_iadd S.1 S.2.1 dL_law_178 ?_
  refine va_sld S.1 S.2.1 hX hbl hbA hS (i := nI (5 * t) + 2) (lin (k := 2) ht (by decide) hL) dL_law_179 ?_
  refine nwL_V (A0 := fun q => s.heap.size ≤ q) (A := ownA domM aM H1.size) (b := aM 0 0) (As := [.int (xs ((nI (5 * t) + 1).toNatClampNeg)), .int (xs ((nI (5 * t) + 2).toNatClampNeg))]) (rest := [.int (fX9_wagon Y nv (xs ((nI (5 * t) + 1).toNatClampNeg)) (xs ((nI (5 * t) + 2).toNatClampNeg))).1]) S (kX10_wagon l D C (ownA domM aM H1.size) aM M (xs ((nI (5 * t) + 1).toNatClampNeg)) (xs ((nI (5 * t) + 2).toNatClampNeg)) kk hRC.1.invM) gL_law_X10_wagon rfl ⟨rfl, rfl⟩ hqX10_wagon ⟨Nat.le_of_ble_eq_true rfl, Nat.le_of_ble_eq_true rfl⟩ (nwL_preV hK hM1.own (fun _ h => Or.inr h) (nw_recv hK hM1 (k := 0) (i := 0) ⟨rfl, rfl⟩ rfl rfl)) hS (ownA_sub hM1 hS.1) rfl hl.1 rfl (Nat.le_of_ble_eq_true rfl) dL_law_180 ⟨show cells + 1 + 0 ≤ 600000 by omega, show slots + 2 + 0 ≤ 7302250 by omega⟩ (fun H2 locs hG2 hz2 hq2 hS2 => ?_)
  refine lv_icmp_eq (x := (fX9_wagon Y nv (xs ((nI (5 * t) + 1).toNatClampNeg)) (xs ((nI (5 * t) + 2).toNatClampNeg))).1) (y := (fX10_wagon M (xs ((nI (5 * t) + 1).toNatClampNeg)) (xs ((nI (5 * t) + 2).toNatClampNeg))).1) (tgt := 610) S.1 S.2.1 dL_law_183 (by decide) (fun _ => ?_) (fun ce => absurd s1 ce)
  refine W.widen (k := cells + 1) (n := slots + 5) (by omega) (by omega) ?_
  have hW2 := joinM hS.1 hY1 hM1 hdj1 hG2 hq2 (s2.more (Nat.le_add_right kk 20))
  rw [e0] at hW2
  exact kk6 _ _ hW2 hS2
set_option maxHeartbeats 4000000 in
set_option maxRecDepth 100000 in
theorem law_c2 {p : Program} {l : Launch} {e : Env} {s : State} {m : MethodId} {below : List Frame} {meth : Method} {c : Code} {b L : Nat} {xs : Nat → Int32} {D : va_G} {C : Nat → ClassId} {bx bm tt : Nat} {Q : State → Prop} (S : CallFix p m c cL_law 4 s #[Value.ref b] wsL_law RL) (hK : KK D C s) (hX : va_X b L xs s s.heap) (hbl : b < s.heap.size) (hZ : ZP tt (fun q => s.heap.size ≤ q) s s.heap) (hL : L ≤ 2560) {t kk : Nat} (ht : 5 * t + 5 ≤ L) (hkk : kk + 20 < 2 ^ 30) {H : Heap} {locs : List Loc} {ls : Array Slot} {cells slots : Nat} (hc : cells + 1 ≤ 600000) (hsl : slots + 5 ≤ 7302250) (hl : lv_has ls 4 [(3, .int (nI (5 * t))), (2, .ref bm), (1, .ref bx), (0, .ref b)]) (hW : LW D C s.heap.size bx bm kk H) (hS : va_S (fun q => s.heap.size ≤ q) s.heap H locs) (kk6 : ∀ (H1 : Heap) (locs1 : List Loc), LW D C s.heap.size bx bm (kk + 20) H1 → va_S (fun q => s.heap.size ≤ q) s.heap H1 locs1 → W p l e room_1 s m #[Value.ref b] below meth c H1 locs1 (cells + 1) (slots + 5) Q (F0 m 610 ls [])) : W p l e room_1 s m #[Value.ref b] below meth c H locs cells slots Q (F0 m 188 ls []) := by
  obtain ⟨nh, nv, na, Y, M, aY, aM, hRC, rfl, rfl, hY, hM, hdj⟩ := hW
  have hbA : ¬ s.heap.size ≤ b := Nat.not_le.mpr hbl
  refine lv_aload_n S.1 S.2.1 dL_law_188 rfl (lv_at hl 2 rfl) ?_
  refine lv_aload_n S.1 S.2.1 dL_law_189 rfl (lv_at hl 3 rfl) ?_
  refine lv_iload_n S.1 S.2.1 dL_law_190 rfl (lv_at hl 0 rfl) ?_
  refine lv_iconst (v := 1) S.1 S.2.1 dL_law_191 (by decide) ?_
  refine lv_iadd S.1 S.2.1 dL_law_192 ?_
  refine va_sld S.1 S.2.1 hX hbl hbA hS (i := nI (5 * t) + 1) (lin (k := 1) ht (by decide) hL) dL_law_193 ?_
  refine lv_aload_n S.1 S.2.1 dL_law_194 rfl (lv_at hl 3 rfl) ?_
  refine lv_iload_n S.1 S.2.1 dL_law_195 rfl (lv_at hl 0 rfl) ?_
  refine lv_iconst (v := 2) S.1 S.2.1 dL_law_196 (by decide) ?_
  refine lv_iadd S.1 S.2.1 dL_law_197 ?_
  refine va_sld S.1 S.2.1 hX hbl hbA hS (i := nI (5 * t) + 2) (lin (k := 2) ht (by decide) hL) dL_law_198 ?_
  refine nwL_V (A0 := fun q => s.heap.size ≤ q) (A := ownA (domY nh nv na) aY H.size) (b := aY 0 0) (As := [.int (xs ((nI (5 * t) + 1).toNatClampNeg)), .int (xs ((nI (5 * t) + 2).toNatClampNeg))]) (rest := []) S (kX9_lead l D C (ownA (domY nh nv na) aY H.size) aY nh nv na Y (xs ((nI (5 * t) + 1).toNatClampNeg)) (xs ((nI (5 * t) + 2).toNatClampNeg)) kk hRC.1.inv) gL_law_X9_lead rfl ⟨rfl, rfl⟩ hqX9_lead ⟨Nat.le_of_ble_eq_true rfl, Nat.le_of_ble_eq_true rfl⟩ (nwL_preV hK hY.own (fun _ h => Or.inr h) (nw_recv hK hY (k := 0) (i := 0) ⟨by decide, rfl⟩ rfl rfl)) hS (ownA_sub hY hS.1) rfl hl.1 rfl (Nat.le_of_ble_eq_true rfl) dL_law_199 ⟨show cells + 0 ≤ 600000 by omega, show slots + 0 ≤ 7302250 by omega⟩ (fun H1 locs hG hz hq hS1 => ?_)
  obtain ⟨s1, s2⟩ := cLead hRC (xs ((nI (5 * t) + 1).toNatClampNeg)) (xs ((nI (5 * t) + 2).toNatClampNeg))
  obtain ⟨hY1, hM1, hdj1⟩ := joinY hS.1 hY hM hdj hG hq
  have hS := hS1
  refine lv_aload_n S.1 S.2.1 dL_law_202 rfl (lv_at hl 1 rfl) ?_
  refine lv_aload_n S.1 S.2.1 dL_law_203 rfl (lv_at hl 3 rfl) ?_
  refine lv_iload_n S.1 S.2.1 dL_law_204 rfl (lv_at hl 0 rfl) ?_
  refine lv_iconst (v := 1) S.1 S.2.1 dL_law_205 (by decide) ?_
  refine lv_iadd S.1 S.2.1 dL_law_206 ?_
  refine va_sld S.1 S.2.1 hX hbl hbA hS (i := nI (5 * t) + 1) (lin (k := 1) ht (by decide) hL) dL_law_207 ?_
  refine lv_aload_n S.1 S.2.1 dL_law_208 rfl (lv_at hl 3 rfl) ?_
  refine lv_iload_n S.1 S.2.1 dL_law_209 rfl (lv_at hl 0 rfl) ?_
  refine lv_iconst (v := 2) S.1 S.2.1 dL_law_210 (by decide) ?_
  refine lv_iadd S.1 S.2.1 dL_law_211 ?_
  refine va_sld S.1 S.2.1 hX hbl hbA hS (i := nI (5 * t) + 2) (lin (k := 2) ht (by decide) hL) dL_law_212 ?_
  refine nwL_V (A0 := fun q => s.heap.size ≤ q) (A := ownA domM aM H1.size) (b := aM 0 0) (As := [.int (xs ((nI (5 * t) + 1).toNatClampNeg)), .int (xs ((nI (5 * t) + 2).toNatClampNeg))]) (rest := [.int (fX9_lead Y (xs ((nI (5 * t) + 1).toNatClampNeg)) (xs ((nI (5 * t) + 2).toNatClampNeg))).1]) S (kX10_lead l D C (ownA domM aM H1.size) aM M (xs ((nI (5 * t) + 1).toNatClampNeg)) (xs ((nI (5 * t) + 2).toNatClampNeg)) ) gL_law_X10_lead rfl ⟨rfl, rfl⟩ hqX10_lead ⟨Nat.le_of_ble_eq_true rfl, Nat.le_of_ble_eq_true rfl⟩ (nwL_preV hK hM1.own (fun _ h => Or.inr h) (nw_recv hK hM1 (k := 0) (i := 0) ⟨rfl, rfl⟩ rfl rfl)) hS (ownA_sub hM1 hS.1) rfl hl.1 rfl (Nat.le_of_ble_eq_true rfl) dL_law_213 ⟨show cells + 0 + 0 ≤ 600000 by omega, show slots + 0 + 0 ≤ 7302250 by omega⟩ (fun H2 locs hG2 hz2 hq2 hS2 => ?_)
  refine lv_icmp_eq (x := (fX9_lead Y (xs ((nI (5 * t) + 1).toNatClampNeg)) (xs ((nI (5 * t) + 2).toNatClampNeg))).1) (y := (fX10_lead M (xs ((nI (5 * t) + 1).toNatClampNeg)) (xs ((nI (5 * t) + 2).toNatClampNeg))).1) (tgt := 610) S.1 S.2.1 dL_law_216 (by decide) (fun _ => ?_) (fun ce => absurd s1 ce)
  refine W.widen (k := cells + 1) (n := slots + 5) (by omega) (by omega) ?_
  have hW2 := joinM hS.1 hY1 hM1 hdj1 hG2 hq2 (s2.more (Nat.le_add_right kk 20))
  exact kk6 _ _ hW2 hS2
set_option maxHeartbeats 4000000 in
set_option maxRecDepth 100000 in
theorem law_c3 {p : Program} {l : Launch} {e : Env} {s : State} {m : MethodId} {below : List Frame} {meth : Method} {c : Code} {b L : Nat} {xs : Nat → Int32} {D : va_G} {C : Nat → ClassId} {bx bm tt : Nat} {Q : State → Prop} (S : CallFix p m c cL_law 4 s #[Value.ref b] wsL_law RL) (hK : KK D C s) (hX : va_X b L xs s s.heap) (hbl : b < s.heap.size) (hZ : ZP tt (fun q => s.heap.size ≤ q) s s.heap) (hL : L ≤ 2560) {t kk : Nat} (ht : 5 * t + 5 ≤ L) (hkk : kk + 20 < 2 ^ 30) {H : Heap} {locs : List Loc} {ls : Array Slot} {cells slots : Nat} (hc : cells + 1 ≤ 600000) (hsl : slots + 5 ≤ 7302250) (hl : lv_has ls 4 [(3, .int (nI (5 * t))), (2, .ref bm), (1, .ref bx), (0, .ref b)]) (hW : LW D C s.heap.size bx bm kk H) (hS : va_S (fun q => s.heap.size ≤ q) s.heap H locs) (kk6 : ∀ (H1 : Heap) (locs1 : List Loc), LW D C s.heap.size bx bm (kk + 20) H1 → va_S (fun q => s.heap.size ≤ q) s.heap H1 locs1 → W p l e room_1 s m #[Value.ref b] below meth c H1 locs1 (cells + 1) (slots + 5) Q (F0 m 610 ls [])) : W p l e room_1 s m #[Value.ref b] below meth c H locs cells slots Q (F0 m 221 ls []) := by
  obtain ⟨nh, nv, na, Y, M, aY, aM, hRC, rfl, rfl, hY, hM, hdj⟩ := hW
  have hbA : ¬ s.heap.size ≤ b := Nat.not_le.mpr hbl
  refine lv_aload_n S.1 S.2.1 dL_law_221 rfl (lv_at hl 2 rfl) ?_
  refine lv_aload_n S.1 S.2.1 dL_law_222 rfl (lv_at hl 3 rfl) ?_
  refine lv_iload_n S.1 S.2.1 dL_law_223 rfl (lv_at hl 0 rfl) ?_
  refine lv_iconst (v := 1) S.1 S.2.1 dL_law_224 (by decide) ?_
  refine lv_iadd S.1 S.2.1 dL_law_225 ?_
  refine va_sld S.1 S.2.1 hX hbl hbA hS (i := nI (5 * t) + 1) (lin (k := 1) ht (by decide) hL) dL_law_226 ?_
  refine lv_aload_n S.1 S.2.1 dL_law_227 rfl (lv_at hl 3 rfl) ?_
  refine lv_iload_n S.1 S.2.1 dL_law_228 rfl (lv_at hl 0 rfl) ?_
  refine lv_iconst (v := 2) S.1 S.2.1 dL_law_229 (by decide) ?_
  refine lv_iadd S.1 S.2.1 dL_law_230 ?_
  refine va_sld S.1 S.2.1 hX hbl hbA hS (i := nI (5 * t) + 2) (lin (k := 2) ht (by decide) hL) dL_law_231 ?_
  refine nwL_V (A0 := fun q => s.heap.size ≤ q) (A := ownA (domY nh nv na) aY H.size) (b := aY 0 0) (As := [.int (xs ((nI (5 * t) + 1).toNatClampNeg)), .int (xs ((nI (5 * t) + 2).toNatClampNeg))]) (rest := []) S (kX9_empty l D C (ownA (domY nh nv na) aY H.size) aY nh nv na Y (xs ((nI (5 * t) + 1).toNatClampNeg)) (xs ((nI (5 * t) + 2).toNatClampNeg)) kk tt hRC.1.inv) gL_law_X9_empty rfl ⟨rfl, rfl⟩ hqX9_empty ⟨Nat.le_of_ble_eq_true rfl, Nat.le_of_ble_eq_true rfl⟩ (nwL_preZ hK hY.own (fun _ h => Or.inr h) ⟨(hZ.1.kept hS.2.1).narrow (ownA_sub hY hS.1), (hZ.2.kept hS.2.1).narrow (ownA_sub hY hS.1)⟩ (nw_recv hK hY (k := 0) (i := 0) ⟨by decide, rfl⟩ rfl rfl)) hS (ownA_sub hY hS.1) rfl hl.1 rfl (Nat.le_of_ble_eq_true rfl) dL_law_232 ⟨show cells + 0 ≤ 600000 by omega, show slots + 0 ≤ 7302250 by omega⟩ (fun H1 locs hG hz hq hS1 => ?_)
  obtain ⟨s1, s2⟩ := cEmpty hRC (xs ((nI (5 * t) + 1).toNatClampNeg)) (xs ((nI (5 * t) + 2).toNatClampNeg))
  obtain ⟨hY1, hM1, hdj1⟩ := joinY hS.1 hY hM hdj hG hq
  have hS := hS1
  refine lv_aload_n S.1 S.2.1 dL_law_235 rfl (lv_at hl 1 rfl) ?_
  refine lv_aload_n S.1 S.2.1 dL_law_236 rfl (lv_at hl 3 rfl) ?_
  refine lv_iload_n S.1 S.2.1 dL_law_237 rfl (lv_at hl 0 rfl) ?_
  refine lv_iconst (v := 1) S.1 S.2.1 dL_law_238 (by decide) ?_
  refine lv_iadd S.1 S.2.1 dL_law_239 ?_
  refine va_sld S.1 S.2.1 hX hbl hbA hS (i := nI (5 * t) + 1) (lin (k := 1) ht (by decide) hL) dL_law_240 ?_
  refine lv_aload_n S.1 S.2.1 dL_law_241 rfl (lv_at hl 3 rfl) ?_
  refine lv_iload_n S.1 S.2.1 dL_law_242 rfl (lv_at hl 0 rfl) ?_
  refine lv_iconst (v := 2) S.1 S.2.1 dL_law_243 (by decide) ?_
  refine lv_iadd S.1 S.2.1 dL_law_244 ?_
  refine va_sld S.1 S.2.1 hX hbl hbA hS (i := nI (5 * t) + 2) (lin (k := 2) ht (by decide) hL) dL_law_245 ?_
  refine nwL_V (A0 := fun q => s.heap.size ≤ q) (A := ownA domM aM H1.size) (b := aM 0 0) (As := [.int (xs ((nI (5 * t) + 1).toNatClampNeg)), .int (xs ((nI (5 * t) + 2).toNatClampNeg))]) (rest := [.int (fX9_empty Y (xs ((nI (5 * t) + 1).toNatClampNeg)) (xs ((nI (5 * t) + 2).toNatClampNeg))).1]) S (kX10_empty l D C (ownA domM aM H1.size) aM M (xs ((nI (5 * t) + 1).toNatClampNeg)) (xs ((nI (5 * t) + 2).toNatClampNeg)) kk hRC.1.invM) gL_law_X10_empty rfl ⟨rfl, rfl⟩ hqX10_empty ⟨Nat.le_of_ble_eq_true rfl, Nat.le_of_ble_eq_true rfl⟩ (nwL_preV hK hM1.own (fun _ h => Or.inr h) (nw_recv hK hM1 (k := 0) (i := 0) ⟨rfl, rfl⟩ rfl rfl)) hS (ownA_sub hM1 hS.1) rfl hl.1 rfl (Nat.le_of_ble_eq_true rfl) dL_law_246 ⟨show cells + 0 + 0 ≤ 600000 by omega, show slots + 0 + 0 ≤ 7302250 by omega⟩ (fun H2 locs hG2 hz2 hq2 hS2 => ?_)
  refine lv_icmp_eq (x := (fX9_empty Y (xs ((nI (5 * t) + 1).toNatClampNeg)) (xs ((nI (5 * t) + 2).toNatClampNeg))).1) (y := (fX10_empty M (xs ((nI (5 * t) + 1).toNatClampNeg)) (xs ((nI (5 * t) + 2).toNatClampNeg))).1) (tgt := 610) S.1 S.2.1 dL_law_249 (by decide) (fun _ => ?_) (fun ce => absurd s1 ce)
  refine W.widen (k := cells + 1) (n := slots + 5) (by omega) (by omega) ?_
  have hW2 := joinM hS.1 hY1 hM1 hdj1 hG2 hq2 (s2.more (Nat.le_add_right kk 20))
  exact kk6 _ _ hW2 hS2
