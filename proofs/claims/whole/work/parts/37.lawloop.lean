/-! THE CLAIM OUT OF ONE WALK OF THE LAW'S BODY. Your part is whole_start (and what it stands on); all else here is the same for every law, but numbers. -/
def R_law : String := "RidingYardLaw"
def lw_P (b : Addr) (xs : List Int32) (args : Array Value) (s : State) : Prop := args = #[.ref b] ∧ s.IntsAt b xs ∧ xs.length ≤ 2560 ∧ (Jvm.Cond.and given_1 narrow_1).before args s = true
def lw_Q (_ : Array Value) (s : State) (o : Outcome) (t : State) : Prop := o = .returned (some (.int 1)) ∧ Framed s o t [] 600000 7302250
def lw_Z (below : List Frame) (a : Array Value) (s : State) : State → Prop := fun t => ∃ o, t.status = .running ∧ Ended t below o ∧ lw_Q a s o t
/-- the law's own end, with 1 on the stack, nothing written that was there before, its room as the claim has it -/
theorem lw_ret {p : Program} {l : Launch} {e : Env} {s : State} {m : MethodId} {below : List Frame} {meth : Method} {c : Code} {b : Nat} (hx : p.tables.exec = Jvm.exec) (hb : c.code = code) (hr : meth.sig.returnType = ret) (hlocks : meth.locks = false) {pc : Nat} {H : Heap} {ls : Array Slot} (hdg : decode code pc = .ok (.ireturn, 1)) : W p l e room_1 s m #[Value.ref b] below meth c H [] 600000 7302250 (lw_Z below #[Value.ref b] s) (F0 m pc ls [.int 1]) := by
  intro T hT X
  obtain ⟨fs, hret, hrun, hended, hW, hframe⟩ := X.leave (v := some (.int 1)) (hlocks := hlocks) (fun h => by rw [hr] at h; cases h)
  have hmeth' : T.vm.method? m = some meth := X.method'
  refine ⟨T.setFrames fs, ?_, .returned (some (.int 1)), hrun, hended, rfl, ⟨_, rfl⟩, hW, hframe⟩
  jvm_step X.here [X.here.top, hx, hb, hdg, hmeth', hr, ret, narrow_b1]
  (try refine ⟨rfl, ?_⟩); (try refine ⟨rfl, ?_⟩)
  first | (intro acts; rw [hret _ acts rfl rfl rfl]) | rw [hret _ _ rfl rfl rfl]
  exact Steps.refl _
/-- what holds at the law's entry: the machine, the code, the tables' words (any of lw_tbl by 'hts w (by decide +kernel)'), the script of L ints xs at the cell b, what the Statement gives of the start (any of its parts by flat_of_before) -/
def lw_At (p : Program) (s : State) (m : MethodId) (meth : Method) (c : Code) (b L : Nat) (xs : Nat → Int32) : Prop :=
  p.tables.exec = Jvm.exec ∧ c.code = code ∧ meth.sig.returnType = ret ∧ c.maxLocals = 4 ∧ s.vm.findClass R_law = some m.cls ∧ (∀ w ∈ lw_tbl, w.before #[Value.ref b] s = true) ∧ va_X b L xs s s.heap ∧ b < s.heap.size ∧ meth.locks = false ∧ (Jvm.Cond.and given_1 narrow_1).before #[Value.ref b] s = true
/-! the law's loop, its start -/
theorem RC_init : RC 0 0 0 0 Y0 (Mi (qM 10 6 6 4 4)) := by
  have z : ∀ k j, qM 10 6 6 4 4 k = 0 → Mi (qM 10 6 6 4 4) k 0 j = 0 := fun k j h => if_neg (fun q => Nat.not_lt_zero _ (h ▸ q.2))
  refine ⟨⟨⟨⟨by decide, rfl⟩, ⟨by decide, rfl⟩, ⟨by decide, rfl⟩, ⟨0, by decide, rfl⟩, ⟨0, by decide, by decide, rfl, rfl⟩, fun _ _ => Or.inl rfl, fun _ _ => Or.inl rfl, fun _ _ => Or.inl rfl, fun _ _ _ _ => Or.inl rfl, fun _ _ => ⟨0, by decide, rfl⟩, fun _ _ => ⟨0, by decide, rfl⟩, fun _ _ => ⟨0, by decide, rfl⟩, fun _ _ => ⟨0, by decide, rfl⟩, fun _ _ => Or.inl rfl, fun _ _ => Or.inl rfl, fun _ _ => Or.inl rfl⟩, ⟨rfl, rfl, rfl, rfl, rfl⟩, fun j hj => if_pos ⟨rfl, hj⟩, fun j hj => if_pos ⟨rfl, hj⟩, fun t ht => Or.inl ⟨rfl, if_pos ⟨rfl, ht⟩⟩, fun t ht => Or.inl ⟨rfl, if_pos ⟨rfl, ht⟩⟩, fun t ht => ⟨Or.inr ⟨0, by decide, z 19 t rfl⟩, Or.inl ⟨rfl, if_pos ⟨rfl, ht⟩⟩⟩, fun j hj => Or.inl ⟨show (-1 : Int32) < 0 by decide, z 22 j rfl⟩, ⟨fun h hh => absurd hh (Nat.not_lt_zero _), fun h _ _ => ⟨z 3 h rfl, z 4 h rfl, z 5 h rfl, z 6 h rfl⟩⟩, ⟨fun h hh => absurd hh (Nat.not_lt_zero _), fun h _ _ => z 9 h rfl⟩, fun i hi => ⟨⟨0, by decide, rfl⟩, z 25 i rfl, z 26 i rfl, z 27 i rfl, z 28 i rfl⟩, fun j hj => ⟨z 30 j rfl, z 31 j rfl⟩, fun j hj => z 32 j rfl⟩, rfl⟩
theorem nwL_new {p : Program} {l : Launch} {e : Env} {R : Room} {s : State} {m : MethodId} {args : Array Value} {below : List Frame} {meth : Method} {c : Code} {H : Heap} {locs : List Loc} {cells slots : Nat} {Q : State → Prop} {cc : ByteArray} {pc nL : Nat} {ls : Array Slot} {rest : List Value} {D : va_G} {C : Nat → ClassId} {A0 : Nat → Prop} {H0 : Heap} {Ts : List Cond} {own : String} (S : CallFix p m c cc nL s args Ts own) (hK : KK D C s) (hS : va_S A0 H0 H locs) {ci N index : Nat} {CN : String} {T : u_T} (hc : vwCl[ci]? = some (CN, T, N)) (hin : ∀ w ∈ u_ws CN T N, w ∈ Ts) (ty : Nat → FieldType) (hty : ∀ k, k < N → parseFieldDescriptor (T k).2.2.1 = some (ty k)) (hcl : Cond.classLink own index CN ∈ Ts) (hinst : Cond.instantiable CN N ∈ Ts) (hini : Cond.initialized CN ∈ Ts) {fs : List Value} (hfs : ∀ j, j < N → defaultValue (ty j) = vp_V fs j) (hcells : cells + 1 ≤ R.cells) (hslots : slots + N ≤ R.slots) (hdg : decode cc pc = .ok (.new index, 3))
    (kk : ∀ H1, va_at D vwCl (H.size, .inr (ci, fs)) H1 → H1.size = H.size + 1 → (∀ x, x < H.size → H1[x]? = H[x]?) → va_S A0 H0 H1 locs → W p l e R s m args below meth c H1 locs (cells + 1) (slots + N) Q (F0 m (pc + 3) ls (.ref H.size :: rest))) : W p l e R s m args below meth c H locs cells slots Q (F0 m pc ls rest) := by
  obtain ⟨hx, hb, -, hown, hts⟩ := S
  have hKn := hK.1.1 ci _ hc
  refine W.newcK hx hb hown (hts _ hcl) (hts _ hinst) (hts _ hini) rfl hdg hcells hslots hKn.2.1 rfl fun H1 kC hkC e1 z1 o1 => ?_
  exact kk H1 ⟨_, hc, (u_born ty hts hin hKn hkC e1 hty).to hfs⟩ z1 o1 (vs_grow hS (by omega) o1)
set_option maxHeartbeats 4000000 in
set_option maxRecDepth 100000 in
theorem law_loop {p : Program} {l : Launch} {e : Env} {s : State} {m : MethodId} {below : List Frame} {meth : Method} {c : Code} {b L : Nat} {xs : Nat → Int32} {D : va_G} {C : Nat → ClassId} {bx bm tt : Nat} (S : CallFix p m c cL_law 4 s #[Value.ref b] wsL_law RL) (hr : meth.sig.returnType = ret) (hlk : meth.locks = false) (hK : KK D C s) (hX : va_X b L xs s s.heap) (hbl : b < s.heap.size) (hZ : ZP tt (fun q => s.heap.size ≤ q) s s.heap) (hL : L ≤ 2560) {H : Heap} {locs : List Loc} {ls : Array Slot} (hl : lv_has ls 4 [(3, .int (nI 0)), (2, .ref bm), (1, .ref bx), (0, .ref b)]) (hW : LW D C s.heap.size bx bm 0 H) (hS : va_S (fun q => s.heap.size ≤ q) s.heap H locs) : W p l e room_1 s m #[Value.ref b] below meth c H locs 116 1582 (lw_Z below #[Value.ref b] s) (F0 m 18 ls []) := by
  have hbA : ¬ s.heap.size ≤ b := Nat.not_le.mpr hbl
  have hsub : (Int32.ofNat L - 5).toInt = (L : Int) - 5 := by
    show (nI L - 5).toInt = _
    rw [Int32.toInt_sub, nI_toInt (by omega), show (5 : Int32).toInt = 5 from rfl, Int.bmod_eq_of_le (by omega) (by omega)]
  refine lpC (L / 5) (fun t H locs ls => lv_has ls 4 [(3, .int (nI (5 * t))), (2, .ref bm), (1, .ref bx), (0, .ref b)] ∧ LW D C s.heap.size bx bm (20 * t) H ∧ va_S (fun q => s.heap.size ≤ q) s.heap H locs) (fun t => 116 + t) (fun t => 1582 + 5 * t) 18 (fun t H locs ls ht hP ih => ?_) (fun H locs ls hP => ?_) ⟨hl, hW, hS⟩
  · obtain ⟨hl, hW, hS⟩ := hP
    have ht5 : 5 * t + 5 ≤ L := by omega
    refine lv_iload_n S.1 S.2.1 dL_law_18 rfl (lv_at hl 0 rfl) ?_
    refine lv_aload_n S.1 S.2.1 dL_law_19 rfl (lv_at hl 3 rfl) ?_
    refine va_slen S.1 S.2.1 hX hbl hbA hS dL_law_20 ?_
    refine lv_iconst (v := 5) S.1 S.2.1 dL_law_21 (by decide) ?_
    refine lv_isub S.1 S.2.1 dL_law_22 ?_
    refine lv_icmp_gt (x := nI (5 * t)) (y := Int32.ofNat L - 5) (tgt := 616) S.1 S.2.1 dL_law_23 (by decide) (fun cg => absurd cg (by rw [Int32.lt_iff_toInt_lt, hsub, nI_toInt (by omega)]; omega)) (fun _ => ?_)
    refine lv_aload_n S.1 S.2.1 dL_law_26 rfl (lv_at hl 3 rfl) ?_
    refine lv_iload_n S.1 S.2.1 dL_law_27 rfl (lv_at hl 0 rfl) ?_
    refine va_sld S.1 S.2.1 hX hbl hbA hS (i := nI (5 * t)) (vp_in_nI (by omega) (by omega)) dL_law_28 ?_
    refine lv_bipush (v := 15) S.1 S.2.1 dL_law_29 (by decide) ?_
    refine lv_iand S.1 S.2.1 dL_law_31 ?_
    have k610 : ∀ (H1 : Heap) (locs1 : List Loc), LW D C s.heap.size bx bm (20 * t + 20) H1 → va_S (fun q => s.heap.size ≤ q) s.heap H1 locs1 → W p l e room_1 s m #[Value.ref b] below meth c H1 locs1 (116 + t + 1) (1582 + 5 * t + 5) (lw_Z below #[Value.ref b] s) (F0 m 610 ls []) := fun H1 locs1 hW1 hS1 => by
      refine lv_iinc (v := nI (5 * t) + 5) (lv' := [(3, .int (nI (5 * t) + 5)), (2, .ref bm), (1, .ref bx), (0, .ref b)]) S.1 S.2.1 dL_law_610 hl (k := 0) rfl rfl (by decide) rfl (fun ls hl => ?_)
      refine lv_goto (tgt := 18) S.1 S.2.1 dL_law_613 (by decide) ?_
      refine ih _ _ _ ⟨?_, hW1, hS1⟩
      rw [show 5 * (t + 1) = 5 * t + 5 by omega, ← nI_add]
      exact hl
    obtain ⟨k, hk, ek⟩ := pk_andE (xs ((nI (5 * t)).toNatClampNeg)) (m := 15) 4 (by decide)
    rw [ek]
    have hkk : 20 * t + 20 < 2 ^ 30 := by omega
    have hc : 116 + t + 1 ≤ 600000 := by omega
    have hsl : 1582 + 5 * t + 5 ≤ 7302250 := by omega
    match k, hk with
    | 0, _ => exact lv_tableIn (x := nI 0) (off := 80) (tgt := 112) S.1 S.2.1 dL_law_32 (by decide) (by decide) rfl (by decide) (law_c0 S hK hX hbl hZ hL ht5 hkk hc hsl hl hW hS k610)
    | 1, _ => exact lv_tableIn (x := nI 1) (off := 123) (tgt := 155) S.1 S.2.1 dL_law_32 (by decide) (by decide) rfl (by decide) (law_c1 S hK hX hbl hZ hL ht5 hkk hc hsl hl hW hS k610)
    | 2, _ => exact lv_tableIn (x := nI 2) (off := 156) (tgt := 188) S.1 S.2.1 dL_law_32 (by decide) (by decide) rfl (by decide) (law_c2 S hK hX hbl hZ hL ht5 hkk hc hsl hl hW hS k610)
    | 3, _ => exact lv_tableIn (x := nI 3) (off := 189) (tgt := 221) S.1 S.2.1 dL_law_32 (by decide) (by decide) rfl (by decide) (law_c3 S hK hX hbl hZ hL ht5 hkk hc hsl hl hW hS k610)
    | 4, _ => exact lv_tableIn (x := nI 4) (off := 222) (tgt := 254) S.1 S.2.1 dL_law_32 (by decide) (by decide) rfl (by decide) (law_c4 S hK hX hbl hZ hL ht5 hkk hc hsl hl hW hS k610)
    | 5, _ => exact lv_tableIn (x := nI 5) (off := 255) (tgt := 287) S.1 S.2.1 dL_law_32 (by decide) (by decide) rfl (by decide) (law_c5 S hK hX hbl hZ hL ht5 hkk hc hsl hl hW hS k610)
    | 6, _ => exact lv_tableIn (x := nI 6) (off := 288) (tgt := 320) S.1 S.2.1 dL_law_32 (by decide) (by decide) rfl (by decide) (law_c6 S hK hX hbl hZ hL ht5 hkk hc hsl hl hW hS k610)
    | 7, _ => exact lv_tableIn (x := nI 7) (off := 341) (tgt := 373) S.1 S.2.1 dL_law_32 (by decide) (by decide) rfl (by decide) (law_c7 S hK hX hbl hZ hL ht5 hkk hc hsl hl hW hS k610)
    | 8, _ => exact lv_tableIn (x := nI 8) (off := 354) (tgt := 386) S.1 S.2.1 dL_law_32 (by decide) (by decide) rfl (by decide) (law_c8 S hK hX hbl hZ hL ht5 hkk hc hsl hl hW hS k610)
    | 9, _ => exact lv_tableIn (x := nI 9) (off := 407) (tgt := 439) S.1 S.2.1 dL_law_32 (by decide) (by decide) rfl (by decide) (law_c9 S hK hX hbl hZ hL ht5 hkk hc hsl hl hW hS k610)
    | 10, _ => exact lv_tableIn (x := nI 10) (off := 420) (tgt := 452) S.1 S.2.1 dL_law_32 (by decide) (by decide) rfl (by decide) (law_c10 S hK hX hbl hZ hL ht5 hkk hc hsl hl hW hS k610)
    | 11, _ => exact lv_tableIn (x := nI 11) (off := 433) (tgt := 465) S.1 S.2.1 dL_law_32 (by decide) (by decide) rfl (by decide) (law_c11 S hK hX hbl hZ hL ht5 hkk hc hsl hl hW hS k610)
    | 12, _ => exact lv_tableIn (x := nI 12) (off := 466) (tgt := 498) S.1 S.2.1 dL_law_32 (by decide) (by decide) rfl (by decide) (law_c12 S hK hX hbl hZ hL ht5 hkk hc hsl hl hW hS k610)
    | 13, _ => exact lv_tableIn (x := nI 13) (off := 499) (tgt := 531) S.1 S.2.1 dL_law_32 (by decide) (by decide) rfl (by decide) (law_c13 S hK hX hbl hZ hL ht5 hkk hc hsl hl hW hS k610)
    | 14, _ => exact lv_tableIn (x := nI 14) (off := 522) (tgt := 554) S.1 S.2.1 dL_law_32 (by decide) (by decide) rfl (by decide) (law_c14 S hK hX hbl hZ hL ht5 hkk hc hsl hl hW hS k610)
    | 15, _ => exact lv_tableIn (x := nI 15) (off := 555) (tgt := 587) S.1 S.2.1 dL_law_32 (by decide) (by decide) rfl (by decide) (law_c15 S hK hX hbl hZ hL ht5 hkk hc hsl hl hW hS k610)
    | k + 16, hk => exact absurd hk (by omega)
  · obtain ⟨hl, hW, hS⟩ := hP
    refine lv_iload_n S.1 S.2.1 dL_law_18 rfl (lv_at hl 0 rfl) ?_
    refine lv_aload_n S.1 S.2.1 dL_law_19 rfl (lv_at hl 3 rfl) ?_
    refine va_slen S.1 S.2.1 hX hbl hbA hS dL_law_20 ?_
    refine lv_iconst (v := 5) S.1 S.2.1 dL_law_21 (by decide) ?_
    refine lv_isub S.1 S.2.1 dL_law_22 ?_
    refine lv_icmp_gt (x := nI (5 * (L / 5))) (y := Int32.ofNat L - 5) (tgt := 616) S.1 S.2.1 dL_law_23 (by decide) (fun _ => ?_) (fun cg => absurd (show Int32.ofNat L - 5 < nI (5 * (L / 5)) by rw [Int32.lt_iff_toInt_lt, hsub, nI_toInt (by omega)]; omega) cg)
    refine lv_iconst (v := 1) S.1 S.2.1 dL_law_616 (by decide) ?_
    refine va_forget hS.2.2 ?_
    refine W.widen (k := 600000) (n := 7302250) (by omega) (by omega) ?_
    exact lw_ret S.1 S.2.1 hr hlk dL_law_617
set_option maxHeartbeats 4000000 in
set_option maxRecDepth 100000 in
theorem whole_start {p : Program} {e : Env} {s : State} {m : MethodId} {below : List Frame} {meth : Method} {c : Code} (l : Launch) {b L : Nat} {xs : Nat → Int32} (hL : L ≤ 2560) (C0 : lw_At p s m meth c b L xs) : W p l e room_1 s m #[Value.ref b] below meth c s.heap [] 0 0 (lw_Z below #[Value.ref b] s) (entryFrame m ([Value.ref b] : List Value).toArray 4) := by
  obtain ⟨hx, hb, hr, hml, hown, hts0, hX, hbl, hlk, hgv⟩ := C0
  obtain ⟨D, C, hK⟩ := law_KK hts0 hgv
  obtain ⟨tt, hZ⟩ := law_ZP (A := fun q => s.heap.size ≤ q) hts0 hgv (fun a h => Nat.not_le.mpr h)
  have hts : ∀ w ∈ wsL_law, w.before #[Value.ref b] s = true := fun w hw => hts0 w (wsL_law_in w hw)
  have S : CallFix p m c cL_law 4 s #[Value.ref b] wsL_law RL := ⟨hx, hb, hml, hown, hts⟩
  have hS : va_S (fun q => s.heap.size ≤ q) s.heap s.heap [] := va_S.rf
  have hl := lv_entry ([.ref b]) (n := 4) (Nat.le_of_ble_eq_true rfl)
  rw [lg_entry_eq]
  generalize (lg_sl ([.ref b]) ++ List.replicate (4 - (lg_sl ([.ref b])).length) Slot.unset).toArray = ls at hl ⊢
  have hl : lv_has ls 4 [(0, .ref b)] := hl
  refine nwL_new S hK hS (ci := 8) (CN := RX9) (T := TX9) (N := 17) rfl inlX9 tyX9 tyX9_ok (List.mem_append_left _ (List.mem_append_left _ (List.mem_append_left _ (List.mem_append_left _ (List.mem_append_left _ (List.mem_append_left _ (List.mem_append_left _ (List.mem_append_left _ (List.mem_append_left _ (List.mem_append_left _ (List.mem_append_left _ (List.mem_append_left _ (List.mem_of_getElem? (i := 0) rfl))))))))))))) (List.mem_append_left _ (List.mem_append_left _ (List.mem_append_left _ (List.mem_append_left _ (List.mem_append_left _ (List.mem_append_left _ (List.mem_append_left _ (List.mem_append_left _ (List.mem_append_left _ (List.mem_append_left _ (List.mem_append_left _ (List.mem_append_left _ (List.mem_of_getElem? (i := 1) rfl))))))))))))) (List.mem_append_left _ (List.mem_append_left _ (List.mem_append_left _ (List.mem_append_left _ (List.mem_append_left _ (List.mem_append_left _ (List.mem_append_left _ (List.mem_append_left _ (List.mem_append_left _ (List.mem_append_left _ (List.mem_append_left _ (List.mem_append_left _ (List.mem_of_getElem? (i := 2) rfl))))))))))))) (fs := [.null, .null, .null, .null, .null, .null, .int 0, .int 0, .int 0, .null, .int 0, .null, .null, .int 0, .int 0, .null, .int 0]) (fun j hj => by
    rcases (show j = 0 ∨ j = 1 ∨ j = 2 ∨ j = 3 ∨ j = 4 ∨ j = 5 ∨ j = 6 ∨ j = 7 ∨ j = 8 ∨ j = 9 ∨ j = 10 ∨ j = 11 ∨ j = 12 ∨ j = 13 ∨ j = 14 ∨ j = 15 ∨ j = 16 by omega) with rfl | rfl | rfl | rfl | rfl | rfl | rfl | rfl | rfl | rfl | rfl | rfl | rfl | rfl | rfl | rfl | rfl <;> rfl) (Nat.le_of_ble_eq_true rfl) (Nat.le_of_ble_eq_true rfl) dL_law_0 (fun H1 hat hz1 ho1 hS1 => ?_)
  refine lv_dup hx hb dL_law_3 rfl ?_
  refine nwL_callv (A := fun q => q = s.heap.size ∨ H1.size ≤ q) (va_runI (As := []) (rest := [.ref s.heap.size]) S (kX9_init l D C (fun q => q = s.heap.size ∨ H1.size ≤ q) s.heap.size H1.size (Or.inl rfl)) (cwI 0 hts gL_law_X9_init rfl rfl rfl (hts (.initialized RX9) (List.mem_append_left _ (List.mem_append_left _ (List.mem_append_left _ (List.mem_append_left _ (List.mem_append_left _ (List.mem_append_left _ (List.mem_append_left _ (List.mem_append_left _ (List.mem_append_left _ (List.mem_append_left _ (List.mem_append_left _ (List.mem_append_left _ (List.mem_of_getElem? (i := 2) rfl)))))))))))))) (hts (.methodLink RL 9 yX9_init) (List.mem_append_left _ (List.mem_append_left _ (List.mem_append_left _ (List.mem_append_left _ (List.mem_append_left _ (List.mem_append_left _ (List.mem_append_left _ (List.mem_append_left _ (List.mem_append_left _ (List.mem_append_left _ (List.mem_append_left _ (List.mem_append_left _ (List.mem_of_getElem? (i := 6) rfl)))))))))))))) (hts (.instanceMethod yX9_init) (List.mem_append_left _ (List.mem_append_left _ (List.mem_append_left _ (List.mem_append_left _ (List.mem_append_left _ (List.mem_append_left _ (List.mem_append_left _ (List.mem_append_left _ (List.mem_append_left _ (List.mem_append_left _ (List.mem_append_left _ (List.mem_append_left _ (List.mem_of_getElem? (i := 7) rfl)))))))))))))) rfl (by decide +kernel) ⟨Nat.le_of_ble_eq_true rfl, Nat.le_of_ble_eq_true rfl⟩) (nwL_preS hK ⟨rfl, hat⟩ (fun _ h => Or.inr h)) rfl rfl hl.1 rfl (lv_room (Nat.le_of_ble_eq_true rfl)) dL_law_4 ⟨Nat.le_of_ble_eq_true rfl, Nat.le_of_ble_eq_true rfl⟩) hS1 (fun q h => by
    rcases h with rfl | h
    · exact Nat.le_refl _
    · show s.heap.size ≤ q
      omega) (fun H2 locs2 hY hz2 hq2 hS2 => ?_)
  refine lv_astore_n (lv' := [(1, .ref s.heap.size), (0, .ref b)]) hx hb dL_law_7 rfl hl (by decide) rfl (fun ls hl => ?_)
  refine nwL_new S hK hS2 (ci := 9) (CN := RX10) (T := TX10) (N := 35) rfl inlX10 tyX10 tyX10_ok (List.mem_append_left _ (List.mem_append_left _ (List.mem_append_left _ (List.mem_append_left _ (List.mem_append_left _ (List.mem_append_left _ (List.mem_append_left _ (List.mem_append_left _ (List.mem_append_left _ (List.mem_append_left _ (List.mem_append_left _ (List.mem_append_left _ (List.mem_of_getElem? (i := 3) rfl))))))))))))) (List.mem_append_left _ (List.mem_append_left _ (List.mem_append_left _ (List.mem_append_left _ (List.mem_append_left _ (List.mem_append_left _ (List.mem_append_left _ (List.mem_append_left _ (List.mem_append_left _ (List.mem_append_left _ (List.mem_append_left _ (List.mem_append_left _ (List.mem_of_getElem? (i := 4) rfl))))))))))))) (List.mem_append_left _ (List.mem_append_left _ (List.mem_append_left _ (List.mem_append_left _ (List.mem_append_left _ (List.mem_append_left _ (List.mem_append_left _ (List.mem_append_left _ (List.mem_append_left _ (List.mem_append_left _ (List.mem_append_left _ (List.mem_append_left _ (List.mem_of_getElem? (i := 5) rfl))))))))))))) (fs := dflM) (fun j hj => by
    rcases (show j = 0 ∨ j = 1 ∨ j = 2 ∨ j = 3 ∨ j = 4 ∨ j = 5 ∨ j = 6 ∨ j = 7 ∨ j = 8 ∨ j = 9 ∨ j = 10 ∨ j = 11 ∨ j = 12 ∨ j = 13 ∨ j = 14 ∨ j = 15 ∨ j = 16 ∨ j = 17 ∨ j = 18 ∨ j = 19 ∨ j = 20 ∨ j = 21 ∨ j = 22 ∨ j = 23 ∨ j = 24 ∨ j = 25 ∨ j = 26 ∨ j = 27 ∨ j = 28 ∨ j = 29 ∨ j = 30 ∨ j = 31 ∨ j = 32 ∨ j = 33 ∨ j = 34 by omega) with rfl | rfl | rfl | rfl | rfl | rfl | rfl | rfl | rfl | rfl | rfl | rfl | rfl | rfl | rfl | rfl | rfl | rfl | rfl | rfl | rfl | rfl | rfl | rfl | rfl | rfl | rfl | rfl | rfl | rfl | rfl | rfl | rfl | rfl | rfl <;> rfl) (Nat.le_of_ble_eq_true rfl) (Nat.le_of_ble_eq_true rfl) dL_law_8 (fun H3 hat3 hz3 ho3 hS3 => ?_)
  refine lv_dup hx hb dL_law_11 rfl ?_
  refine nwL_callv (A := fun q => q = H2.size ∨ H3.size ≤ q) (va_runI (As := []) (rest := [.ref H2.size]) S (kX10_init l D C (fun q => q = H2.size ∨ H3.size ≤ q) H2.size H3.size (Or.inl rfl)) (cwI 0 hts gL_law_X10_init rfl rfl rfl (hts (.initialized RX10) (List.mem_append_left _ (List.mem_append_left _ (List.mem_append_left _ (List.mem_append_left _ (List.mem_append_left _ (List.mem_append_left _ (List.mem_append_left _ (List.mem_append_left _ (List.mem_append_left _ (List.mem_append_left _ (List.mem_append_left _ (List.mem_append_left _ (List.mem_of_getElem? (i := 5) rfl)))))))))))))) (hts (.methodLink RL 12 yX10_init) (List.mem_append_left _ (List.mem_append_left _ (List.mem_append_left _ (List.mem_append_left _ (List.mem_append_left _ (List.mem_append_left _ (List.mem_append_left _ (List.mem_append_left _ (List.mem_append_left _ (List.mem_append_left _ (List.mem_append_left _ (List.mem_append_right _ (List.mem_append_right _ (List.mem_append_left _ (List.mem_of_getElem? (i := 4) rfl)))))))))))))))) (hts (.instanceMethod yX10_init) (List.mem_append_left _ (List.mem_append_left _ (List.mem_append_left _ (List.mem_append_left _ (List.mem_append_left _ (List.mem_append_left _ (List.mem_append_left _ (List.mem_append_left _ (List.mem_append_left _ (List.mem_append_left _ (List.mem_append_left _ (List.mem_append_right _ (List.mem_append_right _ (List.mem_append_left _ (List.mem_of_getElem? (i := 5) rfl)))))))))))))))) rfl (by decide +kernel) ⟨Nat.le_of_ble_eq_true rfl, Nat.le_of_ble_eq_true rfl⟩) (nwL_preS hK ⟨rfl, hat3⟩ (fun _ h => Or.inr h)) rfl rfl hl.1 rfl (lv_room (Nat.le_of_ble_eq_true rfl)) dL_law_12 ⟨Nat.le_of_ble_eq_true rfl, Nat.le_of_ble_eq_true rfl⟩) hS3 (fun q h => by
    rcases h with rfl | h
    · show s.heap.size ≤ H2.size
      exact hS2.1
    · show s.heap.size ≤ q
      have := hS2.1
      omega) (fun H4 locs4 hM hz4 hq4 hS4 => ?_)
  refine lv_astore_n (lv' := [(2, .ref H2.size), (1, .ref s.heap.size), (0, .ref b)]) hx hb dL_law_15 rfl hl (by decide) rfl (fun ls hl => ?_)
  refine lv_iconst (v := 0) hx hb dL_law_16 (by decide) ?_
  refine lv_istore_n (lv' := [(3, .int (nI 0)), (2, .ref H2.size), (1, .ref s.heap.size), (0, .ref b)]) hx hb dL_law_17 rfl hl (by decide) rfl (fun ls hl => ?_)
  refine law_loop S hr hlk hK hX hbl hZ hL hl ?_ hS4
  have hY4 := (hY.kept (H1 := H3) (fun k i hd => ho3 _ (hY.lt hd))).kept (H1 := H4) (fun k i hd => hq4 _ (by have := hY.lt hd; omega) (fun h => by
    have := hY.lt hd
    rcases h with h | h <;> omega))
  refine ⟨0, 0, 0, Y0, _, _, _, RC_init, rfl, rfl, hY4.loose (fun q h => ?_), hM.loose (fun q h => ?_), fun k i k' i' hd hd' ee => ?_⟩
  · rcases h with rfl | h
    · exact Nat.le_refl _
    · show s.heap.size ≤ q
      omega
  · rcases h with rfl | h
    · show s.heap.size ≤ H2.size
      exact hS2.1
    · show s.heap.size ≤ q
      have := hS2.1
      omega
  · have h1 := hY.lt hd
    have h2 := hM.2.2 k' i' hd'
    rw [← ee] at h2
    rcases h2 with h2 | h2 <;> omega
