theorem u3_sl {Y : Nat → Nat → Nat → Int32} {k i j j' : Nat} {v : Int32} (h : j' ≠ j) : u3 Y k i j v k i j' = Y k i j' := by
  rw [u3_at, if_neg (fun q => h q.2.2)]
theorem u3_rd {Y : Nat → Nat → Nat → Int32} {k i j : Nat} {v : Int32} : u3 Y k i j v k i j = v := by
  rw [u3_at, if_pos ⟨rfl, rfl, rfl⟩]
theorem frY_step (Y : Nat → Nat → Nat → Int32) (k i c : Nat) (v : Int32) : u3 (frY Y k i c v) k i c v = frY Y k i (c + 1) v := by
  funext k' i' j
  rw [u3_at]
  unfold frY
  by_cases h1 : k' = k ∧ i' = i
  · obtain ⟨rfl, rfl⟩ := h1
    by_cases h2 : j = c
    · subst h2
      rw [if_pos ⟨rfl, rfl, rfl⟩, if_pos ⟨rfl, rfl, by omega⟩]
    · rw [if_neg (fun q => h2 q.2.2)]
      by_cases h3 : j < c
      · rw [if_pos ⟨rfl, rfl, h3⟩, if_pos ⟨rfl, rfl, by omega⟩]
      · rw [if_neg (fun q => h3 q.2.2), if_neg (fun q => by have := q.2.2; omega)]
  · rw [if_neg (fun q => h1 ⟨q.1, q.2.1⟩), if_neg (fun q => h1 ⟨q.1, q.2.1⟩), if_neg (fun q => h1 ⟨q.1, q.2.1⟩)]
theorem frY_0 (Y : Nat → Nat → Nat → Int32) (k i : Nat) (v : Int32) : frY Y k i 0 v = Y := by
  funext k' i' j
  exact if_neg (fun q => Nat.not_lt_zero _ q.2.2)
theorem hqJ7_fill_53178 : yJ7_fill_53178.cls ≠ "java/lang/invoke/MethodHandle" ∧ yJ7_fill_53178.cls ≠ "java/lang/invoke/VarHandle" ∧ (parseMethodDescriptor yJ7_fill_53178.desc).map (fun d => d.parameters.length) = some 2 := by decide +kernel
set_option maxHeartbeats 4000000 in
set_option maxRecDepth 100000 in
/-- Arrays.fill(a, v) -/
theorem kJ7_fill_53178 (l : Launch) (D : va_G) (C : Nat → ClassId) (A : Nat → Prop) (ad : Nat → Nat → Nat) (nh nv na : Nat) (Y : Nat → Nat → Nat → Int32) (k i len : Nat) (hd : domY nh nv na k i) (he : ∀ r, enY C ad k i r = .inl (C 0, len, .inl r)) (hlen : len < 2 ^ 31) (v : Int32) : Met l yJ7_fill_53178 wsJ7_fill_53178 ({ frames := 0, cells := 0, slots := 0, locals := 0 }) (va_Pc [.ref (ad k i), .int v] (PW D C A (nw D (enY C) (domY nh nv na) A ad Y))) (nQ A none (nw D (enY C) (domY nh nv na) A ad (frY Y k i len v))) 0 0 A := by
  refine nw_ofWF (cc := cJ7_fill_53178) (maxL := 4) (ret := none) (by decide +kernel) rfl ?_
  intro p e s m args below meth c s₁ B hml hv
  obtain ⟨rfl, hK, hN, hA⟩ := hv
  have hx := B.exec
  have hb := B.bytes
  have hr := B.returns
  have hts := atoms_spec (ws := wsJ7_fill_53178) B.pre
  have hown : s.vm.findClass RJ7 = some m.cls := findClass_of_methodNamed B.named
  have hlocks := B.notSynchronized
  have S : CallFix p m c cJ7_fill_53178 4 s _ wsJ7_fill_53178 RJ7 := ⟨hx, hb, hml, hown, hts⟩
  have hS : va_S A s.heap s.heap [] := va_S.rf
  have hl := lv_entry ([.ref (ad k i), .int v]) (n := 4) (Nat.le_of_ble_eq_true rfl)
  rw [lg_entry_eq]
  generalize (lg_sl ([.ref (ad k i), .int v]) ++ List.replicate (4 - (lg_sl ([.ref (ad k i), .int v])).length) Slot.unset).toArray = ls at hl ⊢
  have hl : lv_has ls 4 [(0, .ref (ad k i)), (1, .int v)] := hl
  refine lv_iconst (v := 0) hx hb dJ7_fill_53178_0 (by decide) ?_
  refine lv_istore_n (lv' := [(2, .int 0), (0, .ref (ad k i)), (1, .int v)]) hx hb dJ7_fill_53178_1 rfl hl (by decide) rfl (fun ls hl => ?_)
  refine lv_aload_n hx hb dJ7_fill_53178_2 rfl (lv_at hl 1 rfl) ?_
  refine nw_alen S hK hN (k := k) (i := i) hd 0 rfl (he _) (v := nI len) rfl dJ7_fill_53178_3 ?_
  refine lv_istore_n (lv' := [(3, .int (nI len)), (2, .int 0), (0, .ref (ad k i)), (1, .int v)]) hx hb dJ7_fill_53178_4 rfl hl (by decide) rfl (fun ls hl => ?_)
  refine lpW (σ := Int32) (len + 1) 0 (fun n x H locs ls => lv_has ls 4 [(2, .int x), (3, .int (nI len)), (0, .ref (ad k i)), (1, .int v)] ∧ va_S A s.heap H locs ∧ ∃ q : Nat, x = nI q ∧ q ≤ len ∧ q + n = len + 1 ∧ nw D (enY C) (domY nh nv na) A ad (frY Y k i q v) H) 5 (fun n x H locs ls hP ih => ?_) ⟨lv_sub hl [1, 0, 2, 3] rfl, hS, 0, rfl, Nat.zero_le _, by omega, by rw [frY_0]; exact hN⟩
  obtain ⟨hl, hS, q, hq1, hq2, hq3, hN⟩ := hP
  obtain ⟨n, rfl⟩ : ∃ k, n = k + 1 := ⟨n - 1, by omega⟩
  refine lv_iload_n hx hb dJ7_fill_53178_5 rfl (lv_at hl 0 rfl) ?_
  refine lv_iload_n hx hb dJ7_fill_53178_6 rfl (lv_at hl 1 rfl) ?_
  refine lv_icmp_ge (x := x) (y := nI len) (tgt := 20) hx hb dJ7_fill_53178_7 (by decide) (fun c_1 => ?_) (fun c_1 => ?_)
  · have hql : q = len := by
      rw [hq1, nI_leI hlen (by omega)] at c_1
      omega
    subst hql
    exact W.vret hx hb hr (fun t ht _ => nw_end hS hN ht) hS.2.2 dJ7_fill_53178_20
  · have hql : q < len := by
      rw [hq1, nI_leI hlen (by omega)] at c_1
      omega
    refine lv_aload_n hx hb dJ7_fill_53178_10 rfl (lv_at hl 2 rfl) ?_
    refine lv_iload_n hx hb dJ7_fill_53178_11 rfl (lv_at hl 0 rfl) ?_
    refine lv_iload_n hx hb dJ7_fill_53178_12 rfl (lv_at hl 3 rfl) ?_
    refine nw_iast S hK hN hS (k := k) (i := i) hd he (x := x) (v := v) (cn_in hq1 hql hlen) dJ7_fill_53178_13 (fun H locs hN hz hS => ?_)
    refine lv_iinc (v := x + 1) (lv' := [(2, .int (x + 1)), (3, .int (nI len)), (0, .ref (ad k i)), (1, .int v)]) hx hb dJ7_fill_53178_14 hl (k := 0) rfl rfl (by decide) rfl (fun ls hl => ?_)
    refine lv_goto (tgt := 5) hx hb dJ7_fill_53178_17 (by decide) ?_
    refine ih n (x + 1) _ _ _ (by omega) ⟨lv_sub hl [0, 1, 2, 3] rfl, hS, q + 1, by rw [hq1]; exact nI_1 q, by omega, by omega, ?_⟩
    rw [← frY_step]
    rw [hq1, nI_clamp (by omega)] at hN
    exact hN
