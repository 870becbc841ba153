/-! the reference is made -/
def dflM : List Value := [.int 0, .null, .null, .null, .null, .null, .null, .int 0, .null, .null, .int 0, .null, .null, .null, .null, .null, .null, .null, .null, .null, .null, .null, .null, .null, .int 0, .null, .null, .null, .null, .int 0, .null, .null, .null, .int 0, .int 0]
def enMn (C : Nat → ClassId) (n : Nat) : nwE := fun ad k i r => match k with
  | 0 => .inr (9, (obM ad r).take n ++ dflM.drop n)
  | k => enM C ad k i r
def offM (k _ : Nat) : Nat := match k with
  | 1 => 0 | 2 => 1 | 3 => 2 | 4 => 3 | 5 => 4 | 6 => 5 | 8 => 6 | 9 => 7 | 11 => 8 | 12 => 9 | 13 => 10 | 14 => 11 | 15 => 12 | 16 => 13 | 17 => 14 | 18 => 15 | 19 => 16 | 20 => 17 | 21 => 18 | 22 => 19 | 23 => 20 | 25 => 21 | 26 => 22 | 27 => 23 | 28 => 24 | 30 => 25 | 31 => 26 | 32 => 27 | _ => 0
def invMo (o : Nat) : Nat × Nat := match o with
  | 0 => (1, 0) | 1 => (2, 0) | 2 => (3, 0) | 3 => (4, 0) | 4 => (5, 0) | 5 => (6, 0) | 6 => (8, 0) | 7 => (9, 0) | 8 => (11, 0) | 9 => (12, 0) | 10 => (13, 0) | 11 => (14, 0) | 12 => (15, 0) | 13 => (16, 0) | 14 => (17, 0) | 15 => (18, 0) | 16 => (19, 0) | 17 => (20, 0) | 18 => (21, 0) | 19 => (22, 0) | 20 => (23, 0) | 21 => (25, 0) | 22 => (26, 0) | 23 => (27, 0) | 24 => (28, 0) | 25 => (30, 0) | 26 => (31, 0) | 27 => (32, 0) | _ => (0, 0)
theorem plM2 : ∀ (k i : Nat), domM k i → k ≠ 0 → invMo (offM k i) = (k, i)
  | 0, _, _, h => absurd rfl h
  | 1, i, hd, _ => by obtain ⟨rfl, -⟩ := hd; rfl
  | 2, i, hd, _ => by obtain ⟨rfl, -⟩ := hd; rfl
  | 3, i, hd, _ => by obtain ⟨rfl, -⟩ := hd; rfl
  | 4, i, hd, _ => by obtain ⟨rfl, -⟩ := hd; rfl
  | 5, i, hd, _ => by obtain ⟨rfl, -⟩ := hd; rfl
  | 6, i, hd, _ => by obtain ⟨rfl, -⟩ := hd; rfl
  | 7, i, hd, _ => absurd hd.2 (by decide)
  | 8, i, hd, _ => by obtain ⟨rfl, -⟩ := hd; rfl
  | 9, i, hd, _ => by obtain ⟨rfl, -⟩ := hd; rfl
  | 10, i, hd, _ => absurd hd.2 (by decide)
  | 11, i, hd, _ => by obtain ⟨rfl, -⟩ := hd; rfl
  | 12, i, hd, _ => by obtain ⟨rfl, -⟩ := hd; rfl
  | 13, i, hd, _ => by obtain ⟨rfl, -⟩ := hd; rfl
  | 14, i, hd, _ => by obtain ⟨rfl, -⟩ := hd; rfl
  | 15, i, hd, _ => by obtain ⟨rfl, -⟩ := hd; rfl
  | 16, i, hd, _ => by obtain ⟨rfl, -⟩ := hd; rfl
  | 17, i, hd, _ => by obtain ⟨rfl, -⟩ := hd; rfl
  | 18, i, hd, _ => by obtain ⟨rfl, -⟩ := hd; rfl
  | 19, i, hd, _ => by obtain ⟨rfl, -⟩ := hd; rfl
  | 20, i, hd, _ => by obtain ⟨rfl, -⟩ := hd; rfl
  | 21, i, hd, _ => by obtain ⟨rfl, -⟩ := hd; rfl
  | 22, i, hd, _ => by obtain ⟨rfl, -⟩ := hd; rfl
  | 23, i, hd, _ => by obtain ⟨rfl, -⟩ := hd; rfl
  | 24, i, hd, _ => absurd hd.2 (by decide)
  | 25, i, hd, _ => by obtain ⟨rfl, -⟩ := hd; rfl
  | 26, i, hd, _ => by obtain ⟨rfl, -⟩ := hd; rfl
  | 27, i, hd, _ => by obtain ⟨rfl, -⟩ := hd; rfl
  | 28, i, hd, _ => by obtain ⟨rfl, -⟩ := hd; rfl
  | 29, i, hd, _ => absurd hd.2 (by decide)
  | 30, i, hd, _ => by obtain ⟨rfl, -⟩ := hd; rfl
  | 31, i, hd, _ => by obtain ⟨rfl, -⟩ := hd; rfl
  | 32, i, hd, _ => by obtain ⟨rfl, -⟩ := hd; rfl
  | k + 33, i, hd, _ => by
    have h := hd.2
    have h2 : lenM (k + 33) = 0 := rfl
    simp [h2] at h
theorem plM : PLN domM offM invMo := ⟨fun i h => h.1, plM2⟩
theorem offM_lt (k i : Nat) : offM k i < 28 := by
  unfold offM
  split <;> decide
def M00 : Nat → Nat → Nat → Int32 := fun _ _ _ => 0
theorem enMn_oth {C : Nat → ClassId} {n n' z : Nat} {ad : Nat → Nat → Nat} {r : Nat → Nat → Nat → Int32} (k' i' : Nat) (hd : domC domM offM z k' i') (h : ¬ (k' = 0 ∧ i' = 0)) : enMn C n' ad k' i' (r k' i') = enMn C n ad k' i' (r k' i') := by
  cases k' with
  | zero => exact absurd ⟨rfl, hd.1.1⟩ h
  | succ k => rfl
theorem convM {D : va_G} {C : Nat → ClassId} {A : Nat → Prop} {ad : Nat → Nat → Nat} {H : Heap} (hN : nw D (enMn C 33) (domC domM offM 28) A ad M00 H) : nw D (enM C) domM A ad M00 H := by
  refine ⟨fun k i hd => ?_, fun k i k' i' h h' => hN.2.1 k i k' i' ⟨h, Or.inr (offM_lt k i)⟩ ⟨h', Or.inr (offM_lt k' i')⟩, fun k i h => hN.2.2 k i ⟨h, Or.inr (offM_lt k i)⟩⟩
  have h := hN.1 k i ⟨hd, Or.inr (offM_lt k i)⟩
  cases k with
  | zero => exact h
  | succ k => exact h
def Mi (q : Nat → Nat) : Nat → Nat → Nat → Int32 := fun k i j => if i = 0 ∧ j < q k then -1 else 0
def qM (a b c d f k : Nat) : Nat := if k = 11 then a else if k = 12 then b else if k = 13 then c else if k = 16 then d else if k = 18 then f else 0
theorem mi_0 : Mi (qM 0 0 0 0 0) = M00 := by
  funext k i j
  have : qM 0 0 0 0 0 k = 0 := by
    unfold qM
    repeat (first | rfl | split)
  unfold Mi M00
  rw [this, if_neg (fun h => Nat.not_lt_zero _ h.2)]
theorem mi_up {q q' : Nat → Nat} {K n : Nat} {x : Int32} (hx : x.toNatClampNeg = n) (h0 : q K = n) (h1 : q' K = n + 1) (h2 : ∀ k, k ≠ K → q' k = q k) : u3 (Mi q) K 0 x.toNatClampNeg (-1) = Mi q' := by
  funext k i j
  rw [u3_at, hx]
  unfold Mi
  by_cases hk : k = K
  · subst hk
    rw [h1, h0]
    by_cases hi : i = 0
    · subst hi
      by_cases hj : j = n
      · subst hj
        rw [if_pos ⟨rfl, rfl, rfl⟩, if_pos ⟨rfl, Nat.lt_succ_self _⟩]
      · rw [if_neg (fun h => hj h.2.2)]
        by_cases hl : j < n
        · rw [if_pos ⟨rfl, hl⟩, if_pos ⟨rfl, by omega⟩]
        · rw [if_neg (fun h => hl h.2), if_neg (fun h => by omega)]
    · rw [if_neg (fun h => hi h.2.1), if_neg (fun h => hi h.1), if_neg (fun h => hi h.1)]
  · rw [if_neg (fun h => hk h.1), h2 k hk]
set_option maxHeartbeats 4000000 in
set_option maxRecDepth 100000 in
theorem kX10_init (l : Launch) (D : va_G) (C : Nat → ClassId) (A : Nat → Prop) (b base : Nat) (hAb : A b) : Met l yX10_init wsX10_init ({ frames := 1, cells := 28, slots := 963, locals := 12 }) (va_Pc [.ref b] (PW D C A (fun H => H.size = base ∧ va_at D vwCl (b, .inr (9, dflM)) H))) (nQ A none (nw D (enM C) domM A (adC b base offM) (Mi (qM 10 6 6 4 4)))) 28 963 A := by
  refine Met.ofW (cc := cX10_init) (maxL := 2) (ret := none) (by decide) rfl ?_
  intro p e s m args below meth c s₁ B hml hv
  obtain ⟨rfl, hK, ⟨hsz, hat⟩, hA⟩ := hv
  subst hsz
  have hx := B.exec
  have hb := B.bytes
  have hr := B.returns
  have hts := atoms_spec (ws := wsX10_init) B.pre
  have hown : s.vm.findClass RX10 = some m.cls := findClass_of_methodNamed B.named
  have hlocks := B.notSynchronized
  have hin0i : meth.name = "<init>" := (name_of_methodNamed B.named B.method).1
  have S : CallFix p m c cX10_init 2 s _ wsX10_init RX10 := ⟨hx, hb, hml, hown, hts⟩
  have hin10 : ∀ w ∈ wsX100, w ∈ wsX10_init := (fun _ h => List.mem_cons_of_mem _ (List.mem_append_right _ (h)))
  have hS : va_S A s.heap s.heap [] := va_S.rf
  have hl := lv_entry ([.ref b]) (n := 2) (Nat.le_of_ble_eq_true rfl)
  rw [lg_entry_eq]
  generalize (lg_sl ([.ref b]) ++ List.replicate (2 - (lg_sl ([.ref b])).length) Slot.unset).toArray = ls at hl ⊢
  have hl : lv_has ls 2 [(0, .ref b)] := hl
  have hin10 : ∀ w ∈ wsX100, w ∈ wsX10_init := (fun _ h => List.mem_cons_of_mem _ (List.mem_append_right _ (h)))
  have hA2 : A b ∧ ∀ q, s.heap.size ≤ q → A q := ⟨hAb, hA⟩
  have hb0 : b < s.heap.size := hat.lt
  have hN : nw D (enMn C 0) (domC domM offM 0) A (adC b s.heap.size offM) M00 s.heap := by
    refine ⟨fun k i hd => ?_, fun k i k' i' h h' e => adC_inj plM hb0 h.1 h'.1 e, fun k i hd => ?_⟩
    · rcases hd.2 with rfl | h
      · exact hat
      · exact absurd h (Nat.not_lt_zero _)
    · rcases hd.2 with rfl | h
      · exact hAb
      · exact absurd h (Nat.not_lt_zero _)
  have hsz : s.heap.size = s.heap.size + 0 := rfl
  refine lv_aload_n hx hb dX10_init_0 rfl (lv_at hl 0 rfl) ?_
  refine W.objInit hx hb hown (hts (.methodLink RX10 1 objectInit) (List.mem_cons_of_mem _ (List.mem_append_left _ (List.mem_append_left _ (List.mem_of_getElem? (i := 0) rfl))))) (hts (.instanceMethod objectInit) (List.mem_cons_of_mem _ (List.mem_append_left _ (List.mem_append_left _ (List.mem_of_getElem? (i := 1) rfl))))) (hts _ (List.mem_cons_of_mem _ (List.mem_append_left _ (List.mem_append_left _ (List.mem_of_getElem? (i := 2) rfl))))) rfl (by rw [hml]; exact hl.1) rfl dX10_init_1 (Nat.le_of_ble_eq_true rfl) (Nat.le_of_ble_eq_true rfl) ?_
  refine W.eq (g2 := F0 m 4 ls []) rfl ?_
  refine lv_aload_n hx hb dX10_init_4 rfl (lv_at hl 0 rfl) ?_
  refine lv_bipush (v := 60) hx hb dX10_init_5 (by decide) ?_
  refine nf_newa S hK plM hb0 hA2 hN hsz hS 1 0 rfl (by decide) rfl 0 rfl rfl id rfl (List.mem_cons_of_mem _ (List.mem_append_left _ (List.mem_append_left _ (List.mem_of_getElem? (i := 3) rfl)))) (N := 60) (by decide) (by decide) (by decide) rfl (fun _ _ => rfl) (Nat.le_of_ble_eq_true rfl) (Nat.le_of_ble_eq_true rfl) dX10_init_7 (fun H hN hsz hS => ?_)
  refine nw_putE (enMn C 2) S hK hN hS (k := 0) (i := 0) ⟨⟨rfl, rfl⟩, Or.inl rfl⟩ rfl (CN := RX10) (T := TX10) (N := 35) rfl hin10 tyX10_ok nmX10 1 (by decide) (index := 7) (ref := "RidingYardModel") (List.mem_cons_of_mem _ (List.mem_append_left _ (List.mem_append_left _ (List.mem_of_getElem? (i := 4) rfl)))) (fun _ h => h) rfl hin0i rfl rfl rfl rfl (Nat.le_of_ble_eq_true rfl) enMn_oth dX10_init_9 (fun H locs hN hz hS => ?_)
  replace hsz := hz.trans hsz
  refine lv_aload_n hx hb dX10_init_12 rfl (lv_at hl 0 rfl) ?_
  refine lv_bipush (v := 60) hx hb dX10_init_13 (by decide) ?_
  refine nf_newa S hK plM hb0 hA2 hN hsz hS 2 0 rfl (by decide) rfl 0 rfl rfl id rfl (List.mem_cons_of_mem _ (List.mem_append_left _ (List.mem_append_left _ (List.mem_of_getElem? (i := 3) rfl)))) (N := 60) (by decide) (by decide) (by decide) rfl (fun _ _ => rfl) (Nat.le_of_ble_eq_true rfl) (Nat.le_of_ble_eq_true rfl) dX10_init_15 (fun H hN hsz hS => ?_)
  refine nw_putE (enMn C 3) S hK hN hS (k := 0) (i := 0) ⟨⟨rfl, rfl⟩, Or.inl rfl⟩ rfl (CN := RX10) (T := TX10) (N := 35) rfl hin10 tyX10_ok nmX10 2 (by decide) (index := 13) (ref := "RidingYardModel") (List.mem_cons_of_mem _ (List.mem_append_left _ (List.mem_append_left _ (List.mem_of_getElem? (i := 5) rfl)))) (fun _ h => h) rfl hin0i rfl rfl rfl rfl (Nat.le_of_ble_eq_true rfl) enMn_oth dX10_init_17 (fun H locs hN hz hS => ?_)
  replace hsz := hz.trans hsz
  refine lv_aload_n hx hb dX10_init_20 rfl (lv_at hl 0 rfl) ?_
  refine lv_bipush (v := 60) hx hb dX10_init_21 (by decide) ?_
  refine nf_newa S hK plM hb0 hA2 hN hsz hS 3 0 rfl (by decide) rfl 0 rfl rfl id rfl (List.mem_cons_of_mem _ (List.mem_append_left _ (List.mem_append_left _ (List.mem_of_getElem? (i := 3) rfl)))) (N := 60) (by decide) (by decide) (by decide) rfl (fun _ _ => rfl) (Nat.le_of_ble_eq_true rfl) (Nat.le_of_ble_eq_true rfl) dX10_init_23 (fun H hN hsz hS => ?_)
  refine nw_putE (enMn C 4) S hK hN hS (k := 0) (i := 0) ⟨⟨rfl, rfl⟩, Or.inl rfl⟩ rfl (CN := RX10) (T := TX10) (N := 35) rfl hin10 tyX10_ok nmX10 3 (by decide) (index := 16) (ref := "RidingYardModel") (List.mem_cons_of_mem _ (List.mem_append_left _ (List.mem_append_left _ (List.mem_of_getElem? (i := 6) rfl)))) (fun _ h => h) rfl hin0i rfl rfl rfl rfl (Nat.le_of_ble_eq_true rfl) enMn_oth dX10_init_25 (fun H locs hN hz hS => ?_)
  replace hsz := hz.trans hsz
  refine lv_aload_n hx hb dX10_init_28 rfl (lv_at hl 0 rfl) ?_
  refine lv_bipush (v := 60) hx hb dX10_init_29 (by decide) ?_
  refine nf_newa S hK plM hb0 hA2 hN hsz hS 4 0 rfl (by decide) rfl 0 rfl rfl id rfl (List.mem_cons_of_mem _ (List.mem_append_left _ (List.mem_append_left _ (List.mem_of_getElem? (i := 3) rfl)))) (N := 60) (by decide) (by decide) (by decide) rfl (fun _ _ => rfl) (Nat.le_of_ble_eq_true rfl) (Nat.le_of_ble_eq_true rfl) dX10_init_31 (fun H hN hsz hS => ?_)
  refine nw_putE (enMn C 5) S hK hN hS (k := 0) (i := 0) ⟨⟨rfl, rfl⟩, Or.inl rfl⟩ rfl (CN := RX10) (T := TX10) (N := 35) rfl hin10 tyX10_ok nmX10 4 (by decide) (index := 19) (ref := "RidingYardModel") (List.mem_cons_of_mem _ (List.mem_append_left _ (List.mem_append_left _ (List.mem_of_getElem? (i := 7) rfl)))) (fun _ h => h) rfl hin0i rfl rfl rfl rfl (Nat.le_of_ble_eq_true rfl) enMn_oth dX10_init_33 (fun H locs hN hz hS => ?_)
  replace hsz := hz.trans hsz
  refine lv_aload_n hx hb dX10_init_36 rfl (lv_at hl 0 rfl) ?_
  refine lv_bipush (v := 60) hx hb dX10_init_37 (by decide) ?_
  refine nf_newa S hK plM hb0 hA2 hN hsz hS 5 0 rfl (by decide) rfl 0 rfl rfl id rfl (List.mem_cons_of_mem _ (List.mem_append_left _ (List.mem_append_left _ (List.mem_of_getElem? (i := 3) rfl)))) (N := 60) (by decide) (by decide) (by decide) rfl (fun _ _ => rfl) (Nat.le_of_ble_eq_true rfl) (Nat.le_of_ble_eq_true rfl) dX10_init_39 (fun H hN hsz hS => ?_)
  refine nw_putE (enMn C 6) S hK hN hS (k := 0) (i := 0) ⟨⟨rfl, rfl⟩, Or.inl rfl⟩ rfl (CN := RX10) (T := TX10) (N := 35) rfl hin10 tyX10_ok nmX10 5 (by decide) (index := 22) (ref := "RidingYardModel") (List.mem_cons_of_mem _ (List.mem_append_left _ (List.mem_append_left _ (List.mem_of_getElem? (i := 8) rfl)))) (fun _ h => h) rfl hin0i rfl rfl rfl rfl (Nat.le_of_ble_eq_true rfl) enMn_oth dX10_init_41 (fun H locs hN hz hS => ?_)
  replace hsz := hz.trans hsz
  refine lv_aload_n hx hb dX10_init_44 rfl (lv_at hl 0 rfl) ?_
  refine lv_bipush (v := 60) hx hb dX10_init_45 (by decide) ?_
  refine nf_newa S hK plM hb0 hA2 hN hsz hS 6 0 rfl (by decide) rfl 0 rfl rfl id rfl (List.mem_cons_of_mem _ (List.mem_append_left _ (List.mem_append_left _ (List.mem_of_getElem? (i := 3) rfl)))) (N := 60) (by decide) (by decide) (by decide) rfl (fun _ _ => rfl) (Nat.le_of_ble_eq_true rfl) (Nat.le_of_ble_eq_true rfl) dX10_init_47 (fun H hN hsz hS => ?_)
  refine nw_putE (enMn C 7) S hK hN hS (k := 0) (i := 0) ⟨⟨rfl, rfl⟩, Or.inl rfl⟩ rfl (CN := RX10) (T := TX10) (N := 35) rfl hin10 tyX10_ok nmX10 6 (by decide) (index := 25) (ref := "RidingYardModel") (List.mem_cons_of_mem _ (List.mem_append_left _ (List.mem_append_left _ (List.mem_of_getElem? (i := 9) rfl)))) (fun _ h => h) rfl hin0i rfl rfl rfl rfl (Nat.le_of_ble_eq_true rfl) enMn_oth dX10_init_49 (fun H locs hN hz hS => ?_)
  replace hsz := hz.trans hsz
  refine lv_aload_n hx hb dX10_init_52 rfl (lv_at hl 0 rfl) ?_
  refine lv_bipush (v := 60) hx hb dX10_init_53 (by decide) ?_
  refine nf_newa S hK plM hb0 hA2 hN hsz hS 8 0 rfl (by decide) rfl 0 rfl rfl id rfl (List.mem_cons_of_mem _ (List.mem_append_left _ (List.mem_append_left _ (List.mem_of_getElem? (i := 3) rfl)))) (N := 60) (by decide) (by decide) (by decide) rfl (fun _ _ => rfl) (Nat.le_of_ble_eq_true rfl) (Nat.le_of_ble_eq_true rfl) dX10_init_55 (fun H hN hsz hS => ?_)
  refine nw_putE (enMn C 9) S hK hN hS (k := 0) (i := 0) ⟨⟨rfl, rfl⟩, Or.inl rfl⟩ rfl (CN := RX10) (T := TX10) (N := 35) rfl hin10 tyX10_ok nmX10 8 (by decide) (index := 28) (ref := "RidingYardModel") (List.mem_cons_of_mem _ (List.mem_append_left _ (List.mem_append_left _ (List.mem_of_getElem? (i := 10) rfl)))) (fun _ h => h) rfl hin0i rfl rfl rfl rfl (Nat.le_of_ble_eq_true rfl) enMn_oth dX10_init_57 (fun H locs hN hz hS => ?_)
  replace hsz := hz.trans hsz
  refine lv_aload_n hx hb dX10_init_60 rfl (lv_at hl 0 rfl) ?_
  refine lv_bipush (v := 60) hx hb dX10_init_61 (by decide) ?_
  refine nf_newa S hK plM hb0 hA2 hN hsz hS 9 0 rfl (by decide) rfl 0 rfl rfl id rfl (List.mem_cons_of_mem _ (List.mem_append_left _ (List.mem_append_left _ (List.mem_of_getElem? (i := 3) rfl)))) (N := 60) (by decide) (by decide) (by decide) rfl (fun _ _ => rfl) (Nat.le_of_ble_eq_true rfl) (Nat.le_of_ble_eq_true rfl) dX10_init_63 (fun H hN hsz hS => ?_)
  refine nw_putE (enMn C 10) S hK hN hS (k := 0) (i := 0) ⟨⟨rfl, rfl⟩, Or.inl rfl⟩ rfl (CN := RX10) (T := TX10) (N := 35) rfl hin10 tyX10_ok nmX10 9 (by decide) (index := 31) (ref := "RidingYardModel") (List.mem_cons_of_mem _ (List.mem_append_left _ (List.mem_append_left _ (List.mem_of_getElem? (i := 11) rfl)))) (fun _ h => h) rfl hin0i rfl rfl rfl rfl (Nat.le_of_ble_eq_true rfl) enMn_oth dX10_init_65 (fun H locs hN hz hS => ?_)
  replace hsz := hz.trans hsz
  refine lv_aload_n hx hb dX10_init_68 rfl (lv_at hl 0 rfl) ?_
  refine lv_bipush (v := 10) hx hb dX10_init_69 (by decide) ?_
  refine nf_newa S hK plM hb0 hA2 hN hsz hS 11 0 rfl (by decide) rfl 0 rfl rfl id rfl (List.mem_cons_of_mem _ (List.mem_append_left _ (List.mem_append_left _ (List.mem_of_getElem? (i := 3) rfl)))) (N := 10) (by decide) (by decide) (by decide) rfl (fun _ _ => rfl) (Nat.le_of_ble_eq_true rfl) (Nat.le_of_ble_eq_true rfl) dX10_init_71 (fun H hN hsz hS => ?_)
  refine nw_putE (enMn C 12) S hK hN hS (k := 0) (i := 0) ⟨⟨rfl, rfl⟩, Or.inl rfl⟩ rfl (CN := RX10) (T := TX10) (N := 35) rfl hin10 tyX10_ok nmX10 11 (by decide) (index := 34) (ref := "RidingYardModel") (List.mem_cons_of_mem _ (List.mem_append_left _ (List.mem_append_left _ (List.mem_of_getElem? (i := 12) rfl)))) (fun _ h => h) rfl hin0i rfl rfl rfl rfl (Nat.le_of_ble_eq_true rfl) enMn_oth dX10_init_73 (fun H locs hN hz hS => ?_)
  replace hsz := hz.trans hsz
  refine lv_aload_n hx hb dX10_init_76 rfl (lv_at hl 0 rfl) ?_
  refine lv_bipush (v := 6) hx hb dX10_init_77 (by decide) ?_
  refine nf_newa S hK plM hb0 hA2 hN hsz hS 12 0 rfl (by decide) rfl 0 rfl rfl id rfl (List.mem_cons_of_mem _ (List.mem_append_left _ (List.mem_append_left _ (List.mem_of_getElem? (i := 3) rfl)))) (N := 6) (by decide) (by decide) (by decide) rfl (fun _ _ => rfl) (Nat.le_of_ble_eq_true rfl) (Nat.le_of_ble_eq_true rfl) dX10_init_79 (fun H hN hsz hS => ?_)
  refine nw_putE (enMn C 13) S hK hN hS (k := 0) (i := 0) ⟨⟨rfl, rfl⟩, Or.inl rfl⟩ rfl (CN := RX10) (T := TX10) (N := 35) rfl hin10 tyX10_ok nmX10 12 (by decide) (index := 37) (ref := "RidingYardModel") (List.mem_cons_of_mem _ (List.mem_append_left _ (List.mem_append_left _ (List.mem_of_getElem? (i := 13) rfl)))) (fun _ h => h) rfl hin0i rfl rfl rfl rfl (Nat.le_of_ble_eq_true rfl) enMn_oth dX10_init_81 (fun H locs hN hz hS => ?_)
  replace hsz := hz.trans hsz
  refine lv_aload_n hx hb dX10_init_84 rfl (lv_at hl 0 rfl) ?_
  refine lv_bipush (v := 6) hx hb dX10_init_85 (by decide) ?_
  refine nf_newa S hK plM hb0 hA2 hN hsz hS 13 0 rfl (by decide) rfl 0 rfl rfl id rfl (List.mem_cons_of_mem _ (List.mem_append_left _ (List.mem_append_left _ (List.mem_of_getElem? (i := 3) rfl)))) (N := 6) (by decide) (by decide) (by decide) rfl (fun _ _ => rfl) (Nat.le_of_ble_eq_true rfl) (Nat.le_of_ble_eq_true rfl) dX10_init_87 (fun H hN hsz hS => ?_)
  refine nw_putE (enMn C 14) S hK hN hS (k := 0) (i := 0) ⟨⟨rfl, rfl⟩, Or.inl rfl⟩ rfl (CN := RX10) (T := TX10) (N := 35) rfl hin10 tyX10_ok nmX10 13 (by decide) (index := 40) (ref := "RidingYardModel") (List.mem_cons_of_mem _ (List.mem_append_left _ (List.mem_append_left _ (List.mem_of_getElem? (i := 14) rfl)))) (fun _ h => h) rfl hin0i rfl rfl rfl rfl (Nat.le_of_ble_eq_true rfl) enMn_oth dX10_init_89 (fun H locs hN hz hS => ?_)
  replace hsz := hz.trans hsz
  refine lv_aload_n hx hb dX10_init_92 rfl (lv_at hl 0 rfl) ?_
  refine lv_bipush (v := 6) hx hb dX10_init_93 (by decide) ?_
  refine nf_newa S hK plM hb0 hA2 hN hsz hS 14 0 rfl (by decide) rfl 0 rfl rfl id rfl (List.mem_cons_of_mem _ (List.mem_append_left _ (List.mem_append_left _ (List.mem_of_getElem? (i := 3) rfl)))) (N := 6) (by decide) (by decide) (by decide) rfl (fun _ _ => rfl) (Nat.le_of_ble_eq_true rfl) (Nat.le_of_ble_eq_true rfl) dX10_init_95 (fun H hN hsz hS => ?_)
  refine nw_putE (enMn C 15) S hK hN hS (k := 0) (i := 0) ⟨⟨rfl, rfl⟩, Or.inl rfl⟩ rfl (CN := RX10) (T := TX10) (N := 35) rfl hin10 tyX10_ok nmX10 14 (by decide) (index := 43) (ref := "RidingYardModel") (List.mem_cons_of_mem _ (List.mem_append_left _ (List.mem_append_left _ (List.mem_of_getElem? (i := 15) rfl)))) (fun _ h => h) rfl hin0i rfl rfl rfl rfl (Nat.le_of_ble_eq_true rfl) enMn_oth dX10_init_97 (fun H locs hN hz hS => ?_)
  replace hsz := hz.trans hsz
  refine lv_aload_n hx hb dX10_init_100 rfl (lv_at hl 0 rfl) ?_
  refine lv_bipush (v := 48) hx hb dX10_init_101 (by decide) ?_
  refine nf_newa S hK plM hb0 hA2 hN hsz hS 15 0 rfl (by decide) rfl 0 rfl rfl id rfl (List.mem_cons_of_mem _ (List.mem_append_left _ (List.mem_append_left _ (List.mem_of_getElem? (i := 3) rfl)))) (N := 48) (by decide) (by decide) (by decide) rfl (fun _ _ => rfl) (Nat.le_of_ble_eq_true rfl) (Nat.le_of_ble_eq_true rfl) dX10_init_103 (fun H hN hsz hS => ?_)
  refine nw_putE (enMn C 16) S hK hN hS (k := 0) (i := 0) ⟨⟨rfl, rfl⟩, Or.inl rfl⟩ rfl (CN := RX10) (T := TX10) (N := 35) rfl hin10 tyX10_ok nmX10 15 (by decide) (index := 46) (ref := "RidingYardModel") (List.mem_cons_of_mem _ (List.mem_append_left _ (List.mem_append_left _ (List.mem_of_getElem? (i := 16) rfl)))) (fun _ h => h) rfl hin0i rfl rfl rfl rfl (Nat.le_of_ble_eq_true rfl) enMn_oth dX10_init_105 (fun H locs hN hz hS => ?_)
  replace hsz := hz.trans hsz
  refine lv_aload_n hx hb dX10_init_108 rfl (lv_at hl 0 rfl) ?_
  refine lv_iconst (v := 4) hx hb dX10_init_109 (by decide) ?_
  refine nf_newa S hK plM hb0 hA2 hN hsz hS 16 0 rfl (by decide) rfl 0 rfl rfl id rfl (List.mem_cons_of_mem _ (List.mem_append_left _ (List.mem_append_left _ (List.mem_of_getElem? (i := 3) rfl)))) (N := 4) (by decide) (by decide) (by decide) rfl (fun _ _ => rfl) (Nat.le_of_ble_eq_true rfl) (Nat.le_of_ble_eq_true rfl) dX10_init_110 (fun H hN hsz hS => ?_)
  refine nw_putE (enMn C 17) S hK hN hS (k := 0) (i := 0) ⟨⟨rfl, rfl⟩, Or.inl rfl⟩ rfl (CN := RX10) (T := TX10) (N := 35) rfl hin10 tyX10_ok nmX10 16 (by decide) (index := 49) (ref := "RidingYardModel") (List.mem_cons_of_mem _ (List.mem_append_left _ (List.mem_append_left _ (List.mem_of_getElem? (i := 17) rfl)))) (fun _ h => h) rfl hin0i rfl rfl rfl rfl (Nat.le_of_ble_eq_true rfl) enMn_oth dX10_init_112 (fun H locs hN hz hS => ?_)
  replace hsz := hz.trans hsz
  refine lv_aload_n hx hb dX10_init_115 rfl (lv_at hl 0 rfl) ?_
  refine lv_bipush (v := 48) hx hb dX10_init_116 (by decide) ?_
  refine nf_newa S hK plM hb0 hA2 hN hsz hS 17 0 rfl (by decide) rfl 0 rfl rfl id rfl (List.mem_cons_of_mem _ (List.mem_append_left _ (List.mem_append_left _ (List.mem_of_getElem? (i := 3) rfl)))) (N := 48) (by decide) (by decide) (by decide) rfl (fun _ _ => rfl) (Nat.le_of_ble_eq_true rfl) (Nat.le_of_ble_eq_true rfl) dX10_init_118 (fun H hN hsz hS => ?_)
  refine nw_putE (enMn C 18) S hK hN hS (k := 0) (i := 0) ⟨⟨rfl, rfl⟩, Or.inl rfl⟩ rfl (CN := RX10) (T := TX10) (N := 35) rfl hin10 tyX10_ok nmX10 17 (by decide) (index := 52) (ref := "RidingYardModel") (List.mem_cons_of_mem _ (List.mem_append_left _ (List.mem_append_left _ (List.mem_of_getElem? (i := 18) rfl)))) (fun _ h => h) rfl hin0i rfl rfl rfl rfl (Nat.le_of_ble_eq_true rfl) enMn_oth dX10_init_120 (fun H locs hN hz hS => ?_)
  replace hsz := hz.trans hsz
  refine lv_aload_n hx hb dX10_init_123 rfl (lv_at hl 0 rfl) ?_
  refine lv_iconst (v := 4) hx hb dX10_init_124 (by decide) ?_
  refine nf_newa S hK plM hb0 hA2 hN hsz hS 18 0 rfl (by decide) rfl 0 rfl rfl id rfl (List.mem_cons_of_mem _ (List.mem_append_left _ (List.mem_append_left _ (List.mem_of_getElem? (i := 3) rfl)))) (N := 4) (by decide) (by decide) (by decide) rfl (fun _ _ => rfl) (Nat.le_of_ble_eq_true rfl) (Nat.le_of_ble_eq_true rfl) dX10_init_125 (fun H hN hsz hS => ?_)
  refine nw_putE (enMn C 19) S hK hN hS (k := 0) (i := 0) ⟨⟨rfl, rfl⟩, Or.inl rfl⟩ rfl (CN := RX10) (T := TX10) (N := 35) rfl hin10 tyX10_ok nmX10 18 (by decide) (index := 55) (ref := "RidingYardModel") (List.mem_cons_of_mem _ (List.mem_append_left _ (List.mem_append_left _ (List.mem_of_getElem? (i := 19) rfl)))) (fun _ h => h) rfl hin0i rfl rfl rfl rfl (Nat.le_of_ble_eq_true rfl) enMn_oth dX10_init_127 (fun H locs hN hz hS => ?_)
  replace hsz := hz.trans hsz
  refine lv_aload_n hx hb dX10_init_130 rfl (lv_at hl 0 rfl) ?_
  refine lv_iconst (v := 4) hx hb dX10_init_131 (by decide) ?_
  refine nf_newa S hK plM hb0 hA2 hN hsz hS 19 0 rfl (by decide) rfl 0 rfl rfl id rfl (List.mem_cons_of_mem _ (List.mem_append_left _ (List.mem_append_left _ (List.mem_of_getElem? (i := 3) rfl)))) (N := 4) (by decide) (by decide) (by decide) rfl (fun _ _ => rfl) (Nat.le_of_ble_eq_true rfl) (Nat.le_of_ble_eq_true rfl) dX10_init_132 (fun H hN hsz hS => ?_)
  refine nw_putE (enMn C 20) S hK hN hS (k := 0) (i := 0) ⟨⟨rfl, rfl⟩, Or.inl rfl⟩ rfl (CN := RX10) (T := TX10) (N := 35) rfl hin10 tyX10_ok nmX10 19 (by decide) (index := 58) (ref := "RidingYardModel") (List.mem_cons_of_mem _ (List.mem_append_left _ (List.mem_append_left _ (List.mem_of_getElem? (i := 20) rfl)))) (fun _ h => h) rfl hin0i rfl rfl rfl rfl (Nat.le_of_ble_eq_true rfl) enMn_oth dX10_init_134 (fun H locs hN hz hS => ?_)
  replace hsz := hz.trans hsz
  refine lv_aload_n hx hb dX10_init_137 rfl (lv_at hl 0 rfl) ?_
  refine lv_bipush (v := 24) hx hb dX10_init_138 (by decide) ?_
  refine nf_newa S hK plM hb0 hA2 hN hsz hS 20 0 rfl (by decide) rfl 1 rfl rfl id rfl (List.mem_cons_of_mem _ (List.mem_append_left _ (List.mem_append_left _ (List.mem_of_getElem? (i := 21) rfl)))) (N := 24) (by decide) (by decide) (by decide) rfl (fun _ _ => rfl) (Nat.le_of_ble_eq_true rfl) (Nat.le_of_ble_eq_true rfl) dX10_init_140 (fun H hN hsz hS => ?_)
  refine nw_putE (enMn C 21) S hK hN hS (k := 0) (i := 0) ⟨⟨rfl, rfl⟩, Or.inl rfl⟩ rfl (CN := RX10) (T := TX10) (N := 35) rfl hin10 tyX10_ok nmX10 20 (by decide) (index := 61) (ref := "RidingYardModel") (List.mem_cons_of_mem _ (List.mem_append_left _ (List.mem_append_left _ (List.mem_of_getElem? (i := 22) rfl)))) (fun _ h => h) rfl hin0i rfl rfl rfl rfl (Nat.le_of_ble_eq_true rfl) enMn_oth dX10_init_142 (fun H locs hN hz hS => ?_)
  replace hsz := hz.trans hsz
  refine lv_aload_n hx hb dX10_init_145 rfl (lv_at hl 0 rfl) ?_
  refine lv_sipush (v := 144) hx hb dX10_init_146 (by decide) ?_
  refine nf_newa S hK plM hb0 hA2 hN hsz hS 21 0 rfl (by decide) rfl 0 rfl rfl id rfl (List.mem_cons_of_mem _ (List.mem_append_left _ (List.mem_append_left _ (List.mem_of_getElem? (i := 3) rfl)))) (N := 144) (by decide) (by decide) (by decide) rfl (fun _ _ => rfl) (Nat.le_of_ble_eq_true rfl) (Nat.le_of_ble_eq_true rfl) dX10_init_149 (fun H hN hsz hS => ?_)
  refine nw_putE (enMn C 22) S hK hN hS (k := 0) (i := 0) ⟨⟨rfl, rfl⟩, Or.inl rfl⟩ rfl (CN := RX10) (T := TX10) (N := 35) rfl hin10 tyX10_ok nmX10 21 (by decide) (index := 65) (ref := "RidingYardModel") (List.mem_cons_of_mem _ (List.mem_append_left _ (List.mem_append_left _ (List.mem_of_getElem? (i := 23) rfl)))) (fun _ h => h) rfl hin0i rfl rfl rfl rfl (Nat.le_of_ble_eq_true rfl) enMn_oth dX10_init_151 (fun H locs hN hz hS => ?_)
  replace hsz := hz.trans hsz
  refine lv_aload_n hx hb dX10_init_154 rfl (lv_at hl 0 rfl) ?_
  refine lv_bipush (v := 6) hx hb dX10_init_155 (by decide) ?_
  refine nf_newa S hK plM hb0 hA2 hN hsz hS 22 0 rfl (by decide) rfl 1 rfl rfl id rfl (List.mem_cons_of_mem _ (List.mem_append_left _ (List.mem_append_left _ (List.mem_of_getElem? (i := 21) rfl)))) (N := 6) (by decide) (by decide) (by decide) rfl (fun _ _ => rfl) (Nat.le_of_ble_eq_true rfl) (Nat.le_of_ble_eq_true rfl) dX10_init_157 (fun H hN hsz hS => ?_)
  refine nw_putE (enMn C 23) S hK hN hS (k := 0) (i := 0) ⟨⟨rfl, rfl⟩, Or.inl rfl⟩ rfl (CN := RX10) (T := TX10) (N := 35) rfl hin10 tyX10_ok nmX10 22 (by decide) (index := 68) (ref := "RidingYardModel") (List.mem_cons_of_mem _ (List.mem_append_left _ (List.mem_append_right _ (List.mem_of_getElem? (i := 0) rfl)))) (fun _ h => h) rfl hin0i rfl rfl rfl rfl (Nat.le_of_ble_eq_true rfl) enMn_oth dX10_init_159 (fun H locs hN hz hS => ?_)
  replace hsz := hz.trans hsz
  refine lv_aload_n hx hb dX10_init_162 rfl (lv_at hl 0 rfl) ?_
  refine lv_bipush (v := 6) hx hb dX10_init_163 (by decide) ?_
  refine nf_newa S hK plM hb0 hA2 hN hsz hS 23 0 rfl (by decide) rfl 0 rfl rfl id rfl (List.mem_cons_of_mem _ (List.mem_append_left _ (List.mem_append_left _ (List.mem_of_getElem? (i := 3) rfl)))) (N := 6) (by decide) (by decide) (by decide) rfl (fun _ _ => rfl) (Nat.le_of_ble_eq_true rfl) (Nat.le_of_ble_eq_true rfl) dX10_init_165 (fun H hN hsz hS => ?_)
  refine nw_putE (enMn C 24) S hK hN hS (k := 0) (i := 0) ⟨⟨rfl, rfl⟩, Or.inl rfl⟩ rfl (CN := RX10) (T := TX10) (N := 35) rfl hin10 tyX10_ok nmX10 23 (by decide) (index := 71) (ref := "RidingYardModel") (List.mem_cons_of_mem _ (List.mem_append_left _ (List.mem_append_right _ (List.mem_of_getElem? (i := 1) rfl)))) (fun _ h => h) rfl hin0i rfl rfl rfl rfl (Nat.le_of_ble_eq_true rfl) enMn_oth dX10_init_167 (fun H locs hN hz hS => ?_)
  replace hsz := hz.trans hsz
  refine lv_aload_n hx hb dX10_init_170 rfl (lv_at hl 0 rfl) ?_
  refine lv_bipush (v := 20) hx hb dX10_init_171 (by decide) ?_
  refine nf_newa S hK plM hb0 hA2 hN hsz hS 25 0 rfl (by decide) rfl 0 rfl rfl id rfl (List.mem_cons_of_mem _ (List.mem_append_left _ (List.mem_append_left _ (List.mem_of_getElem? (i := 3) rfl)))) (N := 20) (by decide) (by decide) (by decide) rfl (fun _ _ => rfl) (Nat.le_of_ble_eq_true rfl) (Nat.le_of_ble_eq_true rfl) dX10_init_173 (fun H hN hsz hS => ?_)
  refine nw_putE (enMn C 26) S hK hN hS (k := 0) (i := 0) ⟨⟨rfl, rfl⟩, Or.inl rfl⟩ rfl (CN := RX10) (T := TX10) (N := 35) rfl hin10 tyX10_ok nmX10 25 (by decide) (index := 74) (ref := "RidingYardModel") (List.mem_cons_of_mem _ (List.mem_append_left _ (List.mem_append_right _ (List.mem_of_getElem? (i := 2) rfl)))) (fun _ h => h) rfl hin0i rfl rfl rfl rfl (Nat.le_of_ble_eq_true rfl) enMn_oth dX10_init_175 (fun H locs hN hz hS => ?_)
  replace hsz := hz.trans hsz
  refine lv_aload_n hx hb dX10_init_178 rfl (lv_at hl 0 rfl) ?_
  refine lv_bipush (v := 20) hx hb dX10_init_179 (by decide) ?_
  refine nf_newa S hK plM hb0 hA2 hN hsz hS 26 0 rfl (by decide) rfl 0 rfl rfl id rfl (List.mem_cons_of_mem _ (List.mem_append_left _ (List.mem_append_left _ (List.mem_of_getElem? (i := 3) rfl)))) (N := 20) (by decide) (by decide) (by decide) rfl (fun _ _ => rfl) (Nat.le_of_ble_eq_true rfl) (Nat.le_of_ble_eq_true rfl) dX10_init_181 (fun H hN hsz hS => ?_)
  refine nw_putE (enMn C 27) S hK hN hS (k := 0) (i := 0) ⟨⟨rfl, rfl⟩, Or.inl rfl⟩ rfl (CN := RX10) (T := TX10) (N := 35) rfl hin10 tyX10_ok nmX10 26 (by decide) (index := 77) (ref := "RidingYardModel") (List.mem_cons_of_mem _ (List.mem_append_left _ (List.mem_append_right _ (List.mem_of_getElem? (i := 3) rfl)))) (fun _ h => h) rfl hin0i rfl rfl rfl rfl (Nat.le_of_ble_eq_true rfl) enMn_oth dX10_init_183 (fun H locs hN hz hS => ?_)
  replace hsz := hz.trans hsz
  refine lv_aload_n hx hb dX10_init_186 rfl (lv_at hl 0 rfl) ?_
  refine lv_bipush (v := 20) hx hb dX10_init_187 (by decide) ?_
  refine nf_newa S hK plM hb0 hA2 hN hsz hS 27 0 rfl (by decide) rfl 0 rfl rfl id rfl (List.mem_cons_of_mem _ (List.mem_append_left _ (List.mem_append_left _ (List.mem_of_getElem? (i := 3) rfl)))) (N := 20) (by decide) (by decide) (by decide) rfl (fun _ _ => rfl) (Nat.le_of_ble_eq_true rfl) (Nat.le_of_ble_eq_true rfl) dX10_init_189 (fun H hN hsz hS => ?_)
  refine nw_putE (enMn C 28) S hK hN hS (k := 0) (i := 0) ⟨⟨rfl, rfl⟩, Or.inl rfl⟩ rfl (CN := RX10) (T := TX10) (N := 35) rfl hin10 tyX10_ok nmX10 27 (by decide) (index := 80) (ref := "RidingYardModel") (List.mem_cons_of_mem _ (List.mem_append_left _ (List.mem_append_right _ (List.mem_of_getElem? (i := 4) rfl)))) (fun _ h => h) rfl hin0i rfl rfl rfl rfl (Nat.le_of_ble_eq_true rfl) enMn_oth dX10_init_191 (fun H locs hN hz hS => ?_)
  replace hsz := hz.trans hsz
  refine lv_aload_n hx hb dX10_init_194 rfl (lv_at hl 0 rfl) ?_
  refine lv_bipush (v := 20) hx hb dX10_init_195 (by decide) ?_
  refine nf_newa S hK plM hb0 hA2 hN hsz hS 28 0 rfl (by decide) rfl 0 rfl rfl id rfl (List.mem_cons_of_mem _ (List.mem_append_left _ (List.mem_append_left _ (List.mem_of_getElem? (i := 3) rfl)))) (N := 20) (by decide) (by decide) (by decide) rfl (fun _ _ => rfl) (Nat.le_of_ble_eq_true rfl) (Nat.le_of_ble_eq_true rfl) dX10_init_197 (fun H hN hsz hS => ?_)
  refine nw_putE (enMn C 29) S hK hN hS (k := 0) (i := 0) ⟨⟨rfl, rfl⟩, Or.inl rfl⟩ rfl (CN := RX10) (T := TX10) (N := 35) rfl hin10 tyX10_ok nmX10 28 (by decide) (index := 83) (ref := "RidingYardModel") (List.mem_cons_of_mem _ (List.mem_append_left _ (List.mem_append_right _ (List.mem_of_getElem? (i := 5) rfl)))) (fun _ h => h) rfl hin0i rfl rfl rfl rfl (Nat.le_of_ble_eq_true rfl) enMn_oth dX10_init_199 (fun H locs hN hz hS => ?_)
  replace hsz := hz.trans hsz
  refine lv_aload_n hx hb dX10_init_202 rfl (lv_at hl 0 rfl) ?_
  refine lv_bipush (v := 40) hx hb dX10_init_203 (by decide) ?_
  refine nf_newa S hK plM hb0 hA2 hN hsz hS 30 0 rfl (by decide) rfl 0 rfl rfl id rfl (List.mem_cons_of_mem _ (List.mem_append_left _ (List.mem_append_left _ (List.mem_of_getElem? (i := 3) rfl)))) (N := 40) (by decide) (by decide) (by decide) rfl (fun _ _ => rfl) (Nat.le_of_ble_eq_true rfl) (Nat.le_of_ble_eq_true rfl) dX10_init_205 (fun H hN hsz hS => ?_)
  refine nw_putE (enMn C 31) S hK hN hS (k := 0) (i := 0) ⟨⟨rfl, rfl⟩, Or.inl rfl⟩ rfl (CN := RX10) (T := TX10) (N := 35) rfl hin10 tyX10_ok nmX10 30 (by decide) (index := 86) (ref := "RidingYardModel") (List.mem_cons_of_mem _ (List.mem_append_left _ (List.mem_append_right _ (List.mem_of_getElem? (i := 6) rfl)))) (fun _ h => h) rfl hin0i rfl rfl rfl rfl (Nat.le_of_ble_eq_true rfl) enMn_oth dX10_init_207 (fun H locs hN hz hS => ?_)
  replace hsz := hz.trans hsz
  refine lv_aload_n hx hb dX10_init_210 rfl (lv_at hl 0 rfl) ?_
  refine lv_bipush (v := 40) hx hb dX10_init_211 (by decide) ?_
  refine nf_newa S hK plM hb0 hA2 hN hsz hS 31 0 rfl (by decide) rfl 0 rfl rfl id rfl (List.mem_cons_of_mem _ (List.mem_append_left _ (List.mem_append_left _ (List.mem_of_getElem? (i := 3) rfl)))) (N := 40) (by decide) (by decide) (by decide) rfl (fun _ _ => rfl) (Nat.le_of_ble_eq_true rfl) (Nat.le_of_ble_eq_true rfl) dX10_init_213 (fun H hN hsz hS => ?_)
  refine nw_putE (enMn C 32) S hK hN hS (k := 0) (i := 0) ⟨⟨rfl, rfl⟩, Or.inl rfl⟩ rfl (CN := RX10) (T := TX10) (N := 35) rfl hin10 tyX10_ok nmX10 31 (by decide) (index := 89) (ref := "RidingYardModel") (List.mem_cons_of_mem _ (List.mem_append_left _ (List.mem_append_right _ (List.mem_of_getElem? (i := 7) rfl)))) (fun _ h => h) rfl hin0i rfl rfl rfl rfl (Nat.le_of_ble_eq_true rfl) enMn_oth dX10_init_215 (fun H locs hN hz hS => ?_)
  replace hsz := hz.trans hsz
  refine lv_aload_n hx hb dX10_init_218 rfl (lv_at hl 0 rfl) ?_
  refine lv_bipush (v := 7) hx hb dX10_init_219 (by decide) ?_
  refine nf_newa S hK plM hb0 hA2 hN hsz hS 32 0 rfl (by decide) rfl 0 rfl rfl id rfl (List.mem_cons_of_mem _ (List.mem_append_left _ (List.mem_append_left _ (List.mem_of_getElem? (i := 3) rfl)))) (N := 7) (by decide) (by decide) (by decide) rfl (fun _ _ => rfl) (Nat.le_of_ble_eq_true rfl) (Nat.le_of_ble_eq_true rfl) dX10_init_221 (fun H hN hsz hS => ?_)
  refine nw_putE (enMn C 33) S hK hN hS (k := 0) (i := 0) ⟨⟨rfl, rfl⟩, Or.inl rfl⟩ rfl (CN := RX10) (T := TX10) (N := 35) rfl hin10 tyX10_ok nmX10 32 (by decide) (index := 92) (ref := "RidingYardModel") (List.mem_cons_of_mem _ (List.mem_append_left _ (List.mem_append_right _ (List.mem_of_getElem? (i := 8) rfl)))) (fun _ h => h) rfl hin0i rfl rfl rfl rfl (Nat.le_of_ble_eq_true rfl) enMn_oth dX10_init_223 (fun H locs hN hz hS => ?_)
  replace hsz := hz.trans hsz
  replace hN := convM hN
  rw [← mi_0] at hN
  refine lv_iconst (v := 0) hx hb dX10_init_226 (by decide) ?_
  refine lv_istore_n (lv' := [(1, .int (nI 0)), (0, .ref b)]) hx hb dX10_init_227 rfl hl (by decide) rfl (fun ls hl => ?_)
  refine lpC 10 (fun t H locs ls => lv_has ls 2 [(1, .int (nI t)), (0, .ref b)] ∧ nw D (enM C) domM A (adC b s.heap.size offM) (Mi (qM t 0 0 0 0)) H ∧ va_S A s.heap H locs) (fun _ => 28) (fun _ => 963) 228 (fun t H locs ls ht hP ih => ?_) (fun H locs ls hP => ?_) ⟨hl, hN, hS⟩
  · obtain ⟨hl, hN, hS⟩ := hP
    have hin : vp_in (nI t) 10 := vp_in_nI ht (by decide)
    refine lv_iload_n hx hb dX10_init_228 rfl (lv_at hl 0 rfl) ?_
    refine lv_bipush (v := 10) hx hb dX10_init_229 (by decide) ?_
    refine lv_icmp_ge (x := nI t) (y := 10) (tgt := 247) hx hb dX10_init_231 (by decide) (fun c_1 => absurd c_1 (by rw [show (10 : Int32) = nI 10 from rfl, nI_leI (by decide) (by omega)]; omega)) (fun c_1 => ?_)
    refine lv_aload_n hx hb dX10_init_234 rfl (lv_at hl 1 rfl) ?_
    refine nwM_get S hK hN hin10 11 (by decide) (index := 34) (List.mem_cons_of_mem _ (List.mem_append_left _ (List.mem_append_left _ (List.mem_of_getElem? (i := 12) rfl)))) rfl (v := .ref (adC b s.heap.size offM 11 0)) rfl dX10_init_235 ?_
    refine lv_iload_n hx hb dX10_init_238 rfl (lv_at hl 0 rfl) ?_
    refine lv_iconst (v := -1) hx hb dX10_init_239 (by decide) ?_
    refine nw_iast S hK hN hS (k := 11) (i := 0) ⟨rfl, rfl⟩ (fun _ => rfl) hin dX10_init_240 (fun H locs hN hz hS => ?_)
    rw [mi_up (q' := qM (t + 1) 0 0 0 0) (n := t) (nI_clamp (by omega)) rfl rfl (fun k hk => by simp [qM, hk])] at hN
    refine lv_iinc (v := nI t + 1) (lv' := [(1, .int (nI t + 1)), (0, .ref b)]) hx hb dX10_init_241 hl (k := 0) rfl rfl (by decide) rfl (fun ls hl => ?_)
    refine lv_goto (tgt := 228) hx hb dX10_init_244 (by decide) ?_
    exact ih _ _ _ ⟨by rw [← nI_1]; exact hl, hN, hS⟩
  obtain ⟨hl, hN, hS⟩ := hP
  refine lv_iload_n hx hb dX10_init_228 rfl (lv_at hl 0 rfl) ?_
  refine lv_bipush (v := 10) hx hb dX10_init_229 (by decide) ?_
  refine lv_icmp_ge (x := nI 10) (y := 10) (tgt := 247) hx hb dX10_init_231 (by decide) (fun c_1 => ?_) (fun c_1 => absurd (show (10 : Int32) ≤ nI 10 by decide) c_1)
  refine lv_iconst (v := 0) hx hb dX10_init_247 (by decide) ?_
  refine lv_istore_n (lv' := [(1, .int (nI 0)), (0, .ref b)]) hx hb dX10_init_248 rfl hl (by decide) rfl (fun ls hl => ?_)
  refine lpC 6 (fun t H locs ls => lv_has ls 2 [(1, .int (nI t)), (0, .ref b)] ∧ nw D (enM C) domM A (adC b s.heap.size offM) (Mi (qM 10 t t 0 0)) H ∧ va_S A s.heap H locs) (fun _ => 28) (fun _ => 963) 249 (fun t H locs ls ht hP ih => ?_) (fun H locs ls hP => ?_) ⟨hl, hN, hS⟩
  · obtain ⟨hl, hN, hS⟩ := hP
    have hin : vp_in (nI t) 6 := vp_in_nI ht (by decide)
    refine lv_iload_n hx hb dX10_init_249 rfl (lv_at hl 0 rfl) ?_
    refine lv_bipush (v := 6) hx hb dX10_init_250 (by decide) ?_
    refine lv_icmp_ge (x := nI t) (y := 6) (tgt := 275) hx hb dX10_init_252 (by decide) (fun c_1 => absurd c_1 (by rw [show (6 : Int32) = nI 6 from rfl, nI_leI (by decide) (by omega)]; omega)) (fun c_1 => ?_)
    refine lv_aload_n hx hb dX10_init_255 rfl (lv_at hl 1 rfl) ?_
    refine nwM_get S hK hN hin10 12 (by decide) (index := 37) (List.mem_cons_of_mem _ (List.mem_append_left _ (List.mem_append_left _ (List.mem_of_getElem? (i := 13) rfl)))) rfl (v := .ref (adC b s.heap.size offM 12 0)) rfl dX10_init_256 ?_
    refine lv_iload_n hx hb dX10_init_259 rfl (lv_at hl 0 rfl) ?_
    refine lv_iconst (v := -1) hx hb dX10_init_260 (by decide) ?_
    refine nw_iast S hK hN hS (k := 12) (i := 0) ⟨rfl, rfl⟩ (fun _ => rfl) hin dX10_init_261 (fun H locs hN hz hS => ?_)
    rw [mi_up (q' := qM 10 (t + 1) t 0 0) (n := t) (nI_clamp (by omega)) rfl rfl (fun k hk => by simp [qM, hk])] at hN
    refine lv_aload_n hx hb dX10_init_262 rfl (lv_at hl 1 rfl) ?_
    refine nwM_get S hK hN hin10 13 (by decide) (index := 40) (List.mem_cons_of_mem _ (List.mem_append_left _ (List.mem_append_left _ (List.mem_of_getElem? (i := 14) rfl)))) rfl (v := .ref (adC b s.heap.size offM 13 0)) rfl dX10_init_263 ?_
    refine lv_iload_n hx hb dX10_init_266 rfl (lv_at hl 0 rfl) ?_
    refine lv_iconst (v := -1) hx hb dX10_init_267 (by decide) ?_
    refine nw_iast S hK hN hS (k := 13) (i := 0) ⟨rfl, rfl⟩ (fun _ => rfl) hin dX10_init_268 (fun H locs hN hz hS => ?_)
    rw [mi_up (q' := qM 10 (t + 1) (t + 1) 0 0) (n := t) (nI_clamp (by omega)) rfl rfl (fun k hk => by simp [qM, hk])] at hN
    refine lv_iinc (v := nI t + 1) (lv' := [(1, .int (nI t + 1)), (0, .ref b)]) hx hb dX10_init_269 hl (k := 0) rfl rfl (by decide) rfl (fun ls hl => ?_)
    refine lv_goto (tgt := 249) hx hb dX10_init_272 (by decide) ?_
    exact ih _ _ _ ⟨by rw [← nI_1]; exact hl, hN, hS⟩
  obtain ⟨hl, hN, hS⟩ := hP
  refine lv_iload_n hx hb dX10_init_249 rfl (lv_at hl 0 rfl) ?_
  refine lv_bipush (v := 6) hx hb dX10_init_250 (by decide) ?_
  refine lv_icmp_ge (x := nI 6) (y := 6) (tgt := 275) hx hb dX10_init_252 (by decide) (fun c_1 => ?_) (fun c_1 => absurd (show (6 : Int32) ≤ nI 6 by decide) c_1)
  refine lv_iconst (v := 0) hx hb dX10_init_275 (by decide) ?_
  refine lv_istore_n (lv' := [(1, .int (nI 0)), (0, .ref b)]) hx hb dX10_init_276 rfl hl (by decide) rfl (fun ls hl => ?_)
  refine lpC 4 (fun t H locs ls => lv_has ls 2 [(1, .int (nI t)), (0, .ref b)] ∧ nw D (enM C) domM A (adC b s.heap.size offM) (Mi (qM 10 6 6 t t)) H ∧ va_S A s.heap H locs) (fun _ => 28) (fun _ => 963) 277 (fun t H locs ls ht hP ih => ?_) (fun H locs ls hP => ?_) ⟨hl, hN, hS⟩
  · obtain ⟨hl, hN, hS⟩ := hP
    have hin : vp_in (nI t) 4 := vp_in_nI ht (by decide)
    refine lv_iload_n hx hb dX10_init_277 rfl (lv_at hl 0 rfl) ?_
    refine lv_iconst (v := 4) hx hb dX10_init_278 (by decide) ?_
    refine lv_icmp_ge (x := nI t) (y := 4) (tgt := 302) hx hb dX10_init_279 (by decide) (fun c_1 => absurd c_1 (by rw [show (4 : Int32) = nI 4 from rfl, nI_leI (by decide) (by omega)]; omega)) (fun c_1 => ?_)
    refine lv_aload_n hx hb dX10_init_282 rfl (lv_at hl 1 rfl) ?_
    refine nwM_get S hK hN hin10 16 (by decide) (index := 49) (List.mem_cons_of_mem _ (List.mem_append_left _ (List.mem_append_left _ (List.mem_of_getElem? (i := 17) rfl)))) rfl (v := .ref (adC b s.heap.size offM 16 0)) rfl dX10_init_283 ?_
    refine lv_iload_n hx hb dX10_init_286 rfl (lv_at hl 0 rfl) ?_
    refine lv_iconst (v := -1) hx hb dX10_init_287 (by decide) ?_
    refine nw_iast S hK hN hS (k := 16) (i := 0) ⟨rfl, rfl⟩ (fun _ => rfl) hin dX10_init_288 (fun H locs hN hz hS => ?_)
    rw [mi_up (q' := qM 10 6 6 (t + 1) t) (n := t) (nI_clamp (by omega)) rfl rfl (fun k hk => by simp [qM, hk])] at hN
    refine lv_aload_n hx hb dX10_init_289 rfl (lv_at hl 1 rfl) ?_
    refine nwM_get S hK hN hin10 18 (by decide) (index := 55) (List.mem_cons_of_mem _ (List.mem_append_left _ (List.mem_append_left _ (List.mem_of_getElem? (i := 19) rfl)))) rfl (v := .ref (adC b s.heap.size offM 18 0)) rfl dX10_init_290 ?_
    refine lv_iload_n hx hb dX10_init_293 rfl (lv_at hl 0 rfl) ?_
    refine lv_iconst (v := -1) hx hb dX10_init_294 (by decide) ?_
    refine nw_iast S hK hN hS (k := 18) (i := 0) ⟨rfl, rfl⟩ (fun _ => rfl) hin dX10_init_295 (fun H locs hN hz hS => ?_)
    rw [mi_up (q' := qM 10 6 6 (t + 1) (t + 1)) (n := t) (nI_clamp (by omega)) rfl rfl (fun k hk => by simp [qM, hk])] at hN
    refine lv_iinc (v := nI t + 1) (lv' := [(1, .int (nI t + 1)), (0, .ref b)]) hx hb dX10_init_296 hl (k := 0) rfl rfl (by decide) rfl (fun ls hl => ?_)
    refine lv_goto (tgt := 277) hx hb dX10_init_299 (by decide) ?_
    exact ih _ _ _ ⟨by rw [← nI_1]; exact hl, hN, hS⟩
  obtain ⟨hl, hN, hS⟩ := hP
  refine lv_iload_n hx hb dX10_init_277 rfl (lv_at hl 0 rfl) ?_
  refine lv_iconst (v := 4) hx hb dX10_init_278 (by decide) ?_
  refine lv_icmp_ge (x := nI 4) (y := 4) (tgt := 302) hx hb dX10_init_279 (by decide) (fun c_1 => ?_) (fun c_1 => absurd (show (4 : Int32) ≤ nI 4 by decide) c_1)
  exact W.vret hx hb hr (fun t ht _ => nw_end hS hN ht) hS.2.2 dX10_init_302
