set_option maxHeartbeats 4000000 in
set_option maxRecDepth 100000 in
theorem kX9_init (l : Launch) (D : va_G) (C : Nat → ClassId) (A : Nat → Prop) (b base : Nat) (hAb : A b) : Met l yX9_init wsX9_init ({ frames := 2, cells := 86, slots := 567, locals := 32 }) (va_Pc [.ref b] (PW D C A (fun H => H.size = base ∧ va_at D vwCl (b, .inr (8, [.null, .null, .null, .null, .null, .null, .int 0, .int 0, .int 0, .null, .int 0, .null, .null, .int 0, .int 0, .null, .int 0])) H))) (nQ A none (nw D (enY C) (domY 0 0 0) A (adC b base offY) Y0)) 86 567 A := by
  refine Met.ofW (cc := cX9_init) (maxL := 2) (ret := none) (by decide) rfl ?_
  intro p e s m args below meth c s₁ B hml hv
  obtain ⟨rfl, hK, ⟨hsz, hat⟩, hA⟩ := hv
  subst hsz
  have hx := B.exec
  have hb := B.bytes
  have hr := B.returns
  have hts := atoms_spec (ws := wsX9_init) B.pre
  have hown : s.vm.findClass RX9 = some m.cls := findClass_of_methodNamed B.named
  have hlocks := B.notSynchronized
  have hin0i : meth.name = "<init>" := (name_of_methodNamed B.named B.method).1
  have S : CallFix p m c cX9_init 2 s _ wsX9_init RX9 := ⟨hx, hb, hml, hown, hts⟩
  have hin9 : ∀ w ∈ wsX90, w ∈ wsX9_init := (fun _ h => List.mem_cons_of_mem _ (List.mem_append_left _ (List.mem_append_left _ (List.mem_append_left _ (List.mem_append_right _ (h))))))
  have hin6 : ∀ w ∈ wsX60, w ∈ wsX9_init := (fun _ h => List.mem_cons_of_mem _ (List.mem_append_left _ (List.mem_append_left _ (List.mem_append_right _ (h)))))
  have hin4 : ∀ w ∈ wsX40, w ∈ wsX9_init := (fun _ h => List.mem_cons_of_mem _ (List.mem_append_left _ (List.mem_append_right _ (h))))
  have hin5 : ∀ w ∈ wsX50, w ∈ wsX9_init := (fun _ h => List.mem_cons_of_mem _ (List.mem_append_right _ (h)))
  have hS : va_S A s.heap s.heap [] := va_S.rf
  have hl := lv_entry ([.ref b]) (n := 2) (Nat.le_of_ble_eq_true rfl)
  rw [lg_entry_eq]
  generalize (lg_sl ([.ref b]) ++ List.replicate (2 - (lg_sl ([.ref b])).length) Slot.unset).toArray = ls at hl ⊢
  have hl : lv_has ls 2 [(0, .ref b)] := hl
  have hA2 : A b ∧ ∀ q, s.heap.size ≤ q → A q := ⟨hAb, hA⟩
  have hb0 : b < s.heap.size := hat.lt
  have hN : nw D (enC C (gY 0 0 0 0 0 0 0 0)) (domC (domY 0 0 0) offY 0) A (adC b s.heap.size offY) Y0 s.heap := by
    refine ⟨fun k i hd => ?_, fun k i k' i' h h' e => adC_inj plY hb0 h.1 h'.1 e, fun k i hd => ?_⟩
    · rcases hd.2 with rfl | h
      · obtain ⟨-, rfl⟩ : 0 < 12 ∧ i = 0 := hd.1
        exact hat
      · exact absurd h (Nat.not_lt_zero _)
    · rcases hd.2 with rfl | h
      · exact hAb
      · exact absurd h (Nat.not_lt_zero _)
  have hsz : s.heap.size = s.heap.size + 0 := rfl
  refine lv_aload_n hx hb dX9_init_0 rfl (lv_at hl 0 rfl) ?_
  refine W.objInit hx hb hown (hts (.methodLink RX9 1 objectInit) (List.mem_cons_of_mem _ (List.mem_append_left _ (List.mem_append_left _ (List.mem_append_left _ (List.mem_append_left _ (List.mem_append_left _ (List.mem_of_getElem? (i := 0) rfl)))))))) (hts (.instanceMethod objectInit) (List.mem_cons_of_mem _ (List.mem_append_left _ (List.mem_append_left _ (List.mem_append_left _ (List.mem_append_left _ (List.mem_append_left _ (List.mem_of_getElem? (i := 1) rfl)))))))) (hts _ (List.mem_cons_of_mem _ (List.mem_append_left _ (List.mem_append_left _ (List.mem_append_left _ (List.mem_append_left _ (List.mem_append_left _ (List.mem_of_getElem? (i := 2) rfl)))))))) rfl (by rw [hml]; exact hl.1) rfl dX9_init_1 (Nat.le_of_ble_eq_true rfl) (Nat.le_of_ble_eq_true rfl) ?_
  refine W.eq (g2 := F0 m 4 ls []) rfl ?_
  refine lv_aload_n hx hb dX9_init_4 rfl (lv_at hl 0 rfl) ?_
  refine lv_bipush (v := 10) hx hb dX9_init_5 (by decide) ?_
  refine nf_anew S hK plY hb0 hA2 hN hsz hS 1 0 rfl (by decide) rfl 2 rfl hK.2.2.2.2.1.1 (List.mem_cons_of_mem _ (List.mem_append_left _ (List.mem_append_left _ (List.mem_append_left _ (List.mem_append_left _ (List.mem_append_left _ (List.mem_of_getElem? (i := 3) rfl))))))) (N := 10) (by decide) (by decide) (by decide) rfl (fun _ _ => oH_m1 _) (Nat.le_of_ble_eq_true rfl) (Nat.le_of_ble_eq_true rfl) dX9_init_7 (fun H hN hsz hS => ?_)
  refine nw_putE (enC C (gY 1 0 0 0 0 0 0 0)) S hK hN hS (k := 0) (i := 0) ⟨⟨by decide, rfl⟩, Or.inl rfl⟩ rfl (CN := RX9) (T := TX9) (N := 17) rfl hin9 tyX9_ok nmX9 0 (by decide) (index := 11) (ref := "RidingYard") (List.mem_cons_of_mem _ (List.mem_append_left _ (List.mem_append_left _ (List.mem_append_left _ (List.mem_append_left _ (List.mem_append_left _ (List.mem_of_getElem? (i := 4) rfl))))))) (fun _ h => h) rfl hin0i rfl rfl rfl rfl (Nat.le_of_ble_eq_true rfl) (fun k' i' hd h => enC_oth (gY_0 k' i' hd h)) dX9_init_10 (fun H locs hN hz hS => ?_)
  replace hsz := hz.trans hsz
  refine lv_aload_n hx hb dX9_init_13 rfl (lv_at hl 0 rfl) ?_
  refine lv_bipush (v := 6) hx hb dX9_init_14 (by decide) ?_
  refine nf_anew S hK plY hb0 hA2 hN hsz hS 2 0 rfl (by decide) rfl 3 rfl hK.2.2.2.2.1.2.1 (List.mem_cons_of_mem _ (List.mem_append_left _ (List.mem_append_left _ (List.mem_append_left _ (List.mem_append_left _ (List.mem_append_left _ (List.mem_of_getElem? (i := 5) rfl))))))) (N := 6) (by decide) (by decide) (by decide) rfl (fun _ _ => oW_0 (show (-1 : Int32) < 0 by decide)) (Nat.le_of_ble_eq_true rfl) (Nat.le_of_ble_eq_true rfl) dX9_init_16 (fun H hN hsz hS => ?_)
  refine nw_putE (enC C (gY 2 0 0 0 0 0 0 0)) S hK hN hS (k := 0) (i := 0) ⟨⟨by decide, rfl⟩, Or.inl rfl⟩ rfl (CN := RX9) (T := TX9) (N := 17) rfl hin9 tyX9_ok nmX9 1 (by decide) (index := 17) (ref := "RidingYard") (List.mem_cons_of_mem _ (List.mem_append_left _ (List.mem_append_left _ (List.mem_append_left _ (List.mem_append_left _ (List.mem_append_left _ (List.mem_of_getElem? (i := 6) rfl))))))) (fun _ h => h) rfl hin0i rfl rfl rfl rfl (Nat.le_of_ble_eq_true rfl) (fun k' i' hd h => enC_oth (gY_0 k' i' hd h)) dX9_init_19 (fun H locs hN hz hS => ?_)
  replace hsz := hz.trans hsz
  refine lv_aload_n hx hb dX9_init_22 rfl (lv_at hl 0 rfl) ?_
  refine lv_bipush (v := 6) hx hb dX9_init_23 (by decide) ?_
  refine nf_anew S hK plY hb0 hA2 hN hsz hS 3 0 rfl (by decide) rfl 4 rfl hK.2.2.2.2.1.2.2.1 (List.mem_cons_of_mem _ (List.mem_append_left _ (List.mem_append_left _ (List.mem_append_left _ (List.mem_append_left _ (List.mem_append_left _ (List.mem_of_getElem? (i := 7) rfl))))))) (N := 6) (by decide) (by decide) (by decide) rfl (fun _ _ => rfl) (Nat.le_of_ble_eq_true rfl) (Nat.le_of_ble_eq_true rfl) dX9_init_25 (fun H hN hsz hS => ?_)
  refine nw_putE (enC C (gY 3 0 0 0 0 0 0 0)) S hK hN hS (k := 0) (i := 0) ⟨⟨by decide, rfl⟩, Or.inl rfl⟩ rfl (CN := RX9) (T := TX9) (N := 17) rfl hin9 tyX9_ok nmX9 2 (by decide) (index := 23) (ref := "RidingYard") (List.mem_cons_of_mem _ (List.mem_append_left _ (List.mem_append_left _ (List.mem_append_left _ (List.mem_append_left _ (List.mem_append_left _ (List.mem_of_getElem? (i := 8) rfl))))))) (fun _ h => h) rfl hin0i rfl rfl rfl rfl (Nat.le_of_ble_eq_true rfl) (fun k' i' hd h => enC_oth (gY_0 k' i' hd h)) dX9_init_28 (fun H locs hN hz hS => ?_)
  replace hsz := hz.trans hsz
  refine lv_aload_n hx hb dX9_init_31 rfl (lv_at hl 0 rfl) ?_
  refine lv_iconst (v := 4) hx hb dX9_init_32 (by decide) ?_
  refine nf_anew S hK plY hb0 hA2 hN hsz hS 4 0 rfl (by decide) rfl 5 rfl hK.2.2.2.2.1.2.2.2.1 (List.mem_cons_of_mem _ (List.mem_append_left _ (List.mem_append_left _ (List.mem_append_left _ (List.mem_append_left _ (List.mem_append_left _ (List.mem_of_getElem? (i := 9) rfl))))))) (N := 4) (by decide) (by decide) (by decide) rfl (fun _ _ => rfl) (Nat.le_of_ble_eq_true rfl) (Nat.le_of_ble_eq_true rfl) dX9_init_33 (fun H hN hsz hS => ?_)
  refine nw_putE (enC C (gY 4 0 0 0 0 0 0 0)) S hK hN hS (k := 0) (i := 0) ⟨⟨by decide, rfl⟩, Or.inl rfl⟩ rfl (CN := RX9) (T := TX9) (N := 17) rfl hin9 tyX9_ok nmX9 3 (by decide) (index := 29) (ref := "RidingYard") (List.mem_cons_of_mem _ (List.mem_append_left _ (List.mem_append_left _ (List.mem_append_left _ (List.mem_append_left _ (List.mem_append_left _ (List.mem_of_getElem? (i := 10) rfl))))))) (fun _ h => h) rfl hin0i rfl rfl rfl rfl (Nat.le_of_ble_eq_true rfl) (fun k' i' hd h => enC_oth (gY_0 k' i' hd h)) dX9_init_36 (fun H locs hN hz hS => ?_)
  replace hsz := hz.trans hsz
  refine lv_aload_n hx hb dX9_init_39 rfl (lv_at hl 0 rfl) ?_
  refine lv_iconst (v := 4) hx hb dX9_init_40 (by decide) ?_
  refine nf_anew S hK plY hb0 hA2 hN hsz hS 5 0 rfl (by decide) rfl 6 rfl hK.2.2.2.2.1.2.2.2.2.1 (List.mem_cons_of_mem _ (List.mem_append_left _ (List.mem_append_left _ (List.mem_append_left _ (List.mem_append_left _ (List.mem_append_left _ (List.mem_of_getElem? (i := 11) rfl))))))) (N := 4) (by decide) (by decide) (by decide) rfl (fun _ _ => rfl) (Nat.le_of_ble_eq_true rfl) (Nat.le_of_ble_eq_true rfl) dX9_init_41 (fun H hN hsz hS => ?_)
  refine nw_putE (enC C (gY 5 0 0 0 0 0 0 0)) S hK hN hS (k := 0) (i := 0) ⟨⟨by decide, rfl⟩, Or.inl rfl⟩ rfl (CN := RX9) (T := TX9) (N := 17) rfl hin9 tyX9_ok nmX9 4 (by decide) (index := 35) (ref := "RidingYard") (List.mem_cons_of_mem _ (List.mem_append_left _ (List.mem_append_left _ (List.mem_append_left _ (List.mem_append_left _ (List.mem_append_left _ (List.mem_of_getElem? (i := 12) rfl))))))) (fun _ h => h) rfl hin0i rfl rfl rfl rfl (Nat.le_of_ble_eq_true rfl) (fun k' i' hd h => enC_oth (gY_0 k' i' hd h)) dX9_init_44 (fun H locs hN hz hS => ?_)
  replace hsz := hz.trans hsz
  refine lv_aload_n hx hb dX9_init_47 rfl (lv_at hl 0 rfl) ?_
  refine lv_bipush (v := 6) hx hb dX9_init_48 (by decide) ?_
  refine nf_anew S hK plY hb0 hA2 hN hsz hS 6 0 rfl (by decide) rfl 7 rfl hK.2.2.2.2.1.2.2.2.2.2 (List.mem_cons_of_mem _ (List.mem_append_left _ (List.mem_append_left _ (List.mem_append_left _ (List.mem_append_left _ (List.mem_append_left _ (List.mem_of_getElem? (i := 13) rfl))))))) (N := 6) (by decide) (by decide) (by decide) rfl (fun _ _ => oA_m1 _) (Nat.le_of_ble_eq_true rfl) (Nat.le_of_ble_eq_true rfl) dX9_init_50 (fun H hN hsz hS => ?_)
  refine nw_putE (enC C (gY 6 0 0 0 0 0 0 0)) S hK hN hS (k := 0) (i := 0) ⟨⟨by decide, rfl⟩, Or.inl rfl⟩ rfl (CN := RX9) (T := TX9) (N := 17) rfl hin9 tyX9_ok nmX9 5 (by decide) (index := 41) (ref := "RidingYard") (List.mem_cons_of_mem _ (List.mem_append_left _ (List.mem_append_left _ (List.mem_append_left _ (List.mem_append_left _ (List.mem_append_left _ (List.mem_of_getElem? (i := 14) rfl))))))) (fun _ h => h) rfl hin0i rfl rfl rfl rfl (Nat.le_of_ble_eq_true rfl) (fun k' i' hd h => enC_oth (gY_0 k' i' hd h)) dX9_init_53 (fun H locs hN hz hS => ?_)
  replace hsz := hz.trans hsz
  refine lv_aload_n hx hb dX9_init_56 rfl (lv_at hl 0 rfl) ?_
  refine lv_bipush (v := 20) hx hb dX9_init_57 (by decide) ?_
  refine lv_iconst (v := 4) hx hb dX9_init_59 (by decide) ?_
  refine nf_multi S hK plY hb0 hA2 hN hsz hS 7 0 8 (fun j => j) rfl (by decide) rfl (List.mem_cons_of_mem _ (List.mem_append_left _ (List.mem_append_left _ (List.mem_append_left _ (List.mem_append_left _ (List.mem_append_left _ (List.mem_of_getElem? (i := 15) rfl))))))) (List.mem_cons_of_mem _ (List.mem_append_left _ (List.mem_append_left _ (List.mem_append_left _ (List.mem_append_left _ (List.mem_append_left _ (List.mem_of_getElem? (i := 16) rfl))))))) (N := 20) (M := 4) (by decide) (by decide) (by decide) (by decide) (by decide) (by decide) (by decide) (fun j hj => by
    unfold invYo
    rw [if_neg (by omega), if_pos (by omega)]
    exact Prod.ext rfl (by show 6 + 1 + j - 7 = j; omega)) rfl (fun j hj => congrArg some (show s.heap.size + (7 + j) = _ by omega)) (fun j hj => rfl) (fun _ _ _ _ => rfl) (Nat.le_of_ble_eq_true rfl) (Nat.le_of_ble_eq_true rfl) dX9_init_60 (fun H hN hsz hS => ?_)
  refine nw_putE (enC C (gY 10 0 0 0 0 0 0 0)) S hK hN hS (k := 0) (i := 0) ⟨⟨by decide, rfl⟩, Or.inl rfl⟩ rfl (CN := RX9) (T := TX9) (N := 17) rfl hin9 tyX9_ok nmX9 9 (by decide) (index := 47) (ref := "RidingYard") (List.mem_cons_of_mem _ (List.mem_append_left _ (List.mem_append_left _ (List.mem_append_left _ (List.mem_append_left _ (List.mem_append_left _ (List.mem_of_getElem? (i := 17) rfl))))))) (fun _ h => h) rfl hin0i rfl rfl rfl rfl (Nat.le_of_ble_eq_true rfl) (fun k' i' hd h => enC_oth (gY_0 k' i' hd h)) dX9_init_64 (fun H locs hN hz hS => ?_)
  replace hsz := hz.trans hsz
  refine lv_aload_n hx hb dX9_init_67 rfl (lv_at hl 0 rfl) ?_
  refine lv_bipush (v := 40) hx hb dX9_init_68 (by decide) ?_
  refine nf_newa S hK plY hb0 hA2 hN hsz hS 9 0 rfl (by decide) rfl 0 rfl rfl id rfl (List.mem_cons_of_mem _ (List.mem_append_left _ (List.mem_append_left _ (List.mem_append_left _ (List.mem_append_left _ (List.mem_append_left _ (List.mem_of_getElem? (i := 16) rfl))))))) (N := 40) (by decide) (by decide) (by decide) rfl (fun _ _ => rfl) (Nat.le_of_ble_eq_true rfl) (Nat.le_of_ble_eq_true rfl) dX9_init_70 (fun H hN hsz hS => ?_)
  refine nw_putE (enC C (gY 12 0 0 0 0 0 0 0)) S hK hN hS (k := 0) (i := 0) ⟨⟨by decide, rfl⟩, Or.inl rfl⟩ rfl (CN := RX9) (T := TX9) (N := 17) rfl hin9 tyX9_ok nmX9 11 (by decide) (index := 50) (ref := "RidingYard") (List.mem_cons_of_mem _ (List.mem_append_left _ (List.mem_append_left _ (List.mem_append_left _ (List.mem_append_left _ (List.mem_append_left _ (List.mem_of_getElem? (i := 18) rfl))))))) (fun _ h => h) rfl hin0i rfl rfl rfl rfl (Nat.le_of_ble_eq_true rfl) (fun k' i' hd h => enC_oth (gY_0 k' i' hd h)) dX9_init_72 (fun H locs hN hz hS => ?_)
  replace hsz := hz.trans hsz
  refine lv_aload_n hx hb dX9_init_75 rfl (lv_at hl 0 rfl) ?_
  refine lv_bipush (v := 40) hx hb dX9_init_76 (by decide) ?_
  refine nf_newa S hK plY hb0 hA2 hN hsz hS 10 0 rfl (by decide) rfl 0 rfl rfl id rfl (List.mem_cons_of_mem _ (List.mem_append_left _ (List.mem_append_left _ (List.mem_append_left _ (List.mem_append_left _ (List.mem_append_left _ (List.mem_of_getElem? (i := 16) rfl))))))) (N := 40) (by decide) (by decide) (by decide) rfl (fun _ _ => rfl) (Nat.le_of_ble_eq_true rfl) (Nat.le_of_ble_eq_true rfl) dX9_init_78 (fun H hN hsz hS => ?_)
  refine nw_putE (enC C (gY 13 0 0 0 0 0 0 0)) S hK hN hS (k := 0) (i := 0) ⟨⟨by decide, rfl⟩, Or.inl rfl⟩ rfl (CN := RX9) (T := TX9) (N := 17) rfl hin9 tyX9_ok nmX9 12 (by decide) (index := 54) (ref := "RidingYard") (List.mem_cons_of_mem _ (List.mem_append_left _ (List.mem_append_left _ (List.mem_append_left _ (List.mem_append_left _ (List.mem_append_left _ (List.mem_of_getElem? (i := 19) rfl))))))) (fun _ h => h) rfl hin0i rfl rfl rfl rfl (Nat.le_of_ble_eq_true rfl) (fun k' i' hd h => enC_oth (gY_0 k' i' hd h)) dX9_init_80 (fun H locs hN hz hS => ?_)
  replace hsz := hz.trans hsz
  refine lv_aload_n hx hb dX9_init_83 rfl (lv_at hl 0 rfl) ?_
  refine lv_bipush (v := 7) hx hb dX9_init_84 (by decide) ?_
  refine nf_newa S hK plY hb0 hA2 hN hsz hS 11 0 rfl (by decide) rfl 0 rfl rfl id rfl (List.mem_cons_of_mem _ (List.mem_append_left _ (List.mem_append_left _ (List.mem_append_left _ (List.mem_append_left _ (List.mem_append_left _ (List.mem_of_getElem? (i := 16) rfl))))))) (N := 7) (by decide) (by decide) (by decide) rfl (fun _ _ => rfl) (Nat.le_of_ble_eq_true rfl) (Nat.le_of_ble_eq_true rfl) dX9_init_86 (fun H hN hsz hS => ?_)
  refine nw_putE (enC C (gY 16 0 0 0 0 0 0 0)) S hK hN hS (k := 0) (i := 0) ⟨⟨by decide, rfl⟩, Or.inl rfl⟩ rfl (CN := RX9) (T := TX9) (N := 17) rfl hin9 tyX9_ok nmX9 15 (by decide) (index := 57) (ref := "RidingYard") (List.mem_cons_of_mem _ (List.mem_append_left _ (List.mem_append_left _ (List.mem_append_left _ (List.mem_append_left _ (List.mem_append_left _ (List.mem_of_getElem? (i := 20) rfl))))))) (fun _ h => h) rfl hin0i rfl rfl rfl rfl (Nat.le_of_ble_eq_true rfl) (fun k' i' hd h => enC_oth (gY_0 k' i' hd h)) dX9_init_88 (fun H locs hN hz hS => ?_)
  replace hsz := hz.trans hsz
  refine lv_iconst (v := 0) hx hb dX9_init_91 (by decide) ?_
  refine lv_istore_n (lv' := [(1, .int (nI 0)), (0, .ref b)]) hx hb dX9_init_92 rfl hl (by decide) rfl (fun ls hl => ?_)
  refine lpC 6 (fun t H locs ls => lv_has ls 2 [(1, .int (nI t)), (0, .ref b)] ∧ nw D (enC C (gY 16 t 0 0 t 0 0 0)) (domC (domY 0 0 0) offY (30 + 2 * t)) A (adC b s.heap.size offY) Y0 H ∧ va_S A s.heap H locs ∧ H.size = s.heap.size + (30 + 2 * t)) (fun t => 30 + 2 * t) (fun t => 223 + 12 * t) 93 (fun t H locs ls ht hP ih => ?_) (fun H locs ls hP => ?_) ⟨hl, hN, hS, hsz⟩
  · obtain ⟨hl, hN, hS, hsz⟩ := hP
    have hin : vp_in (nI t) 6 := vp_in_nI ht (by decide)
    have hcl : (nI t).toNatClampNeg = t := nI_clamp (by omega)
    refine lv_iload_n hx hb dX9_init_93 rfl (lv_at hl 0 rfl) ?_
    refine lv_bipush (v := 6) hx hb dX9_init_94 (by decide) ?_
    refine lv_icmp_ge (x := nI t) (y := 6) (tgt := 118) hx hb dX9_init_96 (by decide) (fun c_1 => absurd c_1 (by rw [show (6 : Int32) = nI 6 from rfl, nI_leI (by decide) (by omega)]; omega)) (fun c_1 => ?_)
    refine lv_aload_n hx hb dX9_init_99 rfl (lv_at hl 1 rfl) ?_
    refine nw_get S hK hN (k := 0) (i := 0) ⟨⟨by decide, rfl⟩, Or.inl rfl⟩ rfl rfl hin9 2 (by decide) (index := 23) (ref := "RidingYard") (List.mem_cons_of_mem _ (List.mem_append_left _ (List.mem_append_left _ (List.mem_append_left _ (List.mem_append_left _ (List.mem_append_left _ (List.mem_of_getElem? (i := 8) rfl))))))) (fun _ h => h) (v := .ref (adC b s.heap.size offY 3 0)) rfl dX9_init_100 ?_
    refine lv_iload_n hx hb dX9_init_103 rfl (lv_at hl 0 rfl) ?_
    refine nf_newO S hK plY hb0 hA2 hN hsz hS 12 t (inv12 ht) (by decide) rfl (ci := 6) (CN := RX6) (T := TX6) (N := 4) rfl hin6 tyX6 tyX6_ok (List.mem_cons_of_mem _ (List.mem_append_left _ (List.mem_append_left _ (List.mem_append_left _ (List.mem_append_left _ (List.mem_append_left _ (List.mem_of_getElem? (i := 7) rfl))))))) (List.mem_cons_of_mem _ (List.mem_append_left _ (List.mem_append_left _ (List.mem_append_left _ (List.mem_append_left _ (List.mem_append_left _ (List.mem_of_getElem? (i := 21) rfl))))))) (List.mem_cons_of_mem _ (List.mem_append_left _ (List.mem_append_left _ (List.mem_append_left _ (List.mem_append_left _ (List.mem_append_left _ (List.mem_of_getElem? (i := 22) rfl))))))) rfl (fun j hj => by
      rcases (show j = 0 ∨ j = 1 ∨ j = 2 ∨ j = 3 by omega) with rfl | rfl | rfl | rfl
      · exact (bf_f (show decide (t < t) = false from decide_eq_false (Nat.lt_irrefl t))).symm
      all_goals rfl) (show 30 + 2 * t + 1 ≤ 86 by omega) (show 223 + 12 * t + 4 ≤ 567 by omega) dX9_init_104 (fun H hN hsz hS => ?_)
    refine lv_dup hx hb dX9_init_107 rfl ?_
    refine nwY_callN (As := []) (rest := [.ref (adC b s.heap.size offY 12 t), .int (nI t), .ref (adC b s.heap.size offY 3 0)]) S (kX6_init l D C A b s.heap.size t hb0 hA2 ht) ⟨va_cnB 0 hts gX9_init_X6_init_n60 rfl rfl rfl hK.2.2.2.1.1 (hts (.initialized RX6) (List.mem_cons_of_mem _ (List.mem_append_left _ (List.mem_append_left _ (List.mem_append_left _ (List.mem_append_left _ (List.mem_append_left _ (List.mem_of_getElem? (i := 22) rfl)))))))) (by decide +kernel) ⟨Nat.le_of_ble_eq_true rfl, Nat.le_of_ble_eq_true rfl⟩, rfl, hts (.instanceMethod yX6_init) (List.mem_cons_of_mem _ (List.mem_append_left _ (List.mem_append_left _ (List.mem_append_left _ (List.mem_append_left _ (List.mem_append_right _ (List.mem_of_getElem? (i := 3) rfl)))))))⟩ hK ⟨hsz, hN⟩ hA hS rfl hl.1 rfl (Nat.le_of_ble_eq_true rfl) dX9_init_108 ⟨show 30 + 2 * t + 1 + _ ≤ 86 by have := ht; omega, show 223 + 12 * t + 4 + _ ≤ 567 by have := ht; omega⟩ (fun H locs hN hS => ?_)
    obtain ⟨hsz, hN⟩ := hN
    refine nw_aastE (enC C (gY 16 (t + 1) 0 0 (t + 1) 0 0 0)) S hK hN hS (k := 3) (i := 0) ⟨⟨by decide, rfl⟩, Or.inr (show 2 < _ by omega)⟩ 4 rfl rfl rfl (x := nI t) (b := adC b s.heap.size offY 12 t) (fun j hj => bo_up (ad := fun j => adC b s.heap.size offY 12 j) hcl) (nw_any hK hN (k := 12) (i := t) ⟨ht, Or.inr (show 30 + 2 * t < _ by omega)⟩ rfl rfl (Or.inl rfl)) hin (fun k' i' hd h => enC_oth (gY_3 k' i' hd h)) dX9_init_111 (fun H locs hN hz hS => ?_)
    refine lv_iinc (v := nI t + 1) (lv' := [(1, .int (nI t + 1)), (0, .ref b)]) hx hb dX9_init_112 hl (k := 0) rfl rfl (by decide) rfl (fun ls hl => ?_)
    refine lv_goto (tgt := 93) hx hb dX9_init_115 (by decide) ?_
    exact ih _ _ _ ⟨by rw [← nI_1]; exact hl, hN, hS, hz.trans hsz⟩
  obtain ⟨hl, hN, hS, hsz⟩ := hP
  refine lv_iload_n hx hb dX9_init_93 rfl (lv_at hl 0 rfl) ?_
  refine lv_bipush (v := 6) hx hb dX9_init_94 (by decide) ?_
  refine lv_icmp_ge (x := nI 6) (y := 6) (tgt := 118) hx hb dX9_init_96 (by decide) (fun c_1 => ?_) (fun c_1 => absurd (show (6 : Int32) ≤ nI 6 by decide) c_1)
  refine lv_iconst (v := 0) hx hb dX9_init_118 (by decide) ?_
  refine lv_istore_n (lv' := [(1, .int (nI 0)), (0, .ref b)]) hx hb dX9_init_119 rfl hl (by decide) rfl (fun ls hl => ?_)
  refine lpC 4 (fun t H locs ls => lv_has ls 2 [(1, .int (nI t)), (0, .ref b)] ∧ nw D (enC C (gY 16 6 t 0 6 t 0 0)) (domC (domY 0 0 0) offY (42 + 2 * t)) A (adC b s.heap.size offY) Y0 H ∧ va_S A s.heap H locs ∧ H.size = s.heap.size + (42 + 2 * t)) (fun t => 42 + 2 * t) (fun t => 295 + 15 * t) 120 (fun t H locs ls ht hP ih => ?_) (fun H locs ls hP => ?_) ⟨hl, hN, hS, hsz⟩
  · obtain ⟨hl, hN, hS, hsz⟩ := hP
    have hin : vp_in (nI t) 4 := vp_in_nI ht (by decide)
    have hcl : (nI t).toNatClampNeg = t := nI_clamp (by omega)
    refine lv_iload_n hx hb dX9_init_120 rfl (lv_at hl 0 rfl) ?_
    refine lv_iconst (v := 4) hx hb dX9_init_121 (by decide) ?_
    refine lv_icmp_ge (x := nI t) (y := 4) (tgt := 144) hx hb dX9_init_122 (by decide) (fun c_1 => absurd c_1 (by rw [show (4 : Int32) = nI 4 from rfl, nI_leI (by decide) (by omega)]; omega)) (fun c_1 => ?_)
    refine lv_aload_n hx hb dX9_init_125 rfl (lv_at hl 1 rfl) ?_
    refine nw_get S hK hN (k := 0) (i := 0) ⟨⟨by decide, rfl⟩, Or.inl rfl⟩ rfl rfl hin9 3 (by decide) (index := 29) (ref := "RidingYard") (List.mem_cons_of_mem _ (List.mem_append_left _ (List.mem_append_left _ (List.mem_append_left _ (List.mem_append_left _ (List.mem_append_left _ (List.mem_of_getElem? (i := 10) rfl))))))) (fun _ h => h) (v := .ref (adC b s.heap.size offY 4 0)) rfl dX9_init_126 ?_
    refine lv_iload_n hx hb dX9_init_129 rfl (lv_at hl 0 rfl) ?_
    refine nf_newO S hK plY hb0 hA2 hN hsz hS 14 t (inv14 ht) (by decide) rfl (ci := 4) (CN := RX4) (T := TX4) (N := 3) rfl hin4 tyX4 tyX4_ok (List.mem_cons_of_mem _ (List.mem_append_left _ (List.mem_append_left _ (List.mem_append_left _ (List.mem_append_left _ (List.mem_append_left _ (List.mem_of_getElem? (i := 9) rfl))))))) (List.mem_cons_of_mem _ (List.mem_append_left _ (List.mem_append_left _ (List.mem_append_left _ (List.mem_append_left _ (List.mem_append_left _ (List.mem_of_getElem? (i := 23) rfl))))))) (List.mem_cons_of_mem _ (List.mem_append_left _ (List.mem_append_left _ (List.mem_append_left _ (List.mem_append_left _ (List.mem_append_right _ (List.mem_of_getElem? (i := 0) rfl))))))) rfl (fun j hj => by
      rcases (show j = 0 ∨ j = 1 ∨ j = 2 by omega) with rfl | rfl | rfl
      · exact (bf_f (show decide (t < t) = false from decide_eq_false (Nat.lt_irrefl t))).symm
      all_goals rfl) (show 42 + 2 * t + 1 ≤ 86 by omega) (show 295 + 15 * t + 3 ≤ 567 by omega) dX9_init_130 (fun H hN hsz hS => ?_)
    refine lv_dup hx hb dX9_init_133 rfl ?_
    refine nwY_callN (As := []) (rest := [.ref (adC b s.heap.size offY 14 t), .int (nI t), .ref (adC b s.heap.size offY 4 0)]) S (kX4_init l D C A b s.heap.size t hb0 hA2 ht) ⟨va_cnB 0 hts gX9_init_X4_init_n61 rfl rfl rfl hK.2.2.2.1.2.1 (hts (.initialized RX4) (List.mem_cons_of_mem _ (List.mem_append_left _ (List.mem_append_left _ (List.mem_append_left _ (List.mem_append_left _ (List.mem_append_right _ (List.mem_of_getElem? (i := 0) rfl)))))))) (by decide +kernel) ⟨Nat.le_of_ble_eq_true rfl, Nat.le_of_ble_eq_true rfl⟩, rfl, hts (.instanceMethod yX4_init) (List.mem_cons_of_mem _ (List.mem_append_left _ (List.mem_append_left _ (List.mem_append_left _ (List.mem_append_left _ (List.mem_append_right _ (List.mem_of_getElem? (i := 8) rfl)))))))⟩ hK ⟨hsz, hN⟩ hA hS rfl hl.1 rfl (Nat.le_of_ble_eq_true rfl) dX9_init_134 ⟨show 42 + 2 * t + 1 + _ ≤ 86 by have := ht; omega, show 295 + 15 * t + 3 + _ ≤ 567 by have := ht; omega⟩ (fun H locs hN hS => ?_)
    obtain ⟨hsz, hN⟩ := hN
    refine nw_aastE (enC C (gY 16 6 (t + 1) 0 6 (t + 1) 0 0)) S hK hN hS (k := 4) (i := 0) ⟨⟨by decide, rfl⟩, Or.inr (show 3 < _ by omega)⟩ 5 rfl rfl rfl (x := nI t) (b := adC b s.heap.size offY 14 t) (fun j hj => bo_up (ad := fun j => adC b s.heap.size offY 14 j) hcl) (nw_any hK hN (k := 14) (i := t) ⟨ht, Or.inr (show 42 + 2 * t < _ by omega)⟩ rfl rfl (Or.inl rfl)) hin (fun k' i' hd h => enC_oth (gY_4 k' i' hd h)) dX9_init_137 (fun H locs hN hz hS => ?_)
    refine lv_iinc (v := nI t + 1) (lv' := [(1, .int (nI t + 1)), (0, .ref b)]) hx hb dX9_init_138 hl (k := 0) rfl rfl (by decide) rfl (fun ls hl => ?_)
    refine lv_goto (tgt := 120) hx hb dX9_init_141 (by decide) ?_
    exact ih _ _ _ ⟨by rw [← nI_1]; exact hl, hN, hS, hz.trans hsz⟩
  obtain ⟨hl, hN, hS, hsz⟩ := hP
  refine lv_iload_n hx hb dX9_init_120 rfl (lv_at hl 0 rfl) ?_
  refine lv_iconst (v := 4) hx hb dX9_init_121 (by decide) ?_
  refine lv_icmp_ge (x := nI 4) (y := 4) (tgt := 144) hx hb dX9_init_122 (by decide) (fun c_1 => ?_) (fun c_1 => absurd (show (4 : Int32) ≤ nI 4 by decide) c_1)
  refine lv_iconst (v := 0) hx hb dX9_init_144 (by decide) ?_
  refine lv_istore_n (lv' := [(1, .int (nI 0)), (0, .ref b)]) hx hb dX9_init_145 rfl hl (by decide) rfl (fun ls hl => ?_)
  refine lpC 4 (fun t H locs ls => lv_has ls 2 [(1, .int (nI t)), (0, .ref b)] ∧ nw D (enC C (gY 16 6 4 t 6 4 t t)) (domC (domY 0 0 0) offY (50 + 9 * t)) A (adC b s.heap.size offY) Y0 H ∧ va_S A s.heap H locs ∧ H.size = s.heap.size + (50 + 9 * t)) (fun t => 50 + 9 * t) (fun t => 355 + 53 * t) 146 (fun t H locs ls ht hP ih => ?_) (fun H locs ls hP => ?_) ⟨hl, hN, hS, hsz⟩
  · obtain ⟨hl, hN, hS, hsz⟩ := hP
    have hin : vp_in (nI t) 4 := vp_in_nI ht (by decide)
    have hcl : (nI t).toNatClampNeg = t := nI_clamp (by omega)
    refine lv_iload_n hx hb dX9_init_146 rfl (lv_at hl 0 rfl) ?_
    refine lv_iconst (v := 4) hx hb dX9_init_147 (by decide) ?_
    refine lv_icmp_ge (x := nI t) (y := 4) (tgt := 170) hx hb dX9_init_148 (by decide) (fun c_1 => absurd c_1 (by rw [show (4 : Int32) = nI 4 from rfl, nI_leI (by decide) (by omega)]; omega)) (fun c_1 => ?_)
    refine lv_aload_n hx hb dX9_init_151 rfl (lv_at hl 1 rfl) ?_
    refine nw_get S hK hN (k := 0) (i := 0) ⟨⟨by decide, rfl⟩, Or.inl rfl⟩ rfl rfl hin9 4 (by decide) (index := 35) (ref := "RidingYard") (List.mem_cons_of_mem _ (List.mem_append_left _ (List.mem_append_left _ (List.mem_append_left _ (List.mem_append_left _ (List.mem_append_left _ (List.mem_of_getElem? (i := 12) rfl))))))) (fun _ h => h) (v := .ref (adC b s.heap.size offY 5 0)) rfl dX9_init_152 ?_
    refine lv_iload_n hx hb dX9_init_155 rfl (lv_at hl 0 rfl) ?_
    refine nf_newO S hK plY hb0 hA2 hN hsz hS 16 t (inv16 ht) (by decide) rfl (ci := 5) (CN := RX5) (T := TX5) (N := 5) rfl hin5 tyX5 tyX5_ok (List.mem_cons_of_mem _ (List.mem_append_left _ (List.mem_append_left _ (List.mem_append_left _ (List.mem_append_left _ (List.mem_append_left _ (List.mem_of_getElem? (i := 11) rfl))))))) (List.mem_cons_of_mem _ (List.mem_append_left _ (List.mem_append_left _ (List.mem_append_left _ (List.mem_append_left _ (List.mem_append_right _ (List.mem_of_getElem? (i := 1) rfl))))))) (List.mem_cons_of_mem _ (List.mem_append_left _ (List.mem_append_left _ (List.mem_append_left _ (List.mem_append_left _ (List.mem_append_right _ (List.mem_of_getElem? (i := 2) rfl))))))) rfl (fun j hj => by
      rcases (show j = 0 ∨ j = 1 ∨ j = 2 ∨ j = 3 ∨ j = 4 by omega) with rfl | rfl | rfl | rfl | rfl
      · exact (bf_f (show decide (t < t) = false from decide_eq_false (Nat.lt_irrefl t))).symm
      · exact (bf_f (show decide (t < t) = false from decide_eq_false (Nat.lt_irrefl t))).symm
      all_goals rfl) (show 50 + 9 * t + 1 ≤ 86 by omega) (show 355 + 53 * t + 5 ≤ 567 by omega) dX9_init_156 (fun H hN hsz hS => ?_)
    refine lv_dup hx hb dX9_init_159 rfl ?_
    refine nwY_callN (As := []) (rest := [.ref (adC b s.heap.size offY 16 t), .int (nI t), .ref (adC b s.heap.size offY 5 0)]) S (kX5_init l D C A b s.heap.size t hb0 hA2 ht) ⟨va_cnB 0 hts gX9_init_X5_init_n62 rfl rfl rfl hK.2.2.2.1.2.2.1 (hts (.initialized RX5) (List.mem_cons_of_mem _ (List.mem_append_left _ (List.mem_append_left _ (List.mem_append_left _ (List.mem_append_left _ (List.mem_append_right _ (List.mem_of_getElem? (i := 2) rfl)))))))) (by decide +kernel) ⟨Nat.le_of_ble_eq_true rfl, Nat.le_of_ble_eq_true rfl⟩, rfl, hts (.instanceMethod yX5_init) (List.mem_cons_of_mem _ (List.mem_append_left _ (List.mem_append_left _ (List.mem_append_left _ (List.mem_append_left _ (List.mem_append_right _ (List.mem_of_getElem? (i := 12) rfl)))))))⟩ hK ⟨hsz, hN⟩ hA hS rfl hl.1 rfl (Nat.le_of_ble_eq_true rfl) dX9_init_160 ⟨show 50 + 9 * t + 1 + _ ≤ 86 by have := ht; omega, show 355 + 53 * t + 5 + _ ≤ 567 by have := ht; omega⟩ (fun H locs hN hS => ?_)
    obtain ⟨hsz, hN⟩ := hN
    refine nw_aastE (enC C (gY 16 6 4 (t + 1) 6 4 (t + 1) (t + 1))) S hK hN hS (k := 5) (i := 0) ⟨⟨by decide, rfl⟩, Or.inr (show 4 < _ by omega)⟩ 6 rfl rfl rfl (x := nI t) (b := adC b s.heap.size offY 16 t) (fun j hj => bo_up (ad := fun j => adC b s.heap.size offY 16 j) hcl) (nw_any hK hN (k := 16) (i := t) ⟨ht, Or.inr (show 50 + 9 * t < _ by omega)⟩ rfl rfl (Or.inl rfl)) hin (fun k' i' hd h => enC_oth (gY_5 k' i' hd h)) dX9_init_163 (fun H locs hN hz hS => ?_)
    refine lv_iinc (v := nI t + 1) (lv' := [(1, .int (nI t + 1)), (0, .ref b)]) hx hb dX9_init_164 hl (k := 0) rfl rfl (by decide) rfl (fun ls hl => ?_)
    refine lv_goto (tgt := 146) hx hb dX9_init_167 (by decide) ?_
    exact ih _ _ _ ⟨by rw [← nI_1]; exact hl, hN, hS, hz.trans hsz⟩
  obtain ⟨hl, hN, hS, hsz⟩ := hP
  refine lv_iload_n hx hb dX9_init_146 rfl (lv_at hl 0 rfl) ?_
  refine lv_iconst (v := 4) hx hb dX9_init_147 (by decide) ?_
  refine lv_icmp_ge (x := nI 4) (y := 4) (tgt := 170) hx hb dX9_init_148 (by decide) (fun c_1 => ?_) (fun c_1 => absurd (show (4 : Int32) ≤ nI 4 by decide) c_1)
  replace hN := convY hN
  exact W.vret hx hb hr (fun t ht _ => nw_end hS hN ht) hS.2.2 dX9_init_170
