set_option maxHeartbeats 4000000 in
set_option maxRecDepth 100000 in
theorem kX9_count (l : Launch) (D : va_G) (C : Nat → ClassId) (A : Nat → Prop) (ad : Nat → Nat → Nat) (nh nv na : Nat) (Y : Nat → Nat → Nat → Int32) (p0 : Int32) : Met l yX9_count wsX9_count ({ frames := 0, cells := 0, slots := 0, locals := 0 }) (va_Pc [.ref (ad 0 0), .int p0] (PW D C A (nw D (enY C) (domY nh nv na) A ad Y))) (nQ A (some (.int (fX9_count Y p0).1)) (nw D (enY C) (domY nh nv na) A ad (fX9_count Y p0).2)) 0 0 A := by
  refine Met.ofW (cc := cX9_count) (maxL := 2) (ret := (some .int)) (by decide) rfl ?_
  intro p e s m args below meth c s₁ B hml hv
  obtain ⟨rfl, hK, hN, hA⟩ := hv
  have hx := B.exec
  have hb := B.bytes
  have hr := B.returns
  have hts := atoms_spec (ws := wsX9_count) B.pre
  have hown : s.vm.findClass RX9 = some m.cls := findClass_of_methodNamed B.named
  have hlocks := B.notSynchronized
  have S : CallFix p m c cX9_count 2 s _ wsX9_count RX9 := ⟨hx, hb, hml, hown, hts⟩
  have hin9 : ∀ w ∈ wsX90, w ∈ wsX9_count := (fun _ h => List.mem_cons_of_mem _ (List.mem_append_right _ (h)))
  have hS : va_S A s.heap s.heap [] := va_S.rf
  have hl := lv_entry ([.ref (ad 0 0), .int p0]) (n := 2) (Nat.le_of_ble_eq_true rfl)
  rw [lg_entry_eq]
  generalize (lg_sl ([.ref (ad 0 0), .int p0]) ++ List.replicate (2 - (lg_sl ([.ref (ad 0 0), .int p0])).length) Slot.unset).toArray = ls at hl ⊢
  have hl : lv_has ls 2 [(0, .ref (ad 0 0)), (1, .int p0)] := hl
  refine lv_iload_n hx hb dX9_count_0 rfl (lv_at hl 1 rfl) ?_
  by_cases c_1 : p0 = 0
  · refine lv_tableIn (x := p0) (off := 35) (tgt := 36) hx hb dX9_count_1 (by rw [c_1]; decide) (by rw [c_1]; decide) (by rw [c_1]; rfl) (by decide) ?_
    refine lv_aload_n hx hb dX9_count_36 rfl (lv_at hl 0 rfl) ?_
    refine nw_get S hK hN (k := 0) (i := 0) ⟨by decide, rfl⟩ rfl rfl hin9 6 (by decide) (index := 68) (ref := "RidingYard") (List.mem_cons_of_mem _ (List.mem_append_left _ (List.mem_of_getElem? (i := 0) rfl))) (fun _ h => h) (v := .int (Y 0 0 6)) rfl dX9_count_37 ?_
    have hf : fX9_count Y p0 = (Y 0 0 6, Y) := by unfold fX9_count; rw [if_pos c_1]
    exact W.iret (v := Y 0 0 6) hx hb hr (fun t ht _ => by rw [hf]; exact nw_end hS hN ht) hS.2.2 dX9_count_40
  · by_cases c_2 : p0 = 1
    · refine lv_tableIn (x := p0) (off := 40) (tgt := 41) hx hb dX9_count_1 (by rw [c_2]; decide) (by rw [c_2]; decide) (by rw [c_2]; rfl) (by decide) ?_
      refine lv_aload_n hx hb dX9_count_41 rfl (lv_at hl 0 rfl) ?_
      refine nw_get S hK hN (k := 0) (i := 0) ⟨by decide, rfl⟩ rfl rfl hin9 7 (by decide) (index := 77) (ref := "RidingYard") (List.mem_cons_of_mem _ (List.mem_append_left _ (List.mem_of_getElem? (i := 1) rfl))) (fun _ h => h) (v := .int (Y 0 0 7)) rfl dX9_count_42 ?_
      have hf : fX9_count Y p0 = (Y 0 0 7, Y) := by unfold fX9_count; rw [if_neg c_1, if_pos c_2]
      exact W.iret (v := Y 0 0 7) hx hb hr (fun t ht _ => by rw [hf]; exact nw_end hS hN ht) hS.2.2 dX9_count_45
    · by_cases c_3 : p0 = 2
      · refine lv_tableIn (x := p0) (off := 45) (tgt := 46) hx hb dX9_count_1 (by rw [c_3]; decide) (by rw [c_3]; decide) (by rw [c_3]; rfl) (by decide) ?_
        refine lv_aload_n hx hb dX9_count_46 rfl (lv_at hl 0 rfl) ?_
        refine nw_get S hK hN (k := 0) (i := 0) ⟨by decide, rfl⟩ rfl rfl hin9 8 (by decide) (index := 110) (ref := "RidingYard") (List.mem_cons_of_mem _ (List.mem_append_left _ (List.mem_of_getElem? (i := 2) rfl))) (fun _ h => h) (v := .int (Y 0 0 8)) rfl dX9_count_47 ?_
        have hf : fX9_count Y p0 = (Y 0 0 8, Y) := by unfold fX9_count; rw [if_neg c_1, if_neg c_2, if_pos c_3]
        exact W.iret (v := Y 0 0 8) hx hb hr (fun t ht _ => by rw [hf]; exact nw_end hS hN ht) hS.2.2 dX9_count_50
      · by_cases c_4 : p0 = 3
        · refine lv_tableIn (x := p0) (off := 50) (tgt := 51) hx hb dX9_count_1 (by rw [c_4]; decide) (by rw [c_4]; decide) (by rw [c_4]; rfl) (by decide) ?_
          refine lv_aload_n hx hb dX9_count_51 rfl (lv_at hl 0 rfl) ?_
          refine nw_get S hK hN (k := 0) (i := 0) ⟨by decide, rfl⟩ rfl rfl hin9 10 (by decide) (index := 121) (ref := "RidingYard") (List.mem_cons_of_mem _ (List.mem_append_left _ (List.mem_of_getElem? (i := 3) rfl))) (fun _ h => h) (v := .int (Y 0 0 10)) rfl dX9_count_52 ?_
          have hf : fX9_count Y p0 = (Y 0 0 10, Y) := by unfold fX9_count; rw [if_neg c_1, if_neg c_2, if_neg c_3, if_pos c_4]
          exact W.iret (v := Y 0 0 10) hx hb hr (fun t ht _ => by rw [hf]; exact nw_end hS hN ht) hS.2.2 dX9_count_55
        · by_cases c_5 : p0 = 4
          · refine lv_tableIn (x := p0) (off := 55) (tgt := 56) hx hb dX9_count_1 (by rw [c_5]; decide) (by rw [c_5]; decide) (by rw [c_5]; rfl) (by decide) ?_
            refine lv_aload_n hx hb dX9_count_56 rfl (lv_at hl 0 rfl) ?_
            refine nw_get S hK hN (k := 0) (i := 0) ⟨by decide, rfl⟩ rfl rfl hin9 14 (by decide) (index := 149) (ref := "RidingYard") (List.mem_cons_of_mem _ (List.mem_append_left _ (List.mem_of_getElem? (i := 4) rfl))) (fun _ h => h) (v := .int (Y 0 0 14)) rfl dX9_count_57 ?_
            have hf : fX9_count Y p0 = (Y 0 0 14, Y) := by unfold fX9_count; rw [if_neg c_1, if_neg c_2, if_neg c_3, if_neg c_4, if_pos c_5]
            exact W.iret (v := Y 0 0 14) hx hb hr (fun t ht _ => by rw [hf]; exact nw_end hS hN ht) hS.2.2 dX9_count_60
          · refine lv_tableOut (x := p0) (tgt := 61) hx hb dX9_count_1 (by have q0 := lv_neT (a := 0) c_1 (by decide); have q1 := lv_neT (a := 1) c_2 (by decide); have q2 := lv_neT (a := 2) c_3 (by decide); have q3 := lv_neT (a := 3) c_4 (by decide); have q4 := lv_neT (a := 4) c_5 (by decide); omega) (by decide) ?_
            refine lv_iload_n hx hb dX9_count_61 rfl (lv_at hl 1 rfl) ?_
            refine lv_iconst (v := 5) hx hb dX9_count_62 (by decide) ?_
            refine lv_icmp_le (x := p0) (y := 5) (tgt := 72) hx hb dX9_count_63 (by decide) (fun c_6 => ?_) (fun c_6 => ?_)
            · refine lv_ldc (v := (-1000000002)) hx hb hown (hts (.constant RX9 152 (-1000000002)) (List.mem_cons_of_mem _ (List.mem_append_left _ (List.mem_of_getElem? (i := 5) rfl)))) dX9_count_72 ?_
              have hf : fX9_count Y p0 = ((-1000000002), Y) := by unfold fX9_count; rw [if_neg c_1, if_neg c_2, if_neg c_3, if_neg c_4, if_neg c_5, if_pos c_6]
              exact W.iret (v := (-1000000002)) hx hb hr (fun t ht _ => by rw [hf]; exact nw_end hS hN ht) hS.2.2 dX9_count_74
            · refine lv_iload_n hx hb dX9_count_66 rfl (lv_at hl 1 rfl) ?_
              refine lv_bipush (v := 11) hx hb dX9_count_67 (by decide) ?_
              refine lv_icmp_le (x := p0) (y := 11) (tgt := 75) hx hb dX9_count_69 (by decide) (fun c_7 => ?_) (fun c_7 => ?_)
              · refine lv_aload_n hx hb dX9_count_75 rfl (lv_at hl 0 rfl) ?_
                refine nw_get S hK hN (k := 0) (i := 0) ⟨by decide, rfl⟩ rfl rfl hin9 15 (by decide) (index := 57) (ref := "RidingYard") (List.mem_cons_of_mem _ (List.mem_append_left _ (List.mem_of_getElem? (i := 6) rfl))) (fun _ h => h) (v := .ref (ad 11 0)) rfl dX9_count_76 ?_
                refine lv_iload_n hx hb dX9_count_79 rfl (lv_at hl 1 rfl) ?_
                refine lv_iconst (v := 5) hx hb dX9_count_80 (by decide) ?_
                refine lv_isub hx hb dX9_count_81 ?_
                refine nw_iald S hK hN (k := 11) (i := 0) ⟨by decide, rfl⟩ rfl (x := p0 - 5) (cntY_in c_6 c_7) dX9_count_82 ?_
                have hf : fX9_count Y p0 = (Y 11 0 ((p0 - 5 : Int32).toNatClampNeg), Y) := by unfold fX9_count; rw [if_neg c_1, if_neg c_2, if_neg c_3, if_neg c_4, if_neg c_5, if_neg c_6, if_pos c_7]
                exact W.iret (v := Y 11 0 ((p0 - 5 : Int32).toNatClampNeg)) hx hb hr (fun t ht _ => by rw [hf]; exact nw_end hS hN ht) hS.2.2 dX9_count_83
              · refine lv_ldc (v := (-1000000002)) hx hb hown (hts (.constant RX9 152 (-1000000002)) (List.mem_cons_of_mem _ (List.mem_append_left _ (List.mem_of_getElem? (i := 5) rfl)))) dX9_count_72 ?_
                have hf : fX9_count Y p0 = ((-1000000002), Y) := by unfold fX9_count; rw [if_neg c_1, if_neg c_2, if_neg c_3, if_neg c_4, if_neg c_5, if_neg c_6, if_neg c_7]
                exact W.iret (v := (-1000000002)) hx hb hr (fun t ht _ => by rw [hf]; exact nw_end hS hN ht) hS.2.2 dX9_count_74
set_option maxHeartbeats 4000000 in
set_option maxRecDepth 100000 in
theorem kX9_lead (l : Launch) (D : va_G) (C : Nat → ClassId) (A : Nat → Prop) (ad : Nat → Nat → Nat) (nh nv na : Nat) (Y : Nat → Nat → Nat → Int32) (p0 p1 : Int32) (kk : Nat) (hI : InvY nh nv na kk Y) : Met l yX9_lead wsX9_lead ({ frames := 1, cells := 0, slots := 0, locals := 21 }) (va_Pc [.ref (ad 0 0), .int p0, .int p1] (PW D C A (nw D (enY C) (domY nh nv na) A ad Y))) (nQ A (some (.int (fX9_lead Y p0 p1).1)) (nw D (enY C) (domY nh nv na) A ad (fX9_lead Y p0 p1).2)) 0 0 A := by
  refine Met.ofW (cc := cX9_lead) (maxL := 3) (ret := (some .int)) (by decide) rfl ?_
  intro p e s m args below meth c s₁ B hml hv
  obtain ⟨rfl, hK, hN, hA⟩ := hv
  have hx := B.exec
  have hb := B.bytes
  have hr := B.returns
  have hts := atoms_spec (ws := wsX9_lead) B.pre
  have hown : s.vm.findClass RX9 = some m.cls := findClass_of_methodNamed B.named
  have hlocks := B.notSynchronized
  have S : CallFix p m c cX9_lead 3 s _ wsX9_lead RX9 := ⟨hx, hb, hml, hown, hts⟩
  have hin9 : ∀ w ∈ wsX90, w ∈ wsX9_lead := (fun _ h => List.mem_cons_of_mem _ (List.mem_append_right _ (h)))
  have hS : va_S A s.heap s.heap [] := va_S.rf
  have hl := lv_entry ([.ref (ad 0 0), .int p0, .int p1]) (n := 3) (Nat.le_of_ble_eq_true rfl)
  rw [lg_entry_eq]
  generalize (lg_sl ([.ref (ad 0 0), .int p0, .int p1]) ++ List.replicate (3 - (lg_sl ([.ref (ad 0 0), .int p0, .int p1])).length) Slot.unset).toArray = ls at hl ⊢
  have hl : lv_has ls 3 [(0, .ref (ad 0 0)), (1, .int p0), (2, .int p1)] := hl
  refine lv_iload_n hx hb dX9_lead_0 rfl (lv_at hl 1 rfl) ?_
  refine lv_bipush (v := 10) hx hb dX9_lead_1 (by decide) ?_
  refine nw_callS (As := [.int p0, .int 10]) (rest := []) S (kX9_within l p0 10) gX9_lead_X9_within rfl ⟨rfl, rfl⟩ hqX9_within ⟨Nat.le_of_ble_eq_true rfl, Nat.le_of_ble_eq_true rfl⟩ rfl hl.1 rfl (Nat.le_of_ble_eq_true rfl) dX9_lead_3 ⟨Nat.le_of_ble_eq_true rfl, Nat.le_of_ble_eq_true rfl⟩ ?_
  refine lv_if_eq (x := fX9_within p0 10) (tgt := 18) hx hb dX9_lead_6 (by decide) (fun c_1 => ?_) (fun c_1 => ?_)
  · refine lv_ldc (v := (-1000000001)) hx hb hown (hts (.constant RX9 67 (-1000000001)) (List.mem_cons_of_mem _ (List.mem_append_left _ (List.mem_of_getElem? (i := 0) rfl)))) dX9_lead_18 ?_
    have hf : fX9_lead Y p0 p1 = ((-1000000001), Y) := by unfold fX9_lead; rw [if_pos c_1]
    exact W.iret (v := (-1000000001)) hx hb hr (fun t ht _ => by rw [hf]; exact nw_end hS hN ht) hS.2.2 dX9_lead_20
  · refine lv_iload_n hx hb dX9_lead_9 rfl (lv_at hl 2 rfl) ?_
    refine lv_bipush (v := 6) hx hb dX9_lead_10 (by decide) ?_
    refine nw_callS (As := [.int p1, .int 6]) (rest := []) S (kX9_within l p1 6) gX9_lead_X9_within rfl ⟨rfl, rfl⟩ hqX9_within ⟨Nat.le_of_ble_eq_true rfl, Nat.le_of_ble_eq_true rfl⟩ rfl hl.1 rfl (Nat.le_of_ble_eq_true rfl) dX9_lead_12 ⟨Nat.le_of_ble_eq_true rfl, Nat.le_of_ble_eq_true rfl⟩ ?_
    refine lv_if_ne (x := fX9_within p1 6) (tgt := 21) hx hb dX9_lead_15 (by decide) (fun c_2 => ?_) (fun c_2 => ?_)
    · refine lv_aload_n hx hb dX9_lead_21 rfl (lv_at hl 0 rfl) ?_
      refine nw_get S hK hN (k := 0) (i := 0) ⟨by decide, rfl⟩ rfl rfl hin9 1 (by decide) (index := 17) (ref := "RidingYard") (List.mem_cons_of_mem _ (List.mem_append_left _ (List.mem_of_getElem? (i := 1) rfl))) (fun _ h => h) (v := .ref (ad 2 0)) rfl dX9_lead_22 ?_
      refine lv_iload_n hx hb dX9_lead_25 rfl (lv_at hl 2 rfl) ?_
      refine lv_aload_n hx hb dX9_lead_26 rfl (lv_at hl 0 rfl) ?_
      refine nw_get S hK hN (k := 0) (i := 0) ⟨by decide, rfl⟩ rfl rfl hin9 0 (by decide) (index := 11) (ref := "RidingYard") (List.mem_cons_of_mem _ (List.mem_append_left _ (List.mem_of_getElem? (i := 2) rfl))) (fun _ h => h) (v := .ref (ad 1 0)) rfl dX9_lead_27 ?_
      refine lv_iload_n hx hb dX9_lead_30 rfl (lv_at hl 1 rfl) ?_
      by_cases c_3 : (Y 1 0 ((p0 : Int32).toNatClampNeg)) < 0
      · refine nw_aald S hK hN (k := 1) (i := 0) ⟨by decide, rfl⟩ 2 rfl rfl rfl (x := p0) (wi_in c_1 (by decide)) dX9_lead_31 (v := .null) (oH_n c_3) ?_
        refine nw_aastN S hK hN hS (k := 2) (i := 0) ⟨by decide, rfl⟩ 3 rfl (g := oW ad) (fun _ => rfl) (x := p1) (Y 1 0 ((p0 : Int32).toNatClampNeg)) (oW_0 c_3) (wi_in c_2 (by decide)) dX9_lead_32 (fun H locs hN hz hS => ?_)
        refine lv_aload_n hx hb dX9_lead_33 rfl (lv_at hl 0 rfl) ?_
        refine nw_get S hK hN (k := 0) (i := 0) ⟨by decide, rfl⟩ rfl rfl hin9 0 (by decide) (index := 11) (ref := "RidingYard") (List.mem_cons_of_mem _ (List.mem_append_left _ (List.mem_of_getElem? (i := 2) rfl))) (fun _ h => h) (v := .ref (ad 1 0)) rfl dX9_lead_34 ?_
        refine lv_iload_n hx hb dX9_lead_37 rfl (lv_at hl 1 rfl) ?_
        refine nw_aald S hK hN (k := 1) (i := 0) ⟨by decide, rfl⟩ 2 rfl rfl rfl (x := p0) (wi_in c_1 (by decide)) dX9_lead_38 (v := .null) (oH_n c_3) ?_
        refine lv_ifnullN (tgt := 46) hx hb dX9_lead_39 (by decide) ?_
        refine lv_iconst (v := 0) hx hb dX9_lead_46 (by decide) ?_
        refine nw_callS (As := [.int 0]) (rest := []) S (kX9_oneIf l 0) gX9_lead_X9_oneIf rfl ⟨rfl, rfl⟩ hqX9_oneIf ⟨Nat.le_of_ble_eq_true rfl, Nat.le_of_ble_eq_true rfl⟩ rfl hl.1 rfl (Nat.le_of_ble_eq_true rfl) dX9_lead_47 ⟨Nat.le_of_ble_eq_true rfl, Nat.le_of_ble_eq_true rfl⟩ ?_
        have hf : fX9_lead Y p0 p1 = (fX9_oneIf 0, u3 Y 2 0 ((p1 : Int32).toNatClampNeg) (Y 1 0 ((p0 : Int32).toNatClampNeg))) := by unfold fX9_lead; rw [if_neg c_1, if_neg c_2, if_pos c_3]
        exact W.iret (v := fX9_oneIf 0) hx hb hr (fun t ht _ => by rw [hf]; exact nw_end hS hN ht) hS.2.2 dX9_lead_50
      · refine nw_aald S hK hN (k := 1) (i := 0) ⟨by decide, rfl⟩ 2 rfl rfl rfl (x := p0) (wi_in c_1 (by decide)) dX9_lead_31 (v := .ref (ad 20 ((Y 1 0 ((p0 : Int32).toNatClampNeg) : Int32).toNatClampNeg))) (oH_s c_3) ?_
        refine nw_aast S hK hN hS (k := 2) (i := 0) ⟨by decide, rfl⟩ 3 rfl (g := oW ad) (fun _ => rfl) (x := p1) (v := Y 1 0 ((p0 : Int32).toNatClampNeg)) (oW_1 c_3 (lt100 (vp_le (hI.stV (wi_in c_1 (by decide)) c_3) hI.le60))) ((nw_anyH hK hN (h := (Y 1 0 ((p0 : Int32).toNatClampNeg) : Int32).toNatClampNeg) (hI.st (wi_in c_1 (by decide)) c_3)).2) (wi_in c_2 (by decide)) dX9_lead_32 (fun H locs hN hz hS => ?_)
        refine lv_aload_n hx hb dX9_lead_33 rfl (lv_at hl 0 rfl) ?_
        refine nw_get S hK hN (k := 0) (i := 0) ⟨by decide, rfl⟩ rfl rfl hin9 0 (by decide) (index := 11) (ref := "RidingYard") (List.mem_cons_of_mem _ (List.mem_append_left _ (List.mem_of_getElem? (i := 2) rfl))) (fun _ h => h) (v := .ref (ad 1 0)) rfl dX9_lead_34 ?_
        refine lv_iload_n hx hb dX9_lead_37 rfl (lv_at hl 1 rfl) ?_
        refine nw_aald S hK hN (k := 1) (i := 0) ⟨by decide, rfl⟩ 2 rfl rfl rfl (x := p0) (wi_in c_1 (by decide)) dX9_lead_38 (v := .ref (ad 20 ((Y 1 0 ((p0 : Int32).toNatClampNeg) : Int32).toNatClampNeg))) (oH_s c_3) ?_
        refine lv_ifnull hx hb dX9_lead_39 ?_
        refine lv_iconst (v := 1) hx hb dX9_lead_42 (by decide) ?_
        refine lv_goto (tgt := 47) hx hb dX9_lead_43 (by decide) ?_
        refine nw_callS (As := [.int 1]) (rest := []) S (kX9_oneIf l 1) gX9_lead_X9_oneIf rfl ⟨rfl, rfl⟩ hqX9_oneIf ⟨Nat.le_of_ble_eq_true rfl, Nat.le_of_ble_eq_true rfl⟩ rfl hl.1 rfl (Nat.le_of_ble_eq_true rfl) dX9_lead_47 ⟨Nat.le_of_ble_eq_true rfl, Nat.le_of_ble_eq_true rfl⟩ ?_
        have hf : fX9_lead Y p0 p1 = (fX9_oneIf 1, u3 Y 2 0 ((p1 : Int32).toNatClampNeg) (Y 1 0 ((p0 : Int32).toNatClampNeg))) := by unfold fX9_lead; rw [if_neg c_1, if_neg c_2, if_neg c_3]
        exact W.iret (v := fX9_oneIf 1) hx hb hr (fun t ht _ => by rw [hf]; exact nw_end hS hN ht) hS.2.2 dX9_lead_50
    · refine lv_ldc (v := (-1000000001)) hx hb hown (hts (.constant RX9 67 (-1000000001)) (List.mem_cons_of_mem _ (List.mem_append_left _ (List.mem_of_getElem? (i := 0) rfl)))) dX9_lead_18 ?_
      have hf : fX9_lead Y p0 p1 = ((-1000000001), Y) := by unfold fX9_lead; rw [if_neg c_1, if_pos c_2]
      exact W.iret (v := (-1000000001)) hx hb hr (fun t ht _ => by rw [hf]; exact nw_end hS hN ht) hS.2.2 dX9_lead_20
set_option maxHeartbeats 4000000 in
set_option maxRecDepth 100000 in
theorem kX9_tear (l : Launch) (D : va_G) (C : Nat → ClassId) (A : Nat → Prop) (ad : Nat → Nat → Nat) (nh nv na : Nat) (Y : Nat → Nat → Nat → Int32) (p0 p1 : Int32) (kk : Nat) (hI : InvY nh nv na kk Y) : Met l yX9_tear wsX9_tear ({ frames := 1, cells := 0, slots := 0, locals := 21 }) (va_Pc [.ref (ad 0 0), .int p0, .int p1] (PW D C A (nw D (enY C) (domY nh nv na) A ad Y))) (nQ A (some (.int (fX9_tear Y p0 p1).1)) (nw D (enY C) (domY nh nv na) A ad (fX9_tear Y p0 p1).2)) 0 0 A := by
  refine Met.ofW (cc := cX9_tear) (maxL := 5) (ret := (some .int)) (by decide) rfl ?_
  intro p e s m args below meth c s₁ B hml hv
  obtain ⟨rfl, hK, hN, hA⟩ := hv
  have hx := B.exec
  have hb := B.bytes
  have hr := B.returns
  have hts := atoms_spec (ws := wsX9_tear) B.pre
  have hown : s.vm.findClass RX9 = some m.cls := findClass_of_methodNamed B.named
  have hlocks := B.notSynchronized
  have S : CallFix p m c cX9_tear 5 s _ wsX9_tear RX9 := ⟨hx, hb, hml, hown, hts⟩
  have hin9 : ∀ w ∈ wsX90, w ∈ wsX9_tear := (fun _ h => List.mem_cons_of_mem _ (List.mem_append_left _ (List.mem_append_right _ (h))))
  have hin5 : ∀ w ∈ wsX50, w ∈ wsX9_tear := (fun _ h => List.mem_cons_of_mem _ (List.mem_append_right _ (h)))
  have hS : va_S A s.heap s.heap [] := va_S.rf
  have hl := lv_entry ([.ref (ad 0 0), .int p0, .int p1]) (n := 5) (Nat.le_of_ble_eq_true rfl)
  rw [lg_entry_eq]
  generalize (lg_sl ([.ref (ad 0 0), .int p0, .int p1]) ++ List.replicate (5 - (lg_sl ([.ref (ad 0 0), .int p0, .int p1])).length) Slot.unset).toArray = ls at hl ⊢
  have hl : lv_has ls 5 [(0, .ref (ad 0 0)), (1, .int p0), (2, .int p1)] := hl
  refine lv_iload_n hx hb dX9_tear_0 rfl (lv_at hl 1 rfl) ?_
  refine lv_iconst (v := 4) hx hb dX9_tear_1 (by decide) ?_
  refine nw_callS (As := [.int p0, .int 4]) (rest := []) S (kX9_within l p0 4) gX9_tear_X9_within rfl ⟨rfl, rfl⟩ hqX9_within ⟨Nat.le_of_ble_eq_true rfl, Nat.le_of_ble_eq_true rfl⟩ rfl hl.1 rfl (Nat.le_of_ble_eq_true rfl) dX9_tear_2 ⟨Nat.le_of_ble_eq_true rfl, Nat.le_of_ble_eq_true rfl⟩ ?_
  refine lv_if_ne (x := fX9_within p0 4) (tgt := 11) hx hb dX9_tear_5 (by decide) (fun c_1 => ?_) (fun c_1 => ?_)
  · refine lv_aload_n hx hb dX9_tear_11 rfl (lv_at hl 0 rfl) ?_
    refine nw_get S hK hN (k := 0) (i := 0) ⟨by decide, rfl⟩ rfl rfl hin9 4 (by decide) (index := 35) (ref := "RidingYard") (List.mem_cons_of_mem _ (List.mem_append_left _ (List.mem_append_left _ (List.mem_of_getElem? (i := 1) rfl)))) (fun _ h => h) (v := .ref (ad 5 0)) rfl dX9_tear_12 ?_
    refine lv_iload_n hx hb dX9_tear_15 rfl (lv_at hl 1 rfl) ?_
    refine nw_aald S hK hN (k := 5) (i := 0) ⟨by decide, rfl⟩ 6 rfl rfl rfl (x := p0) (wi_in c_1 (by decide)) dX9_tear_16 (v := .ref (ad 16 ((p0 : Int32).toNatClampNeg))) rfl ?_
    refine lv_astore_n (lv' := [(3, .ref (ad 16 ((p0 : Int32).toNatClampNeg))), (0, .ref (ad 0 0)), (1, .int p0), (2, .int p1)]) hx hb dX9_tear_17 rfl hl (by decide) rfl (fun ls hl => ?_)
    refine lv_aload_n hx hb dX9_tear_18 rfl (lv_at hl 0 rfl) ?_
    refine nw_get S hK hN (k := 16) (i := ((p0 : Int32).toNatClampNeg)) (vp_lt (wi_in c_1 (by decide))) rfl rfl hin5 2 (by decide) (index := 99) (ref := "RidingYard$Table") (List.mem_cons_of_mem _ (List.mem_append_left _ (List.mem_append_left _ (List.mem_of_getElem? (i := 2) rfl)))) (fun _ h => h) (v := .int (Y 16 ((p0 : Int32).toNatClampNeg) 2)) rfl dX9_tear_19 ?_
    refine lv_if_eq (x := Y 16 ((p0 : Int32).toNatClampNeg) 2) (tgt := 36) hx hb dX9_tear_22 (by decide) (fun c_2 => ?_) (fun c_2 => ?_)
    · refine lv_ldc (v := (-1000000001)) hx hb hown (hts (.constant RX9 67 (-1000000001)) (List.mem_cons_of_mem _ (List.mem_append_left _ (List.mem_append_left _ (List.mem_of_getElem? (i := 0) rfl))))) dX9_tear_36 ?_
      have hf : fX9_tear Y p0 p1 = ((-1000000001), Y) := by unfold fX9_tear; rw [if_neg c_1, if_pos c_2]
      exact W.iret (v := (-1000000001)) hx hb hr (fun t ht _ => by rw [hf]; exact nw_end hS hN ht) hS.2.2 dX9_tear_38
    · refine lv_iload_n hx hb dX9_tear_25 rfl (lv_at hl 3 rfl) ?_
      refine lv_aload_n hx hb dX9_tear_26 rfl (lv_at hl 0 rfl) ?_
      refine nw_get S hK hN (k := 16) (i := ((p0 : Int32).toNatClampNeg)) (vp_lt (wi_in c_1 (by decide))) rfl rfl hin5 3 (by decide) (index := 103) (ref := "RidingYard$Table") (List.mem_cons_of_mem _ (List.mem_append_left _ (List.mem_append_left _ (List.mem_of_getElem? (i := 3) rfl)))) (fun _ h => h) (v := .int (Y 16 ((p0 : Int32).toNatClampNeg) 3)) rfl dX9_tear_27 ?_
      refine nw_callS (As := [.int p1, .int (Y 16 ((p0 : Int32).toNatClampNeg) 3)]) (rest := []) S (kX9_within l p1 (Y 16 ((p0 : Int32).toNatClampNeg) 3)) gX9_tear_X9_within rfl ⟨rfl, rfl⟩ hqX9_within ⟨Nat.le_of_ble_eq_true rfl, Nat.le_of_ble_eq_true rfl⟩ rfl hl.1 rfl (Nat.le_of_ble_eq_true rfl) dX9_tear_30 ⟨Nat.le_of_ble_eq_true rfl, Nat.le_of_ble_eq_true rfl⟩ ?_
      refine lv_if_ne (x := fX9_within p1 (Y 16 ((p0 : Int32).toNatClampNeg) 3)) (tgt := 39) hx hb dX9_tear_33 (by decide) (fun c_3 => ?_) (fun c_3 => ?_)
      · refine lv_aload_n hx hb dX9_tear_39 rfl (lv_at hl 0 rfl) ?_
        refine nw_get S hK hN (k := 16) (i := ((p0 : Int32).toNatClampNeg)) (vp_lt (wi_in c_1 (by decide))) rfl rfl hin5 1 (by decide) (index := 106) (ref := "RidingYard$Table") (List.mem_cons_of_mem _ (List.mem_append_left _ (List.mem_append_left _ (List.mem_of_getElem? (i := 4) rfl)))) (fun _ h => h) (v := .ref (ad 19 ((p0 : Int32).toNatClampNeg))) rfl dX9_tear_40 ?_
        refine lv_iload_n hx hb dX9_tear_43 rfl (lv_at hl 3 rfl) ?_
        refine nw_zald S hK hN (k := 19) (i := ((p0 : Int32).toNatClampNeg)) (vp_lt (wi_in c_1 (by decide))) rfl (x := p1) (hI.rb (vp_lt (wi_in c_1 (by decide))) c_3) dX9_tear_44 ?_
        refine lv_istore (lv' := [(4, .int (Y 19 ((p0 : Int32).toNatClampNeg) ((p1 : Int32).toNatClampNeg))), (3, .ref (ad 16 ((p0 : Int32).toNatClampNeg))), (0, .ref (ad 0 0)), (1, .int p0), (2, .int p1)]) hx hb dX9_tear_45 hl (by decide) rfl (fun ls hl => ?_)
        refine lv_aload_n hx hb dX9_tear_47 rfl (lv_at hl 1 rfl) ?_
        refine nw_get S hK hN (k := 16) (i := ((p0 : Int32).toNatClampNeg)) (vp_lt (wi_in c_1 (by decide))) rfl rfl hin5 1 (by decide) (index := 106) (ref := "RidingYard$Table") (List.mem_cons_of_mem _ (List.mem_append_left _ (List.mem_append_left _ (List.mem_of_getElem? (i := 4) rfl)))) (fun _ h => h) (v := .ref (ad 19 ((p0 : Int32).toNatClampNeg))) rfl dX9_tear_48 ?_
        refine lv_iload_n hx hb dX9_tear_51 rfl (lv_at hl 4 rfl) ?_
        refine lv_iconst (v := 0) hx hb dX9_tear_52 (by decide) ?_
        refine nw_zast S hK hN hS (k := 19) (i := ((p0 : Int32).toNatClampNeg)) (vp_lt (wi_in c_1 (by decide))) (fun _ => rfl) (x := p1) (v := 0) (hI.rb (vp_lt (wi_in c_1 (by decide))) c_3) rfl dX9_tear_53 (fun H locs hN hz hS => ?_)
        refine lv_iload hx hb dX9_tear_54 (lv_at hl 0 rfl) ?_
        refine nw_callS (As := [.int (Y 19 ((p0 : Int32).toNatClampNeg) ((p1 : Int32).toNatClampNeg))]) (rest := []) S (kX9_oneIf l (Y 19 ((p0 : Int32).toNatClampNeg) ((p1 : Int32).toNatClampNeg))) gX9_tear_X9_oneIf rfl ⟨rfl, rfl⟩ hqX9_oneIf ⟨Nat.le_of_ble_eq_true rfl, Nat.le_of_ble_eq_true rfl⟩ rfl hl.1 rfl (Nat.le_of_ble_eq_true rfl) dX9_tear_56 ⟨Nat.le_of_ble_eq_true rfl, Nat.le_of_ble_eq_true rfl⟩ ?_
        have hf : fX9_tear Y p0 p1 = (fX9_oneIf (Y 19 ((p0 : Int32).toNatClampNeg) ((p1 : Int32).toNatClampNeg)), u3 Y 19 ((p0 : Int32).toNatClampNeg) ((p1 : Int32).toNatClampNeg) 0) := by unfold fX9_tear; rw [if_neg c_1, if_neg c_2, if_neg c_3]
        exact W.iret (v := fX9_oneIf (Y 19 ((p0 : Int32).toNatClampNeg) ((p1 : Int32).toNatClampNeg))) hx hb hr (fun t ht _ => by rw [hf]; exact nw_end hS hN ht) hS.2.2 dX9_tear_59
      · refine lv_ldc (v := (-1000000001)) hx hb hown (hts (.constant RX9 67 (-1000000001)) (List.mem_cons_of_mem _ (List.mem_append_left _ (List.mem_append_left _ (List.mem_of_getElem? (i := 0) rfl))))) dX9_tear_36 ?_
        have hf : fX9_tear Y p0 p1 = ((-1000000001), Y) := by unfold fX9_tear; rw [if_neg c_1, if_neg c_2, if_pos c_3]
        exact W.iret (v := (-1000000001)) hx hb hr (fun t ht _ => by rw [hf]; exact nw_end hS hN ht) hS.2.2 dX9_tear_38
  · refine lv_ldc (v := (-1000000001)) hx hb hown (hts (.constant RX9 67 (-1000000001)) (List.mem_cons_of_mem _ (List.mem_append_left _ (List.mem_append_left _ (List.mem_of_getElem? (i := 0) rfl))))) dX9_tear_8 ?_
    have hf : fX9_tear Y p0 p1 = ((-1000000001), Y) := by unfold fX9_tear; rw [if_pos c_1]
    exact W.iret (v := (-1000000001)) hx hb hr (fun t ht _ => by rw [hf]; exact nw_end hS hN ht) hS.2.2 dX9_tear_10
set_option maxHeartbeats 4000000 in
set_option maxRecDepth 100000 in
theorem kX9_holdsSomething (l : Launch) (D : va_G) (C : Nat → ClassId) (A : Nat → Prop) (ad : Nat → Nat → Nat) (nh nv na : Nat) (Y : Nat → Nat → Nat → Int32) (p0 p1 : Int32) (kk : Nat) (hI : InvY nh nv na kk Y) (h0 : p0 = 0 → vp_in p1 10) (h1 : p0 = 1 → vp_in p1 6) (h2 : p0 = 2 → vp_in p1 6) (h3 : p0 = 3 → vp_in p1 4) (h4 : p0 = 4 → vp_in p1 4) (h5 : ¬ p0 = 0 → ¬ p0 = 1 → ¬ p0 = 2 → ¬ p0 = 3 → ¬ p0 = 4 → vp_in p1 6) : Met l yX9_holdsSomething wsX9_holdsSomething ({ frames := 0, cells := 0, slots := 0, locals := 0 }) (va_Pc [.ref (ad 0 0), .int p0, .int p1] (PW D C A (nw D (enY C) (domY nh nv na) A ad Y))) (nQ A (some (.int (fX9_holdsSomething Y p0 p1).1)) (nw D (enY C) (domY nh nv na) A ad (fX9_holdsSomething Y p0 p1).2)) 0 0 A := by
  refine Met.ofW (cc := cX9_holdsSomething) (maxL := 3) (ret := (some .boolean)) (by decide) rfl ?_
  intro p e s m args below meth c s₁ B hml hv
  obtain ⟨rfl, hK, hN, hA⟩ := hv
  have hx := B.exec
  have hb := B.bytes
  have hr := B.returns
  have hts := atoms_spec (ws := wsX9_holdsSomething) B.pre
  have hown : s.vm.findClass RX9 = some m.cls := findClass_of_methodNamed B.named
  have hlocks := B.notSynchronized
  have S : CallFix p m c cX9_holdsSomething 3 s _ wsX9_holdsSomething RX9 := ⟨hx, hb, hml, hown, hts⟩
  have hin9 : ∀ w ∈ wsX90, w ∈ wsX9_holdsSomething := (fun _ h => List.mem_cons_of_mem _ (List.mem_append_left _ (List.mem_append_left _ (List.mem_append_left _ (List.mem_append_right _ (h))))))
  have hin6 : ∀ w ∈ wsX60, w ∈ wsX9_holdsSomething := (fun _ h => List.mem_cons_of_mem _ (List.mem_append_left _ (List.mem_append_left _ (List.mem_append_right _ (h)))))
  have hin4 : ∀ w ∈ wsX40, w ∈ wsX9_holdsSomething := (fun _ h => List.mem_cons_of_mem _ (List.mem_append_left _ (List.mem_append_right _ (h))))
  have hin5 : ∀ w ∈ wsX50, w ∈ wsX9_holdsSomething := (fun _ h => List.mem_cons_of_mem _ (List.mem_append_right _ (h)))
  have hS : va_S A s.heap s.heap [] := va_S.rf
  have hl := lv_entry ([.ref (ad 0 0), .int p0, .int p1]) (n := 3) (Nat.le_of_ble_eq_true rfl)
  rw [lg_entry_eq]
  generalize (lg_sl ([.ref (ad 0 0), .int p0, .int p1]) ++ List.replicate (3 - (lg_sl ([.ref (ad 0 0), .int p0, .int p1])).length) Slot.unset).toArray = ls at hl ⊢
  have hl : lv_has ls 3 [(0, .ref (ad 0 0)), (1, .int p0), (2, .int p1)] := hl
  refine lv_iload_n hx hb dX9_holdsSomething_0 rfl (lv_at hl 1 rfl) ?_
  by_cases c_1 : p0 = 0
  · refine lv_tableIn (x := p0) (off := 35) (tgt := 36) hx hb dX9_holdsSomething_1 (by rw [c_1]; decide) (by rw [c_1]; decide) (by rw [c_1]; rfl) (by decide) ?_
    refine lv_aload_n hx hb dX9_holdsSomething_36 rfl (lv_at hl 0 rfl) ?_
    refine nw_get S hK hN (k := 0) (i := 0) ⟨by decide, rfl⟩ rfl rfl hin9 0 (by decide) (index := 11) (ref := "RidingYard") (List.mem_cons_of_mem _ (List.mem_append_left _ (List.mem_append_left _ (List.mem_append_left _ (List.mem_append_left _ (List.mem_of_getElem? (i := 0) rfl)))))) (fun _ h => h) (v := .ref (ad 1 0)) rfl dX9_holdsSomething_37 ?_
    refine lv_iload_n hx hb dX9_holdsSomething_40 rfl (lv_at hl 2 rfl) ?_
    by_cases c_2 : (Y 1 0 ((p1 : Int32).toNatClampNeg)) < 0
    · refine nw_aald S hK hN (k := 1) (i := 0) ⟨by decide, rfl⟩ 2 rfl rfl rfl (x := p1) (h0 c_1) dX9_holdsSomething_41 (v := .null) (oH_n c_2) ?_
      refine lv_ifnullN (tgt := 49) hx hb dX9_holdsSomething_42 (by decide) ?_
      refine lv_iconst (v := 0) hx hb dX9_holdsSomething_49 (by decide) ?_
      have hf : fX9_holdsSomething Y p0 p1 = (0, Y) := by unfold fX9_holdsSomething; rw [if_pos c_1, if_pos c_2]
      exact W.zret (v := 0) hx hb hr rfl (fun t ht _ => by rw [hf]; exact nw_end hS hN ht) hS.2.2 dX9_holdsSomething_50
    · refine nw_aald S hK hN (k := 1) (i := 0) ⟨by decide, rfl⟩ 2 rfl rfl rfl (x := p1) (h0 c_1) dX9_holdsSomething_41 (v := .ref (ad 20 ((Y 1 0 ((p1 : Int32).toNatClampNeg) : Int32).toNatClampNeg))) (oH_s c_2) ?_
      refine lv_ifnull hx hb dX9_holdsSomething_42 ?_
      refine lv_iconst (v := 1) hx hb dX9_holdsSomething_45 (by decide) ?_
      refine lv_goto (tgt := 50) hx hb dX9_holdsSomething_46 (by decide) ?_
      have hf : fX9_holdsSomething Y p0 p1 = (1, Y) := by unfold fX9_holdsSomething; rw [if_pos c_1, if_neg c_2]
      exact W.zret (v := 1) hx hb hr rfl (fun t ht _ => by rw [hf]; exact nw_end hS hN ht) hS.2.2 dX9_holdsSomething_50
  · by_cases c_3 : p0 = 1
    · refine lv_tableIn (x := p0) (off := 50) (tgt := 51) hx hb dX9_holdsSomething_1 (by rw [c_3]; decide) (by rw [c_3]; decide) (by rw [c_3]; rfl) (by decide) ?_
      refine lv_aload_n hx hb dX9_holdsSomething_51 rfl (lv_at hl 0 rfl) ?_
      refine nw_get S hK hN (k := 0) (i := 0) ⟨by decide, rfl⟩ rfl rfl hin9 1 (by decide) (index := 17) (ref := "RidingYard") (List.mem_cons_of_mem _ (List.mem_append_left _ (List.mem_append_left _ (List.mem_append_left _ (List.mem_append_left _ (List.mem_of_getElem? (i := 1) rfl)))))) (fun _ h => h) (v := .ref (ad 2 0)) rfl dX9_holdsSomething_52 ?_
      refine lv_iload_n hx hb dX9_holdsSomething_55 rfl (lv_at hl 2 rfl) ?_
      by_cases c_4 : (Y 2 0 ((p1 : Int32).toNatClampNeg)) < 0
      · refine nw_aald S hK hN (k := 2) (i := 0) ⟨by decide, rfl⟩ 3 rfl rfl rfl (x := p1) (h1 c_3) dX9_holdsSomething_56 (v := .null) (oW_n c_4) ?_
        refine lv_ifnullN (tgt := 64) hx hb dX9_holdsSomething_57 (by decide) ?_
        refine lv_iconst (v := 0) hx hb dX9_holdsSomething_64 (by decide) ?_
        have hf : fX9_holdsSomething Y p0 p1 = (0, Y) := by unfold fX9_holdsSomething; rw [if_neg c_1, if_pos c_3, if_pos c_4]
        exact W.zret (v := 0) hx hb hr rfl (fun t ht _ => by rw [hf]; exact nw_end hS hN ht) hS.2.2 dX9_holdsSomething_65
      · by_cases c_5 : (Y 2 0 ((p1 : Int32).toNatClampNeg)) < 100
        · refine nw_aald S hK hN (k := 2) (i := 0) ⟨by decide, rfl⟩ 3 rfl rfl rfl (x := p1) (h1 c_3) dX9_holdsSomething_56 (v := .ref (ad 20 ((Y 2 0 ((p1 : Int32).toNatClampNeg) : Int32).toNatClampNeg))) (oW_h c_4 c_5) ?_
          refine lv_ifnull hx hb dX9_holdsSomething_57 ?_
          refine lv_iconst (v := 1) hx hb dX9_holdsSomething_60 (by decide) ?_
          refine lv_goto (tgt := 65) hx hb dX9_holdsSomething_61 (by decide) ?_
          have hf : fX9_holdsSomething Y p0 p1 = (1, Y) := by unfold fX9_holdsSomething; rw [if_neg c_1, if_pos c_3, if_neg c_4, if_pos c_5]
          exact W.zret (v := 1) hx hb hr rfl (fun t ht _ => by rw [hf]; exact nw_end hS hN ht) hS.2.2 dX9_holdsSomething_65
        · refine nw_aald S hK hN (k := 2) (i := 0) ⟨by decide, rfl⟩ 3 rfl rfl rfl (x := p1) (h1 c_3) dX9_holdsSomething_56 (v := .ref (ad 21 ((Y 2 0 ((p1 : Int32).toNatClampNeg) : Int32).toNatClampNeg - 100))) (oW_w c_4 c_5) ?_
          refine lv_ifnull hx hb dX9_holdsSomething_57 ?_
          refine lv_iconst (v := 1) hx hb dX9_holdsSomething_60 (by decide) ?_
          refine lv_goto (tgt := 65) hx hb dX9_holdsSomething_61 (by decide) ?_
          have hf : fX9_holdsSomething Y p0 p1 = (1, Y) := by unfold fX9_holdsSomething; rw [if_neg c_1, if_pos c_3, if_neg c_4, if_neg c_5]
          exact W.zret (v := 1) hx hb hr rfl (fun t ht _ => by rw [hf]; exact nw_end hS hN ht) hS.2.2 dX9_holdsSomething_65
    · by_cases c_6 : p0 = 2
      · refine lv_tableIn (x := p0) (off := 65) (tgt := 66) hx hb dX9_holdsSomething_1 (by rw [c_6]; decide) (by rw [c_6]; decide) (by rw [c_6]; rfl) (by decide) ?_
        refine lv_aload_n hx hb dX9_holdsSomething_66 rfl (lv_at hl 0 rfl) ?_
        refine nw_get S hK hN (k := 0) (i := 0) ⟨by decide, rfl⟩ rfl rfl hin9 2 (by decide) (index := 23) (ref := "RidingYard") (List.mem_cons_of_mem _ (List.mem_append_left _ (List.mem_append_left _ (List.mem_append_left _ (List.mem_append_left _ (List.mem_of_getElem? (i := 2) rfl)))))) (fun _ h => h) (v := .ref (ad 3 0)) rfl dX9_holdsSomething_67 ?_
        refine lv_iload_n hx hb dX9_holdsSomething_70 rfl (lv_at hl 2 rfl) ?_
        refine nw_aald S hK hN (k := 3) (i := 0) ⟨by decide, rfl⟩ 4 rfl rfl rfl (x := p1) (h2 c_6) dX9_holdsSomething_71 (v := .ref (ad 12 ((p1 : Int32).toNatClampNeg))) rfl ?_
        refine nw_get S hK hN (k := 12) (i := ((p1 : Int32).toNatClampNeg)) (vp_lt (h2 c_6)) rfl rfl hin6 1 (by decide) (index := 160) (ref := "RidingYard$Team") (List.mem_cons_of_mem _ (List.mem_append_left _ (List.mem_append_left _ (List.mem_append_left _ (List.mem_append_left _ (List.mem_of_getElem? (i := 3) rfl)))))) (fun _ h => h) (v := .int (Y 12 ((p1 : Int32).toNatClampNeg) 1)) rfl dX9_holdsSomething_72 ?_
        have hf : fX9_holdsSomething Y p0 p1 = (Y 12 ((p1 : Int32).toNatClampNeg) 1, Y) := by unfold fX9_holdsSomething; rw [if_neg c_1, if_neg c_3, if_pos c_6]
        exact W.zret (v := Y 12 ((p1 : Int32).toNatClampNeg) 1) hx hb hr (zn_b (hI.zt (vp_lt (h2 c_6)))) (fun t ht _ => by rw [hf]; exact nw_end hS hN ht) hS.2.2 dX9_holdsSomething_75
      · by_cases c_7 : p0 = 3
        · refine lv_tableIn (x := p0) (off := 75) (tgt := 76) hx hb dX9_holdsSomething_1 (by rw [c_7]; decide) (by rw [c_7]; decide) (by rw [c_7]; rfl) (by decide) ?_
          refine lv_aload_n hx hb dX9_holdsSomething_76 rfl (lv_at hl 0 rfl) ?_
          refine nw_get S hK hN (k := 0) (i := 0) ⟨by decide, rfl⟩ rfl rfl hin9 3 (by decide) (index := 29) (ref := "RidingYard") (List.mem_cons_of_mem _ (List.mem_append_left _ (List.mem_append_left _ (List.mem_append_left _ (List.mem_append_left _ (List.mem_of_getElem? (i := 4) rfl)))))) (fun _ h => h) (v := .ref (ad 4 0)) rfl dX9_holdsSomething_77 ?_
          refine lv_iload_n hx hb dX9_holdsSomething_80 rfl (lv_at hl 2 rfl) ?_
          refine nw_aald S hK hN (k := 4) (i := 0) ⟨by decide, rfl⟩ 5 rfl rfl rfl (x := p1) (h3 c_7) dX9_holdsSomething_81 (v := .ref (ad 14 ((p1 : Int32).toNatClampNeg))) rfl ?_
          refine nw_get S hK hN (k := 14) (i := ((p1 : Int32).toNatClampNeg)) (vp_lt (h3 c_7)) rfl rfl hin4 1 (by decide) (index := 161) (ref := "RidingYard$Ledger") (List.mem_cons_of_mem _ (List.mem_append_left _ (List.mem_append_left _ (List.mem_append_left _ (List.mem_append_left _ (List.mem_of_getElem? (i := 5) rfl)))))) (fun _ h => h) (v := .int (Y 14 ((p1 : Int32).toNatClampNeg) 1)) rfl dX9_holdsSomething_82 ?_
          have hf : fX9_holdsSomething Y p0 p1 = (Y 14 ((p1 : Int32).toNatClampNeg) 1, Y) := by unfold fX9_holdsSomething; rw [if_neg c_1, if_neg c_3, if_neg c_6, if_pos c_7]
          exact W.zret (v := Y 14 ((p1 : Int32).toNatClampNeg) 1) hx hb hr (zn_b (hI.zl (vp_lt (h3 c_7)))) (fun t ht _ => by rw [hf]; exact nw_end hS hN ht) hS.2.2 dX9_holdsSomething_85
        · by_cases c_8 : p0 = 4
          · refine lv_tableIn (x := p0) (off := 85) (tgt := 86) hx hb dX9_holdsSomething_1 (by rw [c_8]; decide) (by rw [c_8]; decide) (by rw [c_8]; rfl) (by decide) ?_
            refine lv_aload_n hx hb dX9_holdsSomething_86 rfl (lv_at hl 0 rfl) ?_
            refine nw_get S hK hN (k := 0) (i := 0) ⟨by decide, rfl⟩ rfl rfl hin9 4 (by decide) (index := 35) (ref := "RidingYard") (List.mem_cons_of_mem _ (List.mem_append_left _ (List.mem_append_left _ (List.mem_append_left _ (List.mem_append_left _ (List.mem_of_getElem? (i := 6) rfl)))))) (fun _ h => h) (v := .ref (ad 5 0)) rfl dX9_holdsSomething_87 ?_
            refine lv_iload_n hx hb dX9_holdsSomething_90 rfl (lv_at hl 2 rfl) ?_
            refine nw_aald S hK hN (k := 5) (i := 0) ⟨by decide, rfl⟩ 6 rfl rfl rfl (x := p1) (h4 c_8) dX9_holdsSomething_91 (v := .ref (ad 16 ((p1 : Int32).toNatClampNeg))) rfl ?_
            refine nw_get S hK hN (k := 16) (i := ((p1 : Int32).toNatClampNeg)) (vp_lt (h4 c_8)) rfl rfl hin5 2 (by decide) (index := 99) (ref := "RidingYard$Table") (List.mem_cons_of_mem _ (List.mem_append_left _ (List.mem_append_left _ (List.mem_append_left _ (List.mem_append_left _ (List.mem_of_getElem? (i := 7) rfl)))))) (fun _ h => h) (v := .int (Y 16 ((p1 : Int32).toNatClampNeg) 2)) rfl dX9_holdsSomething_92 ?_
            have hf : fX9_holdsSomething Y p0 p1 = (Y 16 ((p1 : Int32).toNatClampNeg) 2, Y) := by unfold fX9_holdsSomething; rw [if_neg c_1, if_neg c_3, if_neg c_6, if_neg c_7, if_pos c_8]
            exact W.zret (v := Y 16 ((p1 : Int32).toNatClampNeg) 2) hx hb hr (zn_b (hI.zw (vp_lt (h4 c_8)))) (fun t ht _ => by rw [hf]; exact nw_end hS hN ht) hS.2.2 dX9_holdsSomething_95
          · refine lv_tableOut (x := p0) (tgt := 96) hx hb dX9_holdsSomething_1 (by have q0 := lv_neT (a := 0) c_1 (by decide); have q1 := lv_neT (a := 1) c_3 (by decide); have q2 := lv_neT (a := 2) c_6 (by decide); have q3 := lv_neT (a := 3) c_7 (by decide); have q4 := lv_neT (a := 4) c_8 (by decide); omega) (by decide) ?_
            refine lv_aload_n hx hb dX9_holdsSomething_96 rfl (lv_at hl 0 rfl) ?_
            refine nw_get S hK hN (k := 0) (i := 0) ⟨by decide, rfl⟩ rfl rfl hin9 5 (by decide) (index := 41) (ref := "RidingYard") (List.mem_cons_of_mem _ (List.mem_append_left _ (List.mem_append_left _ (List.mem_append_left _ (List.mem_append_left _ (List.mem_of_getElem? (i := 8) rfl)))))) (fun _ h => h) (v := .ref (ad 6 0)) rfl dX9_holdsSomething_97 ?_
            refine lv_iload_n hx hb dX9_holdsSomething_100 rfl (lv_at hl 2 rfl) ?_
            by_cases c_9 : (Y 6 0 ((p1 : Int32).toNatClampNeg)) < 0
            · refine nw_aald S hK hN (k := 6) (i := 0) ⟨by decide, rfl⟩ 7 rfl rfl rfl (x := p1) (h5 c_1 c_3 c_6 c_7 c_8) dX9_holdsSomething_101 (v := .null) (oA_n c_9) ?_
              refine lv_ifnullN (tgt := 109) hx hb dX9_holdsSomething_102 (by decide) ?_
              refine lv_iconst (v := 0) hx hb dX9_holdsSomething_109 (by decide) ?_
              have hf : fX9_holdsSomething Y p0 p1 = (0, Y) := by unfold fX9_holdsSomething; rw [if_neg c_1, if_neg c_3, if_neg c_6, if_neg c_7, if_neg c_8, if_pos c_9]
              exact W.zret (v := 0) hx hb hr rfl (fun t ht _ => by rw [hf]; exact nw_end hS hN ht) hS.2.2 dX9_holdsSomething_110
            · refine nw_aald S hK hN (k := 6) (i := 0) ⟨by decide, rfl⟩ 7 rfl rfl rfl (x := p1) (h5 c_1 c_3 c_6 c_7 c_8) dX9_holdsSomething_101 (v := .ref (ad 22 ((Y 6 0 ((p1 : Int32).toNatClampNeg) : Int32).toNatClampNeg))) (oA_s c_9) ?_
              refine lv_ifnull hx hb dX9_holdsSomething_102 ?_
              refine lv_iconst (v := 1) hx hb dX9_holdsSomething_105 (by decide) ?_
              refine lv_goto (tgt := 110) hx hb dX9_holdsSomething_106 (by decide) ?_
              have hf : fX9_holdsSomething Y p0 p1 = (1, Y) := by unfold fX9_holdsSomething; rw [if_neg c_1, if_neg c_3, if_neg c_6, if_neg c_7, if_neg c_8, if_neg c_9]
              exact W.zret (v := 1) hx hb hr rfl (fun t ht _ => by rw [hf]; exact nw_end hS hN ht) hS.2.2 dX9_holdsSomething_110
set_option maxHeartbeats 4000000 in
set_option maxRecDepth 100000 in
theorem kX9_takeAway (l : Launch) (D : va_G) (C : Nat → ClassId) (A : Nat → Prop) (ad : Nat → Nat → Nat) (nh nv na : Nat) (Y : Nat → Nat → Nat → Int32) (p0 p1 : Int32) (h0 : p0 = 0 → vp_in p1 10) (h1 : p0 = 1 → vp_in p1 6) (h2 : p0 = 2 → vp_in p1 6) (h3 : p0 = 3 → vp_in p1 4) (h4 : p0 = 4 → vp_in p1 4) (h5 : ¬ p0 = 0 → ¬ p0 = 1 → ¬ p0 = 2 → ¬ p0 = 3 → ¬ p0 = 4 → vp_in p1 6) : Met l yX9_takeAway wsX9_takeAway ({ frames := 0, cells := 0, slots := 0, locals := 0 }) (va_Pc [.ref (ad 0 0), .int p0, .int p1] (PW D C A (nw D (enY C) (domY nh nv na) A ad Y))) (nQ A none (nw D (enY C) (domY nh nv na) A ad (fX9_takeAway Y p0 p1))) 0 0 A := by
  refine Met.ofW (cc := cX9_takeAway) (maxL := 3) (ret := none) (by decide) rfl ?_
  intro p e s m args below meth c s₁ B hml hv
  obtain ⟨rfl, hK, hN, hA⟩ := hv
  have hx := B.exec
  have hb := B.bytes
  have hr := B.returns
  have hts := atoms_spec (ws := wsX9_takeAway) B.pre
  have hown : s.vm.findClass RX9 = some m.cls := findClass_of_methodNamed B.named
  have hlocks := B.notSynchronized
  have S : CallFix p m c cX9_takeAway 3 s _ wsX9_takeAway RX9 := ⟨hx, hb, hml, hown, hts⟩
  have hin9 : ∀ w ∈ wsX90, w ∈ wsX9_takeAway := (fun _ h => List.mem_cons_of_mem _ (List.mem_append_left _ (List.mem_append_left _ (List.mem_append_left _ (List.mem_append_right _ (h))))))
  have hin6 : ∀ w ∈ wsX60, w ∈ wsX9_takeAway := (fun _ h => List.mem_cons_of_mem _ (List.mem_append_left _ (List.mem_append_left _ (List.mem_append_right _ (h)))))
  have hin4 : ∀ w ∈ wsX40, w ∈ wsX9_takeAway := (fun _ h => List.mem_cons_of_mem _ (List.mem_append_left _ (List.mem_append_right _ (h))))
  have hin5 : ∀ w ∈ wsX50, w ∈ wsX9_takeAway := (fun _ h => List.mem_cons_of_mem _ (List.mem_append_right _ (h)))
  have hS : va_S A s.heap s.heap [] := va_S.rf
  have hl := lv_entry ([.ref (ad 0 0), .int p0, .int p1]) (n := 3) (Nat.le_of_ble_eq_true rfl)
  rw [lg_entry_eq]
  generalize (lg_sl ([.ref (ad 0 0), .int p0, .int p1]) ++ List.replicate (3 - (lg_sl ([.ref (ad 0 0), .int p0, .int p1])).length) Slot.unset).toArray = ls at hl ⊢
  have hl : lv_has ls 3 [(0, .ref (ad 0 0)), (1, .int p0), (2, .int p1)] := hl
  refine lv_iload_n hx hb dX9_takeAway_0 rfl (lv_at hl 1 rfl) ?_
  by_cases c_1 : p0 = 0
  · refine lv_tableIn (x := p0) (off := 35) (tgt := 36) hx hb dX9_takeAway_1 (by rw [c_1]; decide) (by rw [c_1]; decide) (by rw [c_1]; rfl) (by decide) ?_
    refine lv_aload_n hx hb dX9_takeAway_36 rfl (lv_at hl 0 rfl) ?_
    refine nw_get S hK hN (k := 0) (i := 0) ⟨by decide, rfl⟩ rfl rfl hin9 0 (by decide) (index := 11) (ref := "RidingYard") (List.mem_cons_of_mem _ (List.mem_append_left _ (List.mem_append_left _ (List.mem_append_left _ (List.mem_append_left _ (List.mem_of_getElem? (i := 0) rfl)))))) (fun _ h => h) (v := .ref (ad 1 0)) rfl dX9_takeAway_37 ?_
    refine lv_iload_n hx hb dX9_takeAway_40 rfl (lv_at hl 2 rfl) ?_
    refine lv_null hx hb dX9_takeAway_41 ?_
    refine nw_aastN S hK hN hS (k := 1) (i := 0) ⟨by decide, rfl⟩ 2 rfl (g := oH ad) (fun _ => rfl) (x := p1) (-1) (oH_m1 ad) (h0 c_1) dX9_takeAway_42 (fun H locs hN hz hS => ?_)
    refine lv_goto (tgt := 102) hx hb dX9_takeAway_43 (by decide) ?_
    have hf : fX9_takeAway Y p0 p1 = u3 Y 1 0 ((p1 : Int32).toNatClampNeg) (-1) := by unfold fX9_takeAway; rw [if_pos c_1]
    exact W.vret hx hb hr (fun t ht _ => by rw [hf]; exact nw_end hS hN ht) hS.2.2 dX9_takeAway_102
  · by_cases c_2 : p0 = 1
    · refine lv_tableIn (x := p0) (off := 45) (tgt := 46) hx hb dX9_takeAway_1 (by rw [c_2]; decide) (by rw [c_2]; decide) (by rw [c_2]; rfl) (by decide) ?_
      refine lv_aload_n hx hb dX9_takeAway_46 rfl (lv_at hl 0 rfl) ?_
      refine nw_get S hK hN (k := 0) (i := 0) ⟨by decide, rfl⟩ rfl rfl hin9 1 (by decide) (index := 17) (ref := "RidingYard") (List.mem_cons_of_mem _ (List.mem_append_left _ (List.mem_append_left _ (List.mem_append_left _ (List.mem_append_left _ (List.mem_of_getElem? (i := 1) rfl)))))) (fun _ h => h) (v := .ref (ad 2 0)) rfl dX9_takeAway_47 ?_
      refine lv_iload_n hx hb dX9_takeAway_50 rfl (lv_at hl 2 rfl) ?_
      refine lv_null hx hb dX9_takeAway_51 ?_
      refine nw_aastN S hK hN hS (k := 2) (i := 0) ⟨by decide, rfl⟩ 3 rfl (g := oW ad) (fun _ => rfl) (x := p1) (-1) (oW_m1 ad) (h1 c_2) dX9_takeAway_52 (fun H locs hN hz hS => ?_)
      refine lv_goto (tgt := 102) hx hb dX9_takeAway_53 (by decide) ?_
      have hf : fX9_takeAway Y p0 p1 = u3 Y 2 0 ((p1 : Int32).toNatClampNeg) (-1) := by unfold fX9_takeAway; rw [if_neg c_1, if_pos c_2]
      exact W.vret hx hb hr (fun t ht _ => by rw [hf]; exact nw_end hS hN ht) hS.2.2 dX9_takeAway_102
    · by_cases c_3 : p0 = 2
      · refine lv_tableIn (x := p0) (off := 55) (tgt := 56) hx hb dX9_takeAway_1 (by rw [c_3]; decide) (by rw [c_3]; decide) (by rw [c_3]; rfl) (by decide) ?_
        refine lv_aload_n hx hb dX9_takeAway_56 rfl (lv_at hl 0 rfl) ?_
        refine nw_get S hK hN (k := 0) (i := 0) ⟨by decide, rfl⟩ rfl rfl hin9 2 (by decide) (index := 23) (ref := "RidingYard") (List.mem_cons_of_mem _ (List.mem_append_left _ (List.mem_append_left _ (List.mem_append_left _ (List.mem_append_left _ (List.mem_of_getElem? (i := 2) rfl)))))) (fun _ h => h) (v := .ref (ad 3 0)) rfl dX9_takeAway_57 ?_
        refine lv_iload_n hx hb dX9_takeAway_60 rfl (lv_at hl 2 rfl) ?_
        refine nw_aald S hK hN (k := 3) (i := 0) ⟨by decide, rfl⟩ 4 rfl rfl rfl (x := p1) (h2 c_3) dX9_takeAway_61 (v := .ref (ad 12 ((p1 : Int32).toNatClampNeg))) rfl ?_
        refine lv_iconst (v := 0) hx hb dX9_takeAway_62 (by decide) ?_
        refine nw_put S hK hN hS (k := 12) (i := ((p1 : Int32).toNatClampNeg)) (vp_lt (h2 c_3)) rfl rfl hin6 tyX6_ok nmX6 1 (by decide) (index := 160) (ref := "RidingYard$Team") (List.mem_cons_of_mem _ (List.mem_append_left _ (List.mem_append_left _ (List.mem_append_left _ (List.mem_append_left _ (List.mem_of_getElem? (i := 3) rfl)))))) (fun _ h => h) rfl 0 rfl rfl rfl (Nat.le_of_ble_eq_true rfl) dX9_takeAway_63 (fun H locs hN hz hS => ?_)
        refine lv_goto (tgt := 102) hx hb dX9_takeAway_66 (by decide) ?_
        have hf : fX9_takeAway Y p0 p1 = u3 Y 12 ((p1 : Int32).toNatClampNeg) 1 0 := by unfold fX9_takeAway; rw [if_neg c_1, if_neg c_2, if_pos c_3]
        exact W.vret hx hb hr (fun t ht _ => by rw [hf]; exact nw_end hS hN ht) hS.2.2 dX9_takeAway_102
      · by_cases c_4 : p0 = 3
        · refine lv_tableIn (x := p0) (off := 68) (tgt := 69) hx hb dX9_takeAway_1 (by rw [c_4]; decide) (by rw [c_4]; decide) (by rw [c_4]; rfl) (by decide) ?_
          refine lv_aload_n hx hb dX9_takeAway_69 rfl (lv_at hl 0 rfl) ?_
          refine nw_get S hK hN (k := 0) (i := 0) ⟨by decide, rfl⟩ rfl rfl hin9 3 (by decide) (index := 29) (ref := "RidingYard") (List.mem_cons_of_mem _ (List.mem_append_left _ (List.mem_append_left _ (List.mem_append_left _ (List.mem_append_left _ (List.mem_of_getElem? (i := 4) rfl)))))) (fun _ h => h) (v := .ref (ad 4 0)) rfl dX9_takeAway_70 ?_
          refine lv_iload_n hx hb dX9_takeAway_73 rfl (lv_at hl 2 rfl) ?_
          refine nw_aald S hK hN (k := 4) (i := 0) ⟨by decide, rfl⟩ 5 rfl rfl rfl (x := p1) (h3 c_4) dX9_takeAway_74 (v := .ref (ad 14 ((p1 : Int32).toNatClampNeg))) rfl ?_
          refine lv_iconst (v := 0) hx hb dX9_takeAway_75 (by decide) ?_
          refine nw_put S hK hN hS (k := 14) (i := ((p1 : Int32).toNatClampNeg)) (vp_lt (h3 c_4)) rfl rfl hin4 tyX4_ok nmX4 1 (by decide) (index := 161) (ref := "RidingYard$Ledger") (List.mem_cons_of_mem _ (List.mem_append_left _ (List.mem_append_left _ (List.mem_append_left _ (List.mem_append_left _ (List.mem_of_getElem? (i := 5) rfl)))))) (fun _ h => h) rfl 0 rfl rfl rfl (Nat.le_of_ble_eq_true rfl) dX9_takeAway_76 (fun H locs hN hz hS => ?_)
          refine lv_goto (tgt := 102) hx hb dX9_takeAway_79 (by decide) ?_
          have hf : fX9_takeAway Y p0 p1 = u3 Y 14 ((p1 : Int32).toNatClampNeg) 1 0 := by unfold fX9_takeAway; rw [if_neg c_1, if_neg c_2, if_neg c_3, if_pos c_4]
          exact W.vret hx hb hr (fun t ht _ => by rw [hf]; exact nw_end hS hN ht) hS.2.2 dX9_takeAway_102
        · by_cases c_5 : p0 = 4
          · refine lv_tableIn (x := p0) (off := 81) (tgt := 82) hx hb dX9_takeAway_1 (by rw [c_5]; decide) (by rw [c_5]; decide) (by rw [c_5]; rfl) (by decide) ?_
            refine lv_aload_n hx hb dX9_takeAway_82 rfl (lv_at hl 0 rfl) ?_
            refine nw_get S hK hN (k := 0) (i := 0) ⟨by decide, rfl⟩ rfl rfl hin9 4 (by decide) (index := 35) (ref := "RidingYard") (List.mem_cons_of_mem _ (List.mem_append_left _ (List.mem_append_left _ (List.mem_append_left _ (List.mem_append_left _ (List.mem_of_getElem? (i := 6) rfl)))))) (fun _ h => h) (v := .ref (ad 5 0)) rfl dX9_takeAway_83 ?_
            refine lv_iload_n hx hb dX9_takeAway_86 rfl (lv_at hl 2 rfl) ?_
            refine nw_aald S hK hN (k := 5) (i := 0) ⟨by decide, rfl⟩ 6 rfl rfl rfl (x := p1) (h4 c_5) dX9_takeAway_87 (v := .ref (ad 16 ((p1 : Int32).toNatClampNeg))) rfl ?_
            refine lv_iconst (v := 0) hx hb dX9_takeAway_88 (by decide) ?_
            refine nw_put S hK hN hS (k := 16) (i := ((p1 : Int32).toNatClampNeg)) (vp_lt (h4 c_5)) rfl rfl hin5 tyX5_ok nmX5 2 (by decide) (index := 99) (ref := "RidingYard$Table") (List.mem_cons_of_mem _ (List.mem_append_left _ (List.mem_append_left _ (List.mem_append_left _ (List.mem_append_left _ (List.mem_of_getElem? (i := 7) rfl)))))) (fun _ h => h) rfl 0 rfl rfl rfl (Nat.le_of_ble_eq_true rfl) dX9_takeAway_89 (fun H locs hN hz hS => ?_)
            refine lv_goto (tgt := 102) hx hb dX9_takeAway_92 (by decide) ?_
            have hf : fX9_takeAway Y p0 p1 = u3 Y 16 ((p1 : Int32).toNatClampNeg) 2 0 := by unfold fX9_takeAway; rw [if_neg c_1, if_neg c_2, if_neg c_3, if_neg c_4, if_pos c_5]
            exact W.vret hx hb hr (fun t ht _ => by rw [hf]; exact nw_end hS hN ht) hS.2.2 dX9_takeAway_102
          · refine lv_tableOut (x := p0) (tgt := 95) hx hb dX9_takeAway_1 (by have q0 := lv_neT (a := 0) c_1 (by decide); have q1 := lv_neT (a := 1) c_2 (by decide); have q2 := lv_neT (a := 2) c_3 (by decide); have q3 := lv_neT (a := 3) c_4 (by decide); have q4 := lv_neT (a := 4) c_5 (by decide); omega) (by decide) ?_
            refine lv_aload_n hx hb dX9_takeAway_95 rfl (lv_at hl 0 rfl) ?_
            refine nw_get S hK hN (k := 0) (i := 0) ⟨by decide, rfl⟩ rfl rfl hin9 5 (by decide) (index := 41) (ref := "RidingYard") (List.mem_cons_of_mem _ (List.mem_append_left _ (List.mem_append_left _ (List.mem_append_left _ (List.mem_append_left _ (List.mem_of_getElem? (i := 8) rfl)))))) (fun _ h => h) (v := .ref (ad 6 0)) rfl dX9_takeAway_96 ?_
            refine lv_iload_n hx hb dX9_takeAway_99 rfl (lv_at hl 2 rfl) ?_
            refine lv_null hx hb dX9_takeAway_100 ?_
            refine nw_aastN S hK hN hS (k := 6) (i := 0) ⟨by decide, rfl⟩ 7 rfl (g := oA ad) (fun _ => rfl) (x := p1) (-1) (oA_m1 ad) (h5 c_1 c_2 c_3 c_4 c_5) dX9_takeAway_101 (fun H locs hN hz hS => ?_)
            have hf : fX9_takeAway Y p0 p1 = u3 Y 6 0 ((p1 : Int32).toNatClampNeg) (-1) := by unfold fX9_takeAway; rw [if_neg c_1, if_neg c_2, if_neg c_3, if_neg c_4, if_neg c_5]
            exact W.vret hx hb hr (fun t ht _ => by rw [hf]; exact nw_end hS hN ht) hS.2.2 dX9_takeAway_102
