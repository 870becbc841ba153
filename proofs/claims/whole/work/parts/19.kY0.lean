set_option maxHeartbeats 4000000 in
set_option maxRecDepth 100000 in
theorem kX2_kindNumber (l : Launch) (D : va_G) (C : Nat → ClassId) (A : Nat → Prop) (ad : Nat → Nat → Nat) (nh nv na : Nat) (Y : Nat → Nat → Nat → Int32) (i0 : Nat) (hd0 : domY nh nv na 20 i0) : Met l yX2_kindNumber wsX2_kindNumber ({ frames := 0, cells := 0, slots := 0, locals := 0 }) (va_Pc [.ref (ad 20 i0)] (PW D C A (nw D (enY C) (domY nh nv na) A ad Y))) (nQ A (some (.int (fX2_kindNumber Y i0).1)) (nw D (enY C) (domY nh nv na) A ad (fX2_kindNumber Y i0).2)) 0 0 A := by
  refine Met.ofW (cc := cX2_kindNumber) (maxL := 1) (ret := (some .int)) (by decide) rfl ?_
  intro p e s m args below meth c s₁ B hml hv
  obtain ⟨rfl, hK, hN, hA⟩ := hv
  have hx := B.exec
  have hb := B.bytes
  have hr := B.returns
  have hts := atoms_spec (ws := wsX2_kindNumber) B.pre
  have hown : s.vm.findClass RX2 = some m.cls := findClass_of_methodNamed B.named
  have hlocks := B.notSynchronized
  have S : CallFix p m c cX2_kindNumber 1 s _ wsX2_kindNumber RX2 := ⟨hx, hb, hml, hown, hts⟩
  have hS : va_S A s.heap s.heap [] := va_S.rf
  have hl := lv_entry ([.ref (ad 20 i0)]) (n := 1) (Nat.le_of_ble_eq_true rfl)
  rw [lg_entry_eq]
  generalize (lg_sl ([.ref (ad 20 i0)]) ++ List.replicate (1 - (lg_sl ([.ref (ad 20 i0)])).length) Slot.unset).toArray = ls at hl ⊢
  have hl : lv_has ls 1 [(0, .ref (ad 20 i0))] := hl
  refine lv_iconst (v := 0) hx hb dX2_kindNumber_0 (by decide) ?_
  have hf : fX2_kindNumber Y i0 = (0, Y) := rfl
  exact W.iret (v := 0) hx hb hr (fun t ht _ => by rw [hf]; exact nw_end hS hN ht) hS.2.2 dX2_kindNumber_1
set_option maxHeartbeats 4000000 in
set_option maxRecDepth 100000 in
theorem kX1_kindNumber (l : Launch) (D : va_G) (C : Nat → ClassId) (A : Nat → Prop) (ad : Nat → Nat → Nat) (nh nv na : Nat) (Y : Nat → Nat → Nat → Int32) (i0 : Nat) (hd0 : domY nh nv na 20 i0) : Met l yX1_kindNumber wsX1_kindNumber ({ frames := 0, cells := 0, slots := 0, locals := 0 }) (va_Pc [.ref (ad 20 i0)] (PW D C A (nw D (enY C) (domY nh nv na) A ad Y))) (nQ A (some (.int (fX1_kindNumber Y i0).1)) (nw D (enY C) (domY nh nv na) A ad (fX1_kindNumber Y i0).2)) 0 0 A := by
  refine Met.ofW (cc := cX1_kindNumber) (maxL := 1) (ret := (some .int)) (by decide) rfl ?_
  intro p e s m args below meth c s₁ B hml hv
  obtain ⟨rfl, hK, hN, hA⟩ := hv
  have hx := B.exec
  have hb := B.bytes
  have hr := B.returns
  have hts := atoms_spec (ws := wsX1_kindNumber) B.pre
  have hown : s.vm.findClass RX1 = some m.cls := findClass_of_methodNamed B.named
  have hlocks := B.notSynchronized
  have S : CallFix p m c cX1_kindNumber 1 s _ wsX1_kindNumber RX1 := ⟨hx, hb, hml, hown, hts⟩
  have hS : va_S A s.heap s.heap [] := va_S.rf
  have hl := lv_entry ([.ref (ad 20 i0)]) (n := 1) (Nat.le_of_ble_eq_true rfl)
  rw [lg_entry_eq]
  generalize (lg_sl ([.ref (ad 20 i0)]) ++ List.replicate (1 - (lg_sl ([.ref (ad 20 i0)])).length) Slot.unset).toArray = ls at hl ⊢
  have hl : lv_has ls 1 [(0, .ref (ad 20 i0))] := hl
  refine lv_iconst (v := 1) hx hb dX1_kindNumber_0 (by decide) ?_
  have hf : fX1_kindNumber Y i0 = (1, Y) := rfl
  exact W.iret (v := 1) hx hb hr (fun t ht _ => by rw [hf]; exact nw_end hS hN ht) hS.2.2 dX1_kindNumber_1
set_option maxHeartbeats 4000000 in
set_option maxRecDepth 100000 in
theorem kX3_kindNumber (l : Launch) (D : va_G) (C : Nat → ClassId) (A : Nat → Prop) (ad : Nat → Nat → Nat) (nh nv na : Nat) (Y : Nat → Nat → Nat → Int32) (i0 : Nat) (hd0 : domY nh nv na 20 i0) : Met l yX3_kindNumber wsX3_kindNumber ({ frames := 0, cells := 0, slots := 0, locals := 0 }) (va_Pc [.ref (ad 20 i0)] (PW D C A (nw D (enY C) (domY nh nv na) A ad Y))) (nQ A (some (.int (fX3_kindNumber Y i0).1)) (nw D (enY C) (domY nh nv na) A ad (fX3_kindNumber Y i0).2)) 0 0 A := by
  refine Met.ofW (cc := cX3_kindNumber) (maxL := 1) (ret := (some .int)) (by decide) rfl ?_
  intro p e s m args below meth c s₁ B hml hv
  obtain ⟨rfl, hK, hN, hA⟩ := hv
  have hx := B.exec
  have hb := B.bytes
  have hr := B.returns
  have hts := atoms_spec (ws := wsX3_kindNumber) B.pre
  have hown : s.vm.findClass RX3 = some m.cls := findClass_of_methodNamed B.named
  have hlocks := B.notSynchronized
  have S : CallFix p m c cX3_kindNumber 1 s _ wsX3_kindNumber RX3 := ⟨hx, hb, hml, hown, hts⟩
  have hS : va_S A s.heap s.heap [] := va_S.rf
  have hl := lv_entry ([.ref (ad 20 i0)]) (n := 1) (Nat.le_of_ble_eq_true rfl)
  rw [lg_entry_eq]
  generalize (lg_sl ([.ref (ad 20 i0)]) ++ List.replicate (1 - (lg_sl ([.ref (ad 20 i0)])).length) Slot.unset).toArray = ls at hl ⊢
  have hl : lv_has ls 1 [(0, .ref (ad 20 i0))] := hl
  refine lv_iconst (v := 2) hx hb dX3_kindNumber_0 (by decide) ?_
  have hf : fX3_kindNumber Y i0 = (2, Y) := rfl
  exact W.iret (v := 2) hx hb hr (fun t ht _ => by rw [hf]; exact nw_end hS hN ht) hS.2.2 dX3_kindNumber_1
set_option maxHeartbeats 4000000 in
set_option maxRecDepth 100000 in
theorem kX2_groom (l : Launch) (D : va_G) (C : Nat → ClassId) (A : Nat → Prop) (ad : Nat → Nat → Nat) (nh nv na : Nat) (Y : Nat → Nat → Nat → Int32) (i0 : Nat) (hd0 : domY nh nv na 20 i0) : Met l yX2_groom wsX2_groom ({ frames := 0, cells := 0, slots := 0, locals := 0 }) (va_Pc [.ref (ad 20 i0)] (PW D C A (nw D (enY C) (domY nh nv na) A ad Y))) (nQ A (some (.int (fX2_groom Y i0).1)) (nw D (enY C) (domY nh nv na) A ad (fX2_groom Y i0).2)) 0 0 A := by
  refine Met.ofW (cc := cX2_groom) (maxL := 1) (ret := (some .int)) (by decide) rfl ?_
  intro p e s m args below meth c s₁ B hml hv
  obtain ⟨rfl, hK, hN, hA⟩ := hv
  have hx := B.exec
  have hb := B.bytes
  have hr := B.returns
  have hts := atoms_spec (ws := wsX2_groom) B.pre
  have hown : s.vm.findClass RX2 = some m.cls := findClass_of_methodNamed B.named
  have hlocks := B.notSynchronized
  have S : CallFix p m c cX2_groom 1 s _ wsX2_groom RX2 := ⟨hx, hb, hml, hown, hts⟩
  have hin1 : ∀ w ∈ wsX10, w ∈ wsX2_groom := (fun _ h => List.mem_cons_of_mem _ (List.mem_append_left _ (List.mem_append_left _ (List.mem_append_right _ (h)))))
  have hin2 : ∀ w ∈ wsX20, w ∈ wsX2_groom := (fun _ h => List.mem_cons_of_mem _ (List.mem_append_left _ (List.mem_append_right _ (h))))
  have hin3 : ∀ w ∈ wsX30, w ∈ wsX2_groom := (fun _ h => List.mem_cons_of_mem _ (List.mem_append_right _ (h)))
  have hS : va_S A s.heap s.heap [] := va_S.rf
  have hl := lv_entry ([.ref (ad 20 i0)]) (n := 1) (Nat.le_of_ble_eq_true rfl)
  rw [lg_entry_eq]
  generalize (lg_sl ([.ref (ad 20 i0)]) ++ List.replicate (1 - (lg_sl ([.ref (ad 20 i0)])).length) Slot.unset).toArray = ls at hl ⊢
  have hl : lv_has ls 1 [(0, .ref (ad 20 i0))] := hl
  refine lv_aload_n hx hb dX2_groom_0 rfl (lv_at hl 0 rfl) ?_
  refine lv_dup hx hb dX2_groom_1 rfl ?_
  refine nw_getH S hK hN (h := i0) hd0 hin1 hin2 hin3 3 (by decide) (index := 15) (ref := "RidingYard$Horse") (List.mem_cons_of_mem _ (List.mem_append_left _ (List.mem_append_left _ (List.mem_append_left _ (List.mem_of_getElem? (i := 0) rfl))))) (fun _ h => h) dX2_groom_2 ?_
  refine lv_iconst (v := 1) hx hb dX2_groom_5 (by decide) ?_
  refine lv_iadd hx hb dX2_groom_6 ?_
  refine nw_putH S hK hN hS (h := i0) hd0 hin1 hin2 hin3 3 (by decide) (index := 15) (ref := "RidingYard$Horse") (List.mem_cons_of_mem _ (List.mem_append_left _ (List.mem_append_left _ (List.mem_append_left _ (List.mem_of_getElem? (i := 0) rfl))))) (fun _ h => h) ((Y 20 i0 3) + 1) dX2_groom_7 (fun H locs hN hz hS => ?_)
  refine lv_aload_n hx hb dX2_groom_10 rfl (lv_at hl 0 rfl) ?_
  refine nw_getH S hK hN (h := i0) hd0 hin1 hin2 hin3 3 (by decide) (index := 15) (ref := "RidingYard$Horse") (List.mem_cons_of_mem _ (List.mem_append_left _ (List.mem_append_left _ (List.mem_append_left _ (List.mem_of_getElem? (i := 0) rfl))))) (fun _ h => h) dX2_groom_11 ?_
  have hf : fX2_groom Y i0 = ((u3 Y 20 i0 3 ((Y 20 i0 3) + 1)) 20 i0 3, u3 Y 20 i0 3 ((Y 20 i0 3) + 1)) := rfl
  exact W.iret (v := (u3 Y 20 i0 3 ((Y 20 i0 3) + 1)) 20 i0 3) hx hb hr (fun t ht _ => by rw [hf]; exact nw_end hS hN ht) hS.2.2 dX2_groom_14
set_option maxHeartbeats 4000000 in
set_option maxRecDepth 100000 in
theorem kX1_groom (l : Launch) (D : va_G) (C : Nat → ClassId) (A : Nat → Prop) (ad : Nat → Nat → Nat) (nh nv na : Nat) (Y : Nat → Nat → Nat → Int32) (i0 : Nat) (hd0 : domY nh nv na 20 i0) : Met l yX1_groom wsX1_groom ({ frames := 0, cells := 0, slots := 0, locals := 0 }) (va_Pc [.ref (ad 20 i0)] (PW D C A (nw D (enY C) (domY nh nv na) A ad Y))) (nQ A (some (.int (fX1_groom Y i0).1)) (nw D (enY C) (domY nh nv na) A ad (fX1_groom Y i0).2)) 0 0 A := by
  refine Met.ofW (cc := cX1_groom) (maxL := 1) (ret := (some .int)) (by decide) rfl ?_
  intro p e s m args below meth c s₁ B hml hv
  obtain ⟨rfl, hK, hN, hA⟩ := hv
  have hx := B.exec
  have hb := B.bytes
  have hr := B.returns
  have hts := atoms_spec (ws := wsX1_groom) B.pre
  have hown : s.vm.findClass RX1 = some m.cls := findClass_of_methodNamed B.named
  have hlocks := B.notSynchronized
  have S : CallFix p m c cX1_groom 1 s _ wsX1_groom RX1 := ⟨hx, hb, hml, hown, hts⟩
  have hin1 : ∀ w ∈ wsX10, w ∈ wsX1_groom := (fun _ h => List.mem_cons_of_mem _ (List.mem_append_left _ (List.mem_append_left _ (List.mem_append_right _ (h)))))
  have hin2 : ∀ w ∈ wsX20, w ∈ wsX1_groom := (fun _ h => List.mem_cons_of_mem _ (List.mem_append_left _ (List.mem_append_right _ (h))))
  have hin3 : ∀ w ∈ wsX30, w ∈ wsX1_groom := (fun _ h => List.mem_cons_of_mem _ (List.mem_append_right _ (h)))
  have hS : va_S A s.heap s.heap [] := va_S.rf
  have hl := lv_entry ([.ref (ad 20 i0)]) (n := 1) (Nat.le_of_ble_eq_true rfl)
  rw [lg_entry_eq]
  generalize (lg_sl ([.ref (ad 20 i0)]) ++ List.replicate (1 - (lg_sl ([.ref (ad 20 i0)])).length) Slot.unset).toArray = ls at hl ⊢
  have hl : lv_has ls 1 [(0, .ref (ad 20 i0))] := hl
  refine lv_aload_n hx hb dX1_groom_0 rfl (lv_at hl 0 rfl) ?_
  refine lv_dup hx hb dX1_groom_1 rfl ?_
  refine nw_getH S hK hN (h := i0) hd0 hin1 hin2 hin3 3 (by decide) (index := 9) (ref := "RidingYard$Cob") (List.mem_cons_of_mem _ (List.mem_append_left _ (List.mem_append_left _ (List.mem_append_left _ (List.mem_of_getElem? (i := 0) rfl))))) (u_same (hts (.sameField "RidingYard$Cob" "RidingYard$Horse" "groomed" "I") (List.mem_cons_of_mem _ (List.mem_append_left _ (List.mem_append_left _ (List.mem_append_left _ (List.mem_of_getElem? (i := 1) rfl))))))) dX1_groom_2 ?_
  refine lv_iconst (v := 2) hx hb dX1_groom_5 (by decide) ?_
  refine lv_iadd hx hb dX1_groom_6 ?_
  refine nw_putH S hK hN hS (h := i0) hd0 hin1 hin2 hin3 3 (by decide) (index := 9) (ref := "RidingYard$Cob") (List.mem_cons_of_mem _ (List.mem_append_left _ (List.mem_append_left _ (List.mem_append_left _ (List.mem_of_getElem? (i := 0) rfl))))) (u_same (hts (.sameField "RidingYard$Cob" "RidingYard$Horse" "groomed" "I") (List.mem_cons_of_mem _ (List.mem_append_left _ (List.mem_append_left _ (List.mem_append_left _ (List.mem_of_getElem? (i := 1) rfl))))))) ((Y 20 i0 3) + 2) dX1_groom_7 (fun H locs hN hz hS => ?_)
  refine lv_aload_n hx hb dX1_groom_10 rfl (lv_at hl 0 rfl) ?_
  refine nw_getH S hK hN (h := i0) hd0 hin1 hin2 hin3 3 (by decide) (index := 9) (ref := "RidingYard$Cob") (List.mem_cons_of_mem _ (List.mem_append_left _ (List.mem_append_left _ (List.mem_append_left _ (List.mem_of_getElem? (i := 0) rfl))))) (u_same (hts (.sameField "RidingYard$Cob" "RidingYard$Horse" "groomed" "I") (List.mem_cons_of_mem _ (List.mem_append_left _ (List.mem_append_left _ (List.mem_append_left _ (List.mem_of_getElem? (i := 1) rfl))))))) dX1_groom_11 ?_
  have hf : fX1_groom Y i0 = ((u3 Y 20 i0 3 ((Y 20 i0 3) + 2)) 20 i0 3, u3 Y 20 i0 3 ((Y 20 i0 3) + 2)) := rfl
  exact W.iret (v := (u3 Y 20 i0 3 ((Y 20 i0 3) + 2)) 20 i0 3) hx hb hr (fun t ht _ => by rw [hf]; exact nw_end hS hN ht) hS.2.2 dX1_groom_14
set_option maxHeartbeats 4000000 in
set_option maxRecDepth 100000 in
theorem kX2_workFor (l : Launch) (D : va_G) (C : Nat → ClassId) (A : Nat → Prop) (ad : Nat → Nat → Nat) (nh nv na : Nat) (Y : Nat → Nat → Nat → Int32) (i0 : Nat) (hd0 : domY nh nv na 20 i0) (p0 : Int32) : Met l yX2_workFor wsX2_workFor ({ frames := 0, cells := 0, slots := 0, locals := 0 }) (va_Pc [.ref (ad 20 i0), .int p0] (PW D C A (nw D (enY C) (domY nh nv na) A ad Y))) (nQ A (some (.int (fX2_workFor Y i0 p0).1)) (nw D (enY C) (domY nh nv na) A ad (fX2_workFor Y i0 p0).2)) 0 0 A := by
  refine Met.ofW (cc := cX2_workFor) (maxL := 2) (ret := (some .int)) (by decide) rfl ?_
  intro p e s m args below meth c s₁ B hml hv
  obtain ⟨rfl, hK, hN, hA⟩ := hv
  have hx := B.exec
  have hb := B.bytes
  have hr := B.returns
  have hts := atoms_spec (ws := wsX2_workFor) B.pre
  have hown : s.vm.findClass RX2 = some m.cls := findClass_of_methodNamed B.named
  have hlocks := B.notSynchronized
  have S : CallFix p m c cX2_workFor 2 s _ wsX2_workFor RX2 := ⟨hx, hb, hml, hown, hts⟩
  have hin1 : ∀ w ∈ wsX10, w ∈ wsX2_workFor := (fun _ h => List.mem_cons_of_mem _ (List.mem_append_left _ (List.mem_append_left _ (List.mem_append_right _ (h)))))
  have hin2 : ∀ w ∈ wsX20, w ∈ wsX2_workFor := (fun _ h => List.mem_cons_of_mem _ (List.mem_append_left _ (List.mem_append_right _ (h))))
  have hin3 : ∀ w ∈ wsX30, w ∈ wsX2_workFor := (fun _ h => List.mem_cons_of_mem _ (List.mem_append_right _ (h)))
  have hS : va_S A s.heap s.heap [] := va_S.rf
  have hl := lv_entry ([.ref (ad 20 i0), .int p0]) (n := 2) (Nat.le_of_ble_eq_true rfl)
  rw [lg_entry_eq]
  generalize (lg_sl ([.ref (ad 20 i0), .int p0]) ++ List.replicate (2 - (lg_sl ([.ref (ad 20 i0), .int p0])).length) Slot.unset).toArray = ls at hl ⊢
  have hl : lv_has ls 2 [(0, .ref (ad 20 i0)), (1, .int p0)] := hl
  refine lv_aload_n hx hb dX2_workFor_0 rfl (lv_at hl 0 rfl) ?_
  refine lv_dup hx hb dX2_workFor_1 rfl ?_
  refine nw_getH S hK hN (h := i0) hd0 hin1 hin2 hin3 4 (by decide) (index := 18) (ref := "RidingYard$Horse") (List.mem_cons_of_mem _ (List.mem_append_left _ (List.mem_append_left _ (List.mem_append_left _ (List.mem_of_getElem? (i := 0) rfl))))) (fun _ h => h) dX2_workFor_2 ?_
  refine lv_iload_n hx hb dX2_workFor_5 rfl (lv_at hl 1 rfl) ?_
  refine lv_iadd hx hb dX2_workFor_6 ?_
  refine nw_putH S hK hN hS (h := i0) hd0 hin1 hin2 hin3 4 (by decide) (index := 18) (ref := "RidingYard$Horse") (List.mem_cons_of_mem _ (List.mem_append_left _ (List.mem_append_left _ (List.mem_append_left _ (List.mem_of_getElem? (i := 0) rfl))))) (fun _ h => h) ((Y 20 i0 4) + p0) dX2_workFor_7 (fun H locs hN hz hS => ?_)
  refine lv_aload_n hx hb dX2_workFor_10 rfl (lv_at hl 0 rfl) ?_
  refine nw_getH S hK hN (h := i0) hd0 hin1 hin2 hin3 4 (by decide) (index := 18) (ref := "RidingYard$Horse") (List.mem_cons_of_mem _ (List.mem_append_left _ (List.mem_append_left _ (List.mem_append_left _ (List.mem_of_getElem? (i := 0) rfl))))) (fun _ h => h) dX2_workFor_11 ?_
  have hf : fX2_workFor Y i0 p0 = ((u3 Y 20 i0 4 ((Y 20 i0 4) + p0)) 20 i0 4, u3 Y 20 i0 4 ((Y 20 i0 4) + p0)) := rfl
  exact W.iret (v := (u3 Y 20 i0 4 ((Y 20 i0 4) + p0)) 20 i0 4) hx hb hr (fun t ht _ => by rw [hf]; exact nw_end hS hN ht) hS.2.2 dX2_workFor_14
set_option maxHeartbeats 4000000 in
set_option maxRecDepth 100000 in
theorem kX1_workFor (l : Launch) (D : va_G) (C : Nat → ClassId) (A : Nat → Prop) (ad : Nat → Nat → Nat) (nh nv na : Nat) (Y : Nat → Nat → Nat → Int32) (i0 : Nat) (hd0 : domY nh nv na 20 i0) (p0 : Int32) : Met l yX1_workFor wsX1_workFor ({ frames := 0, cells := 0, slots := 0, locals := 0 }) (va_Pc [.ref (ad 20 i0), .int p0] (PW D C A (nw D (enY C) (domY nh nv na) A ad Y))) (nQ A (some (.int (fX1_workFor Y i0 p0).1)) (nw D (enY C) (domY nh nv na) A ad (fX1_workFor Y i0 p0).2)) 0 0 A := by
  refine Met.ofW (cc := cX1_workFor) (maxL := 2) (ret := (some .int)) (by decide) rfl ?_
  intro p e s m args below meth c s₁ B hml hv
  obtain ⟨rfl, hK, hN, hA⟩ := hv
  have hx := B.exec
  have hb := B.bytes
  have hr := B.returns
  have hts := atoms_spec (ws := wsX1_workFor) B.pre
  have hown : s.vm.findClass RX1 = some m.cls := findClass_of_methodNamed B.named
  have hlocks := B.notSynchronized
  have S : CallFix p m c cX1_workFor 2 s _ wsX1_workFor RX1 := ⟨hx, hb, hml, hown, hts⟩
  have hin1 : ∀ w ∈ wsX10, w ∈ wsX1_workFor := (fun _ h => List.mem_cons_of_mem _ (List.mem_append_left _ (List.mem_append_left _ (List.mem_append_right _ (h)))))
  have hin2 : ∀ w ∈ wsX20, w ∈ wsX1_workFor := (fun _ h => List.mem_cons_of_mem _ (List.mem_append_left _ (List.mem_append_right _ (h))))
  have hin3 : ∀ w ∈ wsX30, w ∈ wsX1_workFor := (fun _ h => List.mem_cons_of_mem _ (List.mem_append_right _ (h)))
  have hS : va_S A s.heap s.heap [] := va_S.rf
  have hl := lv_entry ([.ref (ad 20 i0), .int p0]) (n := 2) (Nat.le_of_ble_eq_true rfl)
  rw [lg_entry_eq]
  generalize (lg_sl ([.ref (ad 20 i0), .int p0]) ++ List.replicate (2 - (lg_sl ([.ref (ad 20 i0), .int p0])).length) Slot.unset).toArray = ls at hl ⊢
  have hl : lv_has ls 2 [(0, .ref (ad 20 i0)), (1, .int p0)] := hl
  refine lv_aload_n hx hb dX1_workFor_0 rfl (lv_at hl 0 rfl) ?_
  refine lv_dup hx hb dX1_workFor_1 rfl ?_
  refine nw_getH S hK hN (h := i0) hd0 hin1 hin2 hin3 4 (by decide) (index := 15) (ref := "RidingYard$Cob") (List.mem_cons_of_mem _ (List.mem_append_left _ (List.mem_append_left _ (List.mem_append_left _ (List.mem_of_getElem? (i := 0) rfl))))) (u_same (hts (.sameField "RidingYard$Cob" "RidingYard$Horse" "tired" "I") (List.mem_cons_of_mem _ (List.mem_append_left _ (List.mem_append_left _ (List.mem_append_left _ (List.mem_of_getElem? (i := 1) rfl))))))) dX1_workFor_2 ?_
  refine lv_iconst (v := 2) hx hb dX1_workFor_5 (by decide) ?_
  refine lv_iload_n hx hb dX1_workFor_6 rfl (lv_at hl 1 rfl) ?_
  refine lv_imul hx hb dX1_workFor_7 ?_
  refine lv_iadd hx hb dX1_workFor_8 ?_
  refine nw_putH S hK hN hS (h := i0) hd0 hin1 hin2 hin3 4 (by decide) (index := 15) (ref := "RidingYard$Cob") (List.mem_cons_of_mem _ (List.mem_append_left _ (List.mem_append_left _ (List.mem_append_left _ (List.mem_of_getElem? (i := 0) rfl))))) (u_same (hts (.sameField "RidingYard$Cob" "RidingYard$Horse" "tired" "I") (List.mem_cons_of_mem _ (List.mem_append_left _ (List.mem_append_left _ (List.mem_append_left _ (List.mem_of_getElem? (i := 1) rfl))))))) ((Y 20 i0 4) + (2 * p0)) dX1_workFor_9 (fun H locs hN hz hS => ?_)
  refine lv_aload_n hx hb dX1_workFor_12 rfl (lv_at hl 0 rfl) ?_
  refine nw_getH S hK hN (h := i0) hd0 hin1 hin2 hin3 4 (by decide) (index := 15) (ref := "RidingYard$Cob") (List.mem_cons_of_mem _ (List.mem_append_left _ (List.mem_append_left _ (List.mem_append_left _ (List.mem_of_getElem? (i := 0) rfl))))) (u_same (hts (.sameField "RidingYard$Cob" "RidingYard$Horse" "tired" "I") (List.mem_cons_of_mem _ (List.mem_append_left _ (List.mem_append_left _ (List.mem_append_left _ (List.mem_of_getElem? (i := 1) rfl))))))) dX1_workFor_13 ?_
  have hf : fX1_workFor Y i0 p0 = ((u3 Y 20 i0 4 ((Y 20 i0 4) + (2 * p0))) 20 i0 4, u3 Y 20 i0 4 ((Y 20 i0 4) + (2 * p0))) := rfl
  exact W.iret (v := (u3 Y 20 i0 4 ((Y 20 i0 4) + (2 * p0))) 20 i0 4) hx hb hr (fun t ht _ => by rw [hf]; exact nw_end hS hN ht) hS.2.2 dX1_workFor_16
set_option maxHeartbeats 4000000 in
set_option maxRecDepth 100000 in
theorem kX7_workFor (l : Launch) (D : va_G) (C : Nat → ClassId) (A : Nat → Prop) (ad : Nat → Nat → Nat) (nh nv na : Nat) (Y : Nat → Nat → Nat → Int32) (i0 : Nat) (hd0 : domY nh nv na 21 i0) (p0 : Int32) : Met l yX7_workFor wsX7_workFor ({ frames := 0, cells := 0, slots := 0, locals := 0 }) (va_Pc [.ref (ad 21 i0), .int p0] (PW D C A (nw D (enY C) (domY nh nv na) A ad Y))) (nQ A (some (.int (fX7_workFor Y i0 p0).1)) (nw D (enY C) (domY nh nv na) A ad (fX7_workFor Y i0 p0).2)) 0 0 A := by
  refine Met.ofW (cc := cX7_workFor) (maxL := 2) (ret := (some .int)) (by decide) rfl ?_
  intro p e s m args below meth c s₁ B hml hv
  obtain ⟨rfl, hK, hN, hA⟩ := hv
  have hx := B.exec
  have hb := B.bytes
  have hr := B.returns
  have hts := atoms_spec (ws := wsX7_workFor) B.pre
  have hown : s.vm.findClass RX7 = some m.cls := findClass_of_methodNamed B.named
  have hlocks := B.notSynchronized
  have S : CallFix p m c cX7_workFor 2 s _ wsX7_workFor RX7 := ⟨hx, hb, hml, hown, hts⟩
  have hin7 : ∀ w ∈ wsX70, w ∈ wsX7_workFor := (fun _ h => List.mem_cons_of_mem _ (List.mem_append_right _ (h)))
  have hS : va_S A s.heap s.heap [] := va_S.rf
  have hl := lv_entry ([.ref (ad 21 i0), .int p0]) (n := 2) (Nat.le_of_ble_eq_true rfl)
  rw [lg_entry_eq]
  generalize (lg_sl ([.ref (ad 21 i0), .int p0]) ++ List.replicate (2 - (lg_sl ([.ref (ad 21 i0), .int p0])).length) Slot.unset).toArray = ls at hl ⊢
  have hl : lv_has ls 2 [(0, .ref (ad 21 i0)), (1, .int p0)] := hl
  refine lv_aload_n hx hb dX7_workFor_0 rfl (lv_at hl 0 rfl) ?_
  refine lv_dup hx hb dX7_workFor_1 rfl ?_
  refine nw_get S hK hN (k := 21) (i := i0) hd0 rfl rfl hin7 1 (by decide) (index := 13) (ref := "RidingYard$Wagon") (List.mem_cons_of_mem _ (List.mem_append_left _ (List.mem_of_getElem? (i := 0) rfl))) (fun _ h => h) (v := .int (Y 21 i0 1)) rfl dX7_workFor_2 ?_
  refine lv_iload_n hx hb dX7_workFor_5 rfl (lv_at hl 1 rfl) ?_
  refine lv_aload_n hx hb dX7_workFor_6 rfl (lv_at hl 0 rfl) ?_
  refine nw_get S hK hN (k := 21) (i := i0) hd0 rfl rfl hin7 0 (by decide) (index := 7) (ref := "RidingYard$Wagon") (List.mem_cons_of_mem _ (List.mem_append_left _ (List.mem_of_getElem? (i := 1) rfl))) (fun _ h => h) (v := .int (Y 21 i0 0)) rfl dX7_workFor_7 ?_
  refine lv_imul hx hb dX7_workFor_10 ?_
  refine lv_iadd hx hb dX7_workFor_11 ?_
  refine nw_put S hK hN hS (k := 21) (i := i0) hd0 rfl rfl hin7 tyX7_ok nmX7 1 (by decide) (index := 13) (ref := "RidingYard$Wagon") (List.mem_cons_of_mem _ (List.mem_append_left _ (List.mem_of_getElem? (i := 0) rfl))) (fun _ h => h) rfl ((Y 21 i0 1) + (p0 * (Y 21 i0 0))) rfl rfl rfl (Nat.le_of_ble_eq_true rfl) dX7_workFor_12 (fun H locs hN hz hS => ?_)
  refine lv_aload_n hx hb dX7_workFor_15 rfl (lv_at hl 0 rfl) ?_
  refine nw_get S hK hN (k := 21) (i := i0) hd0 rfl rfl hin7 1 (by decide) (index := 13) (ref := "RidingYard$Wagon") (List.mem_cons_of_mem _ (List.mem_append_left _ (List.mem_of_getElem? (i := 0) rfl))) (fun _ h => h) (v := .int ((u3 Y 21 i0 1 ((Y 21 i0 1) + (p0 * (Y 21 i0 0)))) 21 i0 1)) rfl dX7_workFor_16 ?_
  have hf : fX7_workFor Y i0 p0 = ((u3 Y 21 i0 1 ((Y 21 i0 1) + (p0 * (Y 21 i0 0)))) 21 i0 1, u3 Y 21 i0 1 ((Y 21 i0 1) + (p0 * (Y 21 i0 0)))) := rfl
  exact W.iret (v := (u3 Y 21 i0 1 ((Y 21 i0 1) + (p0 * (Y 21 i0 0)))) 21 i0 1) hx hb hr (fun t ht _ => by rw [hf]; exact nw_end hS hN ht) hS.2.2 dX7_workFor_19
set_option maxHeartbeats 4000000 in
set_option maxRecDepth 100000 in
theorem kX3_groom (l : Launch) (D : va_G) (C : Nat → ClassId) (A : Nat → Prop) (ad : Nat → Nat → Nat) (nh nv na : Nat) (Y : Nat → Nat → Nat → Int32) (i0 : Nat) (hd0 : domY nh nv na 20 i0) (hk0 : ¬ Y 20 i0 5 = 0) (hk1 : ¬ Y 20 i0 5 = 1) : Met l yX3_groom wsX3_groom ({ frames := 1, cells := 0, slots := 0, locals := 20 }) (va_Pc [.ref (ad 20 i0)] (PW D C A (nw D (enY C) (domY nh nv na) A ad Y))) (nQ A (some (.int (fX3_groom Y i0).1)) (nw D (enY C) (domY nh nv na) A ad (fX3_groom Y i0).2)) 0 0 A := by
  refine Met.ofW (cc := cX3_groom) (maxL := 1) (ret := (some .int)) (by decide) rfl ?_
  intro p e s m args below meth c s₁ B hml hv
  obtain ⟨rfl, hK, hN, hA⟩ := hv
  have hx := B.exec
  have hb := B.bytes
  have hr := B.returns
  have hts := atoms_spec (ws := wsX3_groom) B.pre
  have hown : s.vm.findClass RX3 = some m.cls := findClass_of_methodNamed B.named
  have hlocks := B.notSynchronized
  have S : CallFix p m c cX3_groom 1 s _ wsX3_groom RX3 := ⟨hx, hb, hml, hown, hts⟩
  have hin1 : ∀ w ∈ wsX10, w ∈ wsX3_groom := (fun _ h => List.mem_cons_of_mem _ (List.mem_append_left _ (List.mem_append_left _ (List.mem_append_right _ (h)))))
  have hin2 : ∀ w ∈ wsX20, w ∈ wsX3_groom := (fun _ h => List.mem_cons_of_mem _ (List.mem_append_left _ (List.mem_append_right _ (h))))
  have hin3 : ∀ w ∈ wsX30, w ∈ wsX3_groom := (fun _ h => List.mem_cons_of_mem _ (List.mem_append_right _ (h)))
  have hS : va_S A s.heap s.heap [] := va_S.rf
  have hl := lv_entry ([.ref (ad 20 i0)]) (n := 1) (Nat.le_of_ble_eq_true rfl)
  rw [lg_entry_eq]
  generalize (lg_sl ([.ref (ad 20 i0)]) ++ List.replicate (1 - (lg_sl ([.ref (ad 20 i0)])).length) Slot.unset).toArray = ls at hl ⊢
  have hl : lv_has ls 1 [(0, .ref (ad 20 i0))] := hl
  refine lv_aload_n hx hb dX3_groom_0 rfl (lv_at hl 0 rfl) ?_
  refine lv_iconst (v := 0) hx hb dX3_groom_1 (by decide) ?_
  refine nw_putH S hK hN hS (h := i0) hd0 hin1 hin2 hin3 2 (by decide) (index := 9) (ref := "RidingYard$Hunter") (List.mem_cons_of_mem _ (List.mem_append_left _ (List.mem_append_left _ (List.mem_append_left _ (List.mem_of_getElem? (i := 0) rfl))))) (u_same (hts (.sameField "RidingYard$Hunter" "RidingYard$Horse" "rug" "I") (List.mem_cons_of_mem _ (List.mem_append_left _ (List.mem_append_left _ (List.mem_append_left _ (List.mem_of_getElem? (i := 1) rfl))))))) 0 dX3_groom_2 (fun H locs hN hz hS => ?_)
  refine lv_aload_n hx hb dX3_groom_5 rfl (lv_at hl 0 rfl) ?_
  refine nwY_callX (n := 0) (hK.1.1 3 _ rfl).2 (As := []) (rest := []) S (kX1_groom l D C A ad nh nv na (u3 Y 20 i0 2 0) i0 hd0 ) gX3_groom_X1_groom_s15 rfl ⟨rfl, rfl⟩ (by decide +kernel) ⟨Nat.le_of_ble_eq_true rfl, Nat.le_of_ble_eq_true rfl⟩ hK ((nw_recvH hK hN (h := i0) hd0).2.2 (by rw [u3_sl (by decide)]; exact hk0) (by rw [u3_sl (by decide)]; exact hk1)) hN hA hS rfl hl.1 rfl (Nat.le_of_ble_eq_true rfl) dX3_groom_6 ⟨Nat.le_of_ble_eq_true rfl, Nat.le_of_ble_eq_true rfl⟩ (fun H locs hN hS => ?_)
  have hf : fX3_groom Y i0 = ((fX1_groom (u3 Y 20 i0 2 0) i0).1, (fX1_groom (u3 Y 20 i0 2 0) i0).2) := rfl
  exact W.iret (v := (fX1_groom (u3 Y 20 i0 2 0) i0).1) hx hb hr (fun t ht _ => by rw [hf]; exact nw_end hS hN ht) hS.2.2 dX3_groom_9
set_option maxHeartbeats 4000000 in
set_option maxRecDepth 100000 in
theorem kX3_workFor (l : Launch) (D : va_G) (C : Nat → ClassId) (A : Nat → Prop) (ad : Nat → Nat → Nat) (nh nv na : Nat) (Y : Nat → Nat → Nat → Int32) (i0 : Nat) (hd0 : domY nh nv na 20 i0) (p0 : Int32) (hk0 : ¬ Y 20 i0 5 = 0) (hk1 : ¬ Y 20 i0 5 = 1) : Met l yX3_workFor wsX3_workFor ({ frames := 1, cells := 0, slots := 0, locals := 21 }) (va_Pc [.ref (ad 20 i0), .int p0] (PW D C A (nw D (enY C) (domY nh nv na) A ad Y))) (nQ A (some (.int (fX3_workFor Y i0 p0).1)) (nw D (enY C) (domY nh nv na) A ad (fX3_workFor Y i0 p0).2)) 0 0 A := by
  refine Met.ofW (cc := cX3_workFor) (maxL := 2) (ret := (some .int)) (by decide) rfl ?_
  intro p e s m args below meth c s₁ B hml hv
  obtain ⟨rfl, hK, hN, hA⟩ := hv
  have hx := B.exec
  have hb := B.bytes
  have hr := B.returns
  have hts := atoms_spec (ws := wsX3_workFor) B.pre
  have hown : s.vm.findClass RX3 = some m.cls := findClass_of_methodNamed B.named
  have hlocks := B.notSynchronized
  have S : CallFix p m c cX3_workFor 2 s _ wsX3_workFor RX3 := ⟨hx, hb, hml, hown, hts⟩
  have hin1 : ∀ w ∈ wsX10, w ∈ wsX3_workFor := (fun _ h => List.mem_cons_of_mem _ (List.mem_append_left _ (List.mem_append_left _ (List.mem_append_right _ (h)))))
  have hin2 : ∀ w ∈ wsX20, w ∈ wsX3_workFor := (fun _ h => List.mem_cons_of_mem _ (List.mem_append_left _ (List.mem_append_right _ (h))))
  have hin3 : ∀ w ∈ wsX30, w ∈ wsX3_workFor := (fun _ h => List.mem_cons_of_mem _ (List.mem_append_right _ (h)))
  have hS : va_S A s.heap s.heap [] := va_S.rf
  have hl := lv_entry ([.ref (ad 20 i0), .int p0]) (n := 2) (Nat.le_of_ble_eq_true rfl)
  rw [lg_entry_eq]
  generalize (lg_sl ([.ref (ad 20 i0), .int p0]) ++ List.replicate (2 - (lg_sl ([.ref (ad 20 i0), .int p0])).length) Slot.unset).toArray = ls at hl ⊢
  have hl : lv_has ls 2 [(0, .ref (ad 20 i0)), (1, .int p0)] := hl
  refine lv_aload_n hx hb dX3_workFor_0 rfl (lv_at hl 0 rfl) ?_
  refine lv_aload_n hx hb dX3_workFor_1 rfl (lv_at hl 0 rfl) ?_
  refine lv_iload_n hx hb dX3_workFor_2 rfl (lv_at hl 1 rfl) ?_
  refine nwY_callX (n := 1) (hK.1.1 3 _ rfl).2 (As := [.int p0]) (rest := [.ref (ad 20 i0)]) S (kX1_workFor l D C A ad nh nv na Y i0 hd0 p0) gX3_workFor_X1_workFor_s19 rfl ⟨rfl, rfl⟩ (by decide +kernel) ⟨Nat.le_of_ble_eq_true rfl, Nat.le_of_ble_eq_true rfl⟩ hK ((nw_recvH hK hN (h := i0) hd0).2.2 hk0 hk1) hN hA hS rfl hl.1 rfl (Nat.le_of_ble_eq_true rfl) dX3_workFor_3 ⟨Nat.le_of_ble_eq_true rfl, Nat.le_of_ble_eq_true rfl⟩ (fun H locs hN hS => ?_)
  refine lv_iconst (v := 1) hx hb dX3_workFor_6 (by decide) ?_
  refine lv_iadd hx hb dX3_workFor_7 ?_
  refine nw_putH S hK hN hS (h := i0) hd0 hin1 hin2 hin3 4 (by decide) (index := 23) (ref := "RidingYard$Hunter") (List.mem_cons_of_mem _ (List.mem_append_left _ (List.mem_append_left _ (List.mem_append_left _ (List.mem_of_getElem? (i := 0) rfl))))) (u_same (hts (.sameField "RidingYard$Hunter" "RidingYard$Horse" "tired" "I") (List.mem_cons_of_mem _ (List.mem_append_left _ (List.mem_append_left _ (List.mem_append_left _ (List.mem_of_getElem? (i := 1) rfl))))))) (((fX1_workFor Y i0 p0).1) + 1) dX3_workFor_8 (fun H locs hN hz hS => ?_)
  refine lv_aload_n hx hb dX3_workFor_11 rfl (lv_at hl 0 rfl) ?_
  refine nw_getH S hK hN (h := i0) hd0 hin1 hin2 hin3 4 (by decide) (index := 23) (ref := "RidingYard$Hunter") (List.mem_cons_of_mem _ (List.mem_append_left _ (List.mem_append_left _ (List.mem_append_left _ (List.mem_of_getElem? (i := 0) rfl))))) (u_same (hts (.sameField "RidingYard$Hunter" "RidingYard$Horse" "tired" "I") (List.mem_cons_of_mem _ (List.mem_append_left _ (List.mem_append_left _ (List.mem_append_left _ (List.mem_of_getElem? (i := 1) rfl))))))) dX3_workFor_12 ?_
  have hf : fX3_workFor Y i0 p0 = ((u3 ((fX1_workFor Y i0 p0).2) 20 i0 4 (((fX1_workFor Y i0 p0).1) + 1)) 20 i0 4, u3 ((fX1_workFor Y i0 p0).2) 20 i0 4 (((fX1_workFor Y i0 p0).1) + 1)) := rfl
  exact W.iret (v := (u3 ((fX1_workFor Y i0 p0).2) 20 i0 4 (((fX1_workFor Y i0 p0).1) + 1)) 20 i0 4) hx hb hr (fun t ht _ => by rw [hf]; exact nw_end hS hN ht) hS.2.2 dX3_workFor_15
set_option maxHeartbeats 4000000 in
set_option maxRecDepth 100000 in
theorem kX6_form (l : Launch) (D : va_G) (C : Nat → ClassId) (A : Nat → Prop) (ad : Nat → Nat → Nat) (nh nv na : Nat) (Y : Nat → Nat → Nat → Int32) (i0 : Nat) (hd0 : domY nh nv na 12 i0) (p0 p1 : Int32) : Met l yX6_form wsX6_form ({ frames := 0, cells := 0, slots := 0, locals := 0 }) (va_Pc [.ref (ad 12 i0), .int p0, .int p1] (PW D C A (nw D (enY C) (domY nh nv na) A ad Y))) (nQ A none (nw D (enY C) (domY nh nv na) A ad (fX6_form Y i0 p0 p1))) 0 0 A := by
  refine Met.ofW (cc := cX6_form) (maxL := 4) (ret := none) (by decide) rfl ?_
  intro p e s m args below meth c s₁ B hml hv
  obtain ⟨rfl, hK, hN, hA⟩ := hv
  have hx := B.exec
  have hb := B.bytes
  have hr := B.returns
  have hts := atoms_spec (ws := wsX6_form) B.pre
  have hown : s.vm.findClass RX6 = some m.cls := findClass_of_methodNamed B.named
  have hlocks := B.notSynchronized
  have S : CallFix p m c cX6_form 4 s _ wsX6_form RX6 := ⟨hx, hb, hml, hown, hts⟩
  have hin6 : ∀ w ∈ wsX60, w ∈ wsX6_form := (fun _ h => List.mem_cons_of_mem _ (List.mem_append_right _ (h)))
  have hS : va_S A s.heap s.heap [] := va_S.rf
  have hl := lv_entry ([.ref (ad 12 i0), .int p0, .int p1]) (n := 4) (Nat.le_of_ble_eq_true rfl)
  rw [lg_entry_eq]
  generalize (lg_sl ([.ref (ad 12 i0), .int p0, .int p1]) ++ List.replicate (4 - (lg_sl ([.ref (ad 12 i0), .int p0, .int p1])).length) Slot.unset).toArray = ls at hl ⊢
  have hl : lv_has ls 4 [(0, .ref (ad 12 i0)), (1, .int p0), (2, .int p1)] := hl
  refine lv_aload_n hx hb dX6_form_0 rfl (lv_at hl 0 rfl) ?_
  refine lv_iconst (v := 1) hx hb dX6_form_1 (by decide) ?_
  refine nw_put S hK hN hS (k := 12) (i := i0) hd0 rfl rfl hin6 tyX6_ok nmX6 1 (by decide) (index := 17) (ref := "RidingYard$Team") (List.mem_cons_of_mem _ (List.mem_append_left _ (List.mem_of_getElem? (i := 0) rfl))) (fun _ h => h) rfl 1 rfl rfl rfl (Nat.le_of_ble_eq_true rfl) dX6_form_2 (fun H locs hN hz hS => ?_)
  refine lv_aload_n hx hb dX6_form_5 rfl (lv_at hl 0 rfl) ?_
  refine lv_iload_n hx hb dX6_form_6 rfl (lv_at hl 1 rfl) ?_
  refine nw_put S hK hN hS (k := 12) (i := i0) hd0 rfl rfl hin6 tyX6_ok nmX6 2 (by decide) (index := 21) (ref := "RidingYard$Team") (List.mem_cons_of_mem _ (List.mem_append_left _ (List.mem_of_getElem? (i := 1) rfl))) (fun _ h => h) rfl p0 rfl rfl rfl (Nat.le_of_ble_eq_true rfl) dX6_form_7 (fun H locs hN hz hS => ?_)
  refine lv_aload_n hx hb dX6_form_10 rfl (lv_at hl 0 rfl) ?_
  refine lv_iload_n hx hb dX6_form_11 rfl (lv_at hl 2 rfl) ?_
  refine nw_put S hK hN hS (k := 12) (i := i0) hd0 rfl rfl hin6 tyX6_ok nmX6 3 (by decide) (index := 25) (ref := "RidingYard$Team") (List.mem_cons_of_mem _ (List.mem_append_left _ (List.mem_of_getElem? (i := 2) rfl))) (fun _ h => h) rfl p1 rfl rfl rfl (Nat.le_of_ble_eq_true rfl) dX6_form_12 (fun H locs hN hz hS => ?_)
  refine lv_iconst (v := 0) hx hb dX6_form_15 (by decide) ?_
  refine lv_istore_n (lv' := [(3, .int 0), (0, .ref (ad 12 i0)), (1, .int p0), (2, .int p1)]) hx hb dX6_form_16 rfl hl (by decide) rfl (fun ls hl => ?_)
  refine lpW (σ := Int32 × (Nat → Nat → Nat → Int32)) 9 (0, u3 (u3 (u3 Y 12 i0 1 1) 12 i0 2 p0) 12 i0 3 p1) (fun n x H locs ls => lv_has ls 4 [(3, .int x.1), (0, .ref (ad 12 i0)), (1, .int p0), (2, .int p1)] ∧ nw D (enY C) (domY nh nv na) A ad x.2 H ∧ va_S A s.heap H locs ∧ fX6_form Y i0 p0 p1 = gX6_form_17 i0 p0 p1 n x.1 (x.2) ∧ (∃ i : Nat, x.1 = nI i ∧ i ≤ 8 ∧ i + n = 9)) 17 (fun n x H locs ls hP ih => ?_) ⟨lv_sub hl [0, 1, 2, 3] rfl, hN, hS, rfl, 0, rfl, by omega, rfl⟩
  obtain ⟨x3, Z17⟩ := x
  obtain ⟨hl, hN, hS, hfe, hinv⟩ := hP
  dsimp only at hl hN hfe hinv
  obtain ⟨i, hi1, hi2, hi3⟩ := hinv
  obtain ⟨n, rfl⟩ : ∃ k, n = k + 1 := ⟨n - 1, by omega⟩
  refine lv_iload_n hx hb dX6_form_17 rfl (lv_at hl 0 rfl) ?_
  refine lv_bipush (v := 8) hx hb dX6_form_18 (by decide) ?_
  refine lv_icmp_ge (x := x3) (y := 8) (tgt := 36) hx hb dX6_form_20 (by decide) (fun c_1 => ?_) (fun c_1 => ?_)
  · have hf : fX6_form Y i0 p0 p1 = Z17 := by rw [hfe, gX6_form_17_s, if_pos c_1]
    exact W.vret hx hb hr (fun t ht _ => by rw [hf]; exact nw_end hS hN ht) hS.2.2 dX6_form_36
  · refine lv_aload_n hx hb dX6_form_23 rfl (lv_at hl 1 rfl) ?_
    refine nw_get S hK hN (k := 12) (i := i0) hd0 rfl rfl hin6 0 (by decide) (index := 11) (ref := "RidingYard$Team") (List.mem_cons_of_mem _ (List.mem_append_left _ (List.mem_of_getElem? (i := 3) rfl))) (fun _ h => h) (v := .ref (ad 13 i0)) rfl dX6_form_24 ?_
    refine lv_iload_n hx hb dX6_form_27 rfl (lv_at hl 0 rfl) ?_
    refine lv_null hx hb dX6_form_28 ?_
    refine nw_aastN S hK hN hS (k := 13) (i := i0) hd0 2 rfl (g := oH ad) (fun _ => rfl) (x := x3) (-1) (oH_m1 ad) (cn_in hi1 (cnt_lt (B := 8) hi1 hi3 rfl (by decide) c_1) (by decide)) dX6_form_29 (fun H locs hN hz hS => ?_)
    refine lv_iinc (v := x3 + 1) (lv' := [(3, .int (x3 + 1)), (0, .ref (ad 12 i0)), (1, .int p0), (2, .int p1)]) hx hb dX6_form_30 hl (k := 0) rfl rfl (by decide) rfl (fun ls hl => ?_)
    refine lv_goto (tgt := 17) hx hb dX6_form_33 (by decide) ?_
    exact ih n (x3 + 1, u3 Z17 13 i0 ((x3 : Int32).toNatClampNeg) (-1)) _ _ _ (by omega) ⟨lv_sub hl [0, 1, 2, 3] rfl, hN, hS, by rw [hfe, gX6_form_17_s, if_neg c_1], cnt_back (B := 8) hi1 hi3 rfl (by decide) c_1⟩
set_option maxHeartbeats 4000000 in
set_option maxRecDepth 100000 in
theorem kX5_set (l : Launch) (D : va_G) (C : Nat → ClassId) (A : Nat → Prop) (ad : Nat → Nat → Nat) (nh nv na : Nat) (Y : Nat → Nat → Nat → Int32) (i0 : Nat) (hd0 : domY nh nv na 16 i0) (p0 p1 : Int32) : Met l yX5_set wsX5_set ({ frames := 1, cells := 0, slots := 0, locals := 23 }) (va_Pc [.ref (ad 16 i0), .int p0, .int p1] (PW D C A (nw D (enY C) (domY nh nv na) A ad Y))) (nQ A none (nw D (enY C) (domY nh nv na) A ad (fX5_set Y i0 p0 p1))) 0 0 A := by
  refine Met.ofW (cc := cX5_set) (maxL := 4) (ret := none) (by decide) rfl ?_
  intro p e s m args below meth c s₁ B hml hv
  obtain ⟨rfl, hK, hN, hA⟩ := hv
  have hx := B.exec
  have hb := B.bytes
  have hr := B.returns
  have hts := atoms_spec (ws := wsX5_set) B.pre
  have hown : s.vm.findClass RX5 = some m.cls := findClass_of_methodNamed B.named
  have hlocks := B.notSynchronized
  have S : CallFix p m c cX5_set 4 s _ wsX5_set RX5 := ⟨hx, hb, hml, hown, hts⟩
  have hin5 : ∀ w ∈ wsX50, w ∈ wsX5_set := (fun _ h => List.mem_cons_of_mem _ (List.mem_append_right _ (h)))
  have hS : va_S A s.heap s.heap [] := va_S.rf
  have hl := lv_entry ([.ref (ad 16 i0), .int p0, .int p1]) (n := 4) (Nat.le_of_ble_eq_true rfl)
  rw [lg_entry_eq]
  generalize (lg_sl ([.ref (ad 16 i0), .int p0, .int p1]) ++ List.replicate (4 - (lg_sl ([.ref (ad 16 i0), .int p0, .int p1])).length) Slot.unset).toArray = ls at hl ⊢
  have hl : lv_has ls 4 [(0, .ref (ad 16 i0)), (1, .int p0), (2, .int p1)] := hl
  refine lv_aload_n hx hb dX5_set_0 rfl (lv_at hl 0 rfl) ?_
  refine lv_iconst (v := 1) hx hb dX5_set_1 (by decide) ?_
  refine nw_put S hK hN hS (k := 16) (i := i0) hd0 rfl rfl hin5 tyX5_ok nmX5 2 (by decide) (index := 20) (ref := "RidingYard$Table") (List.mem_cons_of_mem _ (List.mem_append_left _ (List.mem_of_getElem? (i := 0) rfl))) (fun _ h => h) rfl 1 rfl rfl rfl (Nat.le_of_ble_eq_true rfl) dX5_set_2 (fun H locs hN hz hS => ?_)
  refine lv_aload_n hx hb dX5_set_5 rfl (lv_at hl 0 rfl) ?_
  refine lv_iload_n hx hb dX5_set_6 rfl (lv_at hl 1 rfl) ?_
  refine nw_put S hK hN hS (k := 16) (i := i0) hd0 rfl rfl hin5 tyX5_ok nmX5 3 (by decide) (index := 24) (ref := "RidingYard$Table") (List.mem_cons_of_mem _ (List.mem_append_left _ (List.mem_of_getElem? (i := 1) rfl))) (fun _ h => h) rfl p0 rfl rfl rfl (Nat.le_of_ble_eq_true rfl) dX5_set_7 (fun H locs hN hz hS => ?_)
  refine lv_aload_n hx hb dX5_set_10 rfl (lv_at hl 0 rfl) ?_
  refine lv_iload_n hx hb dX5_set_11 rfl (lv_at hl 2 rfl) ?_
  refine nw_put S hK hN hS (k := 16) (i := i0) hd0 rfl rfl hin5 tyX5_ok nmX5 4 (by decide) (index := 28) (ref := "RidingYard$Table") (List.mem_cons_of_mem _ (List.mem_append_left _ (List.mem_of_getElem? (i := 2) rfl))) (fun _ h => h) rfl p1 rfl rfl rfl (Nat.le_of_ble_eq_true rfl) dX5_set_12 (fun H locs hN hz hS => ?_)
  refine lv_iconst (v := 0) hx hb dX5_set_15 (by decide) ?_
  refine lv_istore_n (lv' := [(3, .int 0), (0, .ref (ad 16 i0)), (1, .int p0), (2, .int p1)]) hx hb dX5_set_16 rfl hl (by decide) rfl (fun ls hl => ?_)
  refine lpW (σ := Int32 × (Nat → Nat → Nat → Int32)) 7 (0, u3 (u3 (u3 Y 16 i0 2 1) 16 i0 3 p0) 16 i0 4 p1) (fun n x H locs ls => lv_has ls 4 [(3, .int x.1), (0, .ref (ad 16 i0)), (1, .int p0), (2, .int p1)] ∧ nw D (enY C) (domY nh nv na) A ad x.2 H ∧ va_S A s.heap H locs ∧ fX5_set Y i0 p0 p1 = gX5_set_17 i0 p0 p1 n x.1 (x.2) ∧ (∃ i : Nat, x.1 = nI i ∧ i ≤ 6 ∧ i + n = 7)) 17 (fun n x H locs ls hP ih => ?_) ⟨lv_sub hl [0, 1, 2, 3] rfl, hN, hS, rfl, 0, rfl, by omega, rfl⟩
  obtain ⟨x3, Z17⟩ := x
  obtain ⟨hl, hN, hS, hfe, hinv⟩ := hP
  dsimp only at hl hN hfe hinv
  obtain ⟨i, hi1, hi2, hi3⟩ := hinv
  obtain ⟨n, rfl⟩ : ∃ k, n = k + 1 := ⟨n - 1, by omega⟩
  refine lv_iload_n hx hb dX5_set_17 rfl (lv_at hl 0 rfl) ?_
  refine lv_bipush (v := 6) hx hb dX5_set_18 (by decide) ?_
  refine lv_icmp_ge (x := x3) (y := 6) (tgt := 46) hx hb dX5_set_20 (by decide) (fun c_1 => ?_) (fun c_1 => ?_)
  · have hf : fX5_set Y i0 p0 p1 = Z17 := by rw [hfe, gX5_set_17_s, if_pos c_1]
    exact W.vret hx hb hr (fun t ht _ => by rw [hf]; exact nw_end hS hN ht) hS.2.2 dX5_set_46
  · refine lv_aload_n hx hb dX5_set_23 rfl (lv_at hl 1 rfl) ?_
    refine nw_get S hK hN (k := 16) (i := i0) hd0 rfl rfl hin5 1 (by decide) (index := 16) (ref := "RidingYard$Table") (List.mem_cons_of_mem _ (List.mem_append_left _ (List.mem_of_getElem? (i := 3) rfl))) (fun _ h => h) (v := .ref (ad 19 i0)) rfl dX5_set_24 ?_
    refine lv_iload_n hx hb dX5_set_27 rfl (lv_at hl 0 rfl) ?_
    refine lv_iconst (v := 1) hx hb dX5_set_28 (by decide) ?_
    refine nw_zast S hK hN hS (k := 19) (i := i0) hd0 (fun _ => rfl) (x := x3) (v := 1) (cn_in hi1 (cnt_lt (B := 6) hi1 hi3 rfl (by decide) c_1) (by decide)) rfl dX5_set_29 (fun H locs hN hz hS => ?_)
    refine lv_aload_n hx hb dX5_set_30 rfl (lv_at hl 1 rfl) ?_
    refine nw_get S hK hN (k := 16) (i := i0) hd0 rfl rfl hin5 0 (by decide) (index := 11) (ref := "RidingYard$Table") (List.mem_cons_of_mem _ (List.mem_append_left _ (List.mem_of_getElem? (i := 4) rfl))) (fun _ h => h) (v := .ref (ad 17 i0)) rfl dX5_set_31 ?_
    refine lv_iload_n hx hb dX5_set_34 rfl (lv_at hl 0 rfl) ?_
    refine nw_aald S hK hN (k := 17) (i := i0) hd0 8 rfl rfl rfl (x := x3) (cn_in hi1 (cnt_lt (B := 6) hi1 hi3 rfl (by decide) c_1) (by decide)) dX5_set_35 (v := .ref (ad 18 (6 * i0 + ((x3 : Int32).toNatClampNeg)))) rfl ?_
    refine lv_iconst (v := 0) hx hb dX5_set_36 (by decide) ?_
    refine nwY_callSv (As := [.ref (ad 18 (6 * i0 + ((x3 : Int32).toNatClampNeg))), .int 0]) (rest := []) S (kJ7_fill_53178 l D C A ad nh nv na (u3 Z17 19 i0 ((x3 : Int32).toNatClampNeg) 1) 18 (6 * i0 + ((x3 : Int32).toNatClampNeg)) 6 (row_lt hd0 (vp_lt (cn_in hi1 (cnt_lt (B := 6) hi1 hi3 rfl (by decide) c_1) (by decide)))) (fun _ => rfl) (by decide) 0) gX5_set_J7_fill_53178 rfl ⟨rfl, rfl⟩ hqJ7_fill_53178 ⟨Nat.le_of_ble_eq_true rfl, Nat.le_of_ble_eq_true rfl⟩ hK hN hA hS rfl hl.1 rfl (Nat.le_of_ble_eq_true rfl) dX5_set_37 ⟨Nat.le_of_ble_eq_true rfl, Nat.le_of_ble_eq_true rfl⟩ (fun H locs hN hS => ?_)
    refine lv_iinc (v := x3 + 1) (lv' := [(3, .int (x3 + 1)), (0, .ref (ad 16 i0)), (1, .int p0), (2, .int p1)]) hx hb dX5_set_40 hl (k := 0) rfl rfl (by decide) rfl (fun ls hl => ?_)
    refine lv_goto (tgt := 17) hx hb dX5_set_43 (by decide) ?_
    exact ih n (x3 + 1, frY (u3 Z17 19 i0 ((x3 : Int32).toNatClampNeg) 1) 18 (6 * i0 + ((x3 : Int32).toNatClampNeg)) 6 0) _ _ _ (by omega) ⟨lv_sub hl [0, 1, 2, 3] rfl, hN, hS, by rw [hfe, gX5_set_17_s, if_neg c_1], cnt_back (B := 6) hi1 hi3 rfl (by decide) c_1⟩
set_option maxHeartbeats 4000000 in
set_option maxRecDepth 100000 in
theorem kX4_open (l : Launch) (D : va_G) (C : Nat → ClassId) (A : Nat → Prop) (ad : Nat → Nat → Nat) (nh nv na : Nat) (Y : Nat → Nat → Nat → Int32) (i0 : Nat) (hd0 : domY nh nv na 14 i0) (p0 : Int32) : Met l yX4_open wsX4_open ({ frames := 1, cells := 0, slots := 0, locals := 23 }) (va_Pc [.ref (ad 14 i0), .int p0] (PW D C A (nw D (enY C) (domY nh nv na) A ad Y))) (nQ A none (nw D (enY C) (domY nh nv na) A ad (fX4_open Y i0 p0))) 0 0 A := by
  refine Met.ofW (cc := cX4_open) (maxL := 2) (ret := none) (by decide) rfl ?_
  intro p e s m args below meth c s₁ B hml hv
  obtain ⟨rfl, hK, hN, hA⟩ := hv
  have hx := B.exec
  have hb := B.bytes
  have hr := B.returns
  have hts := atoms_spec (ws := wsX4_open) B.pre
  have hown : s.vm.findClass RX4 = some m.cls := findClass_of_methodNamed B.named
  have hlocks := B.notSynchronized
  have S : CallFix p m c cX4_open 2 s _ wsX4_open RX4 := ⟨hx, hb, hml, hown, hts⟩
  have hin4 : ∀ w ∈ wsX40, w ∈ wsX4_open := (fun _ h => List.mem_cons_of_mem _ (List.mem_append_right _ (h)))
  have hS : va_S A s.heap s.heap [] := va_S.rf
  have hl := lv_entry ([.ref (ad 14 i0), .int p0]) (n := 2) (Nat.le_of_ble_eq_true rfl)
  rw [lg_entry_eq]
  generalize (lg_sl ([.ref (ad 14 i0), .int p0]) ++ List.replicate (2 - (lg_sl ([.ref (ad 14 i0), .int p0])).length) Slot.unset).toArray = ls at hl ⊢
  have hl : lv_has ls 2 [(0, .ref (ad 14 i0)), (1, .int p0)] := hl
  refine lv_aload_n hx hb dX4_open_0 rfl (lv_at hl 0 rfl) ?_
  refine lv_iconst (v := 1) hx hb dX4_open_1 (by decide) ?_
  refine nw_put S hK hN hS (k := 14) (i := i0) hd0 rfl rfl hin4 tyX4_ok nmX4 1 (by decide) (index := 15) (ref := "RidingYard$Ledger") (List.mem_cons_of_mem _ (List.mem_append_left _ (List.mem_of_getElem? (i := 0) rfl))) (fun _ h => h) rfl 1 rfl rfl rfl (Nat.le_of_ble_eq_true rfl) dX4_open_2 (fun H locs hN hz hS => ?_)
  refine lv_aload_n hx hb dX4_open_5 rfl (lv_at hl 0 rfl) ?_
  refine lv_iload_n hx hb dX4_open_6 rfl (lv_at hl 1 rfl) ?_
  refine nw_put S hK hN hS (k := 14) (i := i0) hd0 rfl rfl hin4 tyX4_ok nmX4 2 (by decide) (index := 19) (ref := "RidingYard$Ledger") (List.mem_cons_of_mem _ (List.mem_append_left _ (List.mem_of_getElem? (i := 1) rfl))) (fun _ h => h) rfl p0 rfl rfl rfl (Nat.le_of_ble_eq_true rfl) dX4_open_7 (fun H locs hN hz hS => ?_)
  refine lv_aload_n hx hb dX4_open_10 rfl (lv_at hl 0 rfl) ?_
  refine nw_get S hK hN (k := 14) (i := i0) hd0 rfl rfl hin4 0 (by decide) (index := 9) (ref := "RidingYard$Ledger") (List.mem_cons_of_mem _ (List.mem_append_left _ (List.mem_of_getElem? (i := 2) rfl))) (fun _ h => h) (v := .ref (ad 15 i0)) rfl dX4_open_11 ?_
  refine lv_iconst (v := 0) hx hb dX4_open_14 (by decide) ?_
  refine nwY_callSv (As := [.ref (ad 15 i0), .int 0]) (rest := []) S (kJ7_fill_53178 l D C A ad nh nv na (u3 (u3 Y 14 i0 1 1) 14 i0 2 p0) 15 i0 12 hd0 (fun _ => rfl) (by decide) 0) gX4_open_J7_fill_53178 rfl ⟨rfl, rfl⟩ hqJ7_fill_53178 ⟨Nat.le_of_ble_eq_true rfl, Nat.le_of_ble_eq_true rfl⟩ hK hN hA hS rfl hl.1 rfl (Nat.le_of_ble_eq_true rfl) dX4_open_15 ⟨Nat.le_of_ble_eq_true rfl, Nat.le_of_ble_eq_true rfl⟩ (fun H locs hN hS => ?_)
  have hf : fX4_open Y i0 p0 = frY (u3 (u3 Y 14 i0 1 1) 14 i0 2 p0) 15 i0 12 0 := rfl
  exact W.vret hx hb hr (fun t ht _ => by rw [hf]; exact nw_end hS hN ht) hS.2.2 dX4_open_18
set_option maxHeartbeats 4000000 in
set_option maxRecDepth 100000 in
theorem kX4_sum (l : Launch) (D : va_G) (C : Nat → ClassId) (A : Nat → Prop) (ad : Nat → Nat → Nat) (nh nv na : Nat) (Y : Nat → Nat → Nat → Int32) (i0 : Nat) (hd0 : domY nh nv na 14 i0) (kk : Nat) (hI : InvY nh nv na kk Y) : Met l yX4_sum wsX4_sum ({ frames := 0, cells := 0, slots := 0, locals := 0 }) (va_Pc [.ref (ad 14 i0)] (PW D C A (nw D (enY C) (domY nh nv na) A ad Y))) (nQ A (some (.int (fX4_sum Y i0).1)) (nw D (enY C) (domY nh nv na) A ad (fX4_sum Y i0).2)) 0 0 A := by
  refine Met.ofW (cc := cX4_sum) (maxL := 3) (ret := (some .int)) (by decide) rfl ?_
  intro p e s m args below meth c s₁ B hml hv
  obtain ⟨rfl, hK, hN, hA⟩ := hv
  have hx := B.exec
  have hb := B.bytes
  have hr := B.returns
  have hts := atoms_spec (ws := wsX4_sum) B.pre
  have hown : s.vm.findClass RX4 = some m.cls := findClass_of_methodNamed B.named
  have hlocks := B.notSynchronized
  have S : CallFix p m c cX4_sum 3 s _ wsX4_sum RX4 := ⟨hx, hb, hml, hown, hts⟩
  have hin4 : ∀ w ∈ wsX40, w ∈ wsX4_sum := (fun _ h => List.mem_cons_of_mem _ (List.mem_append_right _ (h)))
  have hS : va_S A s.heap s.heap [] := va_S.rf
  have hl := lv_entry ([.ref (ad 14 i0)]) (n := 3) (Nat.le_of_ble_eq_true rfl)
  rw [lg_entry_eq]
  generalize (lg_sl ([.ref (ad 14 i0)]) ++ List.replicate (3 - (lg_sl ([.ref (ad 14 i0)])).length) Slot.unset).toArray = ls at hl ⊢
  have hl : lv_has ls 3 [(0, .ref (ad 14 i0))] := hl
  refine lv_iconst (v := 0) hx hb dX4_sum_0 (by decide) ?_
  refine lv_istore_n (lv' := [(1, .int 0), (0, .ref (ad 14 i0))]) hx hb dX4_sum_1 rfl hl (by decide) rfl (fun ls hl => ?_)
  refine lv_iconst (v := 0) hx hb dX4_sum_2 (by decide) ?_
  refine lv_istore_n (lv' := [(2, .int 0), (1, .int 0), (0, .ref (ad 14 i0))]) hx hb dX4_sum_3 rfl hl (by decide) rfl (fun ls hl => ?_)
  refine lpW (σ := Int32 × Int32 × (Nat → Nat → Nat → Int32)) 13 (0, 0, Y) (fun n x H locs ls => lv_has ls 3 [(2, .int x.1), (1, .int x.2.1), (0, .ref (ad 14 i0))] ∧ nw D (enY C) (domY nh nv na) A ad x.2.2 H ∧ va_S A s.heap H locs ∧ fX4_sum Y i0 = gX4_sum_4 i0 n x.1 x.2.1 (x.2.2) ∧ (InvY nh nv na kk x.2.2 ∧ ∃ i : Nat, x.1 = nI i ∧ i ≤ 12 ∧ i + n = 13)) 4 (fun n x H locs ls hP ih => ?_) ⟨lv_sub hl [0, 1, 2] rfl, hN, hS, rfl, hI, 0, rfl, by omega, rfl⟩
  obtain ⟨x2, x1, Z4⟩ := x
  obtain ⟨hl, hN, hS, hfe, hinv⟩ := hP
  dsimp only at hl hN hfe hinv
  obtain ⟨hI, i, hi1, hi2, hi3⟩ := hinv
  obtain ⟨n, rfl⟩ : ∃ k, n = k + 1 := ⟨n - 1, by omega⟩
  refine lv_iload_n hx hb dX4_sum_4 rfl (lv_at hl 0 rfl) ?_
  refine lv_aload_n hx hb dX4_sum_5 rfl (lv_at hl 2 rfl) ?_
  refine nw_get S hK hN (k := 14) (i := i0) hd0 rfl rfl hin4 2 (by decide) (index := 19) (ref := "RidingYard$Ledger") (List.mem_cons_of_mem _ (List.mem_append_left _ (List.mem_of_getElem? (i := 0) rfl))) (fun _ h => h) (v := .int (Z4 14 i0 2)) rfl dX4_sum_6 ?_
  refine lv_icmp_ge (x := x2) (y := Z4 14 i0 2) (tgt := 27) hx hb dX4_sum_9 (by decide) (fun c_1 => ?_) (fun c_1 => ?_)
  · refine lv_iload_n hx hb dX4_sum_27 rfl (lv_at hl 1 rfl) ?_
    have hf : fX4_sum Y i0 = (x1, Z4) := by rw [hfe, gX4_sum_4_s, if_pos c_1]
    exact W.iret (v := x1) hx hb hr (fun t ht _ => by rw [hf]; exact nw_end hS hN ht) hS.2.2 dX4_sum_28
  · refine lv_iload_n hx hb dX4_sum_12 rfl (lv_at hl 1 rfl) ?_
    refine lv_aload_n hx hb dX4_sum_13 rfl (lv_at hl 2 rfl) ?_
    refine nw_get S hK hN (k := 14) (i := i0) hd0 rfl rfl hin4 0 (by decide) (index := 9) (ref := "RidingYard$Ledger") (List.mem_cons_of_mem _ (List.mem_append_left _ (List.mem_of_getElem? (i := 1) rfl))) (fun _ h => h) (v := .ref (ad 15 i0)) rfl dX4_sum_14 ?_
    refine lv_iload_n hx hb dX4_sum_17 rfl (lv_at hl 0 rfl) ?_
    refine nw_iald S hK hN (k := 15) (i := i0) hd0 rfl (x := x2) (hI.lin hd0 hi1 hi2 c_1) dX4_sum_18 ?_
    refine lv_iadd hx hb dX4_sum_19 ?_
    refine lv_istore_n (lv' := [(1, .int (x1 + (Z4 15 i0 ((x2 : Int32).toNatClampNeg)))), (2, .int x2), (0, .ref (ad 14 i0))]) hx hb dX4_sum_20 rfl hl (by decide) rfl (fun ls hl => ?_)
    refine lv_iinc (v := x2 + 1) (lv' := [(2, .int (x2 + 1)), (1, .int (x1 + (Z4 15 i0 ((x2 : Int32).toNatClampNeg)))), (0, .ref (ad 14 i0))]) hx hb dX4_sum_21 hl (k := 1) rfl rfl (by decide) rfl (fun ls hl => ?_)
    refine lv_goto (tgt := 4) hx hb dX4_sum_24 (by decide) ?_
    exact ih n (x2 + 1, x1 + (Z4 15 i0 ((x2 : Int32).toNatClampNeg)), Z4) _ _ _ (by omega) ⟨lv_sub hl [0, 1, 2] rfl, hN, hS, by rw [hfe, gX4_sum_4_s, if_neg c_1], ⟨hI, hI.lback hd0 hi1 hi2 hi3 c_1⟩⟩
set_option maxHeartbeats 4000000 in
set_option maxRecDepth 100000 in
theorem kX6_isForN (l : Launch) (D : va_G) (C : Nat → ClassId) (A : Nat → Prop) (ad : Nat → Nat → Nat) (nh nv na : Nat) (Y : Nat → Nat → Nat → Int32) (i0 : Nat) (hd0 : domY nh nv na 12 i0) : Met l yX6_isFor wsX6_isFor ({ frames := 0, cells := 0, slots := 0, locals := 0 }) (va_Pc [.ref (ad 12 i0), .null] (PW D C A (nw D (enY C) (domY nh nv na) A ad Y))) (nQ A (some (.int 1)) (nw D (enY C) (domY nh nv na) A ad Y)) 0 0 A := by
  refine Met.ofW (cc := cX6_isFor) (maxL := 2) (ret := (some .boolean)) (by decide) rfl ?_
  intro p e s m args below meth c s₁ B hml hv
  obtain ⟨rfl, hK, hN, hA⟩ := hv
  have hx := B.exec
  have hb := B.bytes
  have hr := B.returns
  have hts := atoms_spec (ws := wsX6_isFor) B.pre
  have hown : s.vm.findClass RX6 = some m.cls := findClass_of_methodNamed B.named
  have hlocks := B.notSynchronized
  have S : CallFix p m c cX6_isFor 2 s _ wsX6_isFor RX6 := ⟨hx, hb, hml, hown, hts⟩
  have hin6 : ∀ w ∈ wsX60, w ∈ wsX6_isFor := (fun _ h => List.mem_cons_of_mem _ (List.mem_append_right _ (h)))
  have hS : va_S A s.heap s.heap [] := va_S.rf
  have hl := lv_entry ([.ref (ad 12 i0), .null]) (n := 2) (Nat.le_of_ble_eq_true rfl)
  rw [lg_entry_eq]
  generalize (lg_sl ([.ref (ad 12 i0), .null]) ++ List.replicate (2 - (lg_sl ([.ref (ad 12 i0), .null])).length) Slot.unset).toArray = ls at hl ⊢
  have hl : lv_has ls 2 [(0, .ref (ad 12 i0)), (1, .null)] := hl
  refine lv_aload_nN hx hb dX6_isFor_0 rfl (lv_at hl 1 rfl) ?_
  refine lv_ifnullN (tgt := 15) hx hb dX6_isFor_1 (by decide) ?_
  refine lv_iconst (v := 1) hx hb dX6_isFor_15 (by decide) ?_
  refine lv_goto (tgt := 20) hx hb dX6_isFor_16 (by decide) ?_
  exact W.zret (v := 1) hx hb hr rfl (fun t ht _ => nw_end hS hN ht) hS.2.2 dX6_isFor_20
