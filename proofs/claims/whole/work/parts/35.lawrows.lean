/-! the law's own rows -/
def ownA (dom : Nat → Nat → Prop) (ad : Nat → Nat → Nat) (z : Nat) : Nat → Prop := fun q => (∃ k i, dom k i ∧ q = ad k i) ∨ z ≤ q
theorem nw.own {D : va_G} {en : nwE} {dom : Nat → Nat → Prop} {A : Nat → Prop} {ad : Nat → Nat → Nat} {Y : StY} {H : Heap} (h : nw D en dom A ad Y H) : nw D en dom (ownA dom ad H.size) ad Y H := ⟨h.1, h.2.1, fun k i hd => Or.inl ⟨k, i, hd, rfl⟩⟩
theorem nw.loose {D : va_G} {en : nwE} {dom : Nat → Nat → Prop} {A B : Nat → Prop} {ad : Nat → Nat → Nat} {Y : StY} {H : Heap} (h : nw D en dom A ad Y H) (hAB : ∀ q, A q → B q) : nw D en dom B ad Y H := ⟨h.1, h.2.1, fun k i hd => hAB _ (h.2.2 k i hd)⟩
theorem ownA_sub {D : va_G} {en : nwE} {dom : Nat → Nat → Prop} {ad : Nat → Nat → Nat} {Y : StY} {H : Heap} {s0 : Nat} (h : nw D en dom (fun q => s0 ≤ q) ad Y H) (hz : s0 ≤ H.size) : ∀ q, ownA dom ad H.size q → s0 ≤ q := by
  rintro q (⟨k, i, hd, rfl⟩ | h2)
  · exact h.2.2 k i hd
  · omega
section NWL
variable {p : Program} {l : Launch} {e : Env} {R : Room} {s : State} {m : MethodId} {args : Array Value} {below : List Frame} {meth : Method} {c : Code} {H : Heap} {locs : List Loc} {cells slots : Nat} {Q : State → Prop}
variable {cc : ByteArray} {pc nL : Nat} {ls : Array Slot} {rest : List Value} {D : va_G} {C : Nat → ClassId} {A A0 : Nat → Prop} {H0 : Heap} {Ts : List Cond} {own : String}
theorem nwL_call {v : Value} {G : Heap → Prop} {mc ms : Nat} {st0 : List Value} {a : Array Value} (hr : va_Run p l e R s m args below meth c H locs cells slots mc ms (F0 m pc ls st0) rest (nQ A (some v) G a) A) (hS : va_S A0 H0 H locs) (hAA : ∀ q, A q → A0 q)
    (kk : ∀ (H1 : Heap) (locs1 : List Loc), G H1 → H.size ≤ H1.size → (∀ q : Nat, q < H.size → ¬ A q → H1[q]? = H[q]?) → va_S A0 H0 H1 locs1 → W p l e R s m args below meth c H1 locs1 (cells + mc) (slots + ms) Q (F0 m (pc + 3) ls (v :: rest))) : W p l e R s m args below meth c H locs cells slots Q (F0 m pc ls st0) := by
  intro T hT X
  obtain ⟨v', st₀, t, T', L, h0, X', hL, e1, e2, ⟨⟨hv, hg⟩, hz, hk⟩, st⟩ := hr T hT X
  cases hv
  rw [h0] at hz hk
  obtain ⟨t2, a1, b1⟩ := kk T'.heap (locs ++ L) (by rw [e1]; exact hg) (by rw [e1]; exact hz) (fun q h1 h2 => by rw [e1]; exact hk q h1 h2)
    ⟨Nat.le_trans hS.1 (by rw [e1]; exact hz), fun q h1 h2 => by rw [e1, hk q (Nat.lt_of_lt_of_le h1 hS.1) (fun z => h2 (hAA q z))]; exact hS.2.1 q h1 h2, fun q hq => by
      rcases List.mem_append.mp hq with h | h
      · exact hS.2.2 q h
      · exact hAA _ (hL q h)⟩ T' rfl X'
  exact ⟨t2, st t2 a1, b1⟩
theorem nwL_callv {G : Heap → Prop} {mc ms : Nat} {st0 : List Value} {a : Array Value} (hr : va_Run p l e R s m args below meth c H locs cells slots mc ms (F0 m pc ls st0) rest (nQ A none G a) A) (hS : va_S A0 H0 H locs) (hAA : ∀ q, A q → A0 q)
    (kk : ∀ (H1 : Heap) (locs1 : List Loc), G H1 → H.size ≤ H1.size → (∀ q : Nat, q < H.size → ¬ A q → H1[q]? = H[q]?) → va_S A0 H0 H1 locs1 → W p l e R s m args below meth c H1 locs1 (cells + mc) (slots + ms) Q (F0 m (pc + 3) ls rest)) : W p l e R s m args below meth c H locs cells slots Q (F0 m pc ls st0) := by
  intro T hT X
  obtain ⟨v', st₀, t, T', L, h0, X', hL, e1, e2, ⟨⟨hv, hg⟩, hz, hk⟩, st⟩ := hr T hT X
  cases hv
  rw [h0] at hz hk
  obtain ⟨t2, a1, b1⟩ := kk T'.heap (locs ++ L) (by rw [e1]; exact hg) (by rw [e1]; exact hz) (fun q h1 h2 => by rw [e1]; exact hk q h1 h2)
    ⟨Nat.le_trans hS.1 (by rw [e1]; exact hz), fun q h1 h2 => by rw [e1, hk q (Nat.lt_of_lt_of_le h1 hS.1) (fun z => h2 (hAA q z))]; exact hS.2.1 q h1 h2, fun q hq => by
      rcases List.mem_append.mp hq with h | h
      · exact hS.2.2 q h
      · exact hAA _ (hL q h)⟩ T' rfl X'
  exact ⟨t2, st t2 a1, b1⟩
theorem nwL_preV {G : Heap → Prop} {b : Nat} {As : List Value} {CN : String} (hK : KK D C s) (hG : G H) (hA : ∀ q, H.size ≤ q → A q) (hrecv : ∃ cell : Cell, H[b]? = some cell ∧ cell.vm.isStatics = false ∧ s.vm.findClass CN = some cell.cls) : PreV s H CN b (va_Pc (.ref b :: As) (PW D C A G)) As :=
  ⟨PW.blind, hrecv, fun U hU hW => ⟨rfl, KK.warm hW hK, by rw [hU]; exact hG, fun q hq => hA q (by rw [← hU]; exact hq)⟩⟩
theorem nwL_preS {G : Heap → Prop} {As : List Value} (hK : KK D C s) (hG : G H) (hA : ∀ q, H.size ≤ q → A q) : PreS s H (va_Pc As (PW D C A G)) As :=
  ⟨PW.blind, fun U hU hW => ⟨rfl, KK.warm hW hK, by rw [hU]; exact hG, fun q hq => hA q (by rw [← hU]; exact hq)⟩⟩
theorem nwL_preZ {G : Heap → Prop} {b tt : Nat} {As : List Value} {CN : String} (hK : KK D C s) (hG : G H) (hA : ∀ q, H.size ≤ q → A q) (hZ : ZP tt A s H) (hrecv : ∃ cell : Cell, H[b]? = some cell ∧ cell.vm.isStatics = false ∧ s.vm.findClass CN = some cell.cls) : PreV s H CN b (va_Pc (.ref b :: As) (PZ D C A G tt)) As :=
  ⟨PZ.blind, hrecv, fun U hU hW => ⟨rfl, ⟨KK.warm hW hK, by rw [hU]; exact hG, fun q hq => hA q (by rw [← hU]; exact hq)⟩, by rw [hU]; exact ⟨va_Z.moved hW.alike hZ.1, va_T.moved hW.alike hZ.2⟩⟩⟩
/-- a method of x, of m -/
theorem nwL_V {y : MethodName} {bytes : ByteArray} {maxL index n mc ms : Nat} {ret : Option FieldType} {ws ws' : List Cond} {rm : Room} {v : Value} {P : State → Prop} {G1 : Heap → Prop} {As : List Value} {st0 : List Value} {CN : String} {b : Nat}
    (S : CallFix p m c cc nL s args Ts own) (hM : Met l y ws rm (va_Pc (.ref b :: As) P) (nQ A (some v) G1) mc ms A) (hT : GoodIn Ts (wsV own index CN y ws)) (hw : ws = Cond.code y bytes maxL ret :: ws') (hrm : rm.cells = mc ∧ rm.slots = ms) (hd : y.cls = CN ∧ y.cls ≠ "java/lang/invoke/MethodHandle" ∧ y.cls ≠ "java/lang/invoke/VarHandle" ∧ (parseMethodDescriptor y.desc).map (fun d => d.parameters.length) = some n) (hR : rm.frames + 1 ≤ R.frames ∧ 8 + (maxL + 11) + rm.locals ≤ R.locals)
    (hp : PreV s H CN b (va_Pc (.ref b :: As) P) As) (hS : va_S A0 s.heap H locs) (hAA : ∀ q, A q → A0 q) (hn : As.length = n) (hl : ls.size = nL) (hst : st0 = As.reverse ++ .ref b :: rest) (hroom : (rest.map fun v => v.category).sum ≤ 8) (hdg : decode cc pc = .ok (.invokevirtual index, 3)) (hf : cells + mc ≤ R.cells ∧ slots + ms ≤ R.slots)
    (kk : ∀ (H1 : Heap) (locs1 : List Loc), G1 H1 → H.size ≤ H1.size → (∀ q : Nat, q < H.size → ¬ A q → H1[q]? = H[q]?) → va_S A0 s.heap H1 locs1 → W p l e R s m args below meth c H1 locs1 (cells + mc) (slots + ms) Q (F0 m (pc + 3) ls (v :: rest))) : W p l e R s m args below meth c H locs cells slots Q (F0 m pc ls st0) :=
  nwL_call (va_runV (As := As) (rest := rest) S hM (cwV n S.2.2.2.2 hT hw hrm.1 hrm.2 hd hR) hp rfl hn hl hst (lv_room hroom) hdg hf) hS hAA kk
end NWL
/-- both worlds, apart -/
def LW (D : va_G) (C : Nat → ClassId) (s0 bx bm kk : Nat) (H : Heap) : Prop := ∃ (nh nv na : Nat) (Y M : StY) (aY aM : Nat → Nat → Nat), RC nh nv na kk Y M ∧ aY 0 0 = bx ∧ aM 0 0 = bm ∧ nw D (enY C) (domY nh nv na) (fun q => s0 ≤ q) aY Y H ∧ nw D (enM C) domM (fun q => s0 ≤ q) aM M H ∧ ∀ k i k' i', domY nh nv na k i → domM k' i' → aY k i ≠ aM k' i'
section LJ
variable {D : va_G} {C : Nat → ClassId} {s0 nh nv na n1 n2 n3 kk : Nat} {Y Y' M M' : StY} {aY aY' aM : Nat → Nat → Nat} {H H1 H2 : Heap}
/-- behind the yard's call -/
theorem joinY (hz : s0 ≤ H.size) (hY : nw D (enY C) (domY nh nv na) (fun q => s0 ≤ q) aY Y H) (hM : nw D (enM C) domM (fun q => s0 ≤ q) aM M H) (hdj : ∀ k i k' i', domY nh nv na k i → domM k' i' → aY k i ≠ aM k' i') (hY1 : nw D (enY C) (domY n1 n2 n3) (ownA (domY nh nv na) aY H.size) aY' Y' H1) (hq : ∀ q : Nat, q < H.size → ¬ ownA (domY nh nv na) aY H.size q → H1[q]? = H[q]?) :
    nw D (enY C) (domY n1 n2 n3) (fun q => s0 ≤ q) aY' Y' H1 ∧ nw D (enM C) domM (fun q => s0 ≤ q) aM M H1 ∧ ∀ k i k' i', domY n1 n2 n3 k i → domM k' i' → aY' k i ≠ aM k' i' := by
  have hno : ∀ k i, domM k i → ¬ ownA (domY nh nv na) aY H.size (aM k i) := by
    rintro k i hd (⟨k', i', hd', e⟩ | h2)
    · exact hdj k' i' k i hd' hd e.symm
    · have := hM.lt hd
      omega
  refine ⟨hY1.loose (ownA_sub hY hz), hM.kept (fun k i hd => hq _ (hM.lt hd) (hno k i hd)), fun k i k' i' hd hd' e => ?_⟩
  have h := hY1.2.2 k i hd
  rw [e] at h
  exact hno k' i' hd' h
/-- behind the reference's -/
theorem joinM (hz : s0 ≤ H.size) (hY : nw D (enY C) (domY nh nv na) (fun q => s0 ≤ q) aY Y H) (hM : nw D (enM C) domM (fun q => s0 ≤ q) aM M H) (hdj : ∀ k i k' i', domY nh nv na k i → domM k' i' → aY k i ≠ aM k' i') (hM1 : nw D (enM C) domM (ownA domM aM H.size) aM M' H1) (hq : ∀ q : Nat, q < H.size → ¬ ownA domM aM H.size q → H1[q]? = H[q]?) (hRC : RC nh nv na kk Y M') : LW D C s0 (aY 0 0) (aM 0 0) kk H1 := by
  have hno : ∀ k i, domY nh nv na k i → ¬ ownA domM aM H.size (aY k i) := by
    rintro k i hd (⟨k', i', hd', e⟩ | h2)
    · exact hdj k i k' i' hd hd' e
    · have := hY.lt hd
      omega
  exact ⟨nh, nv, na, Y, M', aY, aM, hRC, rfl, rfl, hY.kept (fun k i hd => hq _ (hY.lt hd) (hno k i hd)), hM1.loose (ownA_sub hM hz), hdj⟩
theorem GY.fix {A : Nat → Prop} {b : Nat} (hG : GY D C A b Y H) (h : RC n1 n2 n3 kk Y M) : ∃ ad, ad 0 0 = b ∧ nw D (enY C) (domY n1 n2 n3) A ad Y H := by
  obtain ⟨a, b', c, ad, e0, ⟨ha, ea⟩, ⟨hb, eb⟩, ⟨hc, ec⟩, hN⟩ := hG
  obtain ⟨⟨h1, q1⟩, ⟨h2, q2⟩, ⟨h3, q3⟩, -⟩ := h.1.inv
  have x1 : a = n1 := (nI_eq (by omega) (by omega)).mp (ea.symm.trans q1)
  have x2 : b' = n2 := (nI_eq (by omega) (by omega)).mp (eb.symm.trans q2)
  have x3 : c = n3 := (nI_eq (by omega) (by omega)).mp (ec.symm.trans q3)
  subst x1; subst x2; subst x3
  exact ⟨ad, e0, hN⟩
end LJ
theorem lin {t k L : Nat} (h : 5 * t + 5 ≤ L) (hk : k < 5) (hL : L ≤ 2560) : vp_in (nI (5 * t) + nI k) L := by
  rw [nI_add]
  exact vp_in_nI (by omega) (by omega)
theorem hqX9_horse : yX9_horse.cls = RX9 ∧ yX9_horse.cls ≠ "java/lang/invoke/MethodHandle" ∧ yX9_horse.cls ≠ "java/lang/invoke/VarHandle" ∧ (parseMethodDescriptor yX9_horse.desc).map (fun d => d.parameters.length) = some 3 := by decide +kernel
theorem hqX9_wagon : yX9_wagon.cls = RX9 ∧ yX9_wagon.cls ≠ "java/lang/invoke/MethodHandle" ∧ yX9_wagon.cls ≠ "java/lang/invoke/VarHandle" ∧ (parseMethodDescriptor yX9_wagon.desc).map (fun d => d.parameters.length) = some 2 := by decide +kernel
theorem hqX9_hang : yX9_hang.cls = RX9 ∧ yX9_hang.cls ≠ "java/lang/invoke/MethodHandle" ∧ yX9_hang.cls ≠ "java/lang/invoke/VarHandle" ∧ (parseMethodDescriptor yX9_hang.desc).map (fun d => d.parameters.length) = some 2 := by decide +kernel
