section NWB
variable {p : Program} {l : Launch} {e : Env} {R : Room} {s : State} {m : MethodId} {args : Array Value} {below : List Frame} {meth : Method} {c : Code} {H : Heap} {locs : List Loc} {cells slots : Nat} {Q : State → Prop}
variable {pc : Nat} {ls : Array Slot} {rest : List Value} {A : Nat → Prop} {H0 : Heap}
theorem nw_callP {r : Value} {a : Array Value} {st0 : List Value} (hr : CallRun p l e R s m args below meth c H locs cells slots 0 0 (F0 m pc ls st0) rest (k2_QcV r a) (fun _ => False)) (kk : W p l e R s m args below meth c H locs cells slots Q (F0 m (pc + 3) ls (r :: rest))) : W p l e R s m args below meth c H locs cells slots Q (F0 m pc ls st0) := W.callV hr kk
theorem nw_calli {v : Value} {G : Heap → Prop} {mc ms : Nat} {st0 : List Value} {a : Array Value} (hr : va_Run p l e R s m args below meth c H locs cells slots mc ms (F0 m pc ls st0) rest (nQ A (some v) G a) A) (hS : va_S A H0 H locs)
    (kk : ∀ (H1 : Heap) (locs1 : List Loc), G H1 → H.size ≤ H1.size → (∀ q : Nat, q < H.size → ¬ A q → H1[q]? = H[q]?) → va_S A H0 H1 locs1 → W p l e R s m args below meth c H1 locs1 (cells + mc) (slots + ms) Q (F0 m (pc + 3) ls (v :: rest))) : W p l e R s m args below meth c H locs cells slots Q (F0 m pc ls st0) := nw_call hr hS kk
theorem nw_callv {G : Heap → Prop} {mc ms : Nat} {st0 : List Value} {a : Array Value} (hr : va_Run p l e R s m args below meth c H locs cells slots mc ms (F0 m pc ls st0) rest (nQ A none G a) A) (hS : va_S A H0 H locs)
    (kk : ∀ (H1 : Heap) (locs1 : List Loc), G H1 → H.size ≤ H1.size → (∀ q : Nat, q < H.size → ¬ A q → H1[q]? = H[q]?) → va_S A H0 H1 locs1 → W p l e R s m args below meth c H1 locs1 (cells + mc) (slots + ms) Q (F0 m (pc + 3) ls rest)) : W p l e R s m args below meth c H locs cells slots Q (F0 m pc ls st0) := nw_call hr hS kk
/-- two roads that meet with a number -/
theorem jn_i {g : JFrame} {V : Int32} {pc' : Nat} {ls : Array Slot} {rest : List Value} (kk : ∀ v : Int32, v = V → W p l e R s m args below meth c H locs cells slots Q (F0 m pc' ls (.int v :: rest)))
    (k : (∀ v : Int32, v = V → W p l e R s m args below meth c H locs cells slots Q (F0 m pc' ls (.int v :: rest))) → W p l e R s m args below meth c H locs cells slots Q g) : W p l e R s m args below meth c H locs cells slots Q g := k kk
/-- a loop: its measure falls -/
theorem lpW {σ : Type} (n0 : Nat) (x0 : σ) (P : Nat → σ → Heap → List Loc → Array Slot → Prop) (pc : Nat)
    (step : ∀ (n : Nat) (x : σ) (H : Heap) (locs : List Loc) (ls : Array Slot), P n x H locs ls → (∀ (n' : Nat) (x' : σ) (H' : Heap) (locs' : List Loc) (ls' : Array Slot), n' < n → P n' x' H' locs' ls' → W p l e R s m args below meth c H' locs' cells slots Q (F0 m pc ls' [])) → W p l e R s m args below meth c H locs cells slots Q (F0 m pc ls []))
    (h0 : P n0 x0 H locs ls) : W p l e R s m args below meth c H locs cells slots Q (F0 m pc ls []) := by
  have key : ∀ (N n : Nat) (x : σ) (H : Heap) (locs : List Loc) (ls : Array Slot), n < N → P n x H locs ls → W p l e R s m args below meth c H locs cells slots Q (F0 m pc ls []) := by
    intro N
    induction N with
    | zero => intro n x H locs ls hn; exact absurd hn (Nat.not_lt_zero n)
    | succ N ih => exact fun n x H locs ls hn hp => step n x H locs ls hp (fun n' x' H' locs' ls' h1 h2 => ih n' x' H' locs' ls' (by omega) h2)
  exact key (n0 + 1) n0 x0 H locs ls (Nat.lt_succ_self n0) h0
end NWB
/-! the reference's world: 0 the object, k the row in its field k -/
def lenM (k : Nat) : Nat := match k with
  | 1 => 60 | 2 => 60 | 3 => 60 | 4 => 60 | 5 => 60 | 6 => 60 | 8 => 60 | 9 => 60 | 11 => 10 | 12 => 6 | 13 => 6 | 14 => 6 | 15 => 48 | 16 => 4 | 17 => 48 | 18 => 4 | 19 => 4 | 20 => 24 | 21 => 144 | 22 => 6 | 23 => 6 | 25 => 20 | 26 => 20 | 27 => 20 | 28 => 20 | 30 => 40 | 31 => 40 | 32 => 7 | _ => 0
def obM (ad : Nat → Nat → Nat) (r : Nat → Int32) : List Value := [.int (r 0), .ref (ad 1 0), .ref (ad 2 0), .ref (ad 3 0), .ref (ad 4 0), .ref (ad 5 0), .ref (ad 6 0), .int (r 7), .ref (ad 8 0), .ref (ad 9 0), .int (r 10), .ref (ad 11 0), .ref (ad 12 0), .ref (ad 13 0), .ref (ad 14 0), .ref (ad 15 0), .ref (ad 16 0), .ref (ad 17 0), .ref (ad 18 0), .ref (ad 19 0), .ref (ad 20 0), .ref (ad 21 0), .ref (ad 22 0), .ref (ad 23 0), .int (r 24), .ref (ad 25 0), .ref (ad 26 0), .ref (ad 27 0), .ref (ad 28 0), .int (r 29), .ref (ad 30 0), .ref (ad 31 0), .ref (ad 32 0), .int (r 33), .int (r 34)]
def enM (C : Nat → ClassId) : nwE := fun ad k _ r => match k with
  | 0 => .inr (9, obM ad r)
  | 20 => .inl (C 1, 24, .inl r)
  | 22 => .inl (C 1, 6, .inl r)
  | k => .inl (C 0, lenM k, .inl r)
def domM (k i : Nat) : Prop := i = 0 ∧ (k == 0 || lenM k != 0) = true
/-- a method of the JDK's own, that no native row names -/
theorem nw_ofWF {l : Launch} {y : MethodName} {ws ws' : List Cond} {rm : Room} {Pc : Array Value → State → Prop} {Qc : Array Value → State → Outcome → State → Prop} {mc ms : Nat} {free : Addr → Prop} {cc : ByteArray} {maxL : Nat} {ret : Option FieldType}
    (hy : plainFor y = true) (hw : ws = Cond.code y cc maxL ret :: ws')
    (body : ∀ p e s m args below meth c s₁, BodyLoose p l y (headSpec ws rm) cc maxL ret e s m args below meth c s₁ → c.maxLocals = maxL → Pc args s →
      W p l e (headSpec ws rm).room s m args below meth c s.heap [] 0 0 (MQ below Qc args s mc ms free) (entryFrame m args maxL)) : Met l y ws rm Pc Qc mc ms free := by
  refine MetFree.of_bodySF (code := cc) (maxLocals := maxL) (ret := ret) hy ?_ ?_
  · intro args s m h hn
    obtain ⟨meth, c, h1, h2, h3, h4, h5, h6, -, -⟩ := Cond.code_spec hn (atoms_spec (ws := ws) h _ (by rw [hw]; exact List.mem_cons_self))
    exact ⟨meth, c, h1, h2, h3, h4, h5, h6⟩
  · intro p e s m args below meth c s₁ B hml hP _
    have hh0 : s₁.heap = s.heap := by rw [B.state]; rfl
    obtain ⟨t, a1, o, b1, b2, b3⟩ := body p e s m args below meth c s₁ B hml hP s₁ hh0 (Stand.of_body B)
    exact ⟨t, o, a1, b1, b2, ⟨b3.1, b3.2⟩⟩
theorem obM_0 (ad : Nat → Nat → Nat) (r : Nat → Int32) (x : Int32) : obM ad (va_up r 0 x) = (obM ad r).set 0 (.int x) := rfl
theorem obM_7 (ad : Nat → Nat → Nat) (r : Nat → Int32) (x : Int32) : obM ad (va_up r 7 x) = (obM ad r).set 7 (.int x) := rfl
theorem obM_10 (ad : Nat → Nat → Nat) (r : Nat → Int32) (x : Int32) : obM ad (va_up r 10 x) = (obM ad r).set 10 (.int x) := rfl
theorem obM_24 (ad : Nat → Nat → Nat) (r : Nat → Int32) (x : Int32) : obM ad (va_up r 24 x) = (obM ad r).set 24 (.int x) := rfl
theorem obM_29 (ad : Nat → Nat → Nat) (r : Nat → Int32) (x : Int32) : obM ad (va_up r 29 x) = (obM ad r).set 29 (.int x) := rfl
theorem obM_33 (ad : Nat → Nat → Nat) (r : Nat → Int32) (x : Int32) : obM ad (va_up r 33 x) = (obM ad r).set 33 (.int x) := rfl
theorem obM_34 (ad : Nat → Nat → Nat) (r : Nat → Int32) (x : Int32) : obM ad (va_up r 34 x) = (obM ad r).set 34 (.int x) := rfl
section NWM
variable {p : Program} {l : Launch} {e : Env} {R : Room} {s : State} {m : MethodId} {args : Array Value} {below : List Frame} {meth : Method} {c : Code} {H : Heap} {locs : List Loc} {cells slots : Nat} {Q : State → Prop}
variable {cc : ByteArray} {pc nL : Nat} {ls : Array Slot} {rest : List Value} {D : va_G} {C : Nat → ClassId} {A : Nat → Prop} {H0 : Heap} {ad : Nat → Nat → Nat} {Y : Nat → Nat → Nat → Int32} {Ts : List Cond}
theorem nwM_get (S : CallFix p m c cc nL s args Ts RX10) (hK : KK D C s) (hN : nw D (enM C) domM A ad Y H) (hin : ∀ w ∈ wsX100, w ∈ Ts) (j : Nat) (hj : j < 35) {index : Nat} (hlink : Cond.fieldLink RX10 index "RidingYardModel" (TX10 j).2.1 (TX10 j).2.2.1 ∈ Ts) (ht : (TX10 j).1 = "RidingYardModel") {v : Value} (hv : (obM ad (Y 0 0))[j]? = some v) (hdg : decode cc pc = .ok (.getfield index, 3))
    (kk : W p l e R s m args below meth c H locs cells slots Q (F0 m (pc + 3) ls (v :: rest))) : W p l e R s m args below meth c H locs cells slots Q (F0 m pc ls (.ref (ad 0 0) :: rest)) :=
  nw_get S hK hN (k := 0) (i := 0) ⟨rfl, rfl⟩ rfl (CN := RX10) (T := TX10) (N := 35) rfl hin j hj hlink (fun _ h => by rw [← ht]; exact h) hv hdg kk
theorem nwM_put (S : CallFix p m c cc nL s args Ts RX10) (hK : KK D C s) (hN : nw D (enM C) domM A ad Y H) (hS : va_S A H0 H locs) (hin : ∀ w ∈ wsX100, w ∈ Ts) (j : Nat) (hj : j < 35) {index : Nat} (hlink : Cond.fieldLink RX10 index "RidingYardModel" (TX10 j).2.1 (TX10 j).2.2.1 ∈ Ts) (ht : (TX10 j).1 = "RidingYardModel") (hfin : (TX10 j).2.2.2 = false) (hty : tyX10 j = .int) (x : Int32) (hset : obM ad (va_up (Y 0 0) j x) = (obM ad (Y 0 0)).set j (.int x)) (hdg : decode cc pc = .ok (.putfield index, 3))
    (kk : ∀ (H1 : Heap) (locs1 : List Loc), nw D (enM C) domM A ad (u3 Y 0 0 j x) H1 → H1.size = H.size → va_S A H0 H1 locs1 → W p l e R s m args below meth c H1 locs1 cells slots Q (F0 m (pc + 3) ls rest)) : W p l e R s m args below meth c H locs cells slots Q (F0 m pc ls (.int x :: .ref (ad 0 0) :: rest)) :=
  nw_put S hK hN hS (k := 0) (i := 0) ⟨rfl, rfl⟩ rfl (CN := RX10) (T := TX10) (N := 35) rfl hin tyX10_ok nmX10 j hj hlink (fun _ h => by rw [← ht]; exact h) hfin x (v := .int x) (by rw [hty]; rfl) (by rw [hty]; rfl) (congrArg (fun z => Sum.inr (9, z)) hset) hj hdg kk
theorem nwM_iald (S : CallFix p m c cc nL s args Ts RX10) (hK : KK D C s) (hN : nw D (enM C) domM A ad Y H) {k n : Nat} (hd : domM k 0) (he : enM C ad k 0 (Y k 0) = .inl (C 0, n, .inl (Y k 0))) {x : Int32} (hin : vp_in x n) (hdg : decode cc pc = .ok (.iaload, 1))
    (kk : W p l e R s m args below meth c H locs cells slots Q (F0 m (pc + 1) ls (.int (Y k 0 x.toNatClampNeg) :: rest))) : W p l e R s m args below meth c H locs cells slots Q (F0 m pc ls (.int x :: .ref (ad k 0) :: rest)) := nw_iald S hK hN hd he hin hdg kk
/-- a call of the reference's own method -/
theorem nwM_call {y : MethodName} {bytes : ByteArray} {maxL index n : Nat} {ret : Option FieldType} {ws ws' : List Cond} {rm : Room} {v : Value} {G G1 : Heap → Prop} {As : List Value} {st0 : List Value}
    (S : CallFix p m c cc nL s args Ts RX10) (hM : Met l y ws rm (va_Pc (.ref (ad 0 0) :: As) (PW D C A G)) (nQ A (some v) G1) 0 0 A) (hT : GoodIn Ts (wsV RX10 index RX10 y ws)) (hw : ws = Cond.code y bytes maxL ret :: ws') (hrm : rm.cells = 0 ∧ rm.slots = 0) (hd : y.cls = RX10 ∧ y.cls ≠ "java/lang/invoke/MethodHandle" ∧ y.cls ≠ "java/lang/invoke/VarHandle" ∧ (parseMethodDescriptor y.desc).map (fun d => d.parameters.length) = some n) (hR : rm.frames + 1 ≤ R.frames ∧ 8 + (maxL + 11) + rm.locals ≤ R.locals)
    (hK : KK D C s) (hN : nw D (enM C) domM A ad Y H) (hG : G H) (hA : ∀ q, s.heap.size ≤ q → A q) (hS : va_S A s.heap H locs) (hn : As.length = n) (hl : ls.size = nL) (hst : st0 = As.reverse ++ .ref (ad 0 0) :: rest) (hroom : (rest.map fun v => v.category).sum ≤ 8) (hdg : decode cc pc = .ok (.invokevirtual index, 3)) (hf : cells ≤ R.cells ∧ slots ≤ R.slots)
    (kk : ∀ (H1 : Heap) (locs1 : List Loc), G1 H1 → va_S A s.heap H1 locs1 → W p l e R s m args below meth c H1 locs1 cells slots Q (F0 m (pc + 3) ls (v :: rest))) : W p l e R s m args below meth c H locs cells slots Q (F0 m pc ls st0) := by
  refine nw_calli (mc := 0) (ms := 0) (va_runV (As := As) (rest := rest) S hM (cwV n S.2.2.2.2 hT hw hrm.1 hrm.2 hd hR) (nw_preV hK hG hA hS (nw_recv hK hN (k := 0) (i := 0) ⟨rfl, rfl⟩ rfl (CN := RX10) (T := TX10) (N := 35) rfl)) rfl hn hl hst (lv_room hroom) hdg hf) hS (fun H1 locs1 h1 _ _ h2 => kk H1 locs1 h1 h2)
/-- a call of a static method that reads no heap -/
theorem nw_callS {y : MethodName} {bytes : ByteArray} {maxL index n : Nat} {ret : Option FieldType} {ws ws' : List Cond} {rm : Room} {v : Value} {As : List Value} {st0 : List Value} {own : String}
    (S : CallFix p m c cc nL s args Ts own) (hM : Met l y ws rm (va_Pc As (fun _ => True)) (k2_QcV v) 0 0 (fun _ => False)) (hT : GoodIn Ts (va_wsS own index y ws)) (hw : ws = Cond.code y bytes maxL ret :: ws') (hrm : rm.cells = 0 ∧ rm.slots = 0) (hd : y.cls ≠ "java/lang/invoke/MethodHandle" ∧ y.cls ≠ "java/lang/invoke/VarHandle" ∧ (parseMethodDescriptor y.desc).map (fun d => d.parameters.length) = some n) (hR : rm.frames + 1 ≤ R.frames ∧ 8 + (maxL + 11) + rm.locals ≤ R.locals)
    (hn : As.length = n) (hl : ls.size = nL) (hst : st0 = As.reverse ++ rest) (hroom : (rest.map fun v => v.category).sum ≤ 8) (hdg : decode cc pc = .ok (.invokestatic index, 3)) (hf : cells ≤ R.cells ∧ slots ≤ R.slots)
    (kk : W p l e R s m args below meth c H locs cells slots Q (F0 m (pc + 3) ls (v :: rest))) : W p l e R s m args below meth c H locs cells slots Q (F0 m pc ls st0) :=
  nw_callP (W.runS (As := As) (rest := rest) S hM (va_cwS n S.2.2.2.2 hT hw hrm.1 hrm.2 hd hR) nw_preP rfl hn hl hst (lv_room hroom) hdg hf) kk
end NWM
