/-! MY WORLD: cells by name (a kind and a number), one function for all that they hold; ad gives a name's address -/
def u3 (Y : Nat → Nat → Nat → Int32) (k i j : Nat) (v : Int32) : Nat → Nat → Nat → Int32 := fun k' i' => if k' = k ∧ i' = i then va_up (Y k' i') j v else Y k' i'
theorem u3_row (Y : Nat → Nat → Nat → Int32) (k i j : Nat) (v : Int32) : u3 Y k i j v k i = va_up (Y k i) j v := by simp [u3]
theorem u3_ne {Y : Nat → Nat → Nat → Int32} {k i j k' i' : Nat} {v : Int32} (h : ¬ (k' = k ∧ i' = i)) : u3 Y k i j v k' i' = Y k' i' := if_neg h
theorem u3_at (Y : Nat → Nat → Nat → Int32) (k i j k' i' j' : Nat) (v : Int32) : u3 Y k i j v k' i' j' = if k' = k ∧ i' = i ∧ j' = j then v else Y k' i' j' := by
  by_cases h : k' = k ∧ i' = i
  · obtain ⟨rfl, rfl⟩ := h
    rw [u3_row]
    simp [va_up]
  · rw [u3_ne h, if_neg (fun q => h ⟨q.1, q.2.1⟩)]
abbrev nwE : Type := (Nat → Nat → Nat) → Nat → Nat → (Nat → Int32) → va_E
def nw (D : va_G) (en : nwE) (dom : Nat → Nat → Prop) (A : Nat → Prop) (ad : Nat → Nat → Nat) (Y : Nat → Nat → Nat → Int32) (H : Heap) : Prop :=
  (∀ k i, dom k i → va_at D vwCl (ad k i, en ad k i (Y k i)) H) ∧ (∀ k i k' i', dom k i → dom k' i' → ad k i = ad k' i' → k = k' ∧ i = i') ∧ ∀ k i, dom k i → A (ad k i)
theorem nw.one {D : va_G} {en : nwE} {dom : Nat → Nat → Prop} {A : Nat → Prop} {ad : Nat → Nat → Nat} {Y : Nat → Nat → Nat → Int32} {H : Heap} (h : nw D en dom A ad Y H) {k i : Nat} (hd : dom k i) : va_P D vwCl [(ad k i, en ad k i (Y k i))] H := by
  intro j q hj
  match j, hj with
  | 0, hj => cases hj; exact h.1 k i hd
  | j + 1, hj => simp at hj
theorem nw.set {D : va_G} {en : nwE} {dom : Nat → Nat → Prop} {A : Nat → Prop} {ad : Nat → Nat → Nat} {Y : Nat → Nat → Nat → Int32} {H H1 : Heap} (h : nw D en dom A ad Y H) {k i j : Nat} {x : Int32} (hd : dom k i) (he : va_at D vwCl (ad k i, en ad k i (va_up (Y k i) j x)) H1) (oq : ∀ q, q ≠ ad k i → H1[q]? = H[q]?) : nw D en dom A ad (u3 Y k i j x) H1 := by
  refine ⟨fun k' i' hd' => ?_, h.2⟩
  by_cases hk : k' = k ∧ i' = i
  · obtain ⟨rfl, rfl⟩ := hk
    rw [u3_row]
    exact he
  · rw [u3_ne hk]
    exact (h.1 k' i' hd').kept (oq _ (fun e => hk (h.2.1 k' i' k i hd' hd e)))
theorem nw.kept {D : va_G} {en : nwE} {dom : Nat → Nat → Prop} {A : Nat → Prop} {ad : Nat → Nat → Nat} {Y : Nat → Nat → Nat → Int32} {H H1 : Heap} (h : nw D en dom A ad Y H) (oq : ∀ k i, dom k i → H1[ad k i]? = H[ad k i]?) : nw D en dom A ad Y H1 :=
  ⟨fun k i hd => (h.1 k i hd).kept (oq k i hd), h.2⟩
theorem nw.lt {D : va_G} {en : nwE} {dom : Nat → Nat → Prop} {A : Nat → Prop} {ad : Nat → Nat → Nat} {Y : Nat → Nat → Nat → Int32} {H : Heap} (h : nw D en dom A ad Y H) {k i : Nat} (hd : dom k i) : ad k i < H.size := (h.1 k i hd).lt
/-- the state by another spelling -/
theorem nw.to {D : va_G} {en : nwE} {dom : Nat → Nat → Prop} {A : Nat → Prop} {ad : Nat → Nat → Nat} {Y Y' : Nat → Nat → Nat → Int32} {H : Heap} (h : nw D en dom A ad Y H) (e : Y = Y') : nw D en dom A ad Y' H := e ▸ h
/-- what the tables say: classes, array classes; which class may stand for which -/
abbrev tysC (C : Nat → ClassId) : List (ClassId × FieldType) := [(C 0, .int), (C 1, .boolean), (C 2, .object RX2), (C 3, .object RX8), (C 4, .object RX6), (C 5, .object RX4), (C 6, .object RX5), (C 7, .object RX0), (C 8, .array .int)]
def va_AI (U : State) : Prop := (Cond.arrayOver (.array .int)).before #[] U = true
theorem va_AI.moved {u U : State} (hvm : u.vm.Alike U.vm) (h : va_AI u) : va_AI U := by
  obtain ⟨comp, c, k, h1, h2, h3, h4, h5⟩ := arrayOverA_spec h
  obtain ⟨k', hk', he⟩ := hvm.2.2 _ _ h3
  have hi : (U.vm.classes.findIdx? fun (x : Class) => match x.kind with | .array component _ => component == comp | _ => false) = some c := by
    rw [hvm.findIdx?_eq _ (fun _ => rfl)]
    exact h2
  have hkind : k'.kind = .array comp (.array .int) := by rw [he]; exact h4
  have f1 : U.vm.findClass (FieldType.array .int).toString = some comp := by rw [hvm.findClass]; exact h1
  have f2 : U.vm.findClass ("[" ++ (FieldType.array .int).toString) = some c := by rw [hvm.findClass]; exact h5
  unfold va_AI Cond.before Cond.holds
  simp only [Cond.value]
  rw [f1, Option.bind_some]
  refine (congrArg (fun o : Option Nat => (o.bind (fun c => (U.vm.classes[c]?).map fun (k : Class) => match k.kind with | .array _ ty => decide (ty = FieldType.array .int) && decide (U.vm.findClass ("[" ++ (FieldType.array .int).toString) = some c) | _ => false) == some true)) hi).trans ?_
  simp [hk', hkind, f2]
def KN (U : State) : Prop := (va_Nw (.methodLinkNest RX9 60 yX6_init "RidingYard") U ∧ va_Nw (.methodLinkNest RX9 61 yX4_init "RidingYard") U ∧ va_Nw (.methodLinkNest RX9 62 yX5_init "RidingYard") U ∧ va_Nw (.methodLinkNest RX2 3 yX8_init "RidingYard") U ∧ va_Nw (.methodLinkNest RX7 1 yX8_init "RidingYard") U) ∧ (va_AO RX2 U ∧ va_AO RX8 U ∧ va_AO RX6 U ∧ va_AO RX4 U ∧ va_AO RX5 U ∧ va_AO RX0 U) ∧ va_AI U ∧ va_Nw (.declares ⟨"RidingYard$Worker", "workFor", "(I)I"⟩) U
theorem KN.warm {s U : State} (hW : s.WarmedH U.vm) (h : KN s) : KN U := by
  obtain ⟨⟨h1, h2, h3, h4, h5⟩, ⟨a1, a2, a3, a4, a5, a6⟩, b, d⟩ := h
  exact ⟨⟨va_Nw.warmM hW h1, va_Nw.warmM hW h2, va_Nw.warmM hW h3, va_Nw.warmM hW h4, va_Nw.warmM hW h5⟩, ⟨va_AO.moved hW.alike a1, va_AO.moved hW.alike a2, va_AO.moved hW.alike a3, va_AO.moved hW.alike a4, va_AO.moved hW.alike a5, va_AO.moved hW.alike a6⟩, va_AI.moved hW.alike b, va_Nw.warmD hW d⟩
theorem KN.calling {U : State} (g : JFrame) (mk : MethodId) (a : Array Value) (h : KN U) : KN (U.calling g mk a) := by
  obtain ⟨⟨h1, h2, h3, h4, h5⟩, ⟨a1, a2, a3, a4, a5, a6⟩, b, d⟩ := h
  exact ⟨⟨va_Nw.same rfl (u := U) rfl h1, va_Nw.same rfl (u := U) rfl h2, va_Nw.same rfl (u := U) rfl h3, va_Nw.same rfl (u := U) rfl h4, va_Nw.same rfl (u := U) rfl h5⟩, ⟨va_AO.moved (u := U) (Vm.Alike.refl U.vm) a1, va_AO.moved (u := U) (Vm.Alike.refl U.vm) a2, va_AO.moved (u := U) (Vm.Alike.refl U.vm) a3, va_AO.moved (u := U) (Vm.Alike.refl U.vm) a4, va_AO.moved (u := U) (Vm.Alike.refl U.vm) a5, va_AO.moved (u := U) (Vm.Alike.refl U.vm) a6⟩, va_AI.moved (u := U) (Vm.Alike.refl U.vm) b, va_Nw.same rfl (u := U) rfl d⟩
def KK (D : va_G) (C : Nat → ClassId) (U : State) : Prop := va_K D vwCl (tysC C) U ∧ (va_Nw (.castable RX1 RX2) U ∧ va_Nw (.castable RX3 RX2) U ∧ va_Nw (.castable RX1 RX8) U ∧ va_Nw (.castable RX2 RX8) U ∧ va_Nw (.castable RX3 RX8) U ∧ va_Nw (.castable RX7 RX8) U) ∧ (va_Nc RX7 RX2 U ∧ va_Nc RX2 RX3 U ∧ va_Nc RX1 RX3 U) ∧ KN U
theorem KK.warm {D : va_G} {C : Nat → ClassId} {s U : State} (hW : s.WarmedH U.vm) (h : KK D C s) : KK D C U := by
  obtain ⟨h0, ⟨h1, h2, h3, h4, h5, h6⟩, ⟨h7, h8, h9⟩, hn⟩ := h
  exact ⟨va_K.moved hW.alike h0, ⟨va_Nw.warmC hW h1, va_Nw.warmC hW h2, va_Nw.warmC hW h3, va_Nw.warmC hW h4, va_Nw.warmC hW h5, va_Nw.warmC hW h6⟩, ⟨va_Nc.moved hW.alike h7, va_Nc.moved hW.alike h8, va_Nc.moved hW.alike h9⟩, KN.warm hW hn⟩
theorem KK.calling {D : va_G} {C : Nat → ClassId} {U : State} (g : JFrame) (mk : MethodId) (a : Array Value) (h : KK D C U) : KK D C (U.calling g mk a) := by
  obtain ⟨h0, ⟨h1, h2, h3, h4, h5, h6⟩, ⟨h7, h8, h9⟩, hn⟩ := h
  exact ⟨va_K.moved (u := U) (U := U.calling g mk a) (Vm.Alike.refl U.vm) h0, ⟨va_Nw.same rfl (u := U) (U := U.calling g mk a) rfl h1, va_Nw.same rfl (u := U) (U := U.calling g mk a) rfl h2, va_Nw.same rfl (u := U) (U := U.calling g mk a) rfl h3, va_Nw.same rfl (u := U) (U := U.calling g mk a) rfl h4, va_Nw.same rfl (u := U) (U := U.calling g mk a) rfl h5, va_Nw.same rfl (u := U) (U := U.calling g mk a) rfl h6⟩, ⟨va_Nc.moved (u := U) (U := U.calling g mk a) (Vm.Alike.refl U.vm) h7, va_Nc.moved (u := U) (U := U.calling g mk a) (Vm.Alike.refl U.vm) h8, va_Nc.moved (u := U) (U := U.calling g mk a) (Vm.Alike.refl U.vm) h9⟩, KN.calling g mk a hn⟩
/-- a method's start: the tables, the heap as G has it, all new cells are its own -/
def PW (D : va_G) (C : Nat → ClassId) (A : Nat → Prop) (G : Heap → Prop) : State → Prop := fun U => KK D C U ∧ G U.heap ∧ ∀ q, U.heap.size ≤ q → A q
/-- its end: the answer, the heap, what isn't its own stays -/
def nQ (A : Nat → Prop) (v : Option Value) (G : Heap → Prop) : Array Value → State → Outcome → State → Prop := fun _ st oc t => (oc = .returned v ∧ G t.heap) ∧ va_F A st t
theorem PW.blind {D : va_G} {C : Nat → ClassId} {A : Nat → Prop} {G : Heap → Prop} {av : List Value} : FrameBlind (va_Pc av (PW D C A G)) := fun a U g mk q => ⟨q.1, KK.calling g mk a q.2.1, q.2.2⟩
section NW
variable {p : Program} {l : Launch} {e : Env} {R : Room} {s : State} {m : MethodId} {args : Array Value} {below : List Frame} {meth : Method} {c : Code} {H : Heap} {locs : List Loc} {cells slots : Nat} {Q : State → Prop}
variable {cc : ByteArray} {pc nL : Nat} {ls : Array Slot} {rest : List Value} {D : va_G} {C : Nat → ClassId} {A : Nat → Prop} {H0 : Heap} {en : nwE} {dom : Nat → Nat → Prop} {ad : Nat → Nat → Nat} {Y : Nat → Nat → Nat → Int32} {Ts : List Cond} {own : String}
theorem nw_get (S : CallFix p m c cc nL s args Ts own) (hK : KK D C s) (hN : nw D en dom A ad Y H) {k i : Nat} (hd : dom k i) {ci : Nat} {fs : List Value} (he : en ad k i (Y k i) = .inr (ci, fs)) {CN : String} {T : u_T} {N : Nat} (hc : vwCl[ci]? = some (CN, T, N)) (hin : ∀ w ∈ u_ws CN T N, w ∈ Ts) (j : Nat) (hj : j < N) {index : Nat} {ref : String} (hlink : Cond.fieldLink own index ref (T j).2.1 (T j).2.2.1 ∈ Ts) (hsame : ∀ x, s.fieldFound? (T j).1 (T j).2.1 (T j).2.2.1 = some x → s.fieldFound? ref (T j).2.1 (T j).2.2.1 = some x) {v : Value} (hv : fs[j]? = some v) (hdg : decode cc pc = .ok (.getfield index, 3))
    (kk : W p l e R s m args below meth c H locs cells slots Q (F0 m (pc + 3) ls (v :: rest))) : W p l e R s m args below meth c H locs cells slots Q (F0 m pc ls (.ref (ad k i) :: rest)) :=
  va_get (ws := [(ad k i, en ad k i (Y k i))]) S.1 S.2.1 S.2.2.2.2 hin S.2.2.2.1 hK.1 (hN.one hd) 0 (by rw [he]; rfl) hc j hj (S.2.2.2.2 _ hlink) hsame hv hdg kk
theorem nw_put (S : CallFix p m c cc nL s args Ts own) (hK : KK D C s) (hN : nw D en dom A ad Y H) (hS : va_S A H0 H locs) {k i : Nat} (hd : dom k i) {ci : Nat} {fs : List Value} (he : en ad k i (Y k i) = .inr (ci, fs)) {CN : String} {T : u_T} {N : Nat} (hc : vwCl[ci]? = some (CN, T, N)) (hin : ∀ w ∈ u_ws CN T N, w ∈ Ts) {ty0 : Nat → FieldType} (hty : ∀ k, k < N → parseFieldDescriptor (T k).2.2.1 = some (ty0 k)) (hnm : ∀ a, a < N → ∀ b, b < N → a ≠ b → (T a).2.1 ≠ (T b).2.1) (j : Nat) (hj : j < N) {index : Nat} {ref : String} (hlink : Cond.fieldLink own index ref (T j).2.1 (T j).2.2.1 ∈ Ts) (hsame : ∀ x, s.fieldFound? (T j).1 (T j).2.1 (T j).2.2.1 = some x → s.fieldFound? ref (T j).2.1 (T j).2.2.1 = some x) (hfin : (T j).2.2.2 = false) (x : Int32) {v : Value} (hn : narrow (ty0 j) v = v) (hfit : fits (ty0 j) v = true) (hset : en ad k i (va_up (Y k i) j x) = .inr (ci, fs.set j v)) (hl : j < fs.length) (hdg : decode cc pc = .ok (.putfield index, 3))
    (kk : ∀ (H1 : Heap) (locs1 : List Loc), nw D en dom A ad (u3 Y k i j x) H1 → H1.size = H.size → va_S A H0 H1 locs1 → W p l e R s m args below meth c H1 locs1 cells slots Q (F0 m (pc + 3) ls rest)) : W p l e R s m args below meth c H locs cells slots Q (F0 m pc ls (v :: .ref (ad k i) :: rest)) := by
  obtain ⟨hx, hb, -, hown, hts⟩ := S
  have hap := va_apart (own := own) hts hin ty0 hty hnm hK.1 hc
  have hat := hN.1 k i hd
  rw [he] at hat
  obtain ⟨r, h1, cell, q1, q2, q3, q4⟩ := hat
  have hr : r = (CN, T, N) := Option.some.inj (h1.symm.trans hc)
  subst hr
  obtain ⟨hSl, hfc, kC, hkC, hkind⟩ := hK.1.1 ci _ hc
  obtain ⟨cf, kf, fi, f, hi, hsl⟩ := hSl j hj
  have hlay := hts _ (hin _ (u_in_lay hj))
  unfold u_lay at hlay
  rw [if_neg (by rw [hfin]; decide)] at hlay
  have hst := (u_facts hfc hkC (u_lays hts hin hj) hi).1
  have h6 := u_store hfc hkC hkind hlay hi (hty j hj) hn hfit
  refine W.putK hx hb (f := f) ⟨hown, hts _ hlink, ⟨_, _, _, hsame _ hi⟩, hst⟩ (by rw [q2]; exact h6) q1 q3 (by rw [hsl]; exact k2_hasslot (q4 j hj)) rfl rfl hdg fun H' e1 e2 e3 => ?_
  rw [hsl] at e1 ⊢
  refine kk H' _ (hN.set hd ?_ e3) e2 (hS.put e2 e3 (hN.2.2 k i hd))
  rw [hset]
  exact ⟨_, hc, t_OB.to (V := updV (vp_V fs) j v) ⟨_, e1, q2, q3, t_set q4 hap hj v⟩ (fun j' _ => vp_updV_set hl v j')⟩
theorem nw_putF (S : CallFix p m c cc nL s args Ts own) (hK : KK D C s) (hN : nw D en dom A ad Y H) (hS : va_S A H0 H locs) {k i : Nat} (hd : dom k i) {ci : Nat} {fs : List Value} (he : en ad k i (Y k i) = .inr (ci, fs)) {CN : String} {T : u_T} {N : Nat} (hc : vwCl[ci]? = some (CN, T, N)) (hin : ∀ w ∈ u_ws CN T N, w ∈ Ts) {ty0 : Nat → FieldType} (hty : ∀ k, k < N → parseFieldDescriptor (T k).2.2.1 = some (ty0 k)) (hnm : ∀ a, a < N → ∀ b, b < N → a ≠ b → (T a).2.1 ≠ (T b).2.1) (j : Nat) (hj : j < N) {index : Nat} {ref : String} (hlink : Cond.fieldLink own index ref (T j).2.1 (T j).2.2.1 ∈ Ts) (hsame : ∀ x, s.fieldFound? (T j).1 (T j).2.1 (T j).2.2.1 = some x → s.fieldFound? ref (T j).2.1 (T j).2.2.1 = some x) (hfin : (T j).2.2.2 = true) (hin2 : meth.name = "<init>") (hdecl : (T j).1 = own) (x : Int32) {v : Value} (hn : narrow (ty0 j) v = v) (hfit : fits (ty0 j) v = true) (hset : en ad k i (va_up (Y k i) j x) = .inr (ci, fs.set j v)) (hl : j < fs.length) (hdg : decode cc pc = .ok (.putfield index, 3))
    (kk : ∀ (H1 : Heap) (locs1 : List Loc), nw D en dom A ad (u3 Y k i j x) H1 → H1.size = H.size → va_S A H0 H1 locs1 → W p l e R s m args below meth c H1 locs1 cells slots Q (F0 m (pc + 3) ls rest)) : W p l e R s m args below meth c H locs cells slots Q (F0 m pc ls (v :: .ref (ad k i) :: rest)) := by
  obtain ⟨hx, hb, -, hown, hts⟩ := S
  have hap := va_apart (own := own) hts hin ty0 hty hnm hK.1 hc
  have hat := hN.1 k i hd
  rw [he] at hat
  obtain ⟨r, h1, cell, q1, q2, q3, q4⟩ := hat
  have hr : r = (CN, T, N) := Option.some.inj (h1.symm.trans hc)
  subst hr
  obtain ⟨hSl, hfc, kC, hkC, hkind⟩ := hK.1.1 ci _ hc
  obtain ⟨cf, kf, fi, f, hi, hsl⟩ := hSl j hj
  have hlay := hts _ (hin _ (u_in_lay hj))
  unfold u_lay at hlay
  rw [if_pos hfin] at hlay
  have hst := (u_facts hfc hkC (u_lays hts hin hj) hi).1
  have hcf : m.cls = cf := by
    obtain ⟨_, _, c', _, _, _, -, -, hf', -, -, -, hown2, -⟩ := Cond.laysFinal_spec hlay
    have e1 : c' = cf := by have := hi.symm.trans hf'; simp at this; exact this.1.symm
    rw [hdecl] at hown2
    rw [← e1]; exact Option.some.inj (hown.symm.trans hown2)
  have h6 := u_fits hfc hkC hkind (Or.inr hlay) hi (hty j hj) hn hfit
  refine W.putFinK hx hb hown (hts _ hlink) (hsame _ hi) hst hcf hin2 (by rw [q2]; exact h6) q1 q3 (by rw [hsl]; exact k2_hasslot (q4 j hj)) rfl rfl hdg fun H' e1 e2 e3 => ?_
  rw [hsl] at e1 ⊢
  refine kk H' _ (hN.set hd ?_ e3) e2 (hS.put e2 e3 (hN.2.2 k i hd))
  rw [hset]
  exact ⟨_, hc, t_OB.to (V := updV (vp_V fs) j v) ⟨_, e1, q2, q3, t_set q4 hap hj v⟩ (fun j' _ => vp_updV_set hl v j')⟩
/-- an int of a row -/
theorem nw_iald (S : CallFix p m c cc nL s args Ts own) (hK : KK D C s) (hN : nw D en dom A ad Y H) {k i n : Nat} (hd : dom k i) (he : en ad k i (Y k i) = .inl (C 0, n, .inl (Y k i))) {x : Int32} (hin : vp_in x n) (hdg : decode cc pc = .ok (.iaload, 1))
    (kk : W p l e R s m args below meth c H locs cells slots Q (F0 m (pc + 1) ls (.int (Y k i x.toNatClampNeg) :: rest))) : W p l e R s m args below meth c H locs cells slots Q (F0 m pc ls (.int x :: .ref (ad k i) :: rest)) :=
  va_iald (ws := [(ad k i, en ad k i (Y k i))]) S.1 S.2.1 hK.1 (hN.one hd) 0 0 (by rw [he]; rfl) rfl hin hdg kk
theorem nw_zald (S : CallFix p m c cc nL s args Ts own) (hK : KK D C s) (hN : nw D en dom A ad Y H) {k i n : Nat} (hd : dom k i) (he : en ad k i (Y k i) = .inl (C 1, n, .inl (Y k i))) {x : Int32} (hin : vp_in x n) (hdg : decode cc pc = .ok (.baload, 1))
    (kk : W p l e R s m args below meth c H locs cells slots Q (F0 m (pc + 1) ls (.int (Y k i x.toNatClampNeg) :: rest))) : W p l e R s m args below meth c H locs cells slots Q (F0 m pc ls (.int x :: .ref (ad k i) :: rest)) :=
  va_zald (ws := [(ad k i, en ad k i (Y k i))]) S.1 S.2.1 hK.1 (hN.one hd) 0 1 (by rw [he]; rfl) rfl hin hdg kk
theorem nw_iast (S : CallFix p m c cc nL s args Ts own) (hK : KK D C s) (hN : nw D en dom A ad Y H) (hS : va_S A H0 H locs) {k i n : Nat} (hd : dom k i) (he : ∀ r, en ad k i r = .inl (C 0, n, .inl r)) {x v : Int32} (hin : vp_in x n) (hdg : decode cc pc = .ok (.iastore, 1))
    (kk : ∀ (H1 : Heap) (locs1 : List Loc), nw D en dom A ad (u3 Y k i x.toNatClampNeg v) H1 → H1.size = H.size → va_S A H0 H1 locs1 → W p l e R s m args below meth c H1 locs1 cells slots Q (F0 m (pc + 1) ls rest)) : W p l e R s m args below meth c H locs cells slots Q (F0 m pc ls (.int v :: .int x :: .ref (ad k i) :: rest)) := by
  have hat := hN.1 k i hd
  rw [he] at hat
  refine W.iast S.1 S.2.1 hat ((hK.1.2 0 (C 0, .int) rfl).1 n (fun j => .int (Y k i j))) (fun q => by cases q) (by show ¬ (x < 0 ∨ (arrV _ _ _).slots.size ≤ _); rw [arrV_size]; exact hin) rfl rfl hdg fun H1 e z oq => ?_
  refine kk H1 _ (hN.set hd ?_ oq) z (hS.put z oq (hN.2.2 k i hd))
  rw [he]
  show H1[ad k i]? = some (vp_cell _ _)
  rw [e, vp_cell_i, vp_cell_i, arrV_store]
  congr 2
  funext q
  by_cases hq : q = x.toNatClampNeg
  · subst hq
    simp [updV, va_up]
  · simp [updV, va_up, hq]
theorem nw_zast (S : CallFix p m c cc nL s args Ts own) (hK : KK D C s) (hN : nw D en dom A ad Y H) (hS : va_S A H0 H locs) {k i n : Nat} (hd : dom k i) (he : ∀ r, en ad k i r = .inl (C 1, n, .inl r)) {x v : Int32} (hin : vp_in x n) (hnar : narrow .boolean (.int v) = .int v) (hdg : decode cc pc = .ok (.bastore, 1))
    (kk : ∀ (H1 : Heap) (locs1 : List Loc), nw D en dom A ad (u3 Y k i x.toNatClampNeg v) H1 → H1.size = H.size → va_S A H0 H1 locs1 → W p l e R s m args below meth c H1 locs1 cells slots Q (F0 m (pc + 1) ls rest)) : W p l e R s m args below meth c H locs cells slots Q (F0 m pc ls (.int v :: .int x :: .ref (ad k i) :: rest)) := by
  have hat := hN.1 k i hd
  rw [he] at hat
  refine W.zast S.1 S.2.1 hat ((hK.1.2 1 (C 1, .boolean) rfl).1 n (fun j => .int (Y k i j))) (fun q => by cases q) (by show ¬ (x < 0 ∨ (arrV _ _ _).slots.size ≤ _); rw [arrV_size]; exact hin) rfl rfl hdg fun H1 e z oq => ?_
  refine kk H1 _ (hN.set hd ?_ oq) z (hS.put z oq (hN.2.2 k i hd))
  rw [he]
  show H1[ad k i]? = some (vp_cell _ _)
  rw [e, vp_cell_i, vp_cell_i, arrV_store, hnar]
  congr 2
  funext q
  by_cases hq : q = x.toNatClampNeg
  · subst hq
    simp [updV, va_up]
  · simp [updV, va_up, hq]
/-- a reference of a row -/
theorem nw_aald (S : CallFix p m c cc nL s args Ts own) (hK : KK D C s) (hN : nw D en dom A ad Y H) {k i n : Nat} (hd : dom k i) (t0 : Nat) {cA : ClassId} {ty : FieldType} (ht : (tysC C)[t0]? = some (cA, ty)) (href : ty.isReference = true) {f : Nat → Option Nat} (he : en ad k i (Y k i) = .inl (cA, n, .inr (.inr (.inr (.inr f))))) {x : Int32} (hin : vp_in x n) (hdg : decode cc pc = .ok (.aaload, 1)) {v : Value} (hv : va_rf (f x.toNatClampNeg) = v)
    (kk : W p l e R s m args below meth c H locs cells slots Q (F0 m (pc + 1) ls (v :: rest))) : W p l e R s m args below meth c H locs cells slots Q (F0 m pc ls (.int x :: .ref (ad k i) :: rest)) := by
  have hat := hN.1 k i hd
  rw [he] at hat
  have hlt : x.toNatClampNeg < n := Nat.not_le.mp fun q => hin (Or.inr q)
  exact W.aald (v := v) (ty := ty) S.1 S.2.1 hat ((hK.1.2 t0 _ ht).1 n (fun j => va_rf (f j))) href (fun q => by cases q) (by show ¬ (x < 0 ∨ (arrV _ _ _).slots.size ≤ _); rw [arrV_size]; exact hin) (by show (arrV _ _ _).slots[_]? = _; rw [arrV_read _ _ hlt, hv]) rfl rfl hdg kk
theorem nw_aast (S : CallFix p m c cc nL s args Ts own) (hK : KK D C s) (hN : nw D en dom A ad Y H) (hS : va_S A H0 H locs) {k i n : Nat} (hd : dom k i) (t0 : Nat) {cA : ClassId} {E : String} (ht : (tysC C)[t0]? = some (cA, .object E)) {g : Int32 → Option Nat} (he : ∀ r, en ad k i r = .inl (cA, n, .inr (.inr (.inr (.inr (fun j => g (r j))))))) {x v : Int32} {b : Nat} (hg : g v = some b) (hr : va_Any E s H b) (hin : vp_in x n) (hdg : decode cc pc = .ok (.aastore, 1))
    (kk : ∀ (H1 : Heap) (locs1 : List Loc), nw D en dom A ad (u3 Y k i x.toNatClampNeg v) H1 → H1.size = H.size → va_S A H0 H1 locs1 → W p l e R s m args below meth c H1 locs1 cells slots Q (F0 m (pc + 1) ls rest)) : W p l e R s m args below meth c H locs cells slots Q (F0 m pc ls (.ref b :: .int x :: .ref (ad k i) :: rest)) := by
  have hat := hN.1 k i hd
  rw [he] at hat
  have hlt : x.toNatClampNeg < n := Nat.not_le.mp fun q => hin (Or.inr q)
  have h0 : ¬ x < 0 := fun q => hin (Or.inl q)
  obtain ⟨cellV, g1, g3, ⟨kC, hkC⟩, hasg⟩ := hr
  obtain ⟨kA, comp, k1, k2, k3, -⟩ := (hK.1.2 t0 _ ht).2
  obtain ⟨kE, hkE, -⟩ := Vm.findClass_spec k3
  refine W.aast S.1 S.2.1 hat (fun q h => by cases h) (fun h => by cases h) k1 k2 rfl hkE ⟨h0, by show _ < (arrV _ _ _).slots.size; rw [arrV_size]; exact hlt⟩ g1 (fun q h => by rw [h] at g3; cases g3) hkC (hasg _ k3) rfl rfl hdg fun H1 e z oq => ?_
  refine kk H1 _ (hN.set hd ?_ oq) z (hS.put z oq (hN.2.2 k i hd))
  rw [he]
  show H1[ad k i]? = some (vp_cell _ _)
  rw [e, vp_cell_q, vp_cell_q, arrV_store]
  congr 2
  funext q
  by_cases hq : q = x.toNatClampNeg
  · subst hq
    simp [updV, va_up, hg, va_rf]
  · simp [updV, va_up, hq]
theorem nw_aastN (S : CallFix p m c cc nL s args Ts own) (hK : KK D C s) (hN : nw D en dom A ad Y H) (hS : va_S A H0 H locs) {k i n : Nat} (hd : dom k i) (t0 : Nat) {cA : ClassId} {E : String} (ht : (tysC C)[t0]? = some (cA, .object E)) {g : Int32 → Option Nat} (he : ∀ r, en ad k i r = .inl (cA, n, .inr (.inr (.inr (.inr (fun j => g (r j))))))) {x : Int32} (v : Int32) (hg : g v = none) (hin : vp_in x n) (hdg : decode cc pc = .ok (.aastore, 1))
    (kk : ∀ (H1 : Heap) (locs1 : List Loc), nw D en dom A ad (u3 Y k i x.toNatClampNeg v) H1 → H1.size = H.size → va_S A H0 H1 locs1 → W p l e R s m args below meth c H1 locs1 cells slots Q (F0 m (pc + 1) ls rest)) : W p l e R s m args below meth c H locs cells slots Q (F0 m pc ls (.null :: .int x :: .ref (ad k i) :: rest)) := by
  have hat := hN.1 k i hd
  rw [he] at hat
  refine va_WaastN (C := E) S.1 S.2.1 hat ((hK.1.2 t0 _ ht).1 n (fun j => va_rf (g (Y k i j)))) (fun h => by cases h) (by show ¬ (x < 0 ∨ (arrV _ _ _).slots.size ≤ _); rw [arrV_size]; exact hin) rfl rfl hdg fun H1 e z oq => ?_
  refine kk H1 _ (hN.set hd ?_ oq) z (hS.put z oq (hN.2.2 k i hd))
  rw [he]
  show H1[ad k i]? = some (vp_cell _ _)
  rw [e, vp_cell_q, vp_cell_q, arrV_store]
  congr 2
  funext q
  by_cases hq : q = x.toNatClampNeg
  · subst hq
    simp [updV, va_up, hg, va_rf]
  · simp [updV, va_up, hq]
/-- the object at a name may lie in a row of E -/
theorem nw_any (hK : KK D C s) (hN : nw D en dom A ad Y H) {k i : Nat} (hd : dom k i) {ci : Nat} {fs : List Value} (he : en ad k i (Y k i) = .inr (ci, fs)) {r : vw_C} (hc : vwCl[ci]? = some r) {E : String} (hE : E = r.1 ∨ va_Nw (.castable r.1 E) s) : va_Any E s H (ad k i) := by
  refine va_rAny hK.1 (hN.one hd) (q0 := 0) (by rw [he]; rfl) hc (fun comp c0 h1 h2 => ?_)
  rcases hE with rfl | hE
  · have hcl := (hK.1.1 ci r hc).2
    cases h1.symm.trans h2
    cases hcl.1.symm.trans h1
    exact va_assign hcl
  · obtain ⟨c1, t1, f1, f2, f3⟩ := Cond.castable_spec (va_Nw.use (A := #[]) rfl hE)
    cases h1.symm.trans f2
    cases h2.symm.trans f1
    exact f3
theorem nw_recv (hK : KK D C s) (hN : nw D en dom A ad Y H) {k i : Nat} (hd : dom k i) {ci : Nat} {fs : List Value} (he : en ad k i (Y k i) = .inr (ci, fs)) {CN : String} {T : u_T} {N : Nat} (hc : vwCl[ci]? = some (CN, T, N)) : ∃ cell : Cell, H[ad k i]? = some cell ∧ cell.vm.isStatics = false ∧ s.vm.findClass CN = some cell.cls := by
  have h := va_recv hK.1 (hN.one hd) (q0 := 0) (a := ad k i) (fs := fs) hc (by rw [he]; rfl)
  exact h
theorem nw_alen (S : CallFix p m c cc nL s args Ts own) (hK : KK D C s) (hN : nw D en dom A ad Y H) {k i : Nat} (hd : dom k i) (t0 : Nat) {cA : ClassId} {ty : FieldType} (ht : (tysC C)[t0]? = some (cA, ty)) {x : vp_A} (he : en ad k i (Y k i) = .inl (cA, x)) {v : Int32} (hv : Int32.ofNat x.1 = v) (hdg : decode cc pc = .ok (.arraylength, 1))
    (kk : W p l e R s m args below meth c H locs cells slots Q (F0 m (pc + 1) ls (.int v :: rest))) : W p l e R s m args below meth c H locs cells slots Q (F0 m pc ls (.ref (ad k i) :: rest)) :=
  va_alen (ws := [(ad k i, en ad k i (Y k i))]) S.1 S.2.1 hK.1 (hN.one hd) 0 t0 (by rw [he]; rfl) ht hv hdg kk
/-- behind a call -/
theorem nw_call {v : Option Value} {G : Heap → Prop} {mc ms : Nat} {st0 : List Value} {a : Array Value} (hr : va_Run p l e R s m args below meth c H locs cells slots mc ms (F0 m pc ls st0) rest (nQ A v G a) A) (hS : va_S A H0 H locs)
    (kk : ∀ (H1 : Heap) (locs1 : List Loc), G H1 → H.size ≤ H1.size → (∀ q : Nat, q < H.size → ¬ A q → H1[q]? = H[q]?) → va_S A H0 H1 locs1 → W p l e R s m args below meth c H1 locs1 (cells + mc) (slots + ms) Q (F0 m (pc + 3) ls (v.toList ++ rest))) : W p l e R s m args below meth c H locs cells slots Q (F0 m pc ls st0) := by
  intro T hT X
  obtain ⟨v', st₀, t, T', L, h0, X', hL, e1, e2, ⟨⟨hv, hg⟩, hz, hk⟩, st⟩ := hr T hT X
  cases hv
  rw [h0] at hz hk
  obtain ⟨t2, a1, b1⟩ := kk T'.heap (locs ++ L) (by rw [e1]; exact hg) (by rw [e1]; exact hz) (fun q h1 h2 => by rw [e1]; exact hk q h1 h2)
    ⟨Nat.le_trans hS.1 (by rw [e1]; exact hz), fun q h1 h2 => by rw [e1, hk q (Nat.lt_of_lt_of_le h1 hS.1) h2]; exact hS.2.1 q h1 h2, fun q hq => by
      rcases List.mem_append.mp hq with h | h
      · exact hS.2.2 q h
      · exact hL q h⟩ T' rfl X'
  exact ⟨t2, st t2 a1, b1⟩
theorem nw_preV {G : Heap → Prop} {b : Nat} {As : List Value} {CN : String} (hK : KK D C s) (hG : G H) (hA : ∀ q, s.heap.size ≤ q → A q) (hS : va_S A s.heap H locs) (hrecv : ∃ cell : Cell, H[b]? = some cell ∧ cell.vm.isStatics = false ∧ s.vm.findClass CN = some cell.cls) : PreV s H CN b (va_Pc (.ref b :: As) (PW D C A G)) As :=
  ⟨PW.blind, hrecv, fun U hU hW => ⟨rfl, KK.warm hW hK, by rw [hU]; exact hG, fun q hq => hA q (Nat.le_trans hS.1 (by rw [← hU]; exact hq))⟩⟩
theorem nw_preS {G : Heap → Prop} {As : List Value} (hK : KK D C s) (hG : G H) (hA : ∀ q, s.heap.size ≤ q → A q) (hS : va_S A s.heap H locs) : PreS s H (va_Pc As (PW D C A G)) As :=
  ⟨PW.blind, fun U hU hW => ⟨rfl, KK.warm hW hK, by rw [hU]; exact hG, fun q hq => hA q (Nat.le_trans hS.1 (by rw [← hU]; exact hq))⟩⟩
theorem nw_preP {As : List Value} : PreS s H (va_Pc As (fun _ => True)) As := ⟨fun _ _ _ _ q => ⟨q.1, trivial⟩, fun _ _ _ => ⟨rfl, trivial⟩⟩
/-- the ends -/
theorem nw_end {G : Heap → Prop} {v : Option Value} {as : Array Value} {t : State} (hS : va_S A s.heap H locs) (hG : G H) (ht : t.heap = H) : nQ A v G as s (.returned v) t := ⟨⟨rfl, by rw [ht]; exact hG⟩, hS.F ht⟩
end NW
