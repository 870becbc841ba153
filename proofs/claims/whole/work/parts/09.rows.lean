section NWB
variable {p : Program} {l : Launch} {e : Env} {R : Room} {s : State} {m : MethodId} {args : Array Value} {below : List Frame} {meth : Method} {c : Code} {H : Heap} {locs : List Loc} {cells slots : Nat} {Q : State → Prop}
variable {pc : Nat} {ls : Array Slot} {rest : List Value} {A : Nat → Prop} {H0 : Heap}
theorem nw_callP {r : Value} {a : Array Value} {st0 : List Value} (hr : CallRun p l e R s m args below meth c H locs cells slots 0 0 (F0 m pc ls st0) rest (k2_QcV r a) (fun _ => False)) (kk : W p l e R s m args below meth c H locs cells slots Q (F0 m (pc + 3) ls (r :: rest))) : W p l e R s m args below meth c H locs cells slots Q (F0 m pc ls st0) := W.callV hr kk
theorem nw_calli {v : Value} {G : Heap → Prop} {mc ms : Nat} {st0 : List Value} {a : Array Value} (hr : va_Run p l e R s m args below meth c H locs cells slots mc ms (F0 m pc ls st0) rest (nQ A (some v) G a) A) (hS : va_S A H0 H locs)
    (kk : ∀ (H1 : Heap) (locs1 : List Loc), G H1 → H.size ≤ H1.size → (∀ q : Nat, q < H.size → ¬ A q → H1[q]? = H[q]?) → va_S A H0 H1 locs1 → W p l e R s m args below meth c H1 locs1 (cells + mc) (slots + ms) Q (F0 m (pc + 3) ls (v :: rest))) : W p l e R s m args below meth c H locs cells slots Q (F0 m pc ls st0) := nw_call hr hS kk
theorem nw_callv {G : Heap → Prop} {mc ms : Nat} {st0 : List Value} {a : Array Value} (hr : va_Run p l e R s m args below meth c H locs cells slots mc ms (F0 m pc ls st0) rest (nQ A none G a) A) (hS : va_S A H0 H locs)
    (kk : ∀ (H1 : Heap) (locs1 : List Loc), G H1 → H.size ≤ H1.size → (∀ q : Nat, q < H.size → ¬ A q → H1[q]? = H[q]?) → va_S A H0 H1 locs1 → W p l e R s m args below meth c H1 locs1 (cells + mc) (slots + ms) Q (F0 m (pc + 3) ls rest)) : W p l e R s m args below meth c H locs cells slots Q (F0 m pc ls st0) := nw_call hr hS kk
/-- two roads that meet with a number -/
theorem jn_i {g : JFrame} {V : Int32} {pc' : Nat} {ls : Array Slot} {rest : List Value} (kk : ∀ v : Int32, v = V → W p l e R s m args below meth c H locs cells slots Q (F0 m pc' ls (.int v :: rest)))
    (k : (∀ v : Int32, v = V → W p l e R s m args below meth c H locs cells slots Q (F0 m pc' ls (.int v :: rest))) → W p l e R s m args below meth c H locs cells slots Q g) : W p l e R s m args below meth c H locs cells slots Q g := k kk
/-- a loop: its measure falls -/
theorem lpW {σ : Type} (n0 : Nat) (x0 : σ) (P : Nat → σ → Heap → List Loc → Array Slot → Prop) (pc : Nat)
    (step : ∀ (n : Nat) (x : σ) (H : Heap) (locs : List Loc) (ls : Array Slot), P n x H locs ls → (∀ (n' : Nat) (x' : σ) (H' : Heap) (locs' : List Loc) (ls' : Array Slot), n' < n → P n' x' H' locs' ls' → W p l e R s m args below meth c H' locs' cells slots Q (F0 m pc ls' [])) → W p l e R s m args below meth c H locs cells slots Q (F0 m pc ls []))
    (h0 : P n0 x0 H locs ls) : W p l e R s m args below meth c H locs cells slots Q (F0 m pc ls []) := by
  have key : ∀ (N n : Nat) (x : σ) (H : Heap) (locs : List Loc) (ls : Array Slot), n < N → P n x H locs ls → W p l e R s m args below meth c H locs cells slots Q (F0 m pc ls []) := by
    intro N
    induction N with
    | zero => intro n x H locs ls hn; exact absurd hn (Nat.not_lt_zero n)
    | succ N ih => exact fun n x H locs ls hn hp => step n x H locs ls hp (fun n' x' H' locs' ls' h1 h2 => ih n' x' H' locs' ls' (by omega) h2)
  exact key (n0 + 1) n0 x0 H locs ls (Nat.lt_succ_self n0) h0
end NWB
/-! the reference's world: 0 the object, k the row in its field k -/
def lenM (k : Nat) : Nat := match k with
  | 1 => 60 | 2 => 60 | 3 => 60 | 4 => 60 | 5 => 60 | 6 => 60 | 8 => 60 | 9 => 60 | 11 => 10 | 12 => 6 | 13 => 6 | 14 => 6 | 15 => 48 | 16 => 4 | 17 => 48 | 18 => 4 | 19 => 4 | 20 => 24 | 21 => 144 | 22 => 6 | 23 => 6 | 25 => 20 | 26 => 20 | 27 => 20 | 28 => 20 | 30 => 40 | 31 => 40 | 32 => 7 | _ => 0
def enM (C : Nat → ClassId) : nwE := fun ad k _ r => match k with
  | 0 => .inr (9, [.int (r 0), .ref (ad 1 0), .ref (ad 2 0), .ref (ad 3 0), .ref (ad 4 0), .ref (ad 5 0), .ref (ad 6 0), .int (r 7), .ref (ad 8 0), .ref (ad 9 0), .int (r 10), .ref (ad 11 0), .ref (ad 12 0), .ref (ad 13 0), .ref (ad 14 0), .ref (ad 15 0), .ref (ad 16 0), .ref (ad 17 0), .ref (ad 18 0), .ref (ad 19 0), .ref (ad 20 0), .ref (ad 21 0), .ref (ad 22 0), .ref (ad 23 0), .int (r 24), .ref (ad 25 0), .ref (ad 26 0), .ref (ad 27 0), .ref (ad 28 0), .int (r 29), .ref (ad 30 0), .ref (ad 31 0), .ref (ad 32 0), .int (r 33), .int (r 34)])
  | 20 => .inl (C 1, 24, .inl r)
  | 22 => .inl (C 1, 6, .inl r)
  | k => .inl (C 0, lenM k, .inl r)
def domM (k i : Nat) : Prop := i = 0 ∧ (k == 0 || lenM k != 0) = true
