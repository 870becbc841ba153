/-! making what stands at known places: base and what follows -/
def adC (b base : Nat) (off : Nat → Nat → Nat) (k i : Nat) : Nat := match k with
  | 0 => b
  | k + 1 => base + off (k + 1) i
theorem adC_ne {b base : Nat} {off : Nat → Nat → Nat} {k i : Nat} (h : k ≠ 0) : adC b base off k i = base + off k i := by
  cases k with
  | zero => exact absurd rfl h
  | succ k => rfl
def domC (F : Nat → Nat → Prop) (off : Nat → Nat → Nat) (z k i : Nat) : Prop := F k i ∧ (k = 0 ∨ off k i < z)
def PLN (F : Nat → Nat → Prop) (off : Nat → Nat → Nat) (inv : Nat → Nat × Nat) : Prop := (∀ i, F 0 i → i = 0) ∧ ∀ k i, F k i → k ≠ 0 → inv (off k i) = (k, i)
theorem adC_inj {F : Nat → Nat → Prop} {off : Nat → Nat → Nat} {inv : Nat → Nat × Nat} {b base : Nat} (pl : PLN F off inv) (hb : b < base) {k i k' i' : Nat} (h : F k i) (h' : F k' i') (e : adC b base off k i = adC b base off k' i') : k = k' ∧ i = i' := by
  by_cases c : k = 0
  · by_cases c' : k' = 0
    · subst c; subst c'
      exact ⟨rfl, (pl.1 _ h).trans (pl.1 _ h').symm⟩
    · subst c
      rw [adC_ne c'] at e
      have e : b = base + off k' i' := e
      omega
  · by_cases c' : k' = 0
    · subst c'
      rw [adC_ne c] at e
      have e : base + off k i = b := e
      omega
    · rw [adC_ne c, adC_ne c'] at e
      have h1 := pl.2 k i h c
      have h2 := pl.2 k' i' h' c'
      rw [show off k i = off k' i' by omega, h2] at h1
      cases h1
      exact ⟨rfl, rfl⟩
section NF
variable {p : Program} {l : Launch} {e : Env} {R : Room} {s : State} {m : MethodId} {args : Array Value} {below : List Frame} {meth : Method} {c : Code} {H H1 : Heap} {locs : List Loc} {cells slots : Nat} {Q : State → Prop}
variable {cc : ByteArray} {pc nL : Nat} {ls : Array Slot} {rest : List Value} {D : va_G} {C : Nat → ClassId} {A : Nat → Prop} {H0 : Heap} {en en' : nwE} {dom : Nat → Nat → Prop} {ad : Nat → Nat → Nat} {Y : Nat → Nat → Nat → Int32} {Ts : List Cond} {own : String}
variable {F : Nat → Nat → Prop} {off : Nat → Nat → Nat} {inv : Nat → Nat × Nat} {b base z z' : Nat}
theorem nw_growC (pl : PLN F off inv) (hb : b < base) (hA : A b ∧ ∀ q, base ≤ q → A q) (hN : nw D en (domC F off z) A (adC b base off) Y H) (hk : ∀ x, x < H.size → H1[x]? = H[x]?) (hnew : ∀ o, z ≤ o → o < z' → va_at D vwCl (base + o, en (adC b base off) (inv o).1 (inv o).2 (Y (inv o).1 (inv o).2)) H1) : nw D en (domC F off z') A (adC b base off) Y H1 := by
  refine ⟨fun k i hd => ?_, fun k i k' i' h h' e => adC_inj pl hb h.1 h'.1 e, fun k i hd => ?_⟩
  · by_cases c : k = 0 ∨ off k i < z
    · exact (hN.1 k i ⟨hd.1, c⟩).kept (hk _ (hN.lt ⟨hd.1, c⟩))
    · have c0 : k ≠ 0 := fun q => c (Or.inl q)
      have h := hnew (off k i) (Nat.not_lt.mp fun q => c (Or.inr q)) (hd.2.resolve_left c0)
      rw [pl.2 k i hd.1 c0] at h
      rw [adC_ne c0]
      exact h
  · by_cases c : k = 0
    · subst c
      exact hA.1
    · rw [adC_ne c]
      exact hA.2 _ (Nat.le_add_right _ _)
theorem nw_growC1 (pl : PLN F off inv) (hb : b < base) (hA : A b ∧ ∀ q, base ≤ q → A q) (hN : nw D en (domC F off z) A (adC b base off) Y H) (hsz : H.size = base + z) (hk : ∀ x, x < H.size → H1[x]? = H[x]?) {K n : Nat} (hi : inv z = (K, n)) (hnew : va_at D vwCl (H.size, en (adC b base off) K n (Y K n)) H1) : nw D en (domC F off (z + 1)) A (adC b base off) Y H1 :=
  nw_growC pl hb hA hN hk (fun o h1 h2 => by
    have e : o = z := by omega
    subst e
    rw [hi, ← hsz]
    exact hnew)
theorem vs_grow {H0 : Heap} (hS : va_S A H0 H locs) (hz : H.size ≤ H1.size) (hk : ∀ x, x < H.size → H1[x]? = H[x]?) : va_S A H0 H1 locs := ⟨Nat.le_trans hS.1 hz, fun x h1 h2 => (hk x (Nat.lt_of_lt_of_le h1 hS.1)).trans (hS.2.1 x h1 h2), hS.2.2⟩
/-- new int[n], new boolean[n] -/
theorem nf_newa (S : CallFix p m c cc nL s args Ts own) (hK : KK D C s) (pl : PLN F off inv) (hb0 : b < base) (hA : A b ∧ ∀ q, base ≤ q → A q) (hN : nw D en (domC F off z) A (adC b base off) Y H) (hsz : H.size = base + z) (hS : va_S A H0 H locs) (K n : Nat) (hi : inv z = (K, n)) (hK0 : K ≠ 0) (ho : off K n = z) {atype : ArrayType} (t0 : Nat) {cA : ClassId} {ty : FieldType} (hty : newarray.typeOf atype = ty) (ht : (tysC C)[t0]? = some (cA, ty)) (hnr : va_RA s cA ty → s.vm.findClass ("[" ++ ty.toString) = some cA) (hd0 : defaultValue ty = .int 0) (harr : Cond.arrayClass ty ∈ Ts) {N : Nat} {x : Int32} (hx0 : ¬ x < 0) (hxN : x.toNatClampNeg = N) (hby : N * componentBytes ty ≤ 536870912) (he : en (adC b base off) K n (Y K n) = .inl (cA, N, .inl (Y K n))) (hY : ∀ j, j < N → Y K n j = 0) (hcells : cells + 1 ≤ R.cells) (hslots : slots + N ≤ R.slots) (hdg : decode cc pc = .ok (.newarray atype, 2))
    (kk : ∀ H1, nw D en (domC F off (z + 1)) A (adC b base off) Y H1 → H1.size = base + (z + 1) → va_S A H0 H1 locs → W p l e R s m args below meth c H1 locs (cells + 1) (slots + N) Q (F0 m (pc + 2) ls (.ref (adC b base off K n) :: rest))) : W p l e R s m args below meth c H locs cells slots Q (F0 m pc ls (.int x :: rest)) := by
  subst hty
  refine va_newaK S.1 S.2.1 (S.2.2.2.2 _ harr) rfl hdg rfl hx0 hxN hby hcells hslots rfl fun H1 cB e1 z1 o1 hAr hNm => ?_
  have ec : cB = cA := Option.some.inj (hNm.symm.trans (hnr (hK.1.2 t0 _ ht).2))
  subst ec
  have h := kk H1 (nw_growC1 pl hb0 hA hN hsz o1 hi (by
    rw [he]
    show H1[H.size]? = some (vp_cell _ _)
    rw [e1, vp_cell_i, hd0]
    exact congrArg some (arrV_cg (fun j hj => by rw [hY j hj])))) (by omega) (vs_grow hS (by omega) o1)
  rw [adC_ne hK0, ho, ← hsz] at h
  exact h
/-- new T[n] -/
theorem nf_anew (S : CallFix p m c cc nL s args Ts own) (hK : KK D C s) (pl : PLN F off inv) (hb0 : b < base) (hA : A b ∧ ∀ q, base ≤ q → A q) (hN : nw D en (domC F off z) A (adC b base off) Y H) (hsz : H.size = base + z) (hS : va_S A H0 H locs) (K n : Nat) (hi : inv z = (K, n)) (hK0 : K ≠ 0) (ho : off K n = z) (t0 : Nat) {cA : ClassId} {E : String} {index : Nat} (ht : (tysC C)[t0]? = some (cA, .object E)) (hover : va_AO E s) (hcl : Cond.classLink own index E ∈ Ts) {N : Nat} {x : Int32} (hx0 : ¬ x < 0) (hxN : x.toNatClampNeg = N) (hby : N * 4 ≤ 536870912) {f : Nat → Option Nat} (he : en (adC b base off) K n (Y K n) = .inl (cA, N, .inr (.inr (.inr (.inr f))))) (hf : ∀ j, j < N → f j = none) (hcells : cells + 1 ≤ R.cells) (hslots : slots + N ≤ R.slots) (hdg : decode cc pc = .ok (.anewarray index, 3))
    (kk : ∀ H1, nw D en (domC F off (z + 1)) A (adC b base off) Y H1 → H1.size = base + (z + 1) → va_S A H0 H1 locs → W p l e R s m args below meth c H1 locs (cells + 1) (slots + N) Q (F0 m (pc + 3) ls (.ref (adC b base off K n) :: rest))) : W p l e R s m args below meth c H locs cells slots Q (F0 m pc ls (.int x :: rest)) := by
  subst hxN
  refine W.anew S.1 S.2.1 S.2.2.2.1 (S.2.2.2.2 _ hcl) (va_AO.use hover) rfl hdg rfl hx0 hby hcells hslots fun cB kA comp h1 h2 h3 h4 => ?_
  obtain ⟨kA', comp', -, -, -, h5⟩ := (hK.1.2 t0 _ ht).2
  have ec : cB = cA := Option.some.inj (h1.symm.trans h5)
  subst ec
  have o1 : ∀ y, y < H.size → (H.push { cls := cB, slots := Array.replicate x.toNatClampNeg .null, vm := .none })[y]? = H[y]? := fun y hy => by
    rw [Array.getElem?_push, if_neg (Nat.ne_of_lt hy)]
  have hps : (H.push ({ cls := cB, slots := Array.replicate x.toNatClampNeg .null, vm := .none } : Cell)).size = H.size + 1 := Array.size_push _
  have h := kk _ (nw_growC1 pl hb0 hA hN hsz o1 hi (by
    rw [he]
    show (H.push _)[H.size]? = some (vp_cell _ _)
    rw [vp_cell_q, arrV_new]
    rw [Array.getElem?_push_size]
    exact congrArg some (arrV_cg (fun j hj => by rw [hf j hj]; rfl)))) (by omega) (vs_grow hS (by omega) o1)
  rw [adC_ne hK0, ho, ← hsz] at h
  exact h
/-- new int[N][M] -/
theorem nf_multi (S : CallFix p m c cc nL s args Ts own) (hK : KK D C s) (pl : PLN F off inv) (hb0 : b < base) (hA : A b ∧ ∀ q, base ≤ q → A q) (hN : nw D en (domC F off z) A (adC b base off) Y H) (hsz : H.size = base + z) (hS : va_S A H0 H locs) (K n K2 : Nat) (g : Nat → Nat) (hi : inv z = (K, n)) (hK0 : K ≠ 0) (ho : off K n = z) {index N M : Nat} (hcl : Cond.classLink own index "[[I" ∈ Ts) (harr : Cond.arrayClass .int ∈ Ts) {x y : Int32} (hx0 : ¬ x < 0) (hy0 : ¬ y < 0) (hxN : x.toNatClampNeg = N) (hyM : y.toNatClampNeg = M) (hb1 : N * 4 ≤ 536870912) (hb2 : M * componentBytes .int ≤ 536870912) (hb3 : M ≤ 536870912) (hi2 : ∀ j, j < N → inv (z + 1 + j) = (K2, g j)) {f : Nat → Option Nat} (he : en (adC b base off) K n (Y K n) = .inl (C 8, N, .inr (.inr (.inr (.inr f))))) (hf : ∀ j, j < N → f j = some (base + z + 1 + j)) (he2 : ∀ j, j < N → en (adC b base off) K2 (g j) (Y K2 (g j)) = .inl (C 0, M, .inl (Y K2 (g j)))) (hY : ∀ i j, j < N → i < M → Y K2 (g j) i = 0) (hcells : cells + (1 + N) ≤ R.cells) (hslots : slots + (N + N * M) ≤ R.slots) (hdg : decode cc pc = .ok (.multianewarray index 2, 4))
    (kk : ∀ H1, nw D en (domC F off (z + 1 + N)) A (adC b base off) Y H1 → H1.size = base + (z + 1 + N) → va_S A H0 H1 locs → W p l e R s m args below meth c H1 locs (cells + 1 + N) (slots + N + N * M) Q (F0 m (pc + 4) ls (.ref (adC b base off K n) :: rest))) : W p l e R s m args below meth c H locs cells slots Q (F0 m pc ls (.int y :: .int x :: rest)) := by
  subst hxN
  subst hyM
  intro T hT Xs
  obtain ⟨vm₁, cO, comp, -, fA, fC, hO, -, X', step⟩ := Xs.multianewarray2F (ty := .int) S.1 S.2.2.2.1 (S.2.2.2.2 _ hcl) (show (Cond.arrayOver (.array .int)).before args s = true from hK.2.2.2.2.2.1) (S.2.2.2.2 _ harr) (g := F0 m pc ls (.int y :: .int x :: rest)) rfl (by rw [S.2.1]; exact hdg) rfl hx0 hy0 hb1 hb2 hb3 rfl rfl hcells hslots
  have e0 : some comp = some (C 0) := fC.symm.trans (hK.1.2 0 (C 0, .int) rfl).2
  have e8 : some cO = some (C 8) := fA.symm.trans (hK.1.2 8 (C 8, .array .int) rfl).2
  cases e0
  cases e8
  generalize hF : Jvm.Free.Multi.fill (T.setVm vm₁) (C 8) (C 0) x.toNatClampNeg y.toNatClampNeg (defaultValue .int) x.toNatClampNeg = F1 at X' step
  have hTh : (T.setVm vm₁).heap = H := hT
  obtain ⟨f1, f2, -, -⟩ := Jvm.Free.Multi.fill_facts (T.setVm vm₁) (C 8) (C 0) x.toNatClampNeg y.toNatClampNeg (defaultValue .int) x.toNatClampNeg
  rw [hF, hTh] at f1 f2
  have hold : ∀ q : Nat, q < H.size → F1.heap[q]? = H[q]? := fun q hq => by
    have := Jvm.Free.Multi.fill_old (T.setVm vm₁) (C 8) (C 0) x.toNatClampNeg y.toNatClampNeg (defaultValue .int) (a := q) (by rw [hTh]; exact hq) x.toNatClampNeg
    rw [hF, hTh] at this
    exact this
  have hrow : ∀ j : Nat, j < x.toNatClampNeg → F1.heap[H.size + 1 + j]? = some (arrV (C 0) y.toNatClampNeg (fun _ => .int 0)) := fun j hj => by
    have := Jvm.Free.Multi.fill_inner (T.setVm vm₁) (C 8) (C 0) x.toNatClampNeg y.toNatClampNeg (defaultValue .int) x.toNatClampNeg j hj
    rw [hF, hTh] at this
    rw [this, ← arrV_new]
    rfl
  rw [vr_outer] at f2
  obtain ⟨t, a1, b1⟩ := kk F1.heap (nw_growC pl hb0 hA hN hold (fun o h1 h2 => by
    by_cases c : o = z
    · subst c
      rw [hi, he, ← hsz]
      show F1.heap[H.size]? = some (vp_cell _ _)
      rw [f2, vp_cell_q]
      exact congrArg some (arrV_cg (fun j hj => by rw [if_pos hj, hf j hj, hsz]))
    · obtain ⟨j, rfl⟩ : ∃ j, o = z + 1 + j := ⟨o - (z + 1), by omega⟩
      have hj : j < x.toNatClampNeg := by omega
      rw [hi2 j hj, he2 j hj]
      show F1.heap[base + (z + 1 + j)]? = some (vp_cell _ _)
      rw [show base + (z + 1 + j) = H.size + 1 + j by omega, hrow j hj, vp_cell_i]
      exact congrArg some (arrV_cg (fun i hi => by rw [hY i j hj hi])))) (by omega) (vs_grow hS (by omega) hold) F1 rfl X'
  rw [adC_ne hK0, ho, ← hsz] at a1
  rw [← hT] at a1
  exact ⟨t, step t a1, b1⟩
/-- new T -/
theorem nf_newO (S : CallFix p m c cc nL s args Ts own) (hK : KK D C s) (pl : PLN F off inv) (hb0 : b < base) (hA : A b ∧ ∀ q, base ≤ q → A q) (hN : nw D en (domC F off z) A (adC b base off) Y H) (hsz : H.size = base + z) (hS : va_S A H0 H locs) (K n : Nat) (hi : inv z = (K, n)) (hK0 : K ≠ 0) (ho : off K n = z) {ci N index : Nat} {CN : String} {T : u_T} (hc : vwCl[ci]? = some (CN, T, N)) (hin : ∀ w ∈ u_ws CN T N, w ∈ Ts) (ty : Nat → FieldType) (hty : ∀ k, k < N → parseFieldDescriptor (T k).2.2.1 = some (ty k)) (hcl : Cond.classLink own index CN ∈ Ts) (hinst : Cond.instantiable CN N ∈ Ts) (hini : Cond.initialized CN ∈ Ts) {fs : List Value} (he : en (adC b base off) K n (Y K n) = .inr (ci, fs)) (hfs : ∀ j, j < N → defaultValue (ty j) = vp_V fs j) (hcells : cells + 1 ≤ R.cells) (hslots : slots + N ≤ R.slots) (hdg : decode cc pc = .ok (.new index, 3))
    (kk : ∀ H1, nw D en (domC F off (z + 1)) A (adC b base off) Y H1 → H1.size = base + (z + 1) → va_S A H0 H1 locs → W p l e R s m args below meth c H1 locs (cells + 1) (slots + N) Q (F0 m (pc + 3) ls (.ref (adC b base off K n) :: rest))) : W p l e R s m args below meth c H locs cells slots Q (F0 m pc ls rest) := by
  obtain ⟨hx, hb, -, hown, hts⟩ := S
  have hKn := hK.1.1 ci _ hc
  refine W.newcK hx hb hown (hts _ hcl) (hts _ hinst) (hts _ hini) rfl hdg hcells hslots hKn.2.1 rfl fun H1 kC hkC e1 z1 o1 => ?_
  have h := kk H1 (nw_growC1 pl hb0 hA hN hsz o1 hi (by rw [he]; exact ⟨_, hc, (u_born ty hts hin hKn hkC e1 hty).to hfs⟩)) (by omega) (vs_grow hS (by omega) o1)
  rw [adC_ne hK0, ho, ← hsz] at h
  exact h
/-- a cell's own new look, the others' as before -/
theorem nw.look {k i : Nat} (h : nw D en dom A ad Y H) (hd : dom k i) (he : va_at D vwCl (ad k i, en' ad k i (Y k i)) H1) (oq : ∀ q, q ≠ ad k i → H1[q]? = H[q]?) (hoth : ∀ k' i', dom k' i' → ¬ (k' = k ∧ i' = i) → en' ad k' i' (Y k' i') = en ad k' i' (Y k' i')) : nw D en' dom A ad Y H1 := by
  refine ⟨fun k' i' hd' => ?_, h.2⟩
  by_cases hk : k' = k ∧ i' = i
  · obtain ⟨rfl, rfl⟩ := hk
    exact he
  · rw [hoth k' i' hd' hk]
    exact (h.1 k' i' hd').kept (oq _ (fun e => hk (h.2.1 k' i' k i hd' hd e)))
theorem nw_putE (en' : nwE) (S : CallFix p m c cc nL s args Ts own) (hK : KK D C s) (hN : nw D en dom A ad Y H) (hS : va_S A H0 H locs) {k i : Nat} (hd : dom k i) {ci : Nat} {fs : List Value} (he : en ad k i (Y k i) = .inr (ci, fs)) {CN : String} {T : u_T} {N : Nat} (hc : vwCl[ci]? = some (CN, T, N)) (hin : ∀ w ∈ u_ws CN T N, w ∈ Ts) {ty0 : Nat → FieldType} (hty : ∀ k, k < N → parseFieldDescriptor (T k).2.2.1 = some (ty0 k)) (hnm : ∀ a, a < N → ∀ b, b < N → a ≠ b → (T a).2.1 ≠ (T b).2.1) (j : Nat) (hj : j < N) {index : Nat} {ref : String} (hlink : Cond.fieldLink own index ref (T j).2.1 (T j).2.2.1 ∈ Ts) (hsame : ∀ x, s.fieldFound? (T j).1 (T j).2.1 (T j).2.2.1 = some x → s.fieldFound? ref (T j).2.1 (T j).2.2.1 = some x) (hfin : (T j).2.2.2 = true) (hin2 : meth.name = "<init>") (hdecl : (T j).1 = own) {v : Value} (hn : narrow (ty0 j) v = v) (hfit : fits (ty0 j) v = true) (hset : en' ad k i (Y k i) = .inr (ci, fs.set j v)) (hl : j < fs.length) (hoth : ∀ k' i', dom k' i' → ¬ (k' = k ∧ i' = i) → en' ad k' i' (Y k' i') = en ad k' i' (Y k' i')) (hdg : decode cc pc = .ok (.putfield index, 3))
    (kk : ∀ (H1 : Heap) (locs1 : List Loc), nw D en' dom A ad Y H1 → H1.size = H.size → va_S A H0 H1 locs1 → W p l e R s m args below meth c H1 locs1 cells slots Q (F0 m (pc + 3) ls rest)) : W p l e R s m args below meth c H locs cells slots Q (F0 m pc ls (v :: .ref (ad k i) :: rest)) := by
  obtain ⟨hx, hb, -, hown, hts⟩ := S
  have hap := va_apart (own := own) hts hin ty0 hty hnm hK.1 hc
  have hat := hN.1 k i hd
  rw [he] at hat
  obtain ⟨r, h1, cell, q1, q2, q3, q4⟩ := hat
  have hr : r = (CN, T, N) := Option.some.inj (h1.symm.trans hc)
  subst hr
  obtain ⟨hSl, hfc, kC, hkC, hkind⟩ := hK.1.1 ci _ hc
  obtain ⟨cf, kf, fi, f, hi, hsl⟩ := hSl j hj
  have hlay := hts _ (hin _ (u_in_lay hj))
  unfold u_lay at hlay
  rw [if_pos hfin] at hlay
  have hst := (u_facts hfc hkC (u_lays hts hin hj) hi).1
  have hcf : m.cls = cf := by
    obtain ⟨_, _, c', _, _, _, -, -, hf', -, -, -, hown2, -⟩ := Cond.laysFinal_spec hlay
    have e1 : c' = cf := by have := hi.symm.trans hf'; simp at this; exact this.1.symm
    rw [hdecl] at hown2
    rw [← e1]; exact Option.some.inj (hown.symm.trans hown2)
  have h6 := u_fits hfc hkC hkind (Or.inr hlay) hi (hty j hj) hn hfit
  refine W.putFinK hx hb hown (hts _ hlink) (hsame _ hi) hst hcf hin2 (by rw [q2]; exact h6) q1 q3 (by rw [hsl]; exact k2_hasslot (q4 j hj)) rfl rfl hdg fun H' e1 e2 e3 => ?_
  rw [hsl] at e1 ⊢
  refine kk H' _ (hN.look hd ?_ e3 hoth) e2 (hS.put e2 e3 (hN.2.2 k i hd))
  rw [hset]
  exact ⟨_, hc, t_OB.to (V := updV (vp_V fs) j v) ⟨_, e1, q2, q3, t_set q4 hap hj v⟩ (fun j' _ => vp_updV_set hl v j')⟩
theorem nw_aastE (en' : nwE) (S : CallFix p m c cc nL s args Ts own) (hK : KK D C s) (hN : nw D en dom A ad Y H) (hS : va_S A H0 H locs) {k i n : Nat} (hd : dom k i) (t0 : Nat) {cA : ClassId} {E : String} (ht : (tysC C)[t0]? = some (cA, .object E)) {f f' : Nat → Option Nat} (he : en ad k i (Y k i) = .inl (cA, n, .inr (.inr (.inr (.inr f))))) (he' : en' ad k i (Y k i) = .inl (cA, n, .inr (.inr (.inr (.inr f'))))) {x : Int32} {b : Nat} (hff : ∀ j, j < n → f' j = if j = x.toNatClampNeg then some b else f j) (hr : va_Any E s H b) (hin : vp_in x n) (hoth : ∀ k' i', dom k' i' → ¬ (k' = k ∧ i' = i) → en' ad k' i' (Y k' i') = en ad k' i' (Y k' i')) (hdg : decode cc pc = .ok (.aastore, 1))
    (kk : ∀ (H1 : Heap) (locs1 : List Loc), nw D en' dom A ad Y H1 → H1.size = H.size → va_S A H0 H1 locs1 → W p l e R s m args below meth c H1 locs1 cells slots Q (F0 m (pc + 1) ls rest)) : W p l e R s m args below meth c H locs cells slots Q (F0 m pc ls (.ref b :: .int x :: .ref (ad k i) :: rest)) := by
  have hat := hN.1 k i hd
  rw [he] at hat
  have hlt : x.toNatClampNeg < n := Nat.not_le.mp fun q => hin (Or.inr q)
  have h0 : ¬ x < 0 := fun q => hin (Or.inl q)
  obtain ⟨cellV, g1, g3, ⟨kC, hkC⟩, hasg⟩ := hr
  obtain ⟨kA, comp, k1, k2, k3, -⟩ := (hK.1.2 t0 _ ht).2
  obtain ⟨kE, hkE, -⟩ := Vm.findClass_spec k3
  refine W.aast S.1 S.2.1 hat (fun q h => by cases h) (fun h => by cases h) k1 k2 rfl hkE ⟨h0, by show _ < (arrV _ _ _).slots.size; rw [arrV_size]; exact hlt⟩ g1 (fun q h => by rw [h] at g3; cases g3) hkC (hasg _ k3) rfl rfl hdg fun H1 e z oq => ?_
  refine kk H1 _ (hN.look hd ?_ oq hoth) z (hS.put z oq (hN.2.2 k i hd))
  rw [he']
  show H1[ad k i]? = some (vp_cell _ _)
  rw [e, vp_cell_q, vp_cell_q, arrV_store]
  refine congrArg some (arrV_cg (fun j hj => ?_))
  rw [hff j hj]
  by_cases hq : j = x.toNatClampNeg
  · subst hq
    simp [updV, va_rf]
  · simp [updV, hq]
/-- a loop that makes something at every turn -/
theorem lpC (N : Nat) (P : Nat → Heap → List Loc → Array Slot → Prop) (cf sf : Nat → Nat) (pc : Nat)
    (step : ∀ (t : Nat) (H : Heap) (locs : List Loc) (ls : Array Slot), t < N → P t H locs ls → (∀ (H' : Heap) (locs' : List Loc) (ls' : Array Slot), P (t + 1) H' locs' ls' → W p l e R s m args below meth c H' locs' (cf (t + 1)) (sf (t + 1)) Q (F0 m pc ls' [])) → W p l e R s m args below meth c H locs (cf t) (sf t) Q (F0 m pc ls []))
    (done : ∀ (H : Heap) (locs : List Loc) (ls : Array Slot), P N H locs ls → W p l e R s m args below meth c H locs (cf N) (sf N) Q (F0 m pc ls []))
    (h0 : P 0 H locs ls) : W p l e R s m args below meth c H locs (cf 0) (sf 0) Q (F0 m pc ls []) := by
  have key : ∀ (d t : Nat) (H : Heap) (locs : List Loc) (ls : Array Slot), t + d = N → P t H locs ls → W p l e R s m args below meth c H locs (cf t) (sf t) Q (F0 m pc ls []) := by
    intro d
    induction d with
    | zero => intro t H locs ls ht hp; cases ht; exact done H locs ls hp
    | succ d ih => exact fun t H locs ls ht hp => step t H locs ls (by omega) hp (fun H' locs' ls' hp' => ih (t + 1) H' locs' ls' (by omega) hp')
  exact key N 0 H locs ls (Nat.zero_add N) h0
end NF
