/-! making horses, wagons, alarms -/
def adset (ad : Nat → Nat → Nat) (K n q : Nat) : Nat → Nat → Nat := fun k i => if k = K ∧ i = n then q else ad k i
theorem adset_at (ad : Nat → Nat → Nat) (K n q : Nat) : adset ad K n q K n = q := if_pos ⟨rfl, rfl⟩
theorem adset_ne {ad : Nat → Nat → Nat} {K n q k i : Nat} (h : ¬ (k = K ∧ i = n)) : adset ad K n q k i = ad k i := if_neg h
def setr (Y : Nat → Nat → Nat → Int32) (K n : Nat) (r : Nat → Int32) : Nat → Nat → Nat → Int32 := fun k i => if k = K ∧ i = n then r else Y k i
theorem setr_at (Y : Nat → Nat → Nat → Int32) (K n : Nat) (r : Nat → Int32) : setr Y K n r K n = r := if_pos ⟨rfl, rfl⟩
theorem setr_ne {Y : Nat → Nat → Nat → Int32} {K n k i : Nat} {r : Nat → Int32} (h : ¬ (k = K ∧ i = n)) : setr Y K n r k i = Y k i := if_neg h
theorem arrV_cg {c : ClassId} {n : Nat} {f g : Nat → Value} (h : ∀ j, j < n → f j = g j) : arrV c n f = arrV c n g := by
  have e : (fun j : Fin n => f j.val) = (fun j : Fin n => g j.val) := funext fun j => h j.1 j.2
  unfold arrV
  rw [e]
theorem va_at_cg {D : va_G} {cl : List vw_C} {a n : Nat} {cA : ClassId} {f g : Nat → Option Nat} {H : Heap} (h : ∀ j, j < n → f j = g j) (hv : va_at D cl (a, .inl (cA, n, .inr (.inr (.inr (.inr f))))) H) : va_at D cl (a, .inl (cA, n, .inr (.inr (.inr (.inr g))))) H := by
  have hv : H[a]? = some (arrV cA n (fun j => va_rf (f j))) := hv
  show H[a]? = some (arrV cA n (fun j => va_rf (g j)))
  rw [hv, arrV_cg (fun j hj => by rw [h j hj])]
section MK
variable {nh nv na kk : Nat} {Y : Nat → Nat → Nat → Int32} {D : va_G} {C : Nat → ClassId} {A : Nat → Prop} {ad : Nat → Nat → Nat} {H H1 : Heap}
theorem oH_ad {q : Nat} {c : Int32} (h : okN nh c) : oH ad c = oH (adset ad 20 nh q) c := by
  rcases h with rfl | h
  · rw [oH_m1, oH_m1]
  · rw [oH_1 (vp_pos h), oH_1 (vp_pos h), adset_ne (fun z => Nat.ne_of_lt (vp_lt h) z.2)]
theorem oA_ad {q : Nat} {c : Int32} (h : okN na c) : oA ad c = oA (adset ad 22 na q) c := by
  rcases h with rfl | h
  · rw [oA_m1, oA_m1]
  · unfold oA
    rw [if_neg (vp_pos h), if_neg (vp_pos h), adset_ne (fun z => Nat.ne_of_lt (vp_lt h) z.2)]
theorem oW_ad {q : Nat} {c : Int32} (h : okV nh nv c) (hn : nh ≤ 60) (hv : nv ≤ 60) : oW ad c = oW (adset ad 20 nh q) c ∧ oW ad c = oW (adset ad 21 nv q) c := by
  by_cases c0 : c < 0
  · rw [oW_0 c0, oW_0 c0, oW_0 c0]; exact ⟨rfl, rfl⟩
  · obtain ⟨h1, h2⟩ := h.hw hn hv c0
    unfold oW
    rw [if_neg c0, if_neg c0, if_neg c0]
    by_cases c1 : c < 100
    · rw [if_pos c1, if_pos c1, if_pos c1]
      exact ⟨by rw [adset_ne (fun z => Nat.ne_of_lt (h1 c1) z.2)], rfl⟩
    · rw [if_neg c1, if_neg c1, if_neg c1]
      exact ⟨rfl, by rw [adset_ne (fun z => Nat.ne_of_lt (h2 c1) z.2)]⟩
theorem hold20 (hI : InvY nh nv na kk Y) (q : Nat) : ∀ (k i : Nat), domY nh nv na k i → va_at D vwCl (ad k i, enY C ad k i (Y k i)) H → va_at D vwCl (ad k i, enY C (adset ad 20 nh q) k i (Y k i)) H
  | 0, _, _, h => h
  | 1, i, hd, h => by
    obtain ⟨-, rfl⟩ : 1 < 12 ∧ i = 0 := hd
    exact va_at_cg (fun j hj => oH_ad (hI.sts j hj)) h
  | 2, i, hd, h => by
    obtain ⟨-, rfl⟩ : 2 < 12 ∧ i = 0 := hd
    exact va_at_cg (fun j hj => (oW_ad (hI.shs j hj) hI.1.1 hI.2.1.1).1) h
  | 3, _, _, h => h | 4, _, _, h => h | 5, _, _, h => h | 6, _, _, h => h | 7, _, _, h => h | 8, _, _, h => h | 9, _, _, h => h | 10, _, _, h => h | 11, _, _, h => h | 12, _, _, h => h
  | 13, i, hd, h => va_at_cg (fun j hj => oH_ad (hI.pls i hd j hj)) h
  | 14, _, _, h => h | 15, _, _, h => h | 16, _, _, h => h | 17, _, _, h => h | 18, _, _, h => h | 19, _, _, h => h | 20, _, _, h => h | 21, _, _, h => h | 22, _, _, h => h
  | k + 23, i, hd, _ => absurd (show k + 23 < 12 ∧ i = 0 from hd).1 (by omega)
theorem hold21 (hI : InvY nh nv na kk Y) (q : Nat) : ∀ (k i : Nat), domY nh nv na k i → va_at D vwCl (ad k i, enY C ad k i (Y k i)) H → va_at D vwCl (ad k i, enY C (adset ad 21 nv q) k i (Y k i)) H
  | 0, _, _, h => h | 1, _, _, h => h
  | 2, i, hd, h => by
    obtain ⟨-, rfl⟩ : 2 < 12 ∧ i = 0 := hd
    exact va_at_cg (fun j hj => (oW_ad (hI.shs j hj) hI.1.1 hI.2.1.1).2) h
  | 3, _, _, h => h | 4, _, _, h => h | 5, _, _, h => h | 6, _, _, h => h | 7, _, _, h => h | 8, _, _, h => h | 9, _, _, h => h | 10, _, _, h => h | 11, _, _, h => h | 12, _, _, h => h | 13, _, _, h => h
  | 14, _, _, h => h | 15, _, _, h => h | 16, _, _, h => h | 17, _, _, h => h | 18, _, _, h => h | 19, _, _, h => h | 20, _, _, h => h | 21, _, _, h => h | 22, _, _, h => h
  | k + 23, i, hd, _ => absurd (show k + 23 < 12 ∧ i = 0 from hd).1 (by omega)
theorem hold22 (hI : InvY nh nv na kk Y) (q : Nat) : ∀ (k i : Nat), domY nh nv na k i → va_at D vwCl (ad k i, enY C ad k i (Y k i)) H → va_at D vwCl (ad k i, enY C (adset ad 22 na q) k i (Y k i)) H
  | 0, _, _, h => h | 1, _, _, h => h | 2, _, _, h => h | 3, _, _, h => h | 4, _, _, h => h | 5, _, _, h => h
  | 6, i, hd, h => by
    obtain ⟨-, rfl⟩ : 6 < 12 ∧ i = 0 := hd
    exact va_at_cg (fun j hj => oA_ad (hI.hks j hj)) h
  | 7, _, _, h => h | 8, _, _, h => h | 9, _, _, h => h | 10, _, _, h => h | 11, _, _, h => h | 12, _, _, h => h | 13, _, _, h => h
  | 14, _, _, h => h | 15, _, _, h => h | 16, _, _, h => h | 17, _, _, h => h | 18, _, _, h => h | 19, _, _, h => h | 20, _, _, h => h | 21, _, _, h => h | 22, _, _, h => h
  | k + 23, i, hd, _ => absurd (show k + 23 < 12 ∧ i = 0 from hd).1 (by omega)
theorem dom20 : ∀ (k i : Nat), domY (nh + 1) nv na k i → domY nh nv na k i ∨ (k = 20 ∧ i = nh)
  | 20, i, hd => by
    have hd : i < nh + 1 := hd
    rcases Nat.lt_or_ge i nh with h | h
    · exact Or.inl h
    · exact Or.inr ⟨rfl, by omega⟩
  | 0, _, h => Or.inl h | 1, _, h => Or.inl h | 2, _, h => Or.inl h | 3, _, h => Or.inl h | 4, _, h => Or.inl h | 5, _, h => Or.inl h | 6, _, h => Or.inl h | 7, _, h => Or.inl h | 8, _, h => Or.inl h | 9, _, h => Or.inl h | 10, _, h => Or.inl h | 11, _, h => Or.inl h | 12, _, h => Or.inl h | 13, _, h => Or.inl h | 14, _, h => Or.inl h | 15, _, h => Or.inl h | 16, _, h => Or.inl h | 17, _, h => Or.inl h | 18, _, h => Or.inl h | 19, _, h => Or.inl h | 21, _, h => Or.inl h | 22, _, h => Or.inl h
  | _ + 23, _, h => Or.inl h
theorem dom21 : ∀ (k i : Nat), domY nh (nv + 1) na k i → domY nh nv na k i ∨ (k = 21 ∧ i = nv)
  | 21, i, hd => by
    have hd : i < nv + 1 := hd
    rcases Nat.lt_or_ge i nv with h | h
    · exact Or.inl h
    · exact Or.inr ⟨rfl, by omega⟩
  | 0, _, h => Or.inl h | 1, _, h => Or.inl h | 2, _, h => Or.inl h | 3, _, h => Or.inl h | 4, _, h => Or.inl h | 5, _, h => Or.inl h | 6, _, h => Or.inl h | 7, _, h => Or.inl h | 8, _, h => Or.inl h | 9, _, h => Or.inl h | 10, _, h => Or.inl h | 11, _, h => Or.inl h | 12, _, h => Or.inl h | 13, _, h => Or.inl h | 14, _, h => Or.inl h | 15, _, h => Or.inl h | 16, _, h => Or.inl h | 17, _, h => Or.inl h | 18, _, h => Or.inl h | 19, _, h => Or.inl h | 20, _, h => Or.inl h | 22, _, h => Or.inl h
  | _ + 23, _, h => Or.inl h
theorem dom22 : ∀ (k i : Nat), domY nh nv (na + 1) k i → domY nh nv na k i ∨ (k = 22 ∧ i = na)
  | 22, i, hd => by
    have hd : i < na + 1 := hd
    rcases Nat.lt_or_ge i na with h | h
    · exact Or.inl h
    · exact Or.inr ⟨rfl, by omega⟩
  | 0, _, h => Or.inl h | 1, _, h => Or.inl h | 2, _, h => Or.inl h | 3, _, h => Or.inl h | 4, _, h => Or.inl h | 5, _, h => Or.inl h | 6, _, h => Or.inl h | 7, _, h => Or.inl h | 8, _, h => Or.inl h | 9, _, h => Or.inl h | 10, _, h => Or.inl h | 11, _, h => Or.inl h | 12, _, h => Or.inl h | 13, _, h => Or.inl h | 14, _, h => Or.inl h | 15, _, h => Or.inl h | 16, _, h => Or.inl h | 17, _, h => Or.inl h | 18, _, h => Or.inl h | 19, _, h => Or.inl h | 20, _, h => Or.inl h | 21, _, h => Or.inl h
  | _ + 23, _, h => Or.inl h
theorem nw_grow {en : nwE} {K n : Nat} {dom dom' : Nat → Nat → Prop} {r : Nat → Int32} (hN : nw D en dom A ad Y H) (hdom : ∀ k i, dom' k i → dom k i ∨ (k = K ∧ i = n)) (hnd : ¬ dom K n) (hAq : A H.size) (hk : ∀ x, x < H.size → H1[x]? = H[x]?) (hold : ∀ k i, dom k i → va_at D vwCl (ad k i, en ad k i (Y k i)) H1 → va_at D vwCl (ad k i, en (adset ad K n H.size) k i (Y k i)) H1) (hnew : va_at D vwCl (H.size, en (adset ad K n H.size) K n r) H1) : nw D en dom' A (adset ad K n H.size) (setr Y K n r) H1 := by
  have hne : ∀ {k i}, dom k i → ¬ (k = K ∧ i = n) := fun h z => hnd (z.1 ▸ z.2 ▸ h)
  refine ⟨fun k i hd => ?_, fun k i k' i' hd hd' e => ?_, fun k i hd => ?_⟩
  · rcases hdom k i hd with h | ⟨rfl, rfl⟩
    · rw [adset_ne (hne h), setr_ne (hne h)]
      exact hold k i h ((hN.1 k i h).kept (hk _ (hN.lt h)))
    · rw [adset_at, setr_at]
      exact hnew
  · rcases hdom k i hd with h | ⟨rfl, rfl⟩ <;> rcases hdom k' i' hd' with h' | ⟨h1, h2⟩
    · rw [adset_ne (hne h), adset_ne (hne h')] at e
      exact hN.2.1 k i k' i' h h' e
    · subst h1; subst h2
      rw [adset_ne (hne h), adset_at] at e
      have := hN.lt h
      omega
    · rw [adset_at, adset_ne (hne h')] at e
      have := hN.lt h'
      omega
    · exact ⟨h1.symm, h2.symm⟩
  · rcases hdom k i hd with h | ⟨rfl, rfl⟩
    · rw [adset_ne (hne h)]
      exact hN.2.2 k i h
    · rw [adset_at]
      exact hAq
end MK
section NWN
variable {p : Program} {l : Launch} {e : Env} {R : Room} {s : State} {m : MethodId} {args : Array Value} {below : List Frame} {meth : Method} {c : Code} {H : Heap} {locs : List Loc} {cells slots : Nat} {Q : State → Prop}
variable {cc : ByteArray} {pc nL : Nat} {ls : Array Slot} {rest : List Value} {D : va_G} {C : Nat → ClassId} {A : Nat → Prop} {H0 : Heap} {en : nwE} {dom dom' : Nat → Nat → Prop} {ad : Nat → Nat → Nat} {Y : Nat → Nat → Nat → Int32} {Ts : List Cond} {own : String}
theorem nw_newO (S : CallFix p m c cc nL s args Ts own) (hK : KK D C s) (hN : nw D en dom A ad Y H) (hS : va_S A H0 H locs) (hA : ∀ q, H0.size ≤ q → A q) (K n : Nat) {ci N index : Nat} {CN : String} {T : u_T} (hc : vwCl[ci]? = some (CN, T, N)) (hin : ∀ w ∈ u_ws CN T N, w ∈ Ts) (ty : Nat → FieldType) (hty : ∀ k, k < N → parseFieldDescriptor (T k).2.2.1 = some (ty k)) (hcl : Cond.classLink own index CN ∈ Ts) (hinst : Cond.instantiable CN N ∈ Ts) (hini : Cond.initialized CN ∈ Ts)
    (hdom : ∀ k i, dom' k i → dom k i ∨ (k = K ∧ i = n)) (hnd : ¬ dom K n) (hold : ∀ (H1 : Heap) (k i : Nat), dom k i → va_at D vwCl (ad k i, en ad k i (Y k i)) H1 → va_at D vwCl (ad k i, en (adset ad K n H.size) k i (Y k i)) H1) {r : Nat → Int32} {fs : List Value} (he : en (adset ad K n H.size) K n r = .inr (ci, fs)) (hfs : ∀ j, j < N → defaultValue (ty j) = vp_V fs j) (hcells : cells + 1 ≤ R.cells) (hslots : slots + N ≤ R.slots) (hdg : decode cc pc = .ok (.new index, 3))
    (kk : ∀ H1 : Heap, nw D en dom' A (adset ad K n H.size) (setr Y K n r) H1 → H1.size = H.size + 1 → va_S A H0 H1 locs → W p l e R s m args below meth c H1 locs (cells + 1) (slots + N) Q (F0 m (pc + 3) ls (.ref (adset ad K n H.size K n) :: rest))) : W p l e R s m args below meth c H locs cells slots Q (F0 m pc ls rest) := by
  obtain ⟨hx, hb, -, hown, hts⟩ := S
  have hKn := hK.1.1 ci _ hc
  refine W.newcK hx hb hown (hts _ hcl) (hts _ hinst) (hts _ hini) rfl hdg hcells hslots hKn.2.1 rfl fun H1 kC hkC e1 z1 o1 => ?_
  have h := kk H1 (nw_grow hN hdom hnd (hA _ hS.1) o1 (hold H1) (by rw [he]; exact ⟨_, hc, (u_born ty hts hin hKn hkC e1 hty).to hfs⟩)) z1 ⟨Nat.le_trans hS.1 (by omega), fun x h1 h2 => (o1 x (Nat.lt_of_lt_of_le h1 hS.1)).trans (hS.2.1 x h1 h2), hS.2.2⟩
  rw [adset_at] at h
  exact h
variable {y : MethodName} {bytes : ByteArray} {maxL index n mc ms : Nat} {ws ws' : List Cond} {rm : Room} {G G1 : Heap → Prop} {As : List Value} {st0 : List Value} {b : Nat}
/-- a constructor's call -/
theorem nwY_callI (S : CallFix p m c cc nL s args Ts own) (hM : Met l y ws rm (va_Pc (.ref b :: As) (PW D C A G)) (nQ A none G1) mc ms A) (cw : CallB R s args own index y bytes maxL none ws rm mc ms n ∧ y.name = "<init>" ∧ (Cond.instanceMethod y).before args s = true)
    (hK : KK D C s) (hG : G H) (hA : ∀ q, s.heap.size ≤ q → A q) (hS : va_S A s.heap H locs) (hn : As.length = n) (hl : ls.size = nL) (hst : st0 = As.reverse ++ .ref b :: rest) (hroom : (rest.map fun v => v.category).sum ≤ 8) (hdg : decode cc pc = .ok (.invokespecial index, 3)) (hf : cells + mc ≤ R.cells ∧ slots + ms ≤ R.slots)
    (kk : ∀ (H1 : Heap) (locs1 : List Loc), G1 H1 → va_S A s.heap H1 locs1 → W p l e R s m args below meth c H1 locs1 (cells + mc) (slots + ms) Q (F0 m (pc + 3) ls rest)) : W p l e R s m args below meth c H locs cells slots Q (F0 m pc ls st0) :=
  nw_callv (va_runI (As := As) (rest := rest) S hM cw (nw_preS hK hG hA hS) rfl hn hl hst (lv_room hroom) hdg hf) hS (fun H1 locs1 h1 _ _ h2 => kk H1 locs1 h1 h2)
/-- a private constructor's of a nest mate -/
theorem nwY_callN {host : String} (S : CallFix p m c cc nL s args Ts own) (hM : Met l y ws rm (va_Pc (.ref b :: As) (PW D C A G)) (nQ A none G1) mc ms A) (cw : va_CN R s args own index y host bytes maxL none ws rm mc ms n ∧ y.name = "<init>" ∧ (Cond.instanceMethod y).before args s = true)
    (hK : KK D C s) (hG : G H) (hA : ∀ q, s.heap.size ≤ q → A q) (hS : va_S A s.heap H locs) (hn : As.length = n) (hl : ls.size = nL) (hst : st0 = As.reverse ++ .ref b :: rest) (hroom : (rest.map fun v => v.category).sum ≤ 8) (hdg : decode cc pc = .ok (.invokespecial index, 3)) (hf : cells + mc ≤ R.cells ∧ slots + ms ≤ R.slots)
    (kk : ∀ (H1 : Heap) (locs1 : List Loc), G1 H1 → va_S A s.heap H1 locs1 → W p l e R s m args below meth c H1 locs1 (cells + mc) (slots + ms) Q (F0 m (pc + 3) ls rest)) : W p l e R s m args below meth c H locs cells slots Q (F0 m pc ls st0) :=
  nw_callv (va_runIN (As := As) (rest := rest) S hM cw (nw_preS hK hG hA hS) rfl hn hl hst (lv_room hroom) hdg hf) hS (fun H1 locs1 h1 _ _ h2 => kk H1 locs1 h1 h2)
/-- a static method that makes -/
theorem nwY_callSr {ret : Option FieldType} {v : Value} (S : CallFix p m c cc nL s args Ts own) (hM : Met l y ws rm (va_Pc As (PW D C A G)) (nQ A (some v) G1) mc ms A) (hT : GoodIn Ts (va_wsS own index y ws)) (hw : ws = Cond.code y bytes maxL ret :: ws') (hrm : rm.cells = mc ∧ rm.slots = ms) (hd : y.cls ≠ "java/lang/invoke/MethodHandle" ∧ y.cls ≠ "java/lang/invoke/VarHandle" ∧ (parseMethodDescriptor y.desc).map (fun d => d.parameters.length) = some n) (hR : rm.frames + 1 ≤ R.frames ∧ 8 + (maxL + 11) + rm.locals ≤ R.locals)
    (hK : KK D C s) (hG : G H) (hA : ∀ q, s.heap.size ≤ q → A q) (hS : va_S A s.heap H locs) (hn : As.length = n) (hl : ls.size = nL) (hst : st0 = As.reverse ++ rest) (hroom : (rest.map fun v => v.category).sum ≤ 8) (hdg : decode cc pc = .ok (.invokestatic index, 3)) (hf : cells + mc ≤ R.cells ∧ slots + ms ≤ R.slots)
    (kk : ∀ (H1 : Heap) (locs1 : List Loc), G1 H1 → va_S A s.heap H1 locs1 → W p l e R s m args below meth c H1 locs1 (cells + mc) (slots + ms) Q (F0 m (pc + 3) ls (v :: rest))) : W p l e R s m args below meth c H locs cells slots Q (F0 m pc ls st0) :=
  nw_calli (va_runS (As := As) (rest := rest) S hM (va_cwS n S.2.2.2.2 hT hw hrm.1 hrm.2 hd hR) (nw_preS hK hG hA hS) rfl hn hl hst (lv_room hroom) hdg hf) hS (fun H1 locs1 h1 _ _ h2 => kk H1 locs1 h1 h2)
end NWN
