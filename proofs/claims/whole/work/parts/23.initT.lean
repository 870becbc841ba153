/-! the yard is made -/
def bf (u : Bool) (a : Nat) : Value := match u with
  | true => .ref a
  | false => .null
def bo (u : Bool) (a : Nat) : Option Nat := match u with
  | true => some a
  | false => none
theorem bf_t {u : Bool} {a : Nat} (h : u = true) : bf u a = .ref a := by rw [h]; rfl
theorem bf_f {u : Bool} {a : Nat} (h : u = false) : bf u a = .null := by rw [h]; rfl
theorem bo_t {u : Bool} {a : Nat} (h : u = true) : bo u a = some a := by rw [h]; rfl
theorem bo_f {u : Bool} {a : Nat} (h : u = false) : bo u a = none := by rw [h]; rfl
def enS (C : Nat → ClassId) (u : Nat → Bool) : nwE := fun ad k i r => match k with
  | 0 => .inr (8, [bf (u 0) (ad 1 0), bf (u 1) (ad 2 0), bf (u 2) (ad 3 0), bf (u 3) (ad 4 0), bf (u 4) (ad 5 0), bf (u 5) (ad 6 0), .int (r 6), .int (r 7), .int (r 8), bf (u 9) (ad 7 0), .int (r 10), bf (u 11) (ad 9 0), bf (u 12) (ad 10 0), .int (r 13), .int (r 14), bf (u 15) (ad 11 0), .int (r 16)])
  | 3 => .inl (C 4, 6, .inr (.inr (.inr (.inr (fun j => bo (u j) (ad 12 j))))))
  | 4 => .inl (C 5, 4, .inr (.inr (.inr (.inr (fun j => bo (u j) (ad 14 j))))))
  | 5 => .inl (C 6, 4, .inr (.inr (.inr (.inr (fun j => bo (u j) (ad 16 j))))))
  | 12 => .inr (6, [bf (u 0) (ad 13 i), .int (r 1), .int (r 2), .int (r 3)])
  | 14 => .inr (4, [bf (u 0) (ad 15 i), .int (r 1), .int (r 2)])
  | 16 => .inr (5, [bf (u 0) (ad 17 i), bf (u 1) (ad 19 i), .int (r 2), .int (r 3), .int (r 4)])
  | k => enY C ad k i r
def enC (C : Nat → ClassId) (g : Nat → Nat → Nat → Bool) : nwE := fun ad k i r => enS C (g k i) ad k i r
def gY (f a b c t l w v k i j : Nat) : Bool := if k = 0 then decide (j < f) else if k = 3 then decide (j < a) else if k = 4 then decide (j < b) else if k = 5 then decide (j < c) else if k = 12 then decide (i < t) else if k = 14 then decide (i < l) else if k = 16 then (if j = 0 then decide (i < w) else decide (i < v)) else false
theorem enC_oth {C : Nat → ClassId} {g g' : Nat → Nat → Nat → Bool} {ad : Nat → Nat → Nat} {r : Nat → Int32} {k i : Nat} (h : g' k i = g k i) : enC C g' ad k i r = enC C g ad k i r := by
  show enS C (g' k i) ad k i r = enS C (g k i) ad k i r
  rw [h]
def offY (k i : Nat) : Nat := match k with
  | 1 => 0 | 2 => 1 | 3 => 2 | 4 => 3 | 5 => 4 | 6 => 5 | 7 => 6 | 8 => 7 + i | 9 => 27 | 10 => 28 | 11 => 29 | 12 => 30 + 2 * i | 13 => 31 + 2 * i | 14 => 42 + 2 * i | 15 => 43 + 2 * i | 16 => 50 + 9 * i | 17 => 51 + 9 * i | 18 => 52 + 9 * (i / 6) + i % 6 | 19 => 58 + 9 * i | _ => 0
def invYo (o : Nat) : Nat × Nat := if o < 7 then (o + 1, 0) else if o < 27 then (8, o - 7) else if o < 30 then (o - 18, 0) else if o < 42 then (12 + (o - 30) % 2, (o - 30) / 2) else if o < 50 then (14 + (o - 42) % 2, (o - 42) / 2) else if (o - 50) % 9 = 0 then (16, (o - 50) / 9) else if (o - 50) % 9 = 1 then (17, (o - 50) / 9) else if (o - 50) % 9 = 8 then (19, (o - 50) / 9) else (18, 6 * ((o - 50) / 9) + ((o - 50) % 9 - 2))
theorem inv12 {t : Nat} (h : t < 6) : invYo (30 + 2 * t) = (12, t) := by
  unfold invYo
  rw [if_neg (by omega), if_neg (by omega), if_neg (by omega), if_pos (by omega)]
  exact Prod.ext (by show 12 + _ = 12; omega) (by show _ / 2 = t; omega)
theorem inv13 {t : Nat} (h : t < 6) : invYo (30 + 2 * t + 1) = (13, t) := by
  unfold invYo
  rw [if_neg (by omega), if_neg (by omega), if_neg (by omega), if_pos (by omega)]
  exact Prod.ext (by show 12 + _ = 13; omega) (by show _ / 2 = t; omega)
theorem inv14 {t : Nat} (h : t < 4) : invYo (42 + 2 * t) = (14, t) := by
  unfold invYo
  rw [if_neg (by omega), if_neg (by omega), if_neg (by omega), if_neg (by omega), if_pos (by omega)]
  exact Prod.ext (by show 14 + _ = 14; omega) (by show _ / 2 = t; omega)
theorem inv15 {t : Nat} (h : t < 4) : invYo (42 + 2 * t + 1) = (15, t) := by
  unfold invYo
  rw [if_neg (by omega), if_neg (by omega), if_neg (by omega), if_neg (by omega), if_pos (by omega)]
  exact Prod.ext (by show 14 + _ = 15; omega) (by show _ / 2 = t; omega)
theorem inv16 {t : Nat} (h : t < 4) : invYo (50 + 9 * t) = (16, t) := by
  unfold invYo
  rw [if_neg (by omega), if_neg (by omega), if_neg (by omega), if_neg (by omega), if_neg (by omega), if_pos (by omega)]
  exact Prod.ext rfl (by show _ / 9 = t; omega)
theorem inv17 {t : Nat} (h : t < 4) : invYo (50 + 9 * t + 1) = (17, t) := by
  unfold invYo
  rw [if_neg (by omega), if_neg (by omega), if_neg (by omega), if_neg (by omega), if_neg (by omega), if_neg (by omega), if_pos (by omega)]
  exact Prod.ext rfl (by show _ / 9 = t; omega)
theorem inv18 {t j : Nat} (h : t < 4) (hj : j < 6) : invYo (50 + 9 * t + 1 + 1 + j) = (18, 6 * t + j) := by
  unfold invYo
  rw [if_neg (by omega), if_neg (by omega), if_neg (by omega), if_neg (by omega), if_neg (by omega), if_neg (by omega), if_neg (by omega), if_neg (by omega)]
  exact Prod.ext rfl (by show 6 * (_ / 9) + _ = _; omega)
theorem inv19 {t : Nat} (h : t < 4) : invYo (50 + 9 * t + 1 + 1 + 6) = (19, t) := by
  unfold invYo
  rw [if_neg (by omega), if_neg (by omega), if_neg (by omega), if_neg (by omega), if_neg (by omega), if_neg (by omega), if_neg (by omega), if_pos (by omega)]
  exact Prod.ext rfl (by show _ / 9 = t; omega)
theorem plY2 : ∀ (k i : Nat), domY 0 0 0 k i → k ≠ 0 → invYo (offY k i) = (k, i)
  | 0, _, _, h => absurd rfl h
  | 1, i, hd, _ => by obtain ⟨-, rfl⟩ : 1 < 12 ∧ i = 0 := hd; rfl
  | 2, i, hd, _ => by obtain ⟨-, rfl⟩ : 2 < 12 ∧ i = 0 := hd; rfl
  | 3, i, hd, _ => by obtain ⟨-, rfl⟩ : 3 < 12 ∧ i = 0 := hd; rfl
  | 4, i, hd, _ => by obtain ⟨-, rfl⟩ : 4 < 12 ∧ i = 0 := hd; rfl
  | 5, i, hd, _ => by obtain ⟨-, rfl⟩ : 5 < 12 ∧ i = 0 := hd; rfl
  | 6, i, hd, _ => by obtain ⟨-, rfl⟩ : 6 < 12 ∧ i = 0 := hd; rfl
  | 7, i, hd, _ => by obtain ⟨-, rfl⟩ : 7 < 12 ∧ i = 0 := hd; rfl
  | 8, i, hd, _ => by
    have hd : i < 20 := hd
    show invYo (7 + i) = (8, i)
    unfold invYo
    rw [if_neg (by omega), if_pos (by omega)]
    exact Prod.ext rfl (by show 7 + i - 7 = i; omega)
  | 9, i, hd, _ => by obtain ⟨-, rfl⟩ : 9 < 12 ∧ i = 0 := hd; rfl
  | 10, i, hd, _ => by obtain ⟨-, rfl⟩ : 10 < 12 ∧ i = 0 := hd; rfl
  | 11, i, hd, _ => by obtain ⟨-, rfl⟩ : 11 < 12 ∧ i = 0 := hd; rfl
  | 12, i, hd, _ => inv12 hd
  | 13, i, hd, _ => (show invYo (31 + 2 * i) = (13, i) by rw [show 31 + 2 * i = 30 + 2 * i + 1 by omega]; exact inv13 hd)
  | 14, i, hd, _ => inv14 hd
  | 15, i, hd, _ => (show invYo (43 + 2 * i) = (15, i) by rw [show 43 + 2 * i = 42 + 2 * i + 1 by omega]; exact inv15 hd)
  | 16, i, hd, _ => inv16 hd
  | 17, i, hd, _ => (show invYo (51 + 9 * i) = (17, i) by rw [show 51 + 9 * i = 50 + 9 * i + 1 by omega]; exact inv17 hd)
  | 18, i, hd, _ => by
    have hd : i < 24 := hd
    show invYo (52 + 9 * (i / 6) + i % 6) = (18, i)
    rw [show 52 + 9 * (i / 6) + i % 6 = 50 + 9 * (i / 6) + 1 + 1 + i % 6 by omega, inv18 (by omega) (by omega)]
    exact Prod.ext rfl (by show 6 * (i / 6) + i % 6 = i; omega)
  | 19, i, hd, _ => (show invYo (58 + 9 * i) = (19, i) by rw [show 58 + 9 * i = 50 + 9 * i + 1 + 1 + 6 by omega]; exact inv19 hd)
  | 20, i, hd, _ => absurd (show i < 0 from hd) (Nat.not_lt_zero _)
  | 21, i, hd, _ => absurd (show i < 0 from hd) (Nat.not_lt_zero _)
  | 22, i, hd, _ => absurd (show i < 0 from hd) (Nat.not_lt_zero _)
  | k + 23, i, hd, _ => absurd (show k + 23 < 12 ∧ i = 0 from hd).1 (by omega)
theorem plY : PLN (domY 0 0 0) offY invYo := ⟨fun i h => (show 0 < 12 ∧ i = 0 from h).2, plY2⟩
theorem offY_lt : ∀ (k i : Nat), domY 0 0 0 k i → offY k i < 86
  | 0, _, _ => by show 0 < 86; decide
  | 1, _, _ => by show 0 < 86; decide
  | 2, _, _ => by show 1 < 86; decide
  | 3, _, _ => by show 2 < 86; decide
  | 4, _, _ => by show 3 < 86; decide
  | 5, _, _ => by show 4 < 86; decide
  | 6, _, _ => by show 5 < 86; decide
  | 7, _, _ => by show 6 < 86; decide
  | 8, i, hd => by have hd : i < 20 := hd; show 7 + i < 86; omega
  | 9, _, _ => by show 27 < 86; decide
  | 10, _, _ => by show 28 < 86; decide
  | 11, _, _ => by show 29 < 86; decide
  | 12, i, hd => by have hd : i < 6 := hd; show 30 + 2 * i < 86; omega
  | 13, i, hd => by have hd : i < 6 := hd; show 31 + 2 * i < 86; omega
  | 14, i, hd => by have hd : i < 4 := hd; show 42 + 2 * i < 86; omega
  | 15, i, hd => by have hd : i < 4 := hd; show 43 + 2 * i < 86; omega
  | 16, i, hd => by have hd : i < 4 := hd; show 50 + 9 * i < 86; omega
  | 17, i, hd => by have hd : i < 4 := hd; show 51 + 9 * i < 86; omega
  | 18, i, hd => by have hd : i < 24 := hd; show 52 + 9 * (i / 6) + i % 6 < 86; omega
  | 19, i, hd => by have hd : i < 4 := hd; show 58 + 9 * i < 86; omega
  | 20, i, hd => absurd (show i < 0 from hd) (Nat.not_lt_zero _)
  | 21, i, hd => absurd (show i < 0 from hd) (Nat.not_lt_zero _)
  | 22, i, hd => absurd (show i < 0 from hd) (Nat.not_lt_zero _)
  | k + 23, i, hd => absurd (show k + 23 < 12 ∧ i = 0 from hd).1 (by omega)
def Y0 : Nat → Nat → Nat → Int32 := fun k _ _ => match k with
  | 1 => -1 | 2 => -1 | 6 => -1 | 13 => -1 | _ => 0
theorem convY {D : va_G} {C : Nat → ClassId} {A : Nat → Prop} {ad : Nat → Nat → Nat} {H : Heap} (hN : nw D (enC C (gY 16 6 4 4 6 4 4 4)) (domC (domY 0 0 0) offY 86) A ad Y0 H) : nw D (enY C) (domY 0 0 0) A ad Y0 H := by
  refine ⟨fun k i hd => ?_, fun k i k' i' h h' => hN.2.1 k i k' i' ⟨h, Or.inr (offY_lt k i h)⟩ ⟨h', Or.inr (offY_lt k' i' h')⟩, fun k i h => hN.2.2 k i ⟨h, Or.inr (offY_lt k i h)⟩⟩
  have h := hN.1 k i ⟨hd, Or.inr (offY_lt k i hd)⟩
  match k, hd, h with
  | 0, hd, h =>
    obtain ⟨-, rfl⟩ : 0 < 12 ∧ i = 0 := hd
    exact h
  | 1, _, h => exact h
  | 2, _, h => exact h
  | 3, hd, h => exact va_at_cg (fun j hj => bo_t (show decide (j < 6) = true from decide_eq_true hj)) h
  | 4, hd, h => exact va_at_cg (fun j hj => bo_t (show decide (j < 4) = true from decide_eq_true hj)) h
  | 5, hd, h => exact va_at_cg (fun j hj => bo_t (show decide (j < 4) = true from decide_eq_true hj)) h
  | 12, hd, h =>
    have e : bf (gY 16 6 4 4 6 4 4 4 12 i 0) (ad 13 i) = .ref (ad 13 i) := bf_t (show decide (i < 6) = true from decide_eq_true hd)
    have h : va_at D vwCl (ad 12 i, .inr (6, [bf (gY 16 6 4 4 6 4 4 4 12 i 0) (ad 13 i), .int 0, .int 0, .int 0])) H := h
    rw [e] at h
    exact h
  | 14, hd, h =>
    have e : bf (gY 16 6 4 4 6 4 4 4 14 i 0) (ad 15 i) = .ref (ad 15 i) := bf_t (show decide (i < 4) = true from decide_eq_true hd)
    have h : va_at D vwCl (ad 14 i, .inr (4, [bf (gY 16 6 4 4 6 4 4 4 14 i 0) (ad 15 i), .int 0, .int 0])) H := h
    rw [e] at h
    exact h
  | 16, hd, h =>
    have e : bf (gY 16 6 4 4 6 4 4 4 16 i 0) (ad 17 i) = .ref (ad 17 i) := bf_t (show decide (i < 4) = true from decide_eq_true hd)
    have e2 : bf (gY 16 6 4 4 6 4 4 4 16 i 1) (ad 19 i) = .ref (ad 19 i) := bf_t (show decide (i < 4) = true from decide_eq_true hd)
    have h : va_at D vwCl (ad 16 i, .inr (5, [bf (gY 16 6 4 4 6 4 4 4 16 i 0) (ad 17 i), bf (gY 16 6 4 4 6 4 4 4 16 i 1) (ad 19 i), .int 0, .int 0, .int 0])) H := h
    rw [e, e2] at h
    exact h
  | 6, _, h => exact h
  | 7, _, h => exact h
  | 8, _, h => exact h
  | 9, _, h => exact h
  | 10, _, h => exact h
  | 11, _, h => exact h
  | 13, _, h => exact h
  | 15, _, h => exact h
  | 17, _, h => exact h
  | 18, _, h => exact h
  | 19, _, h => exact h
  | 20, _, h => exact h
  | 21, _, h => exact h
  | 22, _, h => exact h
  | k + 23, hd, _ => exact absurd (show k + 23 < 12 ∧ i = 0 from hd).1 (by omega)
theorem gY_0 {f f' a b c t l w v z : Nat} (k i : Nat) (hd : domC (domY 0 0 0) offY z k i) (h : ¬ (k = 0 ∧ i = 0)) : gY f' a b c t l w v k i = gY f a b c t l w v k i := by
  have hk : k ≠ 0 := fun q => h ⟨q, by subst q; exact (show 0 < 12 ∧ i = 0 from hd.1).2⟩
  funext j
  simp [gY, hk]
theorem gY_3 {f a a' b c t l w v z : Nat} (k i : Nat) (hd : domC (domY 0 0 0) offY z k i) (h : ¬ (k = 3 ∧ i = 0)) : gY f a' b c t l w v k i = gY f a b c t l w v k i := by
  have hk : k ≠ 3 := fun q => h ⟨q, by subst q; exact (show 3 < 12 ∧ i = 0 from hd.1).2⟩
  funext j
  simp [gY, hk]
theorem gY_4 {f a b b' c t l w v z : Nat} (k i : Nat) (hd : domC (domY 0 0 0) offY z k i) (h : ¬ (k = 4 ∧ i = 0)) : gY f a b' c t l w v k i = gY f a b c t l w v k i := by
  have hk : k ≠ 4 := fun q => h ⟨q, by subst q; exact (show 4 < 12 ∧ i = 0 from hd.1).2⟩
  funext j
  simp [gY, hk]
theorem gY_5 {f a b c c' t l w v z : Nat} (k i : Nat) (hd : domC (domY 0 0 0) offY z k i) (h : ¬ (k = 5 ∧ i = 0)) : gY f a b c' t l w v k i = gY f a b c t l w v k i := by
  have hk : k ≠ 5 := fun q => h ⟨q, by subst q; exact (show 5 < 12 ∧ i = 0 from hd.1).2⟩
  funext j
  simp [gY, hk]
theorem dlt_s {i t : Nat} (h : i ≠ t) : decide (i < t + 1) = decide (i < t) := by
  by_cases q : i < t
  · rw [decide_eq_true q, decide_eq_true (by omega)]
  · rw [decide_eq_false q, decide_eq_false (by omega)]
theorem gY_12 {f a b c t l w v : Nat} (k i : Nat) (h : ¬ (k = 12 ∧ i = t)) : gY f a b c (t + 1) l w v k i = gY f a b c t l w v k i := by
  funext j
  unfold gY
  by_cases hk : k = 12
  · rw [dlt_s (fun q => h ⟨hk, q⟩)]
  · simp [hk]
theorem gY_14 {f a b c t l w v : Nat} (k i : Nat) (h : ¬ (k = 14 ∧ i = l)) : gY f a b c t (l + 1) w v k i = gY f a b c t l w v k i := by
  funext j
  unfold gY
  by_cases hk : k = 14
  · rw [dlt_s (fun q => h ⟨hk, q⟩)]
  · simp [hk]
theorem gY_16 {f a b c t l w v : Nat} (k i : Nat) (h : ¬ (k = 16 ∧ i = w)) : gY f a b c t l (w + 1) v k i = gY f a b c t l w v k i := by
  funext j
  unfold gY
  by_cases hk : k = 16
  · rw [dlt_s (fun q => h ⟨hk, q⟩)]
  · simp [hk]
theorem gY_19 {f a b c t l w v : Nat} (k i : Nat) (h : ¬ (k = 16 ∧ i = v)) : gY f a b c t l w (v + 1) k i = gY f a b c t l w v k i := by
  funext j
  unfold gY
  by_cases hk : k = 16
  · rw [dlt_s (fun q => h ⟨hk, q⟩)]
  · simp [hk]
theorem bo_up {t j : Nat} {x : Int32} {ad : Nat → Nat} (hx : x.toNatClampNeg = t) : bo (decide (j < t + 1)) (ad j) = if j = x.toNatClampNeg then some (ad t) else bo (decide (j < t)) (ad j) := by
  rw [hx]
  by_cases h : j = t
  · subst h
    rw [if_pos rfl]
    exact bo_t (decide_eq_true (Nat.lt_succ_self _))
  · rw [if_neg h, dlt_s h]
set_option maxHeartbeats 4000000 in
set_option maxRecDepth 100000 in
theorem kX6_init (l : Launch) (D : va_G) (C : Nat → ClassId) (A : Nat → Prop) (b base t : Nat) (hb0 : b < base) (hA2 : A b ∧ ∀ q, base ≤ q → A q) (ht : t < 6) : Met l yX6_init wsX6_init ({ frames := 1, cells := 1, slots := 8, locals := 12 }) (va_Pc [.ref (adC b base offY 12 t)] (PW D C A (fun H => H.size = base + (30 + 2 * t + 1) ∧ nw D (enC C (gY 16 t 0 0 t 0 0 0)) (domC (domY 0 0 0) offY (30 + 2 * t + 1)) A (adC b base offY) Y0 H))) (nQ A none (fun H => H.size = base + (30 + 2 * t + 1 + 1) ∧ nw D (enC C (gY 16 t 0 0 (t + 1) 0 0 0)) (domC (domY 0 0 0) offY (30 + 2 * t + 1 + 1)) A (adC b base offY) Y0 H)) 1 8 A := by
  refine Met.ofW (cc := cX6_init) (maxL := 1) (ret := none) (by decide) rfl ?_
  intro p e s m args below meth c s₁ B hml hv
  obtain ⟨rfl, hK, ⟨hsz, hN⟩, hA⟩ := hv
  have hx := B.exec
  have hb := B.bytes
  have hr := B.returns
  have hts := atoms_spec (ws := wsX6_init) B.pre
  have hown : s.vm.findClass RX6 = some m.cls := findClass_of_methodNamed B.named
  have hlocks := B.notSynchronized
  have hin0i : meth.name = "<init>" := (name_of_methodNamed B.named B.method).1
  have S : CallFix p m c cX6_init 1 s _ wsX6_init RX6 := ⟨hx, hb, hml, hown, hts⟩
  have hin6 : ∀ w ∈ wsX60, w ∈ wsX6_init := (fun _ h => List.mem_cons_of_mem _ (List.mem_append_right _ (h)))
  have hS : va_S A s.heap s.heap [] := va_S.rf
  have hl := lv_entry ([.ref (adC b base offY 12 t)]) (n := 1) (Nat.le_of_ble_eq_true rfl)
  rw [lg_entry_eq]
  generalize (lg_sl ([.ref (adC b base offY 12 t)]) ++ List.replicate (1 - (lg_sl ([.ref (adC b base offY 12 t)])).length) Slot.unset).toArray = ls at hl ⊢
  have hl : lv_has ls 1 [(0, .ref (adC b base offY 12 t))] := hl
  refine lv_aload_n hx hb dX6_init_0 rfl (lv_at hl 0 rfl) ?_
  refine W.objInit hx hb hown (hts (.methodLink RX6 3 objectInit) (List.mem_cons_of_mem _ (List.mem_append_left _ (List.mem_of_getElem? (i := 0) rfl)))) (hts (.instanceMethod objectInit) (List.mem_cons_of_mem _ (List.mem_append_left _ (List.mem_of_getElem? (i := 1) rfl)))) (hts _ (List.mem_cons_of_mem _ (List.mem_append_left _ (List.mem_of_getElem? (i := 2) rfl)))) rfl (by rw [hml]; exact hl.1) rfl dX6_init_1 (Nat.le_of_ble_eq_true rfl) (Nat.le_of_ble_eq_true rfl) ?_
  refine W.eq (g2 := F0 m 4 ls []) rfl ?_
  refine lv_aload_n hx hb dX6_init_4 rfl (lv_at hl 0 rfl) ?_
  refine lv_bipush (v := 8) hx hb dX6_init_5 (by decide) ?_
  refine nf_anew S hK plY hb0 hA2 hN hsz hS 13 t (inv13 ht) (by decide) (show 31 + 2 * t = _ by omega) 2 rfl hK.2.2.2.2.1.1 (List.mem_cons_of_mem _ (List.mem_append_left _ (List.mem_of_getElem? (i := 3) rfl))) (N := 8) (by decide) (by decide) (by decide) rfl (fun _ _ => oH_m1 _) (Nat.le_of_ble_eq_true rfl) (Nat.le_of_ble_eq_true rfl) dX6_init_7 (fun H hN hsz hS => ?_)
  refine nw_putE (enC C (gY 16 t 0 0 (t + 1) 0 0 0)) S hK hN hS (k := 12) (i := t) ⟨ht, Or.inr (show 30 + 2 * t < _ by omega)⟩ rfl (CN := RX6) (T := TX6) (N := 4) rfl hin6 tyX6_ok nmX6 0 (by decide) (index := 11) (ref := "RidingYard$Team") (List.mem_cons_of_mem _ (List.mem_append_left _ (List.mem_of_getElem? (i := 4) rfl))) (fun _ h => h) rfl hin0i rfl rfl rfl (by
    show Sum.inr (6, [bf (decide (t < t + 1)) _, _, _, _]) = _
    rw [bf_t (decide_eq_true (Nat.lt_succ_self t))]
    rfl) (Nat.le_of_ble_eq_true rfl) (fun k' i' _ h => enC_oth (gY_12 k' i' h)) dX6_init_10 (fun H locs hN hz hS => ?_)
  exact W.vret hx hb hr (fun t ht _ => nw_end hS ⟨hz.trans hsz, hN⟩ ht) hS.2.2 dX6_init_13

set_option maxHeartbeats 4000000 in
set_option maxRecDepth 100000 in
theorem kX4_init (l : Launch) (D : va_G) (C : Nat → ClassId) (A : Nat → Prop) (b base t : Nat) (hb0 : b < base) (hA2 : A b ∧ ∀ q, base ≤ q → A q) (ht : t < 4) : Met l yX4_init wsX4_init ({ frames := 1, cells := 1, slots := 12, locals := 12 }) (va_Pc [.ref (adC b base offY 14 t)] (PW D C A (fun H => H.size = base + (42 + 2 * t + 1) ∧ nw D (enC C (gY 16 6 t 0 6 t 0 0)) (domC (domY 0 0 0) offY (42 + 2 * t + 1)) A (adC b base offY) Y0 H))) (nQ A none (fun H => H.size = base + (42 + 2 * t + 1 + 1) ∧ nw D (enC C (gY 16 6 t 0 6 (t + 1) 0 0)) (domC (domY 0 0 0) offY (42 + 2 * t + 1 + 1)) A (adC b base offY) Y0 H)) 1 12 A := by
  refine Met.ofW (cc := cX4_init) (maxL := 1) (ret := none) (by decide) rfl ?_
  intro p e s m args below meth c s₁ B hml hv
  obtain ⟨rfl, hK, ⟨hsz, hN⟩, hA⟩ := hv
  have hx := B.exec
  have hb := B.bytes
  have hr := B.returns
  have hts := atoms_spec (ws := wsX4_init) B.pre
  have hown : s.vm.findClass RX4 = some m.cls := findClass_of_methodNamed B.named
  have hlocks := B.notSynchronized
  have hin0i : meth.name = "<init>" := (name_of_methodNamed B.named B.method).1
  have S : CallFix p m c cX4_init 1 s _ wsX4_init RX4 := ⟨hx, hb, hml, hown, hts⟩
  have hin4 : ∀ w ∈ wsX40, w ∈ wsX4_init := (fun _ h => List.mem_cons_of_mem _ (List.mem_append_right _ (h)))
  have hS : va_S A s.heap s.heap [] := va_S.rf
  have hl := lv_entry ([.ref (adC b base offY 14 t)]) (n := 1) (Nat.le_of_ble_eq_true rfl)
  rw [lg_entry_eq]
  generalize (lg_sl ([.ref (adC b base offY 14 t)]) ++ List.replicate (1 - (lg_sl ([.ref (adC b base offY 14 t)])).length) Slot.unset).toArray = ls at hl ⊢
  have hl : lv_has ls 1 [(0, .ref (adC b base offY 14 t))] := hl
  refine lv_aload_n hx hb dX4_init_0 rfl (lv_at hl 0 rfl) ?_
  refine W.objInit hx hb hown (hts (.methodLink RX4 3 objectInit) (List.mem_cons_of_mem _ (List.mem_append_left _ (List.mem_of_getElem? (i := 0) rfl)))) (hts (.instanceMethod objectInit) (List.mem_cons_of_mem _ (List.mem_append_left _ (List.mem_of_getElem? (i := 1) rfl)))) (hts _ (List.mem_cons_of_mem _ (List.mem_append_left _ (List.mem_of_getElem? (i := 2) rfl)))) rfl (by rw [hml]; exact hl.1) rfl dX4_init_1 (Nat.le_of_ble_eq_true rfl) (Nat.le_of_ble_eq_true rfl) ?_
  refine W.eq (g2 := F0 m 4 ls []) rfl ?_
  refine lv_aload_n hx hb dX4_init_4 rfl (lv_at hl 0 rfl) ?_
  refine lv_bipush (v := 12) hx hb dX4_init_5 (by decide) ?_
  refine nf_newa S hK plY hb0 hA2 hN hsz hS 15 t (inv15 ht) (by decide) (show 43 + 2 * t = _ by omega) 0 rfl rfl id rfl (List.mem_cons_of_mem _ (List.mem_append_left _ (List.mem_of_getElem? (i := 3) rfl))) (N := 12) (by decide) (by decide) (by decide) rfl (fun _ _ => rfl) (Nat.le_of_ble_eq_true rfl) (Nat.le_of_ble_eq_true rfl) dX4_init_7 (fun H hN hsz hS => ?_)
  refine nw_putE (enC C (gY 16 6 t 0 6 (t + 1) 0 0)) S hK hN hS (k := 14) (i := t) ⟨ht, Or.inr (show 42 + 2 * t < _ by omega)⟩ rfl (CN := RX4) (T := TX4) (N := 3) rfl hin4 tyX4_ok nmX4 0 (by decide) (index := 9) (ref := "RidingYard$Ledger") (List.mem_cons_of_mem _ (List.mem_append_left _ (List.mem_of_getElem? (i := 4) rfl))) (fun _ h => h) rfl hin0i rfl rfl rfl (by
    show Sum.inr (4, [bf (decide (t < t + 1)) _, _, _]) = _
    rw [bf_t (decide_eq_true (Nat.lt_succ_self t))]
    rfl) (Nat.le_of_ble_eq_true rfl) (fun k' i' _ h => enC_oth (gY_14 k' i' h)) dX4_init_9 (fun H locs hN hz hS => ?_)
  exact W.vret hx hb hr (fun t ht _ => nw_end hS ⟨hz.trans hsz, hN⟩ ht) hS.2.2 dX4_init_12

set_option maxHeartbeats 4000000 in
set_option maxRecDepth 100000 in
theorem kX5_init (l : Launch) (D : va_G) (C : Nat → ClassId) (A : Nat → Prop) (b base t : Nat) (hb0 : b < base) (hA2 : A b ∧ ∀ q, base ≤ q → A q) (ht : t < 4) : Met l yX5_init wsX5_init ({ frames := 1, cells := 8, slots := 48, locals := 12 }) (va_Pc [.ref (adC b base offY 16 t)] (PW D C A (fun H => H.size = base + (50 + 9 * t + 1) ∧ nw D (enC C (gY 16 6 4 t 6 4 t t)) (domC (domY 0 0 0) offY (50 + 9 * t + 1)) A (adC b base offY) Y0 H))) (nQ A none (fun H => H.size = base + (50 + 9 * t + 1 + 1 + 6 + 1) ∧ nw D (enC C (gY 16 6 4 t 6 4 (t + 1) (t + 1))) (domC (domY 0 0 0) offY (50 + 9 * t + 1 + 1 + 6 + 1)) A (adC b base offY) Y0 H)) 8 48 A := by
  refine Met.ofW (cc := cX5_init) (maxL := 1) (ret := none) (by decide) rfl ?_
  intro p e s m args below meth c s₁ B hml hv
  obtain ⟨rfl, hK, ⟨hsz, hN⟩, hA⟩ := hv
  have hx := B.exec
  have hb := B.bytes
  have hr := B.returns
  have hts := atoms_spec (ws := wsX5_init) B.pre
  have hown : s.vm.findClass RX5 = some m.cls := findClass_of_methodNamed B.named
  have hlocks := B.notSynchronized
  have hin0i : meth.name = "<init>" := (name_of_methodNamed B.named B.method).1
  have S : CallFix p m c cX5_init 1 s _ wsX5_init RX5 := ⟨hx, hb, hml, hown, hts⟩
  have hin5 : ∀ w ∈ wsX50, w ∈ wsX5_init := (fun _ h => List.mem_cons_of_mem _ (List.mem_append_right _ (h)))
  have hS : va_S A s.heap s.heap [] := va_S.rf
  have hl := lv_entry ([.ref (adC b base offY 16 t)]) (n := 1) (Nat.le_of_ble_eq_true rfl)
  rw [lg_entry_eq]
  generalize (lg_sl ([.ref (adC b base offY 16 t)]) ++ List.replicate (1 - (lg_sl ([.ref (adC b base offY 16 t)])).length) Slot.unset).toArray = ls at hl ⊢
  have hl : lv_has ls 1 [(0, .ref (adC b base offY 16 t))] := hl
  refine lv_aload_n hx hb dX5_init_0 rfl (lv_at hl 0 rfl) ?_
  refine W.objInit hx hb hown (hts (.methodLink RX5 3 objectInit) (List.mem_cons_of_mem _ (List.mem_append_left _ (List.mem_of_getElem? (i := 0) rfl)))) (hts (.instanceMethod objectInit) (List.mem_cons_of_mem _ (List.mem_append_left _ (List.mem_of_getElem? (i := 1) rfl)))) (hts _ (List.mem_cons_of_mem _ (List.mem_append_left _ (List.mem_of_getElem? (i := 2) rfl)))) rfl (by rw [hml]; exact hl.1) rfl dX5_init_1 (Nat.le_of_ble_eq_true rfl) (Nat.le_of_ble_eq_true rfl) ?_
  refine W.eq (g2 := F0 m 4 ls []) rfl ?_
  refine lv_aload_n hx hb dX5_init_4 rfl (lv_at hl 0 rfl) ?_
  refine lv_bipush (v := 6) hx hb dX5_init_5 (by decide) ?_
  refine lv_bipush (v := 6) hx hb dX5_init_7 (by decide) ?_
  refine nf_multi S hK plY hb0 hA2 hN hsz hS 17 t 18 (fun j => 6 * t + j) (inv17 ht) (by decide) (show 51 + 9 * t = _ by omega) (List.mem_cons_of_mem _ (List.mem_append_left _ (List.mem_of_getElem? (i := 3) rfl))) (List.mem_cons_of_mem _ (List.mem_append_left _ (List.mem_of_getElem? (i := 4) rfl))) (N := 6) (M := 6) (by decide) (by decide) (by decide) (by decide) (by decide) (by decide) (by decide) (fun j hj => inv18 ht hj) rfl (fun j hj => congrArg some (show base + (52 + 9 * ((6 * t + j) / 6) + (6 * t + j) % 6) = _ by omega)) (fun j hj => rfl) (fun _ _ _ _ => rfl) (Nat.le_of_ble_eq_true rfl) (Nat.le_of_ble_eq_true rfl) dX5_init_9 (fun H hN hsz hS => ?_)
  refine nw_putE (enC C (gY 16 6 4 t 6 4 (t + 1) t)) S hK hN hS (k := 16) (i := t) ⟨ht, Or.inr (show 50 + 9 * t < _ by omega)⟩ rfl (CN := RX5) (T := TX5) (N := 5) rfl hin5 tyX5_ok nmX5 0 (by decide) (index := 11) (ref := "RidingYard$Table") (List.mem_cons_of_mem _ (List.mem_append_left _ (List.mem_of_getElem? (i := 5) rfl))) (fun _ h => h) rfl hin0i rfl rfl rfl (by
    show Sum.inr (5, [bf (decide (t < t + 1)) _, _, _, _, _]) = _
    rw [bf_t (decide_eq_true (Nat.lt_succ_self t))]
    rfl) (Nat.le_of_ble_eq_true rfl) (fun k' i' _ h => enC_oth (gY_16 k' i' h)) dX5_init_13 (fun H locs hN hz hS => ?_)
  replace hsz := hz.trans hsz
  refine lv_aload_n hx hb dX5_init_16 rfl (lv_at hl 0 rfl) ?_
  refine lv_bipush (v := 6) hx hb dX5_init_17 (by decide) ?_
  refine nf_newa S hK plY hb0 hA2 hN hsz hS 19 t (inv19 ht) (by decide) (show 58 + 9 * t = _ by omega) 1 rfl rfl id rfl (List.mem_cons_of_mem _ (List.mem_append_left _ (List.mem_of_getElem? (i := 6) rfl))) (N := 6) (by decide) (by decide) (by decide) rfl (fun _ _ => rfl) (Nat.le_of_ble_eq_true rfl) (Nat.le_of_ble_eq_true rfl) dX5_init_19 (fun H hN hsz hS => ?_)
  refine nw_putE (enC C (gY 16 6 4 t 6 4 (t + 1) (t + 1))) S hK hN hS (k := 16) (i := t) ⟨ht, Or.inr (show 50 + 9 * t < _ by omega)⟩ rfl (CN := RX5) (T := TX5) (N := 5) rfl hin5 tyX5_ok nmX5 1 (by decide) (index := 16) (ref := "RidingYard$Table") (List.mem_cons_of_mem _ (List.mem_append_left _ (List.mem_of_getElem? (i := 7) rfl))) (fun _ h => h) rfl hin0i rfl rfl rfl (by
    show Sum.inr (5, [_, bf (decide (t < t + 1)) _, _, _, _]) = _
    rw [bf_t (decide_eq_true (Nat.lt_succ_self t))]
    rfl) (Nat.le_of_ble_eq_true rfl) (fun k' i' _ h => enC_oth (gY_19 k' i' h)) dX5_init_21 (fun H locs hN hz hS => ?_)
  exact W.vret hx hb hr (fun t ht _ => nw_end hS ⟨hz.trans hsz, hN⟩ ht) hS.2.2 dX5_init_24
