/-! the yard's world: 0 the yard; 1 stalls, 2 sheds, 3 teams, 4 ledgers, 5 tables, 6 hooks, 7 tasks; 8 a task's row; 9, 10 what is put down, 11 met; 12 a team, 13 its places; 14 a ledger, 15 its ints; 16 a table, 17 its rows, 18 a row, 19 which are there; 20 a horse (its kind in 5), 21 a wagon, 22 an alarm -/
def oH (ad : Nat → Nat → Nat) (c : Int32) : Option Nat := if c < 0 then none else some (ad 20 c.toNatClampNeg)
def oW (ad : Nat → Nat → Nat) (c : Int32) : Option Nat := if c < 0 then none else if c < 100 then some (ad 20 c.toNatClampNeg) else some (ad 21 (c.toNatClampNeg - 100))
def oA (ad : Nat → Nat → Nat) (c : Int32) : Option Nat := if c < 0 then none else some (ad 22 c.toNatClampNeg)
def hcl (x : Int32) : Nat := if x = 0 then 2 else if x = 1 then 1 else 3
def enY (C : Nat → ClassId) : nwE := fun ad k i r => match k with
  | 0 => .inr (8, [.ref (ad 1 0), .ref (ad 2 0), .ref (ad 3 0), .ref (ad 4 0), .ref (ad 5 0), .ref (ad 6 0), .int (r 6), .int (r 7), .int (r 8), .ref (ad 7 0), .int (r 10), .ref (ad 9 0), .ref (ad 10 0), .int (r 13), .int (r 14), .ref (ad 11 0), .int (r 16)])
  | 1 => .inl (C 2, 10, .inr (.inr (.inr (.inr (fun j => oH ad (r j))))))
  | 2 => .inl (C 3, 6, .inr (.inr (.inr (.inr (fun j => oW ad (r j))))))
  | 3 => .inl (C 4, 6, .inr (.inr (.inr (.inr (fun j => some (ad 12 j))))))
  | 4 => .inl (C 5, 4, .inr (.inr (.inr (.inr (fun j => some (ad 14 j))))))
  | 5 => .inl (C 6, 4, .inr (.inr (.inr (.inr (fun j => some (ad 16 j))))))
  | 6 => .inl (C 7, 6, .inr (.inr (.inr (.inr (fun j => oA ad (r j))))))
  | 7 => .inl (C 8, 20, .inr (.inr (.inr (.inr (fun j => some (ad 8 j))))))
  | 8 => .inl (C 0, 4, .inl r)
  | 9 => .inl (C 0, 40, .inl r)
  | 10 => .inl (C 0, 40, .inl r)
  | 11 => .inl (C 0, 7, .inl r)
  | 12 => .inr (6, [.ref (ad 13 i), .int (r 1), .int (r 2), .int (r 3)])
  | 13 => .inl (C 2, 8, .inr (.inr (.inr (.inr (fun j => oH ad (r j))))))
  | 14 => .inr (4, [.ref (ad 15 i), .int (r 1), .int (r 2)])
  | 15 => .inl (C 0, 12, .inl r)
  | 16 => .inr (5, [.ref (ad 17 i), .ref (ad 19 i), .int (r 2), .int (r 3), .int (r 4)])
  | 17 => .inl (C 8, 6, .inr (.inr (.inr (.inr (fun j => some (ad 18 (6 * i + j)))))))
  | 18 => .inl (C 0, 6, .inl r)
  | 19 => .inl (C 1, 6, .inl r)
  | 20 => .inr (hcl (r 5), [.int (r 0), .int (r 1), .int (r 2), .int (r 3), .int (r 4)])
  | 21 => .inr (7, [.int (r 0), .int (r 1)])
  | _ => .inr (0, [.int (r 0)])
def domY (nh nv na : Nat) (k i : Nat) : Prop := match k with
  | 8 => i < 20 | 12 => i < 6 | 13 => i < 6 | 14 => i < 4 | 15 => i < 4 | 16 => i < 4 | 17 => i < 4 | 18 => i < 24 | 19 => i < 4 | 20 => i < nh | 21 => i < nv | 22 => i < na
  | k => k < 12 ∧ i = 0
theorem oH_n {ad : Nat → Nat → Nat} {c : Int32} (h : c < 0) : va_rf (oH ad c) = .null := by unfold oH; rw [if_pos h]; rfl
theorem oH_s {ad : Nat → Nat → Nat} {c : Int32} (h : ¬ c < 0) : va_rf (oH ad c) = .ref (ad 20 c.toNatClampNeg) := by unfold oH; rw [if_neg h]; rfl
theorem oA_n {ad : Nat → Nat → Nat} {c : Int32} (h : c < 0) : va_rf (oA ad c) = .null := by unfold oA; rw [if_pos h]; rfl
theorem oA_s {ad : Nat → Nat → Nat} {c : Int32} (h : ¬ c < 0) : va_rf (oA ad c) = .ref (ad 22 c.toNatClampNeg) := by unfold oA; rw [if_neg h]; rfl
theorem oW_n {ad : Nat → Nat → Nat} {c : Int32} (h : c < 0) : va_rf (oW ad c) = .null := by unfold oW; rw [if_pos h]; rfl
theorem oW_h {ad : Nat → Nat → Nat} {c : Int32} (h : ¬ c < 0) (h2 : c < 100) : va_rf (oW ad c) = .ref (ad 20 c.toNatClampNeg) := by unfold oW; rw [if_neg h, if_pos h2]; rfl
theorem oW_w {ad : Nat → Nat → Nat} {c : Int32} (h : ¬ c < 0) (h2 : ¬ c < 100) : va_rf (oW ad c) = .ref (ad 21 (c.toNatClampNeg - 100)) := by unfold oW; rw [if_neg h, if_neg h2]; rfl
theorem enH0 {C : Nat → ClassId} {ad : Nat → Nat → Nat} {h : Nat} {r : Nat → Int32} (e : r 5 = 0) : enY C ad 20 h r = .inr (2, [.int (r 0), .int (r 1), .int (r 2), .int (r 3), .int (r 4)]) := by
  show Sum.inr (hcl (r 5), _) = _
  rw [e]; rfl
theorem enH1 {C : Nat → ClassId} {ad : Nat → Nat → Nat} {h : Nat} {r : Nat → Int32} (e : r 5 = 1) : enY C ad 20 h r = .inr (1, [.int (r 0), .int (r 1), .int (r 2), .int (r 3), .int (r 4)]) := by
  show Sum.inr (hcl (r 5), _) = _
  rw [e]; rfl
theorem enH2 {C : Nat → ClassId} {ad : Nat → Nat → Nat} {h : Nat} {r : Nat → Int32} (e0 : ¬ r 5 = 0) (e1 : ¬ r 5 = 1) : enY C ad 20 h r = .inr (3, [.int (r 0), .int (r 1), .int (r 2), .int (r 3), .int (r 4)]) := by
  show Sum.inr (hcl (r 5), _) = _
  unfold hcl
  rw [if_neg e0, if_neg e1]
section NWH
variable {p : Program} {l : Launch} {e : Env} {R : Room} {s : State} {m : MethodId} {args : Array Value} {below : List Frame} {meth : Method} {c : Code} {H : Heap} {locs : List Loc} {cells slots : Nat} {Q : State → Prop}
variable {cc : ByteArray} {pc nL : Nat} {ls : Array Slot} {rest : List Value} {D : va_G} {C : Nat → ClassId} {A : Nat → Prop} {H0 : Heap} {dom : Nat → Nat → Prop} {ad : Nat → Nat → Nat} {Y : Nat → Nat → Nat → Int32} {Ts : List Cond} {own : String}
theorem nw_getH (S : CallFix p m c cc nL s args Ts own) (hK : KK D C s) (hN : nw D (enY C) dom A ad Y H) {h : Nat} (hd : dom 20 h) (hin1 : ∀ w ∈ wsX10, w ∈ Ts) (hin2 : ∀ w ∈ wsX20, w ∈ Ts) (hin3 : ∀ w ∈ wsX30, w ∈ Ts) (j : Nat) (hj : j < 5) {index : Nat} {ref : String} (hlink : Cond.fieldLink own index ref (TX2 j).2.1 (TX2 j).2.2.1 ∈ Ts) (hsame : ∀ x, s.fieldFound? (TX2 j).1 (TX2 j).2.1 (TX2 j).2.2.1 = some x → s.fieldFound? ref (TX2 j).2.1 (TX2 j).2.2.1 = some x) (hdg : decode cc pc = .ok (.getfield index, 3))
    (kk : W p l e R s m args below meth c H locs cells slots Q (F0 m (pc + 3) ls (.int (Y 20 h j) :: rest))) : W p l e R s m args below meth c H locs cells slots Q (F0 m pc ls (.ref (ad 20 h) :: rest)) := by
  have hv : ([.int (Y 20 h 0), .int (Y 20 h 1), .int (Y 20 h 2), .int (Y 20 h 3), .int (Y 20 h 4)] : List Value)[j]? = some (.int (Y 20 h j)) := by
    rcases (show j = 0 ∨ j = 1 ∨ j = 2 ∨ j = 3 ∨ j = 4 by omega) with rfl | rfl | rfl | rfl | rfl <;> rfl
  have t1 : TX1 j = TX2 j := by rcases (show j = 0 ∨ j = 1 ∨ j = 2 ∨ j = 3 ∨ j = 4 by omega) with rfl | rfl | rfl | rfl | rfl <;> rfl
  have t3 : TX3 j = TX2 j := by rcases (show j = 0 ∨ j = 1 ∨ j = 2 ∨ j = 3 ∨ j = 4 by omega) with rfl | rfl | rfl | rfl | rfl <;> rfl
  by_cases e0 : Y 20 h 5 = 0
  · exact nw_get S hK hN hd (enH0 e0) (CN := RX2) (T := TX2) (N := 5) rfl hin2 j hj hlink hsame hv hdg kk
  · by_cases e1 : Y 20 h 5 = 1
    · exact nw_get S hK hN hd (enH1 e1) (CN := RX1) (T := TX1) (N := 5) rfl hin1 j hj (by rw [t1]; exact hlink) (by rw [t1]; exact hsame) hv hdg kk
    · exact nw_get S hK hN hd (enH2 e0 e1) (CN := RX3) (T := TX3) (N := 5) rfl hin3 j hj (by rw [t3]; exact hlink) (by rw [t3]; exact hsame) hv hdg kk
theorem nw_putH (S : CallFix p m c cc nL s args Ts own) (hK : KK D C s) (hN : nw D (enY C) dom A ad Y H) (hS : va_S A H0 H locs) {h : Nat} (hd : dom 20 h) (hin1 : ∀ w ∈ wsX10, w ∈ Ts) (hin2 : ∀ w ∈ wsX20, w ∈ Ts) (hin3 : ∀ w ∈ wsX30, w ∈ Ts) (j : Nat) (hj : 0 < j ∧ j < 5) {index : Nat} {ref : String} (hlink : Cond.fieldLink own index ref (TX2 j).2.1 (TX2 j).2.2.1 ∈ Ts) (hsame : ∀ x, s.fieldFound? (TX2 j).1 (TX2 j).2.1 (TX2 j).2.2.1 = some x → s.fieldFound? ref (TX2 j).2.1 (TX2 j).2.2.1 = some x) (x : Int32) (hdg : decode cc pc = .ok (.putfield index, 3))
    (kk : ∀ (H1 : Heap) (locs1 : List Loc), nw D (enY C) dom A ad (u3 Y 20 h j x) H1 → H1.size = H.size → va_S A H0 H1 locs1 → W p l e R s m args below meth c H1 locs1 cells slots Q (F0 m (pc + 3) ls rest)) : W p l e R s m args below meth c H locs cells slots Q (F0 m pc ls (.int x :: .ref (ad 20 h) :: rest)) := by
  have t1 : TX1 j = TX2 j := by rcases (show j = 1 ∨ j = 2 ∨ j = 3 ∨ j = 4 by omega) with rfl | rfl | rfl | rfl <;> rfl
  have t3 : TX3 j = TX2 j := by rcases (show j = 1 ∨ j = 2 ∨ j = 3 ∨ j = 4 by omega) with rfl | rfl | rfl | rfl <;> rfl
  have hset : ([.int (va_up (Y 20 h) j x 0), .int (va_up (Y 20 h) j x 1), .int (va_up (Y 20 h) j x 2), .int (va_up (Y 20 h) j x 3), .int (va_up (Y 20 h) j x 4)] : List Value) = ([.int (Y 20 h 0), .int (Y 20 h 1), .int (Y 20 h 2), .int (Y 20 h 3), .int (Y 20 h 4)] : List Value).set j (.int x) := by
    rcases (show j = 1 ∨ j = 2 ∨ j = 3 ∨ j = 4 by omega) with rfl | rfl | rfl | rfl <;> rfl
  have h5 : va_up (Y 20 h) j x 5 = Y 20 h 5 := va_up_ne _ _ (by omega)
  have hf2 : (TX2 j).2.2.2 = false := by rcases (show j = 1 ∨ j = 2 ∨ j = 3 ∨ j = 4 by omega) with rfl | rfl | rfl | rfl <;> rfl
  have hy1 : tyX1 j = .int := by rcases (show j = 1 ∨ j = 2 ∨ j = 3 ∨ j = 4 by omega) with rfl | rfl | rfl | rfl <;> rfl
  have hy2 : tyX2 j = .int := by rcases (show j = 1 ∨ j = 2 ∨ j = 3 ∨ j = 4 by omega) with rfl | rfl | rfl | rfl <;> rfl
  have hy3 : tyX3 j = .int := by rcases (show j = 1 ∨ j = 2 ∨ j = 3 ∨ j = 4 by omega) with rfl | rfl | rfl | rfl <;> rfl
  by_cases e0 : Y 20 h 5 = 0
  · exact nw_put S hK hN hS hd (enH0 e0) (CN := RX2) (T := TX2) (N := 5) rfl hin2 tyX2_ok nmX2 j hj.2 hlink hsame hf2 x (v := .int x) (by rw [hy2]; rfl) (by rw [hy2]; rfl) (by rw [enH0 (h5.trans e0), hset]) (by show j < 5; omega) hdg kk
  · by_cases e1 : Y 20 h 5 = 1
    · exact nw_put S hK hN hS hd (enH1 e1) (CN := RX1) (T := TX1) (N := 5) rfl hin1 tyX1_ok nmX1 j hj.2 (by rw [t1]; exact hlink) (by rw [t1]; exact hsame) (by rw [t1]; exact hf2) x (v := .int x) (by rw [hy1]; rfl) (by rw [hy1]; rfl) (by rw [enH1 (h5.trans e1), hset]) (by show j < 5; omega) hdg kk
    · exact nw_put S hK hN hS hd (enH2 e0 e1) (CN := RX3) (T := TX3) (N := 5) rfl hin3 tyX3_ok nmX3 j hj.2 (by rw [t3]; exact hlink) (by rw [t3]; exact hsame) (by rw [t3]; exact hf2) x (v := .int x) (by rw [hy3]; rfl) (by rw [hy3]; rfl) (by rw [enH2 (by rw [h5]; exact e0) (by rw [h5]; exact e1), hset]) (by show j < 5; omega) hdg kk
theorem nw_putHF (S : CallFix p m c cc nL s args Ts RX2) (hK : KK D C s) (hN : nw D (enY C) dom A ad Y H) (hS : va_S A H0 H locs) {h : Nat} (hd : dom 20 h) (hin1 : ∀ w ∈ wsX10, w ∈ Ts) (hin2 : ∀ w ∈ wsX20, w ∈ Ts) (hin3 : ∀ w ∈ wsX30, w ∈ Ts) {index : Nat} (hlink : Cond.fieldLink RX2 index "RidingYard$Horse" "strength" "I" ∈ Ts) (hin0 : meth.name = "<init>") (x : Int32) (hdg : decode cc pc = .ok (.putfield index, 3))
    (kk : ∀ (H1 : Heap) (locs1 : List Loc), nw D (enY C) dom A ad (u3 Y 20 h 0 x) H1 → H1.size = H.size → va_S A H0 H1 locs1 → W p l e R s m args below meth c H1 locs1 cells slots Q (F0 m (pc + 3) ls rest)) : W p l e R s m args below meth c H locs cells slots Q (F0 m pc ls (.int x :: .ref (ad 20 h) :: rest)) := by
  have h5 : va_up (Y 20 h) 0 x 5 = Y 20 h 5 := va_up_ne _ _ (by omega)
  by_cases e0 : Y 20 h 5 = 0
  · exact nw_putF S hK hN hS hd (enH0 e0) (CN := RX2) (T := TX2) (N := 5) rfl hin2 tyX2_ok nmX2 0 (by decide) hlink (fun _ h => h) rfl hin0 rfl x (v := .int x) rfl rfl (by rw [enH0 (h5.trans e0)]; rfl) (Nat.le_of_ble_eq_true rfl) hdg kk
  · by_cases e1 : Y 20 h 5 = 1
    · exact nw_putF S hK hN hS hd (enH1 e1) (CN := RX1) (T := TX1) (N := 5) rfl hin1 tyX1_ok nmX1 0 (by decide) hlink (fun _ h => h) rfl hin0 rfl x (v := .int x) rfl rfl (by rw [enH1 (h5.trans e1)]; rfl) (Nat.le_of_ble_eq_true rfl) hdg kk
    · exact nw_putF S hK hN hS hd (enH2 e0 e1) (CN := RX3) (T := TX3) (N := 5) rfl hin3 tyX3_ok nmX3 0 (by decide) hlink (fun _ h => h) rfl hin0 rfl x (v := .int x) rfl rfl (by rw [enH2 (by rw [h5]; exact e0) (by rw [h5]; exact e1)]; rfl) (Nat.le_of_ble_eq_true rfl) hdg kk
/-- instanceof -/
theorem nw_recvH (hK : KK D C s) (hN : nw D (enY C) dom A ad Y H) {h : Nat} (hd : dom 20 h) : (Y 20 h 5 = 0 → ∃ cell : Cell, H[ad 20 h]? = some cell ∧ cell.vm.isStatics = false ∧ s.vm.findClass RX2 = some cell.cls) ∧ (Y 20 h 5 = 1 → ∃ cell : Cell, H[ad 20 h]? = some cell ∧ cell.vm.isStatics = false ∧ s.vm.findClass RX1 = some cell.cls) ∧ (¬ Y 20 h 5 = 0 → ¬ Y 20 h 5 = 1 → ∃ cell : Cell, H[ad 20 h]? = some cell ∧ cell.vm.isStatics = false ∧ s.vm.findClass RX3 = some cell.cls) :=
  ⟨fun e => nw_recv hK hN hd (enH0 e) (T := TX2) (N := 5) rfl, fun e => nw_recv hK hN hd (enH1 e) (T := TX1) (N := 5) rfl, fun e0 e1 => nw_recv hK hN hd (enH2 e0 e1) (T := TX3) (N := 5) rfl⟩
theorem nw_anyH (hK : KK D C s) (hN : nw D (enY C) dom A ad Y H) {h : Nat} (hd : dom 20 h) : va_Any RX2 s H (ad 20 h) ∧ va_Any RX8 s H (ad 20 h) := by
  obtain ⟨-, ⟨k1, k2, k3, k4, k5, k6⟩, -⟩ := id hK
  by_cases e0 : Y 20 h 5 = 0
  · exact ⟨nw_any hK hN hd (enH0 e0) (r := (RX2, TX2, 5)) rfl (Or.inl rfl), nw_any hK hN hd (enH0 e0) (r := (RX2, TX2, 5)) rfl (Or.inr k4)⟩
  · by_cases e1 : Y 20 h 5 = 1
    · exact ⟨nw_any hK hN hd (enH1 e1) (r := (RX1, TX1, 5)) rfl (Or.inr k1), nw_any hK hN hd (enH1 e1) (r := (RX1, TX1, 5)) rfl (Or.inr k3)⟩
    · exact ⟨nw_any hK hN hd (enH2 e0 e1) (r := (RX3, TX3, 5)) rfl (Or.inr k2), nw_any hK hN hd (enH2 e0 e1) (r := (RX3, TX3, 5)) rfl (Or.inr k5)⟩
theorem nw_instH (S : CallFix p m c cc nL s args Ts own) (hK : KK D C s) (hN : nw D (enY C) dom A ad Y H) {h : Nat} (hd : dom 20 h) {index : Nat} (hlink : Cond.classLink own index RX2 ∈ Ts) (hdg : decode cc pc = .ok (.instanceof index, 3))
    (kk : W p l e R s m args below meth c H locs cells slots Q (F0 m (pc + 3) ls (.int 1 :: rest))) : W p l e R s m args below meth c H locs cells slots Q (F0 m pc ls (.ref (ad 20 h) :: rest)) := by
  obtain ⟨r0, r1, r2⟩ := nw_recvH hK hN hd
  by_cases e0 : Y 20 h 5 = 0
  · exact va_instS S.1 S.2.1 S.2.2.2.1 (S.2.2.2.2 _ hlink) (hK.1.1 2 _ rfl).2 (r0 e0) hdg kk
  · by_cases e1 : Y 20 h 5 = 1
    · exact va_instY S.1 S.2.1 S.2.2.2.1 (S.2.2.2.2 _ hlink) hK.2.1.1 (r1 e1) hdg kk
    · exact va_instY S.1 S.2.1 S.2.2.2.1 (S.2.2.2.2 _ hlink) hK.2.1.2.1 (r2 e0 e1) hdg kk
theorem nw_castH (S : CallFix p m c cc nL s args Ts own) (hK : KK D C s) (hN : nw D (enY C) dom A ad Y H) {h : Nat} (hd : dom 20 h) {index : Nat} (hlink : Cond.classLink own index RX2 ∈ Ts) (hdg : decode cc pc = .ok (.checkcast index, 3))
    (kk : W p l e R s m args below meth c H locs cells slots Q (F0 m (pc + 3) ls (.ref (ad 20 h) :: rest))) : W p l e R s m args below meth c H locs cells slots Q (F0 m pc ls (.ref (ad 20 h) :: rest)) := by
  obtain ⟨r0, r1, r2⟩ := nw_recvH hK hN hd
  by_cases e0 : Y 20 h 5 = 0
  · exact va_castS S.1 S.2.1 S.2.2.2.1 (S.2.2.2.2 _ hlink) (hK.1.1 2 _ rfl).2 (r0 e0) hdg kk
  · by_cases e1 : Y 20 h 5 = 1
    · exact va_castY S.1 S.2.1 S.2.2.2.1 (S.2.2.2.2 _ hlink) hK.2.1.1 (r1 e1) hdg kk
    · exact va_castY S.1 S.2.1 S.2.2.2.1 (S.2.2.2.2 _ hlink) hK.2.1.2.1 (r2 e0 e1) hdg kk
theorem nw_instW (S : CallFix p m c cc nL s args Ts own) (hK : KK D C s) (hN : nw D (enY C) dom A ad Y H) {h : Nat} (hd : dom 21 h) {index : Nat} (hlink : Cond.classLink own index RX2 ∈ Ts) (hdg : decode cc pc = .ok (.instanceof index, 3))
    (kk : W p l e R s m args below meth c H locs cells slots Q (F0 m (pc + 3) ls (.int 0 :: rest))) : W p l e R s m args below meth c H locs cells slots Q (F0 m pc ls (.ref (ad 21 h) :: rest)) :=
  va_instNo S.1 S.2.1 S.2.2.2.1 (S.2.2.2.2 _ hlink) hK.2.2.1.1 (nw_recv hK hN hd rfl (CN := RX7) (T := TX7) (N := 2) rfl) hdg kk
def isHu (x : Int32) : Int32 := if x = 0 then 0 else if x = 1 then 0 else 1
theorem nw_instU (S : CallFix p m c cc nL s args Ts own) (hK : KK D C s) (hN : nw D (enY C) dom A ad Y H) {h : Nat} (hd : dom 20 h) {index : Nat} (hlink : Cond.classLink own index RX3 ∈ Ts) (hdg : decode cc pc = .ok (.instanceof index, 3))
    (kk : W p l e R s m args below meth c H locs cells slots Q (F0 m (pc + 3) ls (.int (isHu (Y 20 h 5)) :: rest))) : W p l e R s m args below meth c H locs cells slots Q (F0 m pc ls (.ref (ad 20 h) :: rest)) := by
  obtain ⟨r0, r1, r2⟩ := nw_recvH hK hN hd
  unfold isHu at kk
  by_cases e0 : Y 20 h 5 = 0
  · rw [if_pos e0] at kk
    exact va_instNo S.1 S.2.1 S.2.2.2.1 (S.2.2.2.2 _ hlink) hK.2.2.1.2.1 (r0 e0) hdg kk
  · by_cases e1 : Y 20 h 5 = 1
    · rw [if_neg e0, if_pos e1] at kk
      exact va_instNo S.1 S.2.1 S.2.2.2.1 (S.2.2.2.2 _ hlink) hK.2.2.1.2.2 (r1 e1) hdg kk
    · rw [if_neg e0, if_neg e1] at kk
      exact va_instS S.1 S.2.1 S.2.2.2.1 (S.2.2.2.2 _ hlink) (hK.1.1 3 _ rfl).2 (r2 e0 e1) hdg kk
end NWH
theorem oH_m1 (ad : Nat → Nat → Nat) : oH ad (-1) = none := if_pos (by decide)
theorem oW_m1 (ad : Nat → Nat → Nat) : oW ad (-1) = none := if_pos (by decide)
theorem oA_m1 (ad : Nat → Nat → Nat) : oA ad (-1) = none := if_pos (by decide)
theorem oH_0 {ad : Nat → Nat → Nat} {c : Int32} (h : c < 0) : oH ad c = none := if_pos h
theorem oW_0 {ad : Nat → Nat → Nat} {c : Int32} (h : c < 0) : oW ad c = none := if_pos h
theorem oH_1 {ad : Nat → Nat → Nat} {c : Int32} (h : ¬ c < 0) : oH ad c = some (ad 20 c.toNatClampNeg) := if_neg h
theorem oW_1 {ad : Nat → Nat → Nat} {c : Int32} (h : ¬ c < 0) (h2 : c < 100) : oW ad c = some (ad 20 c.toNatClampNeg) := by unfold oW; rw [if_neg h, if_pos h2]
theorem row_lt {t j : Nat} (ht : t < 4) (hj : j < 6) : 6 * t + j < 24 := by omega
section NWY
variable {p : Program} {l : Launch} {e : Env} {R : Room} {s : State} {m : MethodId} {args : Array Value} {below : List Frame} {meth : Method} {c : Code} {H : Heap} {locs : List Loc} {cells slots : Nat} {Q : State → Prop}
variable {cc : ByteArray} {pc nL : Nat} {ls : Array Slot} {rest : List Value} {D : va_G} {C : Nat → ClassId} {A : Nat → Prop} {Ts : List Cond} {own CN : String}
variable {y : MethodName} {bytes : ByteArray} {maxL index n : Nat} {ret : Option FieldType} {ws ws' : List Cond} {rm : Room} {v : Value} {G G1 : Heap → Prop} {As : List Value} {st0 : List Value} {b : Nat}
theorem nwY_calli (S : CallFix p m c cc nL s args Ts own) (hM : Met l y ws rm (va_Pc (.ref b :: As) (PW D C A G)) (nQ A (some v) G1) 0 0 A) (hT : GoodIn Ts (wsV own index CN y ws)) (hw : ws = Cond.code y bytes maxL ret :: ws') (hrm : rm.cells = 0 ∧ rm.slots = 0) (hd : y.cls = CN ∧ y.cls ≠ "java/lang/invoke/MethodHandle" ∧ y.cls ≠ "java/lang/invoke/VarHandle" ∧ (parseMethodDescriptor y.desc).map (fun d => d.parameters.length) = some n) (hR : rm.frames + 1 ≤ R.frames ∧ 8 + (maxL + 11) + rm.locals ≤ R.locals)
    (hK : KK D C s) (hrecv : ∃ cell : Cell, H[b]? = some cell ∧ cell.vm.isStatics = false ∧ s.vm.findClass CN = some cell.cls) (hG : G H) (hA : ∀ q, s.heap.size ≤ q → A q) (hS : va_S A s.heap H locs) (hn : As.length = n) (hl : ls.size = nL) (hst : st0 = As.reverse ++ .ref b :: rest) (hroom : (rest.map fun v => v.category).sum ≤ 8) (hdg : decode cc pc = .ok (.invokevirtual index, 3)) (hf : cells ≤ R.cells ∧ slots ≤ R.slots)
    (kk : ∀ (H1 : Heap) (locs1 : List Loc), G1 H1 → va_S A s.heap H1 locs1 → W p l e R s m args below meth c H1 locs1 cells slots Q (F0 m (pc + 3) ls (v :: rest))) : W p l e R s m args below meth c H locs cells slots Q (F0 m pc ls st0) :=
  nw_calli (mc := 0) (ms := 0) (va_runV (As := As) (rest := rest) S hM (cwV n S.2.2.2.2 hT hw hrm.1 hrm.2 hd hR) (nw_preV hK hG hA hS hrecv) rfl hn hl hst (lv_room hroom) hdg hf) hS (fun H1 locs1 h1 _ _ h2 => kk H1 locs1 h1 h2)
theorem nwY_callv (S : CallFix p m c cc nL s args Ts own) (hM : Met l y ws rm (va_Pc (.ref b :: As) (PW D C A G)) (nQ A none G1) 0 0 A) (hT : GoodIn Ts (wsV own index CN y ws)) (hw : ws = Cond.code y bytes maxL ret :: ws') (hrm : rm.cells = 0 ∧ rm.slots = 0) (hd : y.cls = CN ∧ y.cls ≠ "java/lang/invoke/MethodHandle" ∧ y.cls ≠ "java/lang/invoke/VarHandle" ∧ (parseMethodDescriptor y.desc).map (fun d => d.parameters.length) = some n) (hR : rm.frames + 1 ≤ R.frames ∧ 8 + (maxL + 11) + rm.locals ≤ R.locals)
    (hK : KK D C s) (hrecv : ∃ cell : Cell, H[b]? = some cell ∧ cell.vm.isStatics = false ∧ s.vm.findClass CN = some cell.cls) (hG : G H) (hA : ∀ q, s.heap.size ≤ q → A q) (hS : va_S A s.heap H locs) (hn : As.length = n) (hl : ls.size = nL) (hst : st0 = As.reverse ++ .ref b :: rest) (hroom : (rest.map fun v => v.category).sum ≤ 8) (hdg : decode cc pc = .ok (.invokevirtual index, 3)) (hf : cells ≤ R.cells ∧ slots ≤ R.slots)
    (kk : ∀ (H1 : Heap) (locs1 : List Loc), G1 H1 → va_S A s.heap H1 locs1 → W p l e R s m args below meth c H1 locs1 cells slots Q (F0 m (pc + 3) ls rest)) : W p l e R s m args below meth c H locs cells slots Q (F0 m pc ls st0) :=
  nw_callv (mc := 0) (ms := 0) (va_runV (As := As) (rest := rest) S hM (cwV n S.2.2.2.2 hT hw hrm.1 hrm.2 hd hR) (nw_preV hK hG hA hS hrecv) rfl hn hl hst (lv_room hroom) hdg hf) hS (fun H1 locs1 h1 _ _ h2 => kk H1 locs1 h1 h2)
/-- a method that another overrides or declares: the receiver's class selects y -/
theorem nwY_callU {owner : String} {x : MethodName} (S : CallFix p m c cc nL s args Ts own) (hM : Met l y ws rm (va_Pc (.ref b :: As) (PW D C A G)) (nQ A (some v) G1) 0 0 A) (cw : va_CU R s args own CN owner index x y bytes maxL ret ws rm 0 0 n)
    (hK : KK D C s) (hrecv : ∃ cell : Cell, H[b]? = some cell ∧ cell.vm.isStatics = false ∧ s.vm.findClass CN = some cell.cls) (hG : G H) (hA : ∀ q, s.heap.size ≤ q → A q) (hS : va_S A s.heap H locs) (hn : As.length = n) (hl : ls.size = nL) (hst : st0 = As.reverse ++ .ref b :: rest) (hroom : (rest.map fun v => v.category).sum ≤ 8) (hdg : decode cc pc = .ok (.invokevirtual index, 3)) (hf : cells ≤ R.cells ∧ slots ≤ R.slots)
    (kk : ∀ (H1 : Heap) (locs1 : List Loc), G1 H1 → va_S A s.heap H1 locs1 → W p l e R s m args below meth c H1 locs1 cells slots Q (F0 m (pc + 3) ls (v :: rest))) : W p l e R s m args below meth c H locs cells slots Q (F0 m pc ls st0) :=
  nw_calli (mc := 0) (ms := 0) (va_runU (As := As) (rest := rest) S hM cw (nw_preV hK hG hA hS hrecv) rfl hn hl hst (lv_room hroom) hdg hf) hS (fun H1 locs1 h1 _ _ h2 => kk H1 locs1 h1 h2)
/-- super.m(..) -/
theorem nwY_callX {cC : ClassId} (hat : ClassAt s CN cC) (S : CallFix p m c cc nL s args Ts own) (hM : Met l y ws rm (va_Pc (.ref b :: As) (PW D C A G)) (nQ A (some v) G1) 0 0 A) (hT : GoodIn Ts (va_wsSU own index y ws)) (hw : ws = Cond.code y bytes maxL ret :: ws') (hrm : rm.cells = 0 ∧ rm.slots = 0) (hd : y.name ≠ "<init>" ∧ (parseMethodDescriptor y.desc).map (fun d => d.parameters.length) = some n) (hR : rm.frames + 1 ≤ R.frames ∧ 8 + (maxL + 11) + rm.locals ≤ R.locals)
    (hK : KK D C s) (hrecv : ∃ cell : Cell, H[b]? = some cell ∧ cell.vm.isStatics = false ∧ s.vm.findClass CN = some cell.cls) (hG : G H) (hA : ∀ q, s.heap.size ≤ q → A q) (hS : va_S A s.heap H locs) (hn : As.length = n) (hl : ls.size = nL) (hst : st0 = As.reverse ++ .ref b :: rest) (hroom : (rest.map fun v => v.category).sum ≤ 8) (hdg : decode cc pc = .ok (.invokespecial index, 3)) (hf : cells ≤ R.cells ∧ slots ≤ R.slots)
    (kk : ∀ (H1 : Heap) (locs1 : List Loc), G1 H1 → va_S A s.heap H1 locs1 → W p l e R s m args below meth c H1 locs1 cells slots Q (F0 m (pc + 3) ls (v :: rest))) : W p l e R s m args below meth c H locs cells slots Q (F0 m pc ls st0) :=
  nw_calli (mc := 0) (ms := 0) (va_runSU (As := As) (rest := rest) hat S hM (va_cwSU n S.2.2.2.2 hT hw hrm.1 hrm.2 hd hR) (nw_preV hK hG hA hS hrecv) rfl hn hl hst (lv_room hroom) hdg hf) hS (fun H1 locs1 h1 _ _ h2 => kk H1 locs1 h1 h2)
/-- a static method of the world (Arrays.fill) -/
theorem nwY_callSv (S : CallFix p m c cc nL s args Ts own) (hM : Met l y ws rm (va_Pc As (PW D C A G)) (nQ A none G1) 0 0 A) (hT : GoodIn Ts (va_wsS own index y ws)) (hw : ws = Cond.code y bytes maxL ret :: ws') (hrm : rm.cells = 0 ∧ rm.slots = 0) (hd : y.cls ≠ "java/lang/invoke/MethodHandle" ∧ y.cls ≠ "java/lang/invoke/VarHandle" ∧ (parseMethodDescriptor y.desc).map (fun d => d.parameters.length) = some n) (hR : rm.frames + 1 ≤ R.frames ∧ 8 + (maxL + 11) + rm.locals ≤ R.locals)
    (hK : KK D C s) (hG : G H) (hA : ∀ q, s.heap.size ≤ q → A q) (hS : va_S A s.heap H locs) (hn : As.length = n) (hl : ls.size = nL) (hst : st0 = As.reverse ++ rest) (hroom : (rest.map fun v => v.category).sum ≤ 8) (hdg : decode cc pc = .ok (.invokestatic index, 3)) (hf : cells ≤ R.cells ∧ slots ≤ R.slots)
    (kk : ∀ (H1 : Heap) (locs1 : List Loc), G1 H1 → va_S A s.heap H1 locs1 → W p l e R s m args below meth c H1 locs1 cells slots Q (F0 m (pc + 3) ls rest)) : W p l e R s m args below meth c H locs cells slots Q (F0 m pc ls st0) :=
  nw_callv (mc := 0) (ms := 0) (va_runS (As := As) (rest := rest) S hM (va_cwS n S.2.2.2.2 hT hw hrm.1 hrm.2 hd hR) (nw_preS hK hG hA hS) rfl hn hl hst (lv_room hroom) hdg hf) hS (fun H1 locs1 h1 _ _ h2 => kk H1 locs1 h1 h2)
end NWY
