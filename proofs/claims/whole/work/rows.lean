section
-- ===== PART A: goes FIRST, ahead of the names: the tables' words, and 'selects' of the private methods out of them =====
/-- a private method of a class that the tables say can be made, by its rows of tables_1 -/
def lw_okq (q : MethodName × Nat) : Prop := (q.1.cls ≠ "java/lang/invoke/MethodHandle" ∧ q.1.cls ≠ "java/lang/invoke/VarHandle") ∧ Cond.instantiable q.1.cls q.2 ∈ tables_1 ∧ Cond.privateMethod q.1 ∈ tables_1 ∧ Cond.instanceMethod q.1 ∈ tables_1
theorem lw_p0 : lw_okq (⟨"RidingYard", "holdsSomething", "(II)Z"⟩, 16) := ⟨⟨by decide +kernel, by decide +kernel⟩, List.mem_of_getElem? (i := 15) (by decide +kernel), List.mem_of_getElem? (i := 256) (by decide +kernel), List.mem_of_getElem? (i := 257) (by decide +kernel)⟩
theorem lw_p1 : lw_okq (⟨"RidingYard", "takeAway", "(II)V"⟩, 16) := ⟨⟨by decide +kernel, by decide +kernel⟩, List.mem_of_getElem? (i := 15) (by decide +kernel), List.mem_of_getElem? (i := 260) (by decide +kernel), List.mem_of_getElem? (i := 261) (by decide +kernel)⟩
theorem lw_p2 : lw_okq (⟨"RidingYard", "perform", "(IIII)I"⟩, 16) := ⟨⟨by decide +kernel, by decide +kernel⟩, List.mem_of_getElem? (i := 15) (by decide +kernel), List.mem_of_getElem? (i := 286) (by decide +kernel), List.mem_of_getElem? (i := 287) (by decide +kernel)⟩
theorem lw_p3 : lw_okq (⟨"RidingYard", "faultOf", "(IIII)I"⟩, 16) := ⟨⟨by decide +kernel, by decide +kernel⟩, List.mem_of_getElem? (i := 15) (by decide +kernel), List.mem_of_getElem? (i := 290) (by decide +kernel), List.mem_of_getElem? (i := 291) (by decide +kernel)⟩
theorem lw_p4 : lw_okq (⟨"RidingYard", "feedHorse", "(II)I"⟩, 16) := ⟨⟨by decide +kernel, by decide +kernel⟩, List.mem_of_getElem? (i := 15) (by decide +kernel), List.mem_of_getElem? (i := 294) (by decide +kernel), List.mem_of_getElem? (i := 295) (by decide +kernel)⟩
theorem lw_p5 : lw_okq (⟨"RidingYard", "horseAt", "(I)LRidingYard$Horse;"⟩, 16) := ⟨⟨by decide +kernel, by decide +kernel⟩, List.mem_of_getElem? (i := 15) (by decide +kernel), List.mem_of_getElem? (i := 298) (by decide +kernel), List.mem_of_getElem? (i := 299) (by decide +kernel)⟩
theorem lw_p6 : lw_okq (⟨"RidingYard", "comeTo", "(I)I"⟩, 16) := ⟨⟨by decide +kernel, by decide +kernel⟩, List.mem_of_getElem? (i := 15) (by decide +kernel), List.mem_of_getElem? (i := 305) (by decide +kernel), List.mem_of_getElem? (i := 306) (by decide +kernel)⟩
theorem lw_p7 : lw_okq (⟨"RidingYard", "askStrength", "(I)I"⟩, 16) := ⟨⟨by decide +kernel, by decide +kernel⟩, List.mem_of_getElem? (i := 15) (by decide +kernel), List.mem_of_getElem? (i := 309) (by decide +kernel), List.mem_of_getElem? (i := 310) (by decide +kernel)⟩
theorem lw_p8 : lw_okq (⟨"RidingYard", "coverHorse", "(II)I"⟩, 16) := ⟨⟨by decide +kernel, by decide +kernel⟩, List.mem_of_getElem? (i := 15) (by decide +kernel), List.mem_of_getElem? (i := 313) (by decide +kernel), List.mem_of_getElem? (i := 314) (by decide +kernel)⟩
theorem lw_p9 : lw_okq (⟨"RidingYard", "groomHorse", "(I)I"⟩, 16) := ⟨⟨by decide +kernel, by decide +kernel⟩, List.mem_of_getElem? (i := 15) (by decide +kernel), List.mem_of_getElem? (i := 317) (by decide +kernel), List.mem_of_getElem? (i := 318) (by decide +kernel)⟩
theorem lw_p10 : lw_okq (⟨"RidingYard", "workInShed", "(II)I"⟩, 16) := ⟨⟨by decide +kernel, by decide +kernel⟩, List.mem_of_getElem? (i := 15) (by decide +kernel), List.mem_of_getElem? (i := 333) (by decide +kernel), List.mem_of_getElem? (i := 334) (by decide +kernel)⟩
theorem lw_p11 : lw_okq (⟨"RidingYard", "workerAt", "(I)LRidingYard$Worker;"⟩, 16) := ⟨⟨by decide +kernel, by decide +kernel⟩, List.mem_of_getElem? (i := 15) (by decide +kernel), List.mem_of_getElem? (i := 337) (by decide +kernel), List.mem_of_getElem? (i := 338) (by decide +kernel)⟩
theorem lw_p12 : lw_okq (⟨"RidingYard", "askStrengthInShed", "(I)I"⟩, 16) := ⟨⟨by decide +kernel, by decide +kernel⟩, List.mem_of_getElem? (i := 15) (by decide +kernel), List.mem_of_getElem? (i := 357) (by decide +kernel), List.mem_of_getElem? (i := 358) (by decide +kernel)⟩
theorem lw_p13 : lw_okq (⟨"RidingYard", "askRugOfHunter", "(I)I"⟩, 16) := ⟨⟨by decide +kernel, by decide +kernel⟩, List.mem_of_getElem? (i := 15) (by decide +kernel), List.mem_of_getElem? (i := 361) (by decide +kernel), List.mem_of_getElem? (i := 362) (by decide +kernel)⟩
theorem lw_p14 : lw_okq (⟨"RidingYard", "formTeam", "(III)I"⟩, 16) := ⟨⟨by decide +kernel, by decide +kernel⟩, List.mem_of_getElem? (i := 15) (by decide +kernel), List.mem_of_getElem? (i := 365) (by decide +kernel), List.mem_of_getElem? (i := 366) (by decide +kernel)⟩
theorem lw_p15 : lw_okq (⟨"RidingYard", "teamAt", "(I)LRidingYard$Team;"⟩, 16) := ⟨⟨by decide +kernel, by decide +kernel⟩, List.mem_of_getElem? (i := 15) (by decide +kernel), List.mem_of_getElem? (i := 372) (by decide +kernel), List.mem_of_getElem? (i := 373) (by decide +kernel)⟩
def lw_privs_1 : List (MethodName × Nat) := [(⟨"RidingYard", "holdsSomething", "(II)Z"⟩, 16), (⟨"RidingYard", "takeAway", "(II)V"⟩, 16), (⟨"RidingYard", "perform", "(IIII)I"⟩, 16), (⟨"RidingYard", "faultOf", "(IIII)I"⟩, 16), (⟨"RidingYard", "feedHorse", "(II)I"⟩, 16), (⟨"RidingYard", "horseAt", "(I)LRidingYard$Horse;"⟩, 16), (⟨"RidingYard", "comeTo", "(I)I"⟩, 16), (⟨"RidingYard", "askStrength", "(I)I"⟩, 16), (⟨"RidingYard", "coverHorse", "(II)I"⟩, 16), (⟨"RidingYard", "groomHorse", "(I)I"⟩, 16), (⟨"RidingYard", "workInShed", "(II)I"⟩, 16), (⟨"RidingYard", "workerAt", "(I)LRidingYard$Worker;"⟩, 16), (⟨"RidingYard", "askStrengthInShed", "(I)I"⟩, 16), (⟨"RidingYard", "askRugOfHunter", "(I)I"⟩, 16), (⟨"RidingYard", "formTeam", "(III)I"⟩, 16), (⟨"RidingYard", "teamAt", "(I)LRidingYard$Team;"⟩, 16)]
theorem lw_r1 : ∀ q ∈ lw_privs_1, lw_okq q := List.forall_mem_cons.mpr ⟨lw_p0, List.forall_mem_cons.mpr ⟨lw_p1, List.forall_mem_cons.mpr ⟨lw_p2, List.forall_mem_cons.mpr ⟨lw_p3, List.forall_mem_cons.mpr ⟨lw_p4, List.forall_mem_cons.mpr ⟨lw_p5, List.forall_mem_cons.mpr ⟨lw_p6, List.forall_mem_cons.mpr ⟨lw_p7, List.forall_mem_cons.mpr ⟨lw_p8, List.forall_mem_cons.mpr ⟨lw_p9, List.forall_mem_cons.mpr ⟨lw_p10, List.forall_mem_cons.mpr ⟨lw_p11, List.forall_mem_cons.mpr ⟨lw_p12, List.forall_mem_cons.mpr ⟨lw_p13, List.forall_mem_cons.mpr ⟨lw_p14, List.forall_mem_cons.mpr ⟨lw_p15, fun _ h => absurd h List.not_mem_nil⟩⟩⟩⟩⟩⟩⟩⟩⟩⟩⟩⟩⟩⟩⟩⟩
theorem lw_p16 : lw_okq (⟨"RidingYard", "putInTeam", "(III)I"⟩, 16) := ⟨⟨by decide +kernel, by decide +kernel⟩, List.mem_of_getElem? (i := 15) (by decide +kernel), List.mem_of_getElem? (i := 380) (by decide +kernel), List.mem_of_getElem? (i := 381) (by decide +kernel)⟩
theorem lw_p17 : lw_okq (⟨"RidingYard", "takeFromTeam", "(III)I"⟩, 16) := ⟨⟨by decide +kernel, by decide +kernel⟩, List.mem_of_getElem? (i := 15) (by decide +kernel), List.mem_of_getElem? (i := 399) (by decide +kernel), List.mem_of_getElem? (i := 400) (by decide +kernel)⟩
theorem lw_p18 : lw_okq (⟨"RidingYard", "askPlaces", "(I)I"⟩, 16) := ⟨⟨by decide +kernel, by decide +kernel⟩, List.mem_of_getElem? (i := 15) (by decide +kernel), List.mem_of_getElem? (i := 403) (by decide +kernel), List.mem_of_getElem? (i := 404) (by decide +kernel)⟩
theorem lw_p19 : lw_okq (⟨"RidingYard", "workTeam", "(II)I"⟩, 16) := ⟨⟨by decide +kernel, by decide +kernel⟩, List.mem_of_getElem? (i := 15) (by decide +kernel), List.mem_of_getElem? (i := 407) (by decide +kernel), List.mem_of_getElem? (i := 408) (by decide +kernel)⟩
theorem lw_p20 : lw_okq (⟨"RidingYard", "openLedger", "(II)I"⟩, 16) := ⟨⟨by decide +kernel, by decide +kernel⟩, List.mem_of_getElem? (i := 15) (by decide +kernel), List.mem_of_getElem? (i := 412) (by decide +kernel), List.mem_of_getElem? (i := 413) (by decide +kernel)⟩
theorem lw_p21 : lw_okq (⟨"RidingYard", "ledgerAt", "(I)LRidingYard$Ledger;"⟩, 16) := ⟨⟨by decide +kernel, by decide +kernel⟩, List.mem_of_getElem? (i := 15) (by decide +kernel), List.mem_of_getElem? (i := 416) (by decide +kernel), List.mem_of_getElem? (i := 417) (by decide +kernel)⟩
theorem lw_p22 : lw_okq (⟨"RidingYard", "addInLedger", "(III)I"⟩, 16) := ⟨⟨by decide +kernel, by decide +kernel⟩, List.mem_of_getElem? (i := 15) (by decide +kernel), List.mem_of_getElem? (i := 427) (by decide +kernel), List.mem_of_getElem? (i := 428) (by decide +kernel)⟩
theorem lw_p23 : lw_okq (⟨"RidingYard", "sumLedger", "(I)I"⟩, 16) := ⟨⟨by decide +kernel, by decide +kernel⟩, List.mem_of_getElem? (i := 15) (by decide +kernel), List.mem_of_getElem? (i := 431) (by decide +kernel), List.mem_of_getElem? (i := 432) (by decide +kernel)⟩
theorem lw_p24 : lw_okq (⟨"RidingYard", "setTable", "(III)I"⟩, 16) := ⟨⟨by decide +kernel, by decide +kernel⟩, List.mem_of_getElem? (i := 15) (by decide +kernel), List.mem_of_getElem? (i := 439) (by decide +kernel), List.mem_of_getElem? (i := 440) (by decide +kernel)⟩
theorem lw_p25 : lw_okq (⟨"RidingYard", "tableAt", "(I)LRidingYard$Table;"⟩, 16) := ⟨⟨by decide +kernel, by decide +kernel⟩, List.mem_of_getElem? (i := 15) (by decide +kernel), List.mem_of_getElem? (i := 443) (by decide +kernel), List.mem_of_getElem? (i := 444) (by decide +kernel)⟩
theorem lw_p26 : lw_okq (⟨"RidingYard", "markTable", "(III)I"⟩, 16) := ⟨⟨by decide +kernel, by decide +kernel⟩, List.mem_of_getElem? (i := 15) (by decide +kernel), List.mem_of_getElem? (i := 452) (by decide +kernel), List.mem_of_getElem? (i := 453) (by decide +kernel)⟩
theorem lw_p27 : lw_okq (⟨"RidingYard", "raiseAlarm", "(I)I"⟩, 16) := ⟨⟨by decide +kernel, by decide +kernel⟩, List.mem_of_getElem? (i := 15) (by decide +kernel), List.mem_of_getElem? (i := 456) (by decide +kernel), List.mem_of_getElem? (i := 457) (by decide +kernel)⟩
theorem lw_p28 : lw_okq (⟨"RidingYard", "putDown", "(II)V"⟩, 16) := ⟨⟨by decide +kernel, by decide +kernel⟩, List.mem_of_getElem? (i := 15) (by decide +kernel), List.mem_of_getElem? (i := 476) (by decide +kernel), List.mem_of_getElem? (i := 477) (by decide +kernel)⟩
theorem lw_p29 : lw_okq (⟨"RidingYardModel", "holds", "(II)Z"⟩, 35) := ⟨⟨by decide +kernel, by decide +kernel⟩, List.mem_of_getElem? (i := 502) (by decide +kernel), List.mem_of_getElem? (i := 635) (by decide +kernel), List.mem_of_getElem? (i := 636) (by decide +kernel)⟩
theorem lw_p30 : lw_okq (⟨"RidingYardModel", "attempt", "(IIII)I"⟩, 35) := ⟨⟨by decide +kernel, by decide +kernel⟩, List.mem_of_getElem? (i := 502) (by decide +kernel), List.mem_of_getElem? (i := 651) (by decide +kernel), List.mem_of_getElem? (i := 652) (by decide +kernel)⟩
theorem lw_p31 : lw_okq (⟨"RidingYardModel", "does", "(IIII)I"⟩, 35) := ⟨⟨by decide +kernel, by decide +kernel⟩, List.mem_of_getElem? (i := 502) (by decide +kernel), List.mem_of_getElem? (i := 655) (by decide +kernel), List.mem_of_getElem? (i := 656) (by decide +kernel)⟩
def lw_privs_2 : List (MethodName × Nat) := [(⟨"RidingYard", "putInTeam", "(III)I"⟩, 16), (⟨"RidingYard", "takeFromTeam", "(III)I"⟩, 16), (⟨"RidingYard", "askPlaces", "(I)I"⟩, 16), (⟨"RidingYard", "workTeam", "(II)I"⟩, 16), (⟨"RidingYard", "openLedger", "(II)I"⟩, 16), (⟨"RidingYard", "ledgerAt", "(I)LRidingYard$Ledger;"⟩, 16), (⟨"RidingYard", "addInLedger", "(III)I"⟩, 16), (⟨"RidingYard", "sumLedger", "(I)I"⟩, 16), (⟨"RidingYard", "setTable", "(III)I"⟩, 16), (⟨"RidingYard", "tableAt", "(I)LRidingYard$Table;"⟩, 16), (⟨"RidingYard", "markTable", "(III)I"⟩, 16), (⟨"RidingYard", "raiseAlarm", "(I)I"⟩, 16), (⟨"RidingYard", "putDown", "(II)V"⟩, 16), (⟨"RidingYardModel", "holds", "(II)Z"⟩, 35), (⟨"RidingYardModel", "attempt", "(IIII)I"⟩, 35), (⟨"RidingYardModel", "does", "(IIII)I"⟩, 35)]
theorem lw_r2 : ∀ q ∈ lw_privs_2, lw_okq q := List.forall_mem_cons.mpr ⟨lw_p16, List.forall_mem_cons.mpr ⟨lw_p17, List.forall_mem_cons.mpr ⟨lw_p18, List.forall_mem_cons.mpr ⟨lw_p19, List.forall_mem_cons.mpr ⟨lw_p20, List.forall_mem_cons.mpr ⟨lw_p21, List.forall_mem_cons.mpr ⟨lw_p22, List.forall_mem_cons.mpr ⟨lw_p23, List.forall_mem_cons.mpr ⟨lw_p24, List.forall_mem_cons.mpr ⟨lw_p25, List.forall_mem_cons.mpr ⟨lw_p26, List.forall_mem_cons.mpr ⟨lw_p27, List.forall_mem_cons.mpr ⟨lw_p28, List.forall_mem_cons.mpr ⟨lw_p29, List.forall_mem_cons.mpr ⟨lw_p30, List.forall_mem_cons.mpr ⟨lw_p31, fun _ h => absurd h List.not_mem_nil⟩⟩⟩⟩⟩⟩⟩⟩⟩⟩⟩⟩⟩⟩⟩⟩
theorem lw_p32 : lw_okq (⟨"RidingYardModel", "ofStall", "(III)I"⟩, 35) := ⟨⟨by decide +kernel, by decide +kernel⟩, List.mem_of_getElem? (i := 502) (by decide +kernel), List.mem_of_getElem? (i := 662) (by decide +kernel), List.mem_of_getElem? (i := 663) (by decide +kernel)⟩
theorem lw_p33 : lw_okq (⟨"RidingYardModel", "come", "(I)I"⟩, 35) := ⟨⟨by decide +kernel, by decide +kernel⟩, List.mem_of_getElem? (i := 502) (by decide +kernel), List.mem_of_getElem? (i := 666) (by decide +kernel), List.mem_of_getElem? (i := 667) (by decide +kernel)⟩
theorem lw_p34 : lw_okq (⟨"RidingYardModel", "groom", "(I)I"⟩, 35) := ⟨⟨by decide +kernel, by decide +kernel⟩, List.mem_of_getElem? (i := 502) (by decide +kernel), List.mem_of_getElem? (i := 670) (by decide +kernel), List.mem_of_getElem? (i := 671) (by decide +kernel)⟩
theorem lw_p35 : lw_okq (⟨"RidingYardModel", "work", "(II)I"⟩, 35) := ⟨⟨by decide +kernel, by decide +kernel⟩, List.mem_of_getElem? (i := 502) (by decide +kernel), List.mem_of_getElem? (i := 674) (by decide +kernel), List.mem_of_getElem? (i := 675) (by decide +kernel)⟩
theorem lw_p36 : lw_okq (⟨"RidingYardModel", "ofTeam", "(IIII)I"⟩, 35) := ⟨⟨by decide +kernel, by decide +kernel⟩, List.mem_of_getElem? (i := 502) (by decide +kernel), List.mem_of_getElem? (i := 678) (by decide +kernel), List.mem_of_getElem? (i := 679) (by decide +kernel)⟩
theorem lw_p37 : lw_okq (⟨"RidingYardModel", "worksAll", "(II)I"⟩, 35) := ⟨⟨by decide +kernel, by decide +kernel⟩, List.mem_of_getElem? (i := 502) (by decide +kernel), List.mem_of_getElem? (i := 685) (by decide +kernel), List.mem_of_getElem? (i := 686) (by decide +kernel)⟩
theorem lw_p38 : lw_okq (⟨"RidingYardModel", "isFor", "(II)Z"⟩, 35) := ⟨⟨by decide +kernel, by decide +kernel⟩, List.mem_of_getElem? (i := 502) (by decide +kernel), List.mem_of_getElem? (i := 689) (by decide +kernel), List.mem_of_getElem? (i := 690) (by decide +kernel)⟩
theorem lw_p39 : lw_okq (⟨"RidingYardModel", "ofLedger", "(IIII)I"⟩, 35) := ⟨⟨by decide +kernel, by decide +kernel⟩, List.mem_of_getElem? (i := 502) (by decide +kernel), List.mem_of_getElem? (i := 693) (by decide +kernel), List.mem_of_getElem? (i := 694) (by decide +kernel)⟩
theorem lw_p40 : lw_okq (⟨"RidingYardModel", "ofTable", "(IIII)I"⟩, 35) := ⟨⟨by decide +kernel, by decide +kernel⟩, List.mem_of_getElem? (i := 502) (by decide +kernel), List.mem_of_getElem? (i := 697) (by decide +kernel), List.mem_of_getElem? (i := 698) (by decide +kernel)⟩
def lw_privs_3 : List (MethodName × Nat) := [(⟨"RidingYardModel", "ofStall", "(III)I"⟩, 35), (⟨"RidingYardModel", "come", "(I)I"⟩, 35), (⟨"RidingYardModel", "groom", "(I)I"⟩, 35), (⟨"RidingYardModel", "work", "(II)I"⟩, 35), (⟨"RidingYardModel", "ofTeam", "(IIII)I"⟩, 35), (⟨"RidingYardModel", "worksAll", "(II)I"⟩, 35), (⟨"RidingYardModel", "isFor", "(II)Z"⟩, 35), (⟨"RidingYardModel", "ofLedger", "(IIII)I"⟩, 35), (⟨"RidingYardModel", "ofTable", "(IIII)I"⟩, 35)]
theorem lw_r3 : ∀ q ∈ lw_privs_3, lw_okq q := List.forall_mem_cons.mpr ⟨lw_p32, List.forall_mem_cons.mpr ⟨lw_p33, List.forall_mem_cons.mpr ⟨lw_p34, List.forall_mem_cons.mpr ⟨lw_p35, List.forall_mem_cons.mpr ⟨lw_p36, List.forall_mem_cons.mpr ⟨lw_p37, List.forall_mem_cons.mpr ⟨lw_p38, List.forall_mem_cons.mpr ⟨lw_p39, List.forall_mem_cons.mpr ⟨lw_p40, fun _ h => absurd h List.not_mem_nil⟩⟩⟩⟩⟩⟩⟩⟩⟩
def lw_privs : List (MethodName × Nat) := lw_privs_1 ++ (lw_privs_2 ++ (lw_privs_3))
def lw_tbl : List Cond := k2_sels lw_privs ++ tables_1
theorem lw_privs_ok : ∀ q ∈ lw_privs, lw_okq q := by
  show ∀ q ∈ lw_privs_1 ++ (lw_privs_2 ++ (lw_privs_3)), lw_okq q
  exact List.forall_mem_append.mpr ⟨lw_r1, List.forall_mem_append.mpr ⟨lw_r2, lw_r3⟩⟩
-- ===== end of PART A; then your names; then what follows =====
end
section
/-! ===== BEGIN words of one list among another's, by their places ===== -/
theorem goodIn_r {big : List Cond} (ws : List Cond) (ps : List Nat) (hp : ws = ps.filterMap (fun i => big[i]?)) (h : ws.all goodWord = true) : GoodIn big ws := by
  intro w hw
  have h1 := List.all_eq_true.mp h w hw
  rw [hp] at hw
  obtain ⟨i, -, hi⟩ := List.mem_filterMap.mp hw
  have hm : w ∈ big := by first | exact List.mem_of_getElem? hi | exact List.getElem?_mem hi
  exact ⟨hm, good_of_word h1⟩
theorem goodIn_app {big a b : List Cond} (ha : GoodIn big a) (hb : GoodIn big b) : GoodIn big (a ++ b) := fun w h => (List.mem_append.mp h).elim (ha w) (hb w)
theorem goodIn_ca {big a b : List Cond} {c : Cond} (ha : GoodIn big (c :: a)) (hb : GoodIn big b) : GoodIn big (c :: (a ++ b)) := fun w h => (List.mem_cons.mp h).elim (fun e => ha w (List.mem_cons.mpr (Or.inl e))) (fun h => (List.mem_append.mp h).elim (fun h => ha w (List.mem_cons.mpr (Or.inr h))) (hb w))
theorem goodIn_sub {big ws : List Cond} (hm : ∀ w ∈ ws, w ∈ big) (h : ws.all goodWord = true) : GoodIn big ws := fun w hw => ⟨hm w hw, good_of_word (List.all_eq_true.mp h w hw)⟩
/-! ===== END ===== -/

/-! ===== BEGIN new T[n][m]: the outer array a place, the inner ones among the pooled ===== -/
/-- f, but v at every address of l -/
def vr_up {α : Type} (f : Nat → α) (l : List Nat) (v : α) : Nat → α := fun a => if a ∈ l then v else f a
theorem vr_up_in {α : Type} {f : Nat → α} {l : List Nat} {v : α} {a : Nat} (h : a ∈ l) : vr_up f l v a = v := if_pos h
theorem vr_up_ne {α : Type} {f : Nat → α} {l : List Nat} {v : α} {a : Nat} (h : a ∉ l) : vr_up f l v a = f a := if_neg h
theorem vr_rows {L l : List Nat} {f : Nat → va_E} {e : va_E} (h : ∀ a, a ∈ l → a ∉ L) : va_pl L f ++ l.map (fun a => (a, e)) = va_pl (L ++ l) (vr_up f l e) := by
  unfold va_pl
  rw [List.map_append]
  congr 1
  · apply List.map_congr_left
    intro a ha
    rw [vr_up_ne (fun q => h a q ha)]
  · apply List.map_congr_left
    intro a ha
    rw [vr_up_in ha]
theorem vr_lay {X rows : va_W} {x : Nat × va_E} {pl : va_W} {D : va_G} {cl : List vw_C} {H : Heap} (hP : va_P D cl (((X ++ pl) ++ [x]) ++ rows) H) : va_P D cl ((X ++ [x]) ++ (pl ++ rows)) H := by
  rw [List.append_assoc (X ++ pl)] at hP
  have h := va_P.swap hP
  rw [← List.append_assoc X] at h
  have h2 := va_P.swap h
  rw [List.append_assoc (X ++ [x])] at h2
  exact h2
theorem vr_layD {X rows : va_W} {x : Nat × va_E} {pl : va_W} {A : Nat → Prop} (hD : va_D A (((X ++ pl) ++ [x]) ++ rows)) : va_D A ((X ++ [x]) ++ (pl ++ rows)) := by
  rw [List.append_assoc (X ++ pl)] at hD
  have h := va_D.swap hD
  rw [← List.append_assoc X] at h
  have h2 := va_D.swap h
  rw [List.append_assoc (X ++ [x])] at h2
  exact h2
theorem vr_outer (c : ClassId) (N h0 : Nat) : ∀ i : Nat, Jvm.Free.Multi.outerC c N h0 i = arrV c N (fun j => va_rf (if j < i then some (h0 + 1 + j) else none))
  | 0 => by
    show ({ cls := c, slots := Array.replicate N .null, vm := .none } : Cell) = _
    rw [arrV_new]
    refine congrArg (arrV c N) (funext fun j => ?_)
    simp [va_rf]
  | i + 1 => by
    show (Jvm.Free.Multi.outerC c N h0 i).setSlot i (.ref (h0 + 1 + i)) = _
    rw [vr_outer c N h0 i, arrV_store]
    refine congrArg (arrV c N) (funext fun j => ?_)
    by_cases e : j = i
    · subst e
      simp [updV, va_rf]
    · by_cases h : j < i
      · simp [updV, e, h, Nat.lt_succ_of_lt h]
      · simp [updV, e, h, show ¬ j < i + 1 by omega]
end
section
/-! ===== BEGIN printed: names, fields, word lists, decode rows ===== -/
def RX0 : String := "RidingYard$Alarm"
def TX0 : u_T := fun k => match k with
  | _ => ("RidingYard$Alarm", "number", "I", true)
def tyX0 : Nat → FieldType := fun k => match k with
  | _ => .int
abbrev wsX00 : List Cond := u_ws RX0 TX0 1
theorem nmX0 : ∀ a, a < 1 → ∀ b, b < 1 → a ≠ b → (TX0 a).2.1 ≠ (TX0 b).2.1 := by decide +kernel
theorem tyX0_ok : ∀ k, k < 1 → parseFieldDescriptor (TX0 k).2.2.1 = some (tyX0 k) := by decide +kernel
abbrev cX0_init : ByteArray := prog_2_method_1_code
def yX0_init : MethodName := ⟨RX0, "<init>", "(I)V"⟩
def RX1 : String := "RidingYard$Cob"
def TX1 : u_T := fun k => match k with
  | 0 => ("RidingYard$Horse", "strength", "I", true)
  | 1 => ("RidingYard$Horse", "fed", "I", false)
  | 2 => ("RidingYard$Horse", "rug", "I", false)
  | 3 => ("RidingYard$Horse", "groomed", "I", false)
  | _ => ("RidingYard$Horse", "tired", "I", false)
def tyX1 : Nat → FieldType := fun k => match k with
  | 0 => .int
  | 1 => .int
  | 2 => .int
  | 3 => .int
  | _ => .int
abbrev wsX10 : List Cond := u_ws RX1 TX1 5
theorem nmX1 : ∀ a, a < 5 → ∀ b, b < 5 → a ≠ b → (TX1 a).2.1 ≠ (TX1 b).2.1 := by decide +kernel
theorem tyX1_ok : ∀ k, k < 5 → parseFieldDescriptor (TX1 k).2.2.1 = some (tyX1 k) := by decide +kernel
abbrev cX1_init : ByteArray := prog_3_method_1_code
def yX1_init : MethodName := ⟨RX1, "<init>", "(I)V"⟩
abbrev cX1_kindNumber : ByteArray := prog_3_method_2_code
def yX1_kindNumber : MethodName := ⟨RX1, "kindNumber", "()I"⟩
abbrev cX1_groom : ByteArray := prog_3_method_3_code
def yX1_groom : MethodName := ⟨RX1, "groom", "()I"⟩
abbrev cX1_workFor : ByteArray := prog_3_method_4_code
def yX1_workFor : MethodName := ⟨RX1, "workFor", "(I)I"⟩
def RX2 : String := "RidingYard$Horse"
def TX2 : u_T := fun k => match k with
  | 0 => ("RidingYard$Horse", "strength", "I", true)
  | 1 => ("RidingYard$Horse", "fed", "I", false)
  | 2 => ("RidingYard$Horse", "rug", "I", false)
  | 3 => ("RidingYard$Horse", "groomed", "I", false)
  | _ => ("RidingYard$Horse", "tired", "I", false)
def tyX2 : Nat → FieldType := fun k => match k with
  | 0 => .int
  | 1 => .int
  | 2 => .int
  | 3 => .int
  | _ => .int
abbrev wsX20 : List Cond := u_ws RX2 TX2 5
theorem nmX2 : ∀ a, a < 5 → ∀ b, b < 5 → a ≠ b → (TX2 a).2.1 ≠ (TX2 b).2.1 := by decide +kernel
theorem tyX2_ok : ∀ k, k < 5 → parseFieldDescriptor (TX2 k).2.2.1 = some (tyX2 k) := by decide +kernel
abbrev cX2_init : ByteArray := prog_4_method_1_code
def yX2_init : MethodName := ⟨RX2, "<init>", "(I)V"⟩
abbrev cX2_kindNumber : ByteArray := prog_4_method_2_code
def yX2_kindNumber : MethodName := ⟨RX2, "kindNumber", "()I"⟩
abbrev cX2_groom : ByteArray := prog_4_method_3_code
def yX2_groom : MethodName := ⟨RX2, "groom", "()I"⟩
abbrev cX2_workFor : ByteArray := prog_4_method_4_code
def yX2_workFor : MethodName := ⟨RX2, "workFor", "(I)I"⟩
def RX3 : String := "RidingYard$Hunter"
def TX3 : u_T := fun k => match k with
  | 0 => ("RidingYard$Horse", "strength", "I", true)
  | 1 => ("RidingYard$Horse", "fed", "I", false)
  | 2 => ("RidingYard$Horse", "rug", "I", false)
  | 3 => ("RidingYard$Horse", "groomed", "I", false)
  | _ => ("RidingYard$Horse", "tired", "I", false)
def tyX3 : Nat → FieldType := fun k => match k with
  | 0 => .int
  | 1 => .int
  | 2 => .int
  | 3 => .int
  | _ => .int
abbrev wsX30 : List Cond := u_ws RX3 TX3 5
theorem nmX3 : ∀ a, a < 5 → ∀ b, b < 5 → a ≠ b → (TX3 a).2.1 ≠ (TX3 b).2.1 := by decide +kernel
theorem tyX3_ok : ∀ k, k < 5 → parseFieldDescriptor (TX3 k).2.2.1 = some (tyX3 k) := by decide +kernel
abbrev cX3_init : ByteArray := prog_5_method_1_code
def yX3_init : MethodName := ⟨RX3, "<init>", "(I)V"⟩
abbrev cX3_kindNumber : ByteArray := prog_5_method_2_code
def yX3_kindNumber : MethodName := ⟨RX3, "kindNumber", "()I"⟩
abbrev cX3_groom : ByteArray := prog_5_method_3_code
def yX3_groom : MethodName := ⟨RX3, "groom", "()I"⟩
abbrev cX3_workFor : ByteArray := prog_5_method_4_code
def yX3_workFor : MethodName := ⟨RX3, "workFor", "(I)I"⟩
def RX4 : String := "RidingYard$Ledger"
def TX4 : u_T := fun k => match k with
  | 0 => ("RidingYard$Ledger", "ints", "[I", true)
  | 1 => ("RidingYard$Ledger", "there", "Z", false)
  | _ => ("RidingYard$Ledger", "size", "I", false)
def tyX4 : Nat → FieldType := fun k => match k with
  | 0 => .array .int
  | 1 => .boolean
  | _ => .int
abbrev wsX40 : List Cond := u_ws RX4 TX4 3
theorem nmX4 : ∀ a, a < 3 → ∀ b, b < 3 → a ≠ b → (TX4 a).2.1 ≠ (TX4 b).2.1 := by decide +kernel
theorem tyX4_ok : ∀ k, k < 3 → parseFieldDescriptor (TX4 k).2.2.1 = some (tyX4 k) := by decide +kernel
abbrev cX4_init : ByteArray := prog_6_method_1_code
def yX4_init : MethodName := ⟨RX4, "<init>", "()V"⟩
abbrev cX4_open : ByteArray := prog_6_method_2_code
def yX4_open : MethodName := ⟨RX4, "open", "(I)V"⟩
abbrev cX4_sum : ByteArray := prog_6_method_3_code
def yX4_sum : MethodName := ⟨RX4, "sum", "()I"⟩
def RX5 : String := "RidingYard$Table"
def TX5 : u_T := fun k => match k with
  | 0 => ("RidingYard$Table", "rows", "[[I", true)
  | 1 => ("RidingYard$Table", "rowThere", "[Z", true)
  | 2 => ("RidingYard$Table", "there", "Z", false)
  | 3 => ("RidingYard$Table", "height", "I", false)
  | _ => ("RidingYard$Table", "width", "I", false)
def tyX5 : Nat → FieldType := fun k => match k with
  | 0 => .array (.array .int)
  | 1 => .array .boolean
  | 2 => .boolean
  | 3 => .int
  | _ => .int
abbrev wsX50 : List Cond := u_ws RX5 TX5 5
theorem nmX5 : ∀ a, a < 5 → ∀ b, b < 5 → a ≠ b → (TX5 a).2.1 ≠ (TX5 b).2.1 := by decide +kernel
theorem tyX5_ok : ∀ k, k < 5 → parseFieldDescriptor (TX5 k).2.2.1 = some (tyX5 k) := by decide +kernel
abbrev cX5_init : ByteArray := prog_7_method_1_code
def yX5_init : MethodName := ⟨RX5, "<init>", "()V"⟩
abbrev cX5_set : ByteArray := prog_7_method_2_code
def yX5_set : MethodName := ⟨RX5, "set", "(II)V"⟩
def RX6 : String := "RidingYard$Team"
def TX6 : u_T := fun k => match k with
  | 0 => ("RidingYard$Team", "places", "[LRidingYard$Horse;", true)
  | 1 => ("RidingYard$Team", "there", "Z", false)
  | 2 => ("RidingYard$Team", "kind", "I", false)
  | _ => ("RidingYard$Team", "size", "I", false)
def tyX6 : Nat → FieldType := fun k => match k with
  | 0 => .array (.object "RidingYard$Horse")
  | 1 => .boolean
  | 2 => .int
  | _ => .int
abbrev wsX60 : List Cond := u_ws RX6 TX6 4
theorem nmX6 : ∀ a, a < 4 → ∀ b, b < 4 → a ≠ b → (TX6 a).2.1 ≠ (TX6 b).2.1 := by decide +kernel
theorem tyX6_ok : ∀ k, k < 4 → parseFieldDescriptor (TX6 k).2.2.1 = some (tyX6 k) := by decide +kernel
abbrev cX6_init : ByteArray := prog_8_method_1_code
def yX6_init : MethodName := ⟨RX6, "<init>", "()V"⟩
abbrev cX6_form : ByteArray := prog_8_method_2_code
def yX6_form : MethodName := ⟨RX6, "form", "(II)V"⟩
abbrev cX6_isFor : ByteArray := prog_8_method_3_code
def yX6_isFor : MethodName := ⟨RX6, "isFor", "(LRidingYard$Horse;)Z"⟩
def RX7 : String := "RidingYard$Wagon"
def TX7 : u_T := fun k => match k with
  | 0 => ("RidingYard$Wagon", "load", "I", true)
  | _ => ("RidingYard$Wagon", "worn", "I", false)
def tyX7 : Nat → FieldType := fun k => match k with
  | 0 => .int
  | _ => .int
abbrev wsX70 : List Cond := u_ws RX7 TX7 2
theorem nmX7 : ∀ a, a < 2 → ∀ b, b < 2 → a ≠ b → (TX7 a).2.1 ≠ (TX7 b).2.1 := by decide +kernel
theorem tyX7_ok : ∀ k, k < 2 → parseFieldDescriptor (TX7 k).2.2.1 = some (tyX7 k) := by decide +kernel
abbrev cX7_init : ByteArray := prog_9_method_1_code
def yX7_init : MethodName := ⟨RX7, "<init>", "(I)V"⟩
abbrev cX7_workFor : ByteArray := prog_9_method_2_code
def yX7_workFor : MethodName := ⟨RX7, "workFor", "(I)I"⟩
def RX8 : String := "RidingYard$Worker"
def TX8 : u_T := fun k => match k with
  | _ => ("", "", "", false)
def tyX8 : Nat → FieldType := fun k => match k with
  | _ => .int
abbrev wsX80 : List Cond := u_ws RX8 TX8 0
theorem nmX8 : ∀ a, a < 0 → ∀ b, b < 0 → a ≠ b → (TX8 a).2.1 ≠ (TX8 b).2.1 := by decide +kernel
theorem tyX8_ok : ∀ k, k < 0 → parseFieldDescriptor (TX8 k).2.2.1 = some (tyX8 k) := by decide +kernel
abbrev cX8_init : ByteArray := prog_10_method_1_code
def yX8_init : MethodName := ⟨RX8, "<init>", "()V"⟩
def RX9 : String := "RidingYard"
def TX9 : u_T := fun k => match k with
  | 0 => ("RidingYard", "stalls", "[LRidingYard$Horse;", true)
  | 1 => ("RidingYard", "sheds", "[LRidingYard$Worker;", true)
  | 2 => ("RidingYard", "teams", "[LRidingYard$Team;", true)
  | 3 => ("RidingYard", "ledgers", "[LRidingYard$Ledger;", true)
  | 4 => ("RidingYard", "tables", "[LRidingYard$Table;", true)
  | 5 => ("RidingYard", "hooks", "[LRidingYard$Alarm;", true)
  | 6 => ("RidingYard", "horsesMade", "I", false)
  | 7 => ("RidingYard", "wagonsMade", "I", false)
  | 8 => ("RidingYard", "alarmsMade", "I", false)
  | 9 => ("RidingYard", "tasks", "[[I", true)
  | 10 => ("RidingYard", "taskCount", "I", false)
  | 11 => ("RidingYard", "tasksPutDown", "[I", true)
  | 12 => ("RidingYard", "faultsPutDown", "[I", true)
  | 13 => ("RidingYard", "putDownInAll", "I", false)
  | 14 => ("RidingYard", "faultsMet", "[I", true)
  | _ => ("RidingYard", "cameTo", "I", false)
def tyX9 : Nat → FieldType := fun k => match k with
  | 0 => .array (.object "RidingYard$Horse")
  | 1 => .array (.object "RidingYard$Worker")
  | 2 => .array (.object "RidingYard$Team")
  | 3 => .array (.object "RidingYard$Ledger")
  | 4 => .array (.object "RidingYard$Table")
  | 5 => .array (.object "RidingYard$Alarm")
  | 6 => .int
  | 7 => .int
  | 8 => .int
  | 9 => .array (.array .int)
  | 10 => .int
  | 11 => .array .int
  | 12 => .array .int
  | 13 => .int
  | 14 => .array .int
  | _ => .int
abbrev wsX90 : List Cond := u_ws RX9 TX9 16
theorem nmX9 : ∀ a, a < 16 → ∀ b, b < 16 → a ≠ b → (TX9 a).2.1 ≠ (TX9 b).2.1 := by decide +kernel
theorem tyX9_ok : ∀ k, k < 16 → parseFieldDescriptor (TX9 k).2.2.1 = some (tyX9 k) := by decide +kernel
abbrev cX9_init : ByteArray := prog_1_method_1_code
def yX9_init : MethodName := ⟨RX9, "<init>", "()V"⟩
abbrev cX9_horse : ByteArray := prog_1_method_2_code
def yX9_horse : MethodName := ⟨RX9, "horse", "(III)I"⟩
abbrev cX9_wagon : ByteArray := prog_1_method_3_code
def yX9_wagon : MethodName := ⟨RX9, "wagon", "(II)I"⟩
abbrev cX9_lead : ByteArray := prog_1_method_4_code
def yX9_lead : MethodName := ⟨RX9, "lead", "(II)I"⟩
abbrev cX9_empty : ByteArray := prog_1_method_5_code
def yX9_empty : MethodName := ⟨RX9, "empty", "(II)I"⟩
abbrev cX9_tear : ByteArray := prog_1_method_6_code
def yX9_tear : MethodName := ⟨RX9, "tear", "(II)I"⟩
abbrev cX9_hang : ByteArray := prog_1_method_7_code
def yX9_hang : MethodName := ⟨RX9, "hang", "(II)I"⟩
abbrev cX9_act : ByteArray := prog_1_method_8_code
def yX9_act : MethodName := ⟨RX9, "act", "(IIII)I"⟩
abbrev cX9_came : ByteArray := prog_1_method_9_code
def yX9_came : MethodName := ⟨RX9, "came", "()I"⟩
abbrev cX9_task : ByteArray := prog_1_method_10_code
def yX9_task : MethodName := ⟨RX9, "task", "(IIII)I"⟩
abbrev cX9_clear : ByteArray := prog_1_method_11_code
def yX9_clear : MethodName := ⟨RX9, "clear", "()I"⟩
abbrev cX9_day : ByteArray := prog_1_method_12_code
def yX9_day : MethodName := ⟨RX9, "day", "()I"⟩
abbrev cX9_book : ByteArray := prog_1_method_13_code
def yX9_book : MethodName := ⟨RX9, "book", "(II)I"⟩
abbrev cX9_horseTells : ByteArray := prog_1_method_14_code
def yX9_horseTells : MethodName := ⟨RX9, "horseTells", "(II)I"⟩
abbrev cX9_shed : ByteArray := prog_1_method_15_code
def yX9_shed : MethodName := ⟨RX9, "shed", "(I)I"⟩
abbrev cX9_same : ByteArray := prog_1_method_16_code
def yX9_same : MethodName := ⟨RX9, "same", "(II)I"⟩
abbrev cX9_count : ByteArray := prog_1_method_17_code
def yX9_count : MethodName := ⟨RX9, "count", "(I)I"⟩
abbrev cX9_within : ByteArray := prog_1_method_18_code
def yX9_within : MethodName := ⟨RX9, "within", "(II)Z"⟩
abbrev cX9_oneIf : ByteArray := prog_1_method_19_code
def yX9_oneIf : MethodName := ⟨RX9, "oneIf", "(Z)I"⟩
abbrev cX9_newHorse : ByteArray := prog_1_method_20_code
def yX9_newHorse : MethodName := ⟨RX9, "newHorse", "(II)LRidingYard$Horse;"⟩
abbrev cX9_holdsSomething : ByteArray := prog_1_method_21_code
def yX9_holdsSomething : MethodName := ⟨RX9, "holdsSomething", "(II)Z"⟩
abbrev cX9_takeAway : ByteArray := prog_1_method_22_code
def yX9_takeAway : MethodName := ⟨RX9, "takeAway", "(II)V"⟩
abbrev cX9_putDown : ByteArray := prog_1_method_23_code
def yX9_putDown : MethodName := ⟨RX9, "putDown", "(II)V"⟩
abbrev cX9_perform : ByteArray := prog_1_method_24_code
def yX9_perform : MethodName := ⟨RX9, "perform", "(IIII)I"⟩
abbrev cX9_faultOf : ByteArray := prog_1_method_25_code
def yX9_faultOf : MethodName := ⟨RX9, "faultOf", "(IIII)I"⟩
abbrev cX9_comeTo : ByteArray := prog_1_method_26_code
def yX9_comeTo : MethodName := ⟨RX9, "comeTo", "(I)I"⟩
abbrev cX9_horseAt : ByteArray := prog_1_method_27_code
def yX9_horseAt : MethodName := ⟨RX9, "horseAt", "(I)LRidingYard$Horse;"⟩
abbrev cX9_workerAt : ByteArray := prog_1_method_28_code
def yX9_workerAt : MethodName := ⟨RX9, "workerAt", "(I)LRidingYard$Worker;"⟩
abbrev cX9_teamAt : ByteArray := prog_1_method_29_code
def yX9_teamAt : MethodName := ⟨RX9, "teamAt", "(I)LRidingYard$Team;"⟩
abbrev cX9_ledgerAt : ByteArray := prog_1_method_30_code
def yX9_ledgerAt : MethodName := ⟨RX9, "ledgerAt", "(I)LRidingYard$Ledger;"⟩
abbrev cX9_tableAt : ByteArray := prog_1_method_31_code
def yX9_tableAt : MethodName := ⟨RX9, "tableAt", "(I)LRidingYard$Table;"⟩
abbrev cX9_feedHorse : ByteArray := prog_1_method_32_code
def yX9_feedHorse : MethodName := ⟨RX9, "feedHorse", "(II)I"⟩
abbrev cX9_askStrength : ByteArray := prog_1_method_33_code
def yX9_askStrength : MethodName := ⟨RX9, "askStrength", "(I)I"⟩
abbrev cX9_coverHorse : ByteArray := prog_1_method_34_code
def yX9_coverHorse : MethodName := ⟨RX9, "coverHorse", "(II)I"⟩
abbrev cX9_groomHorse : ByteArray := prog_1_method_35_code
def yX9_groomHorse : MethodName := ⟨RX9, "groomHorse", "(I)I"⟩
abbrev cX9_workInShed : ByteArray := prog_1_method_36_code
def yX9_workInShed : MethodName := ⟨RX9, "workInShed", "(II)I"⟩
abbrev cX9_askStrengthInShed : ByteArray := prog_1_method_37_code
def yX9_askStrengthInShed : MethodName := ⟨RX9, "askStrengthInShed", "(I)I"⟩
abbrev cX9_askRugOfHunter : ByteArray := prog_1_method_38_code
def yX9_askRugOfHunter : MethodName := ⟨RX9, "askRugOfHunter", "(I)I"⟩
abbrev cX9_formTeam : ByteArray := prog_1_method_39_code
def yX9_formTeam : MethodName := ⟨RX9, "formTeam", "(III)I"⟩
abbrev cX9_putInTeam : ByteArray := prog_1_method_40_code
def yX9_putInTeam : MethodName := ⟨RX9, "putInTeam", "(III)I"⟩
abbrev cX9_takeFromTeam : ByteArray := prog_1_method_41_code
def yX9_takeFromTeam : MethodName := ⟨RX9, "takeFromTeam", "(III)I"⟩
abbrev cX9_askPlaces : ByteArray := prog_1_method_42_code
def yX9_askPlaces : MethodName := ⟨RX9, "askPlaces", "(I)I"⟩
abbrev cX9_workTeam : ByteArray := prog_1_method_43_code
def yX9_workTeam : MethodName := ⟨RX9, "workTeam", "(II)I"⟩
abbrev cX9_openLedger : ByteArray := prog_1_method_44_code
def yX9_openLedger : MethodName := ⟨RX9, "openLedger", "(II)I"⟩
abbrev cX9_addInLedger : ByteArray := prog_1_method_45_code
def yX9_addInLedger : MethodName := ⟨RX9, "addInLedger", "(III)I"⟩
abbrev cX9_sumLedger : ByteArray := prog_1_method_46_code
def yX9_sumLedger : MethodName := ⟨RX9, "sumLedger", "(I)I"⟩
abbrev cX9_setTable : ByteArray := prog_1_method_47_code
def yX9_setTable : MethodName := ⟨RX9, "setTable", "(III)I"⟩
abbrev cX9_markTable : ByteArray := prog_1_method_48_code
def yX9_markTable : MethodName := ⟨RX9, "markTable", "(III)I"⟩
abbrev cX9_raiseAlarm : ByteArray := prog_1_method_49_code
def yX9_raiseAlarm : MethodName := ⟨RX9, "raiseAlarm", "(I)I"⟩
def RX10 : String := "RidingYardModel"
def TX10 : u_T := fun k => match k with
  | 0 => ("RidingYardModel", "horses", "I", false)
  | 1 => ("RidingYardModel", "kinds", "[I", true)
  | 2 => ("RidingYardModel", "strengths", "[I", true)
  | 3 => ("RidingYardModel", "fed", "[I", true)
  | 4 => ("RidingYardModel", "rugs", "[I", true)
  | 5 => ("RidingYardModel", "groomed", "[I", true)
  | 6 => ("RidingYardModel", "tired", "[I", true)
  | 7 => ("RidingYardModel", "wagons", "I", false)
  | 8 => ("RidingYardModel", "loads", "[I", true)
  | 9 => ("RidingYardModel", "worn", "[I", true)
  | 10 => ("RidingYardModel", "alarms", "I", false)
  | 11 => ("RidingYardModel", "stalls", "[I", true)
  | 12 => ("RidingYardModel", "sheds", "[I", true)
  | 13 => ("RidingYardModel", "teams", "[I", true)
  | 14 => ("RidingYardModel", "teamFor", "[I", true)
  | 15 => ("RidingYardModel", "places", "[I", true)
  | 16 => ("RidingYardModel", "ledgers", "[I", true)
  | 17 => ("RidingYardModel", "ints", "[I", true)
  | 18 => ("RidingYardModel", "tables", "[I", true)
  | 19 => ("RidingYardModel", "wides", "[I", true)
  | 20 => ("RidingYardModel", "rows", "[Z", true)
  | 21 => ("RidingYardModel", "cells", "[I", true)
  | 22 => ("RidingYardModel", "hooked", "[Z", true)
  | 23 => ("RidingYardModel", "hooks", "[I", true)
  | 24 => ("RidingYardModel", "tasks", "I", false)
  | 25 => ("RidingYardModel", "taskActs", "[I", true)
  | 26 => ("RidingYardModel", "taskAs", "[I", true)
  | 27 => ("RidingYardModel", "taskBs", "[I", true)
  | 28 => ("RidingYardModel", "taskCs", "[I", true)
  | 29 => ("RidingYardModel", "put", "I", false)
  | 30 => ("RidingYardModel", "putTasks", "[I", true)
  | 31 => ("RidingYardModel", "putFaults", "[I", true)
  | 32 => ("RidingYardModel", "met", "[I", true)
  | 33 => ("RidingYardModel", "came", "I", false)
  | _ => ("RidingYardModel", "comes", "I", false)
def tyX10 : Nat → FieldType := fun k => match k with
  | 0 => .int
  | 1 => .array .int
  | 2 => .array .int
  | 3 => .array .int
  | 4 => .array .int
  | 5 => .array .int
  | 6 => .array .int
  | 7 => .int
  | 8 => .array .int
  | 9 => .array .int
  | 10 => .int
  | 11 => .array .int
  | 12 => .array .int
  | 13 => .array .int
  | 14 => .array .int
  | 15 => .array .int
  | 16 => .array .int
  | 17 => .array .int
  | 18 => .array .int
  | 19 => .array .int
  | 20 => .array .boolean
  | 21 => .array .int
  | 22 => .array .boolean
  | 23 => .array .int
  | 24 => .int
  | 25 => .array .int
  | 26 => .array .int
  | 27 => .array .int
  | 28 => .array .int
  | 29 => .int
  | 30 => .array .int
  | 31 => .array .int
  | 32 => .array .int
  | 33 => .int
  | _ => .int
abbrev wsX100 : List Cond := u_ws RX10 TX10 35
theorem nmX10 : ∀ a, a < 35 → ∀ b, b < 35 → a ≠ b → (TX10 a).2.1 ≠ (TX10 b).2.1 := by decide +kernel
theorem tyX10_ok : ∀ k, k < 35 → parseFieldDescriptor (TX10 k).2.2.1 = some (tyX10 k) := by decide +kernel
abbrev cX10_init : ByteArray := prog_12_method_1_code
def yX10_init : MethodName := ⟨RX10, "<init>", "()V"⟩
abbrev cX10_in : ByteArray := prog_12_method_3_code
def yX10_in : MethodName := ⟨RX10, "in", "(III)Z"⟩
abbrev cX10_modulo : ByteArray := prog_12_method_4_code
def yX10_modulo : MethodName := ⟨RX10, "modulo", "(II)I"⟩
abbrev cX10_least : ByteArray := prog_12_method_5_code
def yX10_least : MethodName := ⟨RX10, "least", "(II)I"⟩
abbrev cX10_horse : ByteArray := prog_12_method_6_code
def yX10_horse : MethodName := ⟨RX10, "horse", "(III)I"⟩
abbrev cX10_wagon : ByteArray := prog_12_method_7_code
def yX10_wagon : MethodName := ⟨RX10, "wagon", "(II)I"⟩
abbrev cX10_lead : ByteArray := prog_12_method_8_code
def yX10_lead : MethodName := ⟨RX10, "lead", "(II)I"⟩
abbrev cX10_holds : ByteArray := prog_12_method_9_code
def yX10_holds : MethodName := ⟨RX10, "holds", "(II)Z"⟩
abbrev cX10_empty : ByteArray := prog_12_method_10_code
def yX10_empty : MethodName := ⟨RX10, "empty", "(II)I"⟩
abbrev cX10_tear : ByteArray := prog_12_method_11_code
def yX10_tear : MethodName := ⟨RX10, "tear", "(II)I"⟩
abbrev cX10_hang : ByteArray := prog_12_method_12_code
def yX10_hang : MethodName := ⟨RX10, "hang", "(II)I"⟩
abbrev cX10_come : ByteArray := prog_12_method_13_code
def yX10_come : MethodName := ⟨RX10, "come", "(I)I"⟩
abbrev cX10_groom : ByteArray := prog_12_method_14_code
def yX10_groom : MethodName := ⟨RX10, "groom", "(I)I"⟩
abbrev cX10_work : ByteArray := prog_12_method_15_code
def yX10_work : MethodName := ⟨RX10, "work", "(II)I"⟩
abbrev cX10_does : ByteArray := prog_12_method_16_code
def yX10_does : MethodName := ⟨RX10, "does", "(IIII)I"⟩
abbrev cX10_ofStall : ByteArray := prog_12_method_17_code
def yX10_ofStall : MethodName := ⟨RX10, "ofStall", "(III)I"⟩
abbrev cX10_isFor : ByteArray := prog_12_method_18_code
def yX10_isFor : MethodName := ⟨RX10, "isFor", "(II)Z"⟩
abbrev cX10_ofTeam : ByteArray := prog_12_method_19_code
def yX10_ofTeam : MethodName := ⟨RX10, "ofTeam", "(IIII)I"⟩
abbrev cX10_worksAll : ByteArray := prog_12_method_20_code
def yX10_worksAll : MethodName := ⟨RX10, "worksAll", "(II)I"⟩
abbrev cX10_ofLedger : ByteArray := prog_12_method_21_code
def yX10_ofLedger : MethodName := ⟨RX10, "ofLedger", "(IIII)I"⟩
abbrev cX10_ofTable : ByteArray := prog_12_method_22_code
def yX10_ofTable : MethodName := ⟨RX10, "ofTable", "(IIII)I"⟩
abbrev cX10_attempt : ByteArray := prog_12_method_23_code
def yX10_attempt : MethodName := ⟨RX10, "attempt", "(IIII)I"⟩
abbrev cX10_act : ByteArray := prog_12_method_24_code
def yX10_act : MethodName := ⟨RX10, "act", "(IIII)I"⟩
abbrev cX10_came : ByteArray := prog_12_method_25_code
def yX10_came : MethodName := ⟨RX10, "came", "()I"⟩
abbrev cX10_task : ByteArray := prog_12_method_26_code
def yX10_task : MethodName := ⟨RX10, "task", "(IIII)I"⟩
abbrev cX10_clear : ByteArray := prog_12_method_27_code
def yX10_clear : MethodName := ⟨RX10, "clear", "()I"⟩
abbrev cX10_day : ByteArray := prog_12_method_28_code
def yX10_day : MethodName := ⟨RX10, "day", "()I"⟩
abbrev cX10_book : ByteArray := prog_12_method_29_code
def yX10_book : MethodName := ⟨RX10, "book", "(II)I"⟩
abbrev cX10_horseTells : ByteArray := prog_12_method_30_code
def yX10_horseTells : MethodName := ⟨RX10, "horseTells", "(II)I"⟩
abbrev cX10_shed : ByteArray := prog_12_method_31_code
def yX10_shed : MethodName := ⟨RX10, "shed", "(I)I"⟩
abbrev cX10_same : ByteArray := prog_12_method_32_code
def yX10_same : MethodName := ⟨RX10, "same", "(II)I"⟩
abbrev cX10_count : ByteArray := prog_12_method_33_code
def yX10_count : MethodName := ⟨RX10, "count", "(I)I"⟩
def RJ9 : String := "java/lang/Math"
def TJ9 : u_T := fun k => match k with
  | _ => ("", "", "", false)
def tyJ9 : Nat → FieldType := fun k => match k with
  | _ => .int
abbrev wsJ90 : List Cond := u_ws RJ9 TJ9 0
theorem nmJ9 : ∀ a, a < 0 → ∀ b, b < 0 → a ≠ b → (TJ9 a).2.1 ≠ (TJ9 b).2.1 := by decide +kernel
theorem tyJ9_ok : ∀ k, k < 0 → parseFieldDescriptor (TJ9 k).2.2.1 = some (tyJ9 k) := by decide +kernel
abbrev cJ9_floorMod_7cf53 : ByteArray := prog_13_method_50_code
def yJ9_floorMod_7cf53 : MethodName := ⟨RJ9, "floorMod", "(II)I"⟩
abbrev cJ9_min_7cf53 : ByteArray := prog_13_method_69_code
def yJ9_min_7cf53 : MethodName := ⟨RJ9, "min", "(II)I"⟩
def RJ7 : String := "java/util/Arrays"
def TJ7 : u_T := fun k => match k with
  | _ => ("", "", "", false)
def tyJ7 : Nat → FieldType := fun k => match k with
  | _ => .int
abbrev wsJ70 : List Cond := u_ws RJ7 TJ7 0
theorem nmJ7 : ∀ a, a < 0 → ∀ b, b < 0 → a ≠ b → (TJ7 a).2.1 ≠ (TJ7 b).2.1 := by decide +kernel
theorem tyJ7_ok : ∀ k, k < 0 → parseFieldDescriptor (TJ7 k).2.2.1 = some (tyJ7 k) := by decide +kernel
abbrev cJ7_fill_53178 : ByteArray := prog_14_method_103_code
def yJ7_fill_53178 : MethodName := ⟨RJ7, "fill", "([II)V"⟩
def RL : String := "RidingYardLaw"
abbrev cL_law : ByteArray := code
def yL_law : MethodName := ⟨RL, "law", "([I)Z"⟩
def wsX0_init : List Cond := .code yX0_init cX0_init 2 none :: ([.methodLink RX0 1 objectInit, .instanceMethod objectInit, .code objectInit ⟨#[0xb1]⟩ 1 none, .fieldLink RX0 7 "RidingYard$Alarm" "number" "I"] ++ wsX00)
def wsX8_init : List Cond := .code yX8_init cX8_init 1 none :: ([.methodLink RX8 1 objectInit, .instanceMethod objectInit, .code objectInit ⟨#[0xb1]⟩ 1 none])
def wsX2_init : List Cond := .code yX2_init cX2_init 2 none :: ([.fieldLink RX2 9 "RidingYard$Horse" "strength" "I", .instanceMethod yX8_init, .initialized RX8, .code yX8_init cX8_init 1 none, .methodLink RX8 1 objectInit, .instanceMethod objectInit, .code objectInit ⟨#[0xb1]⟩ 1 none] ++ wsX10 ++ wsX20 ++ wsX30)
def wsX1_init : List Cond := .code yX1_init cX1_init 2 none :: ([.methodLink RX1 3 yX2_init, .instanceMethod yX2_init, .initialized RX2, .code yX2_init cX2_init 2 none, .fieldLink RX2 9 "RidingYard$Horse" "strength" "I", .instanceMethod yX8_init, .initialized RX8, .code yX8_init cX8_init 1 none, .methodLink RX8 1 objectInit, .instanceMethod objectInit, .code objectInit ⟨#[0xb1]⟩ 1 none] ++ wsX10 ++ wsX20 ++ wsX30)
def wsX1_kindNumber : List Cond := .code yX1_kindNumber cX1_kindNumber 1 (some .int) :: ([])
def wsX1_groom : List Cond := .code yX1_groom cX1_groom 1 (some .int) :: ([.fieldLink RX1 9 "RidingYard$Cob" "groomed" "I", .sameField "RidingYard$Cob" "RidingYard$Horse" "groomed" "I"] ++ wsX10 ++ wsX20 ++ wsX30)
def wsX1_workFor : List Cond := .code yX1_workFor cX1_workFor 2 (some .int) :: ([.fieldLink RX1 15 "RidingYard$Cob" "tired" "I", .sameField "RidingYard$Cob" "RidingYard$Horse" "tired" "I"] ++ wsX10 ++ wsX20 ++ wsX30)
def wsX2_kindNumber : List Cond := .code yX2_kindNumber cX2_kindNumber 1 (some .int) :: ([])
def wsX2_groom : List Cond := .code yX2_groom cX2_groom 1 (some .int) :: ([.fieldLink RX2 15 "RidingYard$Horse" "groomed" "I"] ++ wsX10 ++ wsX20 ++ wsX30)
def wsX2_workFor : List Cond := .code yX2_workFor cX2_workFor 2 (some .int) :: ([.fieldLink RX2 18 "RidingYard$Horse" "tired" "I"] ++ wsX10 ++ wsX20 ++ wsX30)
def wsX3_init : List Cond := .code yX3_init cX3_init 2 none :: ([.methodLink RX3 3 yX1_init, .instanceMethod yX1_init, .initialized RX1, .code yX1_init cX1_init 2 none, .methodLink RX1 3 yX2_init, .instanceMethod yX2_init, .initialized RX2, .code yX2_init cX2_init 2 none, .fieldLink RX2 9 "RidingYard$Horse" "strength" "I", .instanceMethod yX8_init, .initialized RX8, .code yX8_init cX8_init 1 none, .methodLink RX8 1 objectInit, .instanceMethod objectInit, .code objectInit ⟨#[0xb1]⟩ 1 none] ++ wsX10 ++ wsX20 ++ wsX30)
def wsX3_kindNumber : List Cond := .code yX3_kindNumber cX3_kindNumber 1 (some .int) :: ([])
def wsX3_groom : List Cond := .code yX3_groom cX3_groom 1 (some .int) :: ([.fieldLink RX3 9 "RidingYard$Hunter" "rug" "I", .sameField "RidingYard$Hunter" "RidingYard$Horse" "rug" "I", .methodLink RX3 15 yX1_groom, .sameMethod "RidingYard$Cob" "RidingYard$Cob" "groom" "()I", .superclass RX3 RX1, .instanceMethod yX1_groom, .initialized RX1, .code yX1_groom cX1_groom 1 (some .int), .fieldLink RX1 9 "RidingYard$Cob" "groomed" "I", .sameField "RidingYard$Cob" "RidingYard$Horse" "groomed" "I"] ++ wsX10 ++ wsX20 ++ wsX30)
def wsX3_workFor : List Cond := .code yX3_workFor cX3_workFor 2 (some .int) :: ([.fieldLink RX3 23 "RidingYard$Hunter" "tired" "I", .sameField "RidingYard$Hunter" "RidingYard$Horse" "tired" "I", .methodLink RX3 19 yX1_workFor, .sameMethod "RidingYard$Cob" "RidingYard$Cob" "workFor" "(I)I", .superclass RX3 RX1, .instanceMethod yX1_workFor, .initialized RX1, .code yX1_workFor cX1_workFor 2 (some .int), .fieldLink RX1 15 "RidingYard$Cob" "tired" "I", .sameField "RidingYard$Cob" "RidingYard$Horse" "tired" "I"] ++ wsX10 ++ wsX20 ++ wsX30)
def wsX4_init : List Cond := .code yX4_init cX4_init 1 none :: ([.methodLink RX4 3 objectInit, .instanceMethod objectInit, .code objectInit ⟨#[0xb1]⟩ 1 none, .arrayClass .int, .fieldLink RX4 9 "RidingYard$Ledger" "ints" "[I"] ++ wsX40)
def wsJ7_fill_53178 : List Cond := .code yJ7_fill_53178 cJ7_fill_53178 4 none :: ([])
def wsX4_open : List Cond := .code yX4_open cX4_open 2 none :: ([.fieldLink RX4 15 "RidingYard$Ledger" "there" "Z", .fieldLink RX4 19 "RidingYard$Ledger" "size" "I", .fieldLink RX4 9 "RidingYard$Ledger" "ints" "[I", .methodLink RX4 23 yJ7_fill_53178, .static yJ7_fill_53178, .initialized RJ7, .code yJ7_fill_53178 cJ7_fill_53178 4 none] ++ wsX40)
def wsX4_sum : List Cond := .code yX4_sum cX4_sum 3 (some .int) :: ([.fieldLink RX4 19 "RidingYard$Ledger" "size" "I", .fieldLink RX4 9 "RidingYard$Ledger" "ints" "[I"] ++ wsX40)
def wsX5_init : List Cond := .code yX5_init cX5_init 1 none :: ([.methodLink RX5 3 objectInit, .instanceMethod objectInit, .code objectInit ⟨#[0xb1]⟩ 1 none, .classLink RX5 9 "[[I", .arrayClass .int, .fieldLink RX5 11 "RidingYard$Table" "rows" "[[I", .arrayClass .boolean, .fieldLink RX5 16 "RidingYard$Table" "rowThere" "[Z"] ++ wsX50)
def wsX5_set : List Cond := .code yX5_set cX5_set 4 none :: ([.fieldLink RX5 20 "RidingYard$Table" "there" "Z", .fieldLink RX5 24 "RidingYard$Table" "height" "I", .fieldLink RX5 28 "RidingYard$Table" "width" "I", .fieldLink RX5 16 "RidingYard$Table" "rowThere" "[Z", .fieldLink RX5 11 "RidingYard$Table" "rows" "[[I", .methodLink RX5 31 yJ7_fill_53178, .static yJ7_fill_53178, .initialized RJ7, .code yJ7_fill_53178 cJ7_fill_53178 4 none] ++ wsX50)
def wsX6_init : List Cond := .code yX6_init cX6_init 1 none :: ([.methodLink RX6 3 objectInit, .instanceMethod objectInit, .code objectInit ⟨#[0xb1]⟩ 1 none, .classLink RX6 9 RX2, .fieldLink RX6 11 "RidingYard$Team" "places" "[LRidingYard$Horse;"] ++ wsX60)
def wsX6_form : List Cond := .code yX6_form cX6_form 4 none :: ([.fieldLink RX6 17 "RidingYard$Team" "there" "Z", .fieldLink RX6 21 "RidingYard$Team" "kind" "I", .fieldLink RX6 25 "RidingYard$Team" "size" "I", .fieldLink RX6 11 "RidingYard$Team" "places" "[LRidingYard$Horse;"] ++ wsX60)
def wsX6_isFor : List Cond := .code yX6_isFor cX6_isFor 2 (some .boolean) :: ([.fieldLink RX6 21 "RidingYard$Team" "kind" "I", .methodLink RX6 28 ⟨"RidingYard$Horse", "kindNumber", "()I"⟩, .sameMethod "RidingYard$Horse" "RidingYard$Horse" "kindNumber" "()I", .instanceMethod ⟨"RidingYard$Horse", "kindNumber", "()I"⟩, .selects RX1 ⟨"RidingYard$Horse", "kindNumber", "()I"⟩ yX1_kindNumber, .instanceMethod yX1_kindNumber, .initialized RX1, .code yX1_kindNumber cX1_kindNumber 1 (some .int), .code yX2_kindNumber cX2_kindNumber 1 (some .int), .methodLink RX6 28 yX2_kindNumber, .instanceMethod yX2_kindNumber, .selects RX2 yX2_kindNumber yX2_kindNumber, .initialized RX2, .selects RX3 ⟨"RidingYard$Horse", "kindNumber", "()I"⟩ yX3_kindNumber, .instanceMethod yX3_kindNumber, .initialized RX3, .code yX3_kindNumber cX3_kindNumber 1 (some .int)] ++ wsX60)
def wsX7_init : List Cond := .code yX7_init cX7_init 2 none :: ([.fieldLink RX7 7 "RidingYard$Wagon" "load" "I", .instanceMethod yX8_init, .initialized RX8, .code yX8_init cX8_init 1 none, .methodLink RX8 1 objectInit, .instanceMethod objectInit, .code objectInit ⟨#[0xb1]⟩ 1 none] ++ wsX70)
def wsX7_workFor : List Cond := .code yX7_workFor cX7_workFor 2 (some .int) :: ([.fieldLink RX7 13 "RidingYard$Wagon" "worn" "I", .fieldLink RX7 7 "RidingYard$Wagon" "load" "I"] ++ wsX70)
def wsX9_init_r1 : List Cond := [Cond.methodLink RX9 1 objectInit, Cond.instanceMethod objectInit, Cond.code objectInit ⟨#[0xb1]⟩ 1 none, Cond.classLink RX9 9 RX2, Cond.fieldLink RX9 11 "RidingYard" "stalls" "[LRidingYard$Horse;", Cond.classLink RX9 15 RX8, Cond.fieldLink RX9 17 "RidingYard" "sheds" "[LRidingYard$Worker;", Cond.classLink RX9 21 RX6, Cond.fieldLink RX9 23 "RidingYard" "teams" "[LRidingYard$Team;", Cond.classLink RX9 27 RX4, Cond.fieldLink RX9 29 "RidingYard" "ledgers" "[LRidingYard$Ledger;", Cond.classLink RX9 33 RX5, Cond.fieldLink RX9 35 "RidingYard" "tables" "[LRidingYard$Table;", Cond.classLink RX9 39 RX0, Cond.fieldLink RX9 41 "RidingYard" "hooks" "[LRidingYard$Alarm;", Cond.classLink RX9 45 "[[I", Cond.arrayClass .int, Cond.fieldLink RX9 47 "RidingYard" "tasks" "[[I", Cond.fieldLink RX9 50 "RidingYard" "tasksPutDown" "[I", Cond.fieldLink RX9 54 "RidingYard" "faultsPutDown" "[I", Cond.fieldLink RX9 57 "RidingYard" "faultsMet" "[I", Cond.instantiable RX6 4, Cond.initialized RX6, Cond.instantiable RX4 3]
def wsX9_init_r2 : List Cond := [Cond.initialized RX4, Cond.instantiable RX5 5, Cond.initialized RX5, Cond.instanceMethod yX6_init, Cond.code yX6_init cX6_init 1 none, Cond.methodLink RX6 3 objectInit, Cond.classLink RX6 9 RX2, Cond.fieldLink RX6 11 "RidingYard$Team" "places" "[LRidingYard$Horse;", Cond.instanceMethod yX4_init, Cond.code yX4_init cX4_init 1 none, Cond.methodLink RX4 3 objectInit, Cond.fieldLink RX4 9 "RidingYard$Ledger" "ints" "[I", Cond.instanceMethod yX5_init, Cond.code yX5_init cX5_init 1 none, Cond.methodLink RX5 3 objectInit, Cond.classLink RX5 9 "[[I", Cond.fieldLink RX5 11 "RidingYard$Table" "rows" "[[I", Cond.arrayClass .boolean, Cond.fieldLink RX5 16 "RidingYard$Table" "rowThere" "[Z"]
def wsX9_init : List Cond := .code yX9_init cX9_init 2 none :: ((wsX9_init_r1 ++ wsX9_init_r2) ++ wsX90 ++ wsX60 ++ wsX40 ++ wsX50)
def wsX9_within : List Cond := .code yX9_within cX9_within 2 (some .boolean) :: ([])
def wsX9_newHorse_r1 : List Cond := [Cond.classLink RX9 156 RX1, Cond.instantiable RX1 5, Cond.initialized RX1, Cond.classLink RX9 159 RX3, Cond.instantiable RX3 5, Cond.initialized RX3, Cond.classLink RX9 9 RX2, Cond.instantiable RX2 5, Cond.initialized RX2, Cond.methodLink RX9 158 yX1_init, Cond.instanceMethod yX1_init, Cond.code yX1_init cX1_init 2 none, Cond.methodLink RX1 3 yX2_init, Cond.instanceMethod yX2_init, Cond.code yX2_init cX2_init 2 none, Cond.fieldLink RX2 9 "RidingYard$Horse" "strength" "I", Cond.instanceMethod yX8_init, Cond.initialized RX8, Cond.code yX8_init cX8_init 1 none, Cond.methodLink RX8 1 objectInit, Cond.instanceMethod objectInit, Cond.code objectInit ⟨#[0xb1]⟩ 1 none, Cond.methodLink RX9 161 yX3_init, Cond.instanceMethod yX3_init]
def wsX9_newHorse_r2 : List Cond := [Cond.code yX3_init cX3_init 2 none, Cond.methodLink RX3 3 yX1_init, Cond.methodLink RX9 162 yX2_init]
def wsX9_newHorse : List Cond := .code yX9_newHorse cX9_newHorse 2 (some (.object "RidingYard$Horse")) :: ((wsX9_newHorse_r1 ++ wsX9_newHorse_r2) ++ wsX10 ++ wsX30 ++ wsX20)
def wsX9_horse_r1 : List Cond := [Cond.constant RX9 67 (-1000000001), Cond.fieldLink RX9 68 "RidingYard" "horsesMade" "I", Cond.constant RX9 72 (-1000000003), Cond.fieldLink RX9 11 "RidingYard" "stalls" "[LRidingYard$Horse;", Cond.methodLink RX9 63 yX9_within, Cond.static yX9_within, Cond.initialized RX9, Cond.code yX9_within cX9_within 2 (some .boolean), Cond.methodLink RX9 73 yX9_newHorse, Cond.static yX9_newHorse, Cond.code yX9_newHorse cX9_newHorse 2 (some (.object "RidingYard$Horse")), Cond.classLink RX9 156 RX1, Cond.instantiable RX1 5, Cond.initialized RX1, Cond.classLink RX9 159 RX3, Cond.instantiable RX3 5, Cond.initialized RX3, Cond.classLink RX9 9 RX2, Cond.instantiable RX2 5, Cond.initialized RX2, Cond.methodLink RX9 158 yX1_init, Cond.instanceMethod yX1_init, Cond.code yX1_init cX1_init 2 none, Cond.methodLink RX1 3 yX2_init]
def wsX9_horse_r2 : List Cond := [Cond.instanceMethod yX2_init, Cond.code yX2_init cX2_init 2 none, Cond.fieldLink RX2 9 "RidingYard$Horse" "strength" "I", Cond.instanceMethod yX8_init, Cond.initialized RX8, Cond.code yX8_init cX8_init 1 none, Cond.methodLink RX8 1 objectInit, Cond.instanceMethod objectInit, Cond.code objectInit ⟨#[0xb1]⟩ 1 none, Cond.methodLink RX9 161 yX3_init, Cond.instanceMethod yX3_init, Cond.code yX3_init cX3_init 2 none, Cond.methodLink RX3 3 yX1_init, Cond.methodLink RX9 162 yX2_init]
def wsX9_horse : List Cond := .code yX9_horse cX9_horse 4 (some .int) :: ((wsX9_horse_r1 ++ wsX9_horse_r2) ++ wsX90 ++ wsX10 ++ wsX30 ++ wsX20)
def wsX9_wagon : List Cond := .code yX9_wagon cX9_wagon 3 (some .int) :: ([.constant RX9 67 (-1000000001), .fieldLink RX9 77 "RidingYard" "wagonsMade" "I", .constant RX9 72 (-1000000003), .fieldLink RX9 17 "RidingYard" "sheds" "[LRidingYard$Worker;", .classLink RX9 80 RX7, .instantiable RX7 2, .initialized RX7, .methodLink RX9 63 yX9_within, .static yX9_within, .initialized RX9, .code yX9_within cX9_within 2 (some .boolean), .methodLink RX9 82 yX7_init, .instanceMethod yX7_init, .code yX7_init cX7_init 2 none, .fieldLink RX7 7 "RidingYard$Wagon" "load" "I", .instanceMethod yX8_init, .initialized RX8, .code yX8_init cX8_init 1 none, .methodLink RX8 1 objectInit, .instanceMethod objectInit, .code objectInit ⟨#[0xb1]⟩ 1 none] ++ wsX90 ++ wsX70)
def wsX9_oneIf : List Cond := .code yX9_oneIf cX9_oneIf 1 (some .int) :: ([])
def wsX9_lead : List Cond := .code yX9_lead cX9_lead 3 (some .int) :: ([.constant RX9 67 (-1000000001), .fieldLink RX9 17 "RidingYard" "sheds" "[LRidingYard$Worker;", .fieldLink RX9 11 "RidingYard" "stalls" "[LRidingYard$Horse;", .methodLink RX9 63 yX9_within, .static yX9_within, .initialized RX9, .code yX9_within cX9_within 2 (some .boolean), .methodLink RX9 85 yX9_oneIf, .static yX9_oneIf, .code yX9_oneIf cX9_oneIf 1 (some .int)] ++ wsX90)
def wsX9_holdsSomething : List Cond := .code yX9_holdsSomething cX9_holdsSomething 3 (some .boolean) :: ([.fieldLink RX9 11 "RidingYard" "stalls" "[LRidingYard$Horse;", .fieldLink RX9 17 "RidingYard" "sheds" "[LRidingYard$Worker;", .fieldLink RX9 23 "RidingYard" "teams" "[LRidingYard$Team;", .fieldLink RX9 163 "RidingYard$Team" "there" "Z", .fieldLink RX9 29 "RidingYard" "ledgers" "[LRidingYard$Ledger;", .fieldLink RX9 164 "RidingYard$Ledger" "there" "Z", .fieldLink RX9 35 "RidingYard" "tables" "[LRidingYard$Table;", .fieldLink RX9 99 "RidingYard$Table" "there" "Z", .fieldLink RX9 41 "RidingYard" "hooks" "[LRidingYard$Alarm;"] ++ wsX90 ++ wsX60 ++ wsX40 ++ wsX50)
def wsX9_takeAway : List Cond := .code yX9_takeAway cX9_takeAway 3 none :: ([.fieldLink RX9 11 "RidingYard" "stalls" "[LRidingYard$Horse;", .fieldLink RX9 17 "RidingYard" "sheds" "[LRidingYard$Worker;", .fieldLink RX9 23 "RidingYard" "teams" "[LRidingYard$Team;", .fieldLink RX9 163 "RidingYard$Team" "there" "Z", .fieldLink RX9 29 "RidingYard" "ledgers" "[LRidingYard$Ledger;", .fieldLink RX9 164 "RidingYard$Ledger" "there" "Z", .fieldLink RX9 35 "RidingYard" "tables" "[LRidingYard$Table;", .fieldLink RX9 99 "RidingYard$Table" "there" "Z", .fieldLink RX9 41 "RidingYard" "hooks" "[LRidingYard$Alarm;"] ++ wsX90 ++ wsX60 ++ wsX40 ++ wsX50)
def wsX9_empty_r1 : List Cond := [Cond.fieldLink RX9 89 "RidingYard" "PLACES_OF_SORT" "[I", Cond.constant RX9 67 (-1000000001), Cond.methodLink RX9 63 yX9_within, Cond.static yX9_within, Cond.initialized RX9, Cond.code yX9_within cX9_within 2 (some .boolean), Cond.methodLink RX9 92 yX9_holdsSomething, Cond.instanceMethod yX9_holdsSomething, Cond.selects RX9 yX9_holdsSomething yX9_holdsSomething, Cond.code yX9_holdsSomething cX9_holdsSomething 3 (some .boolean), Cond.fieldLink RX9 11 "RidingYard" "stalls" "[LRidingYard$Horse;", Cond.fieldLink RX9 17 "RidingYard" "sheds" "[LRidingYard$Worker;", Cond.fieldLink RX9 23 "RidingYard" "teams" "[LRidingYard$Team;", Cond.fieldLink RX9 163 "RidingYard$Team" "there" "Z", Cond.fieldLink RX9 29 "RidingYard" "ledgers" "[LRidingYard$Ledger;", Cond.fieldLink RX9 164 "RidingYard$Ledger" "there" "Z", Cond.fieldLink RX9 35 "RidingYard" "tables" "[LRidingYard$Table;", Cond.fieldLink RX9 99 "RidingYard$Table" "there" "Z", Cond.fieldLink RX9 41 "RidingYard" "hooks" "[LRidingYard$Alarm;", Cond.methodLink RX9 95 yX9_takeAway, Cond.instanceMethod yX9_takeAway, Cond.selects RX9 yX9_takeAway yX9_takeAway, Cond.code yX9_takeAway cX9_takeAway 3 none, Cond.methodLink RX9 85 yX9_oneIf]
def wsX9_empty_r2 : List Cond := [Cond.static yX9_oneIf, Cond.code yX9_oneIf cX9_oneIf 1 (some .int)]
def wsX9_empty : List Cond := .code yX9_empty cX9_empty 4 (some .int) :: ((wsX9_empty_r1 ++ wsX9_empty_r2) ++ wsX90 ++ wsX60 ++ wsX40 ++ wsX50)
def wsX9_tear : List Cond := .code yX9_tear cX9_tear 5 (some .int) :: ([.constant RX9 67 (-1000000001), .fieldLink RX9 35 "RidingYard" "tables" "[LRidingYard$Table;", .fieldLink RX9 99 "RidingYard$Table" "there" "Z", .fieldLink RX9 103 "RidingYard$Table" "height" "I", .fieldLink RX9 106 "RidingYard$Table" "rowThere" "[Z", .methodLink RX9 63 yX9_within, .static yX9_within, .initialized RX9, .code yX9_within cX9_within 2 (some .boolean), .methodLink RX9 85 yX9_oneIf, .static yX9_oneIf, .code yX9_oneIf cX9_oneIf 1 (some .int)] ++ wsX90 ++ wsX50)
def wsX9_hang : List Cond := .code yX9_hang cX9_hang 3 (some .int) :: ([.constant RX9 67 (-1000000001), .fieldLink RX9 110 "RidingYard" "alarmsMade" "I", .constant RX9 72 (-1000000003), .fieldLink RX9 41 "RidingYard" "hooks" "[LRidingYard$Alarm;", .classLink RX9 39 RX0, .instantiable RX0 1, .initialized RX0, .methodLink RX9 63 yX9_within, .static yX9_within, .initialized RX9, .code yX9_within cX9_within 2 (some .boolean), .methodLink RX9 113 yX0_init, .instanceMethod yX0_init, .code yX0_init cX0_init 2 none, .methodLink RX0 1 objectInit, .instanceMethod objectInit, .code objectInit ⟨#[0xb1]⟩ 1 none, .fieldLink RX0 7 "RidingYard$Alarm" "number" "I"] ++ wsX90 ++ wsX00)
def wsJ9_floorMod_7cf53 : List Cond := .code yJ9_floorMod_7cf53 cJ9_floorMod_7cf53 3 (some .int) :: ([])
def wsX9_horseAt : List Cond := .code yX9_horseAt cX9_horseAt 2 (some (.object "RidingYard$Horse")) :: ([.fieldLink RX9 11 "RidingYard" "stalls" "[LRidingYard$Horse;", .methodLink RX9 224 yJ9_floorMod_7cf53, .static yJ9_floorMod_7cf53, .initialized RJ9, .code yJ9_floorMod_7cf53 cJ9_floorMod_7cf53 3 (some .int)] ++ wsX90)
def wsX9_comeTo : List Cond := .code yX9_comeTo cX9_comeTo 2 (some .int) :: ([.fieldLink RX9 118 "RidingYard" "cameTo" "I"] ++ wsX90)
def wsX9_feedHorse : List Cond := .code yX9_feedHorse cX9_feedHorse 4 (some .int) :: ([.fieldLink RX9 143 "RidingYard$Horse" "fed" "I", .methodLink RX9 227 yX9_horseAt, .instanceMethod yX9_horseAt, .selects RX9 yX9_horseAt yX9_horseAt, .initialized RX9, .code yX9_horseAt cX9_horseAt 2 (some (.object "RidingYard$Horse")), .fieldLink RX9 11 "RidingYard" "stalls" "[LRidingYard$Horse;", .methodLink RX9 224 yJ9_floorMod_7cf53, .static yJ9_floorMod_7cf53, .initialized RJ9, .code yJ9_floorMod_7cf53 cJ9_floorMod_7cf53 3 (some .int), .methodLink RX9 231 yX9_comeTo, .instanceMethod yX9_comeTo, .selects RX9 yX9_comeTo yX9_comeTo, .code yX9_comeTo cX9_comeTo 2 (some .int), .fieldLink RX9 118 "RidingYard" "cameTo" "I"] ++ wsX10 ++ wsX20 ++ wsX30 ++ wsX90)
def wsX9_askStrength : List Cond := .code yX9_askStrength cX9_askStrength 3 (some .int) :: ([.fieldLink RX9 140 "RidingYard$Horse" "strength" "I", .methodLink RX9 227 yX9_horseAt, .instanceMethod yX9_horseAt, .selects RX9 yX9_horseAt yX9_horseAt, .initialized RX9, .code yX9_horseAt cX9_horseAt 2 (some (.object "RidingYard$Horse")), .fieldLink RX9 11 "RidingYard" "stalls" "[LRidingYard$Horse;", .methodLink RX9 224 yJ9_floorMod_7cf53, .static yJ9_floorMod_7cf53, .initialized RJ9, .code yJ9_floorMod_7cf53 cJ9_floorMod_7cf53 3 (some .int), .methodLink RX9 231 yX9_comeTo, .instanceMethod yX9_comeTo, .selects RX9 yX9_comeTo yX9_comeTo, .code yX9_comeTo cX9_comeTo 2 (some .int), .fieldLink RX9 118 "RidingYard" "cameTo" "I"] ++ wsX10 ++ wsX20 ++ wsX30 ++ wsX90)
def wsX9_coverHorse : List Cond := .code yX9_coverHorse cX9_coverHorse 4 (some .int) :: ([.fieldLink RX9 146 "RidingYard$Horse" "rug" "I", .methodLink RX9 227 yX9_horseAt, .instanceMethod yX9_horseAt, .selects RX9 yX9_horseAt yX9_horseAt, .initialized RX9, .code yX9_horseAt cX9_horseAt 2 (some (.object "RidingYard$Horse")), .fieldLink RX9 11 "RidingYard" "stalls" "[LRidingYard$Horse;", .methodLink RX9 224 yJ9_floorMod_7cf53, .static yJ9_floorMod_7cf53, .initialized RJ9, .code yJ9_floorMod_7cf53 cJ9_floorMod_7cf53 3 (some .int), .methodLink RX9 231 yX9_comeTo, .instanceMethod yX9_comeTo, .selects RX9 yX9_comeTo yX9_comeTo, .code yX9_comeTo cX9_comeTo 2 (some .int), .fieldLink RX9 118 "RidingYard" "cameTo" "I"] ++ wsX10 ++ wsX20 ++ wsX30 ++ wsX90)
def wsX9_groomHorse_r1 : List Cond := [Cond.methodLink RX9 227 yX9_horseAt, Cond.instanceMethod yX9_horseAt, Cond.selects RX9 yX9_horseAt yX9_horseAt, Cond.initialized RX9, Cond.code yX9_horseAt cX9_horseAt 2 (some (.object "RidingYard$Horse")), Cond.fieldLink RX9 11 "RidingYard" "stalls" "[LRidingYard$Horse;", Cond.methodLink RX9 224 yJ9_floorMod_7cf53, Cond.static yJ9_floorMod_7cf53, Cond.initialized RJ9, Cond.code yJ9_floorMod_7cf53 cJ9_floorMod_7cf53 3 (some .int), Cond.methodLink RX9 234 ⟨"RidingYard$Horse", "groom", "()I"⟩, Cond.sameMethod "RidingYard$Horse" "RidingYard$Horse" "groom" "()I", Cond.instanceMethod ⟨"RidingYard$Horse", "groom", "()I"⟩, Cond.selects RX1 ⟨"RidingYard$Horse", "groom", "()I"⟩ yX1_groom, Cond.instanceMethod yX1_groom, Cond.initialized RX1, Cond.code yX1_groom cX1_groom 1 (some .int), Cond.fieldLink RX1 9 "RidingYard$Cob" "groomed" "I", Cond.sameField "RidingYard$Cob" "RidingYard$Horse" "groomed" "I", Cond.code yX2_groom cX2_groom 1 (some .int), Cond.methodLink RX9 234 yX2_groom, Cond.instanceMethod yX2_groom, Cond.selects RX2 yX2_groom yX2_groom, Cond.initialized RX2]
def wsX9_groomHorse_r2 : List Cond := [Cond.fieldLink RX2 15 "RidingYard$Horse" "groomed" "I", Cond.selects RX3 ⟨"RidingYard$Horse", "groom", "()I"⟩ yX3_groom, Cond.instanceMethod yX3_groom, Cond.initialized RX3, Cond.code yX3_groom cX3_groom 1 (some .int), Cond.fieldLink RX3 9 "RidingYard$Hunter" "rug" "I", Cond.sameField "RidingYard$Hunter" "RidingYard$Horse" "rug" "I", Cond.methodLink RX3 15 yX1_groom, Cond.sameMethod "RidingYard$Cob" "RidingYard$Cob" "groom" "()I", Cond.superclass RX3 RX1, Cond.methodLink RX9 231 yX9_comeTo, Cond.instanceMethod yX9_comeTo, Cond.selects RX9 yX9_comeTo yX9_comeTo, Cond.code yX9_comeTo cX9_comeTo 2 (some .int), Cond.fieldLink RX9 118 "RidingYard" "cameTo" "I"]
def wsX9_groomHorse : List Cond := .code yX9_groomHorse cX9_groomHorse 3 (some .int) :: ((wsX9_groomHorse_r1 ++ wsX9_groomHorse_r2) ++ wsX90 ++ wsX10 ++ wsX20 ++ wsX30)
def wsX9_workerAt : List Cond := .code yX9_workerAt cX9_workerAt 2 (some (.object "RidingYard$Worker")) :: ([.fieldLink RX9 17 "RidingYard" "sheds" "[LRidingYard$Worker;", .methodLink RX9 224 yJ9_floorMod_7cf53, .static yJ9_floorMod_7cf53, .initialized RJ9, .code yJ9_floorMod_7cf53 cJ9_floorMod_7cf53 3 (some .int)] ++ wsX90)
def wsX9_workInShed_r1 : List Cond := [Cond.methodLink RX9 237 yX9_workerAt, Cond.instanceMethod yX9_workerAt, Cond.selects RX9 yX9_workerAt yX9_workerAt, Cond.initialized RX9, Cond.code yX9_workerAt cX9_workerAt 2 (some (.object "RidingYard$Worker")), Cond.fieldLink RX9 17 "RidingYard" "sheds" "[LRidingYard$Worker;", Cond.methodLink RX9 224 yJ9_floorMod_7cf53, Cond.static yJ9_floorMod_7cf53, Cond.initialized RJ9, Cond.code yJ9_floorMod_7cf53 cJ9_floorMod_7cf53 3 (some .int), Cond.methodLink RX9 241 ⟨"RidingYard$Worker", "workFor", "(I)I"⟩, Cond.sameMethod "RidingYard$Worker" "RidingYard$Worker" "workFor" "(I)I", Cond.selects RX1 ⟨"RidingYard$Worker", "workFor", "(I)I"⟩ yX1_workFor, Cond.instanceMethod yX1_workFor, Cond.initialized RX1, Cond.code yX1_workFor cX1_workFor 2 (some .int), Cond.fieldLink RX1 15 "RidingYard$Cob" "tired" "I", Cond.sameField "RidingYard$Cob" "RidingYard$Horse" "tired" "I", Cond.selects RX2 ⟨"RidingYard$Worker", "workFor", "(I)I"⟩ yX2_workFor, Cond.instanceMethod yX2_workFor, Cond.initialized RX2, Cond.code yX2_workFor cX2_workFor 2 (some .int), Cond.fieldLink RX2 18 "RidingYard$Horse" "tired" "I", Cond.selects RX3 ⟨"RidingYard$Worker", "workFor", "(I)I"⟩ yX3_workFor]
def wsX9_workInShed_r2 : List Cond := [Cond.instanceMethod yX3_workFor, Cond.initialized RX3, Cond.code yX3_workFor cX3_workFor 2 (some .int), Cond.fieldLink RX3 23 "RidingYard$Hunter" "tired" "I", Cond.sameField "RidingYard$Hunter" "RidingYard$Horse" "tired" "I", Cond.methodLink RX3 19 yX1_workFor, Cond.sameMethod "RidingYard$Cob" "RidingYard$Cob" "workFor" "(I)I", Cond.superclass RX3 RX1, Cond.selects RX7 ⟨"RidingYard$Worker", "workFor", "(I)I"⟩ yX7_workFor, Cond.instanceMethod yX7_workFor, Cond.initialized RX7, Cond.code yX7_workFor cX7_workFor 2 (some .int), Cond.fieldLink RX7 13 "RidingYard$Wagon" "worn" "I", Cond.fieldLink RX7 7 "RidingYard$Wagon" "load" "I", Cond.methodLink RX9 231 yX9_comeTo, Cond.instanceMethod yX9_comeTo, Cond.selects RX9 yX9_comeTo yX9_comeTo, Cond.code yX9_comeTo cX9_comeTo 2 (some .int), Cond.fieldLink RX9 118 "RidingYard" "cameTo" "I"]
def wsX9_workInShed : List Cond := .code yX9_workInShed cX9_workInShed 4 (some .int) :: ((wsX9_workInShed_r1 ++ wsX9_workInShed_r2) ++ wsX90 ++ wsX10 ++ wsX20 ++ wsX30 ++ wsX70)
def wsX9_askStrengthInShed : List Cond := .code yX9_askStrengthInShed cX9_askStrengthInShed 4 (some .int) :: ([.classLink RX9 9 "RidingYard$Horse", .fieldLink RX9 140 "RidingYard$Horse" "strength" "I", .methodLink RX9 237 yX9_workerAt, .instanceMethod yX9_workerAt, .selects RX9 yX9_workerAt yX9_workerAt, .initialized RX9, .code yX9_workerAt cX9_workerAt 2 (some (.object "RidingYard$Worker")), .fieldLink RX9 17 "RidingYard" "sheds" "[LRidingYard$Worker;", .methodLink RX9 224 yJ9_floorMod_7cf53, .static yJ9_floorMod_7cf53, .initialized RJ9, .code yJ9_floorMod_7cf53 cJ9_floorMod_7cf53 3 (some .int), .methodLink RX9 231 yX9_comeTo, .instanceMethod yX9_comeTo, .selects RX9 yX9_comeTo yX9_comeTo, .code yX9_comeTo cX9_comeTo 2 (some .int), .fieldLink RX9 118 "RidingYard" "cameTo" "I"] ++ wsX10 ++ wsX20 ++ wsX30 ++ wsX90)
def wsX9_askRugOfHunter : List Cond := .code yX9_askRugOfHunter cX9_askRugOfHunter 3 (some .int) :: ([.classLink RX9 159 "RidingYard$Hunter", .fieldLink RX9 146 "RidingYard$Horse" "rug" "I", .methodLink RX9 227 yX9_horseAt, .instanceMethod yX9_horseAt, .selects RX9 yX9_horseAt yX9_horseAt, .initialized RX9, .code yX9_horseAt cX9_horseAt 2 (some (.object "RidingYard$Horse")), .fieldLink RX9 11 "RidingYard" "stalls" "[LRidingYard$Horse;", .methodLink RX9 224 yJ9_floorMod_7cf53, .static yJ9_floorMod_7cf53, .initialized RJ9, .code yJ9_floorMod_7cf53 cJ9_floorMod_7cf53 3 (some .int), .methodLink RX9 231 yX9_comeTo, .instanceMethod yX9_comeTo, .selects RX9 yX9_comeTo yX9_comeTo, .code yX9_comeTo cX9_comeTo 2 (some .int), .fieldLink RX9 118 "RidingYard" "cameTo" "I"] ++ wsX10 ++ wsX20 ++ wsX30 ++ wsX90)
def wsX9_teamAt : List Cond := .code yX9_teamAt cX9_teamAt 2 (some (.object "RidingYard$Team")) :: ([.fieldLink RX9 23 "RidingYard" "teams" "[LRidingYard$Team;", .methodLink RX9 224 yJ9_floorMod_7cf53, .static yJ9_floorMod_7cf53, .initialized RJ9, .code yJ9_floorMod_7cf53 cJ9_floorMod_7cf53 3 (some .int)] ++ wsX90)
def wsX9_formTeam_r1 : List Cond := [Cond.methodLink RX9 130 Lib.Math.min.name, Cond.static Lib.Math.min.name, Cond.initialized "java/lang/Math", Cond.code Lib.Math.min.name Lib.Math.min.code 2 (some .int), Cond.methodLink RX9 244 yX9_teamAt, Cond.instanceMethod yX9_teamAt, Cond.selects RX9 yX9_teamAt yX9_teamAt, Cond.initialized RX9, Cond.code yX9_teamAt cX9_teamAt 2 (some (.object "RidingYard$Team")), Cond.fieldLink RX9 23 "RidingYard" "teams" "[LRidingYard$Team;", Cond.methodLink RX9 224 yJ9_floorMod_7cf53, Cond.static yJ9_floorMod_7cf53, Cond.initialized RJ9, Cond.code yJ9_floorMod_7cf53 cJ9_floorMod_7cf53 3 (some .int), Cond.methodLink RX9 248 yX6_form, Cond.instanceMethod yX6_form, Cond.selects RX6 yX6_form yX6_form, Cond.initialized RX6, Cond.code yX6_form cX6_form 4 none, Cond.fieldLink RX6 17 "RidingYard$Team" "there" "Z", Cond.fieldLink RX6 21 "RidingYard$Team" "kind" "I", Cond.fieldLink RX6 25 "RidingYard$Team" "size" "I", Cond.fieldLink RX6 11 "RidingYard$Team" "places" "[LRidingYard$Horse;", Cond.methodLink RX9 231 yX9_comeTo]
def wsX9_formTeam_r2 : List Cond := [Cond.instanceMethod yX9_comeTo, Cond.selects RX9 yX9_comeTo yX9_comeTo, Cond.code yX9_comeTo cX9_comeTo 2 (some .int), Cond.fieldLink RX9 118 "RidingYard" "cameTo" "I"]
def wsX9_formTeam : List Cond := .code yX9_formTeam cX9_formTeam 5 (some .int) :: ((wsX9_formTeam_r1 ++ wsX9_formTeam_r2) ++ wsX90 ++ wsX60)
def wsX9_putInTeam_r1 : List Cond := [Cond.fieldLink RX9 163 "RidingYard$Team" "there" "Z", Cond.fieldLink RX9 251 "RidingYard$Team" "size" "I", Cond.fieldLink RX9 258 "RidingYard$Team" "places" "[LRidingYard$Horse;", Cond.methodLink RX9 244 yX9_teamAt, Cond.instanceMethod yX9_teamAt, Cond.selects RX9 yX9_teamAt yX9_teamAt, Cond.initialized RX9, Cond.code yX9_teamAt cX9_teamAt 2 (some (.object "RidingYard$Team")), Cond.fieldLink RX9 23 "RidingYard" "teams" "[LRidingYard$Team;", Cond.methodLink RX9 224 yJ9_floorMod_7cf53, Cond.static yJ9_floorMod_7cf53, Cond.initialized RJ9, Cond.code yJ9_floorMod_7cf53 cJ9_floorMod_7cf53 3 (some .int), Cond.methodLink RX9 63 yX9_within, Cond.static yX9_within, Cond.code yX9_within cX9_within 2 (some .boolean), Cond.methodLink RX9 227 yX9_horseAt, Cond.instanceMethod yX9_horseAt, Cond.selects RX9 yX9_horseAt yX9_horseAt, Cond.code yX9_horseAt cX9_horseAt 2 (some (.object "RidingYard$Horse")), Cond.fieldLink RX9 11 "RidingYard" "stalls" "[LRidingYard$Horse;", Cond.methodLink RX9 254 yX6_isFor, Cond.instanceMethod yX6_isFor, Cond.selects RX6 yX6_isFor yX6_isFor]
def wsX9_putInTeam_r2 : List Cond := [Cond.initialized RX6, Cond.code yX6_isFor cX6_isFor 2 (some .boolean), Cond.fieldLink RX6 21 "RidingYard$Team" "kind" "I", Cond.methodLink RX6 28 ⟨"RidingYard$Horse", "kindNumber", "()I"⟩, Cond.sameMethod "RidingYard$Horse" "RidingYard$Horse" "kindNumber" "()I", Cond.instanceMethod ⟨"RidingYard$Horse", "kindNumber", "()I"⟩, Cond.selects RX1 ⟨"RidingYard$Horse", "kindNumber", "()I"⟩ yX1_kindNumber, Cond.instanceMethod yX1_kindNumber, Cond.initialized RX1, Cond.code yX1_kindNumber cX1_kindNumber 1 (some .int), Cond.code yX2_kindNumber cX2_kindNumber 1 (some .int), Cond.methodLink RX6 28 yX2_kindNumber, Cond.instanceMethod yX2_kindNumber, Cond.selects RX2 yX2_kindNumber yX2_kindNumber, Cond.initialized RX2, Cond.selects RX3 ⟨"RidingYard$Horse", "kindNumber", "()I"⟩ yX3_kindNumber, Cond.instanceMethod yX3_kindNumber, Cond.initialized RX3, Cond.code yX3_kindNumber cX3_kindNumber 1 (some .int), Cond.methodLink RX9 231 yX9_comeTo, Cond.instanceMethod yX9_comeTo, Cond.selects RX9 yX9_comeTo yX9_comeTo, Cond.code yX9_comeTo cX9_comeTo 2 (some .int), Cond.fieldLink RX9 118 "RidingYard" "cameTo" "I"]
def wsX9_putInTeam : List Cond := .code yX9_putInTeam cX9_putInTeam 6 (some .int) :: ((wsX9_putInTeam_r1 ++ wsX9_putInTeam_r2) ++ wsX60 ++ wsX90)
def wsX9_takeFromTeam_r1 : List Cond := [Cond.fieldLink RX9 163 "RidingYard$Team" "there" "Z", Cond.fieldLink RX9 251 "RidingYard$Team" "size" "I", Cond.fieldLink RX9 258 "RidingYard$Team" "places" "[LRidingYard$Horse;", Cond.fieldLink RX9 11 "RidingYard" "stalls" "[LRidingYard$Horse;", Cond.methodLink RX9 244 yX9_teamAt, Cond.instanceMethod yX9_teamAt, Cond.selects RX9 yX9_teamAt yX9_teamAt, Cond.initialized RX9, Cond.code yX9_teamAt cX9_teamAt 2 (some (.object "RidingYard$Team")), Cond.fieldLink RX9 23 "RidingYard" "teams" "[LRidingYard$Team;", Cond.methodLink RX9 224 yJ9_floorMod_7cf53, Cond.static yJ9_floorMod_7cf53, Cond.initialized RJ9, Cond.code yJ9_floorMod_7cf53 cJ9_floorMod_7cf53 3 (some .int), Cond.methodLink RX9 63 yX9_within, Cond.static yX9_within, Cond.code yX9_within cX9_within 2 (some .boolean), Cond.methodLink RX9 85 yX9_oneIf, Cond.static yX9_oneIf, Cond.code yX9_oneIf cX9_oneIf 1 (some .int), Cond.methodLink RX9 231 yX9_comeTo, Cond.instanceMethod yX9_comeTo, Cond.selects RX9 yX9_comeTo yX9_comeTo, Cond.code yX9_comeTo cX9_comeTo 2 (some .int)]
def wsX9_takeFromTeam_r2 : List Cond := [Cond.fieldLink RX9 118 "RidingYard" "cameTo" "I"]
def wsX9_takeFromTeam : List Cond := .code yX9_takeFromTeam cX9_takeFromTeam 6 (some .int) :: ((wsX9_takeFromTeam_r1 ++ wsX9_takeFromTeam_r2) ++ wsX60 ++ wsX90)
def wsX9_askPlaces : List Cond := .code yX9_askPlaces cX9_askPlaces 3 (some .int) :: ([.fieldLink RX9 163 "RidingYard$Team" "there" "Z", .fieldLink RX9 251 "RidingYard$Team" "size" "I", .methodLink RX9 244 yX9_teamAt, .instanceMethod yX9_teamAt, .selects RX9 yX9_teamAt yX9_teamAt, .initialized RX9, .code yX9_teamAt cX9_teamAt 2 (some (.object "RidingYard$Team")), .fieldLink RX9 23 "RidingYard" "teams" "[LRidingYard$Team;", .methodLink RX9 224 yJ9_floorMod_7cf53, .static yJ9_floorMod_7cf53, .initialized RJ9, .code yJ9_floorMod_7cf53 cJ9_floorMod_7cf53 3 (some .int), .methodLink RX9 231 yX9_comeTo, .instanceMethod yX9_comeTo, .selects RX9 yX9_comeTo yX9_comeTo, .code yX9_comeTo cX9_comeTo 2 (some .int), .fieldLink RX9 118 "RidingYard" "cameTo" "I"] ++ wsX60 ++ wsX90)
def wsX9_workTeam_r1 : List Cond := [Cond.fieldLink RX9 163 "RidingYard$Team" "there" "Z", Cond.fieldLink RX9 251 "RidingYard$Team" "size" "I", Cond.fieldLink RX9 258 "RidingYard$Team" "places" "[LRidingYard$Horse;", Cond.methodLink RX9 244 yX9_teamAt, Cond.instanceMethod yX9_teamAt, Cond.selects RX9 yX9_teamAt yX9_teamAt, Cond.initialized RX9, Cond.code yX9_teamAt cX9_teamAt 2 (some (.object "RidingYard$Team")), Cond.fieldLink RX9 23 "RidingYard" "teams" "[LRidingYard$Team;", Cond.methodLink RX9 224 yJ9_floorMod_7cf53, Cond.static yJ9_floorMod_7cf53, Cond.initialized RJ9, Cond.code yJ9_floorMod_7cf53 cJ9_floorMod_7cf53 3 (some .int), Cond.methodLink RX9 261 ⟨"RidingYard$Horse", "workFor", "(I)I"⟩, Cond.sameMethod "RidingYard$Horse" "RidingYard$Horse" "workFor" "(I)I", Cond.instanceMethod ⟨"RidingYard$Horse", "workFor", "(I)I"⟩, Cond.selects RX1 ⟨"RidingYard$Horse", "workFor", "(I)I"⟩ yX1_workFor, Cond.instanceMethod yX1_workFor, Cond.initialized RX1, Cond.code yX1_workFor cX1_workFor 2 (some .int), Cond.fieldLink RX1 15 "RidingYard$Cob" "tired" "I", Cond.sameField "RidingYard$Cob" "RidingYard$Horse" "tired" "I", Cond.code yX2_workFor cX2_workFor 2 (some .int), Cond.methodLink RX9 261 yX2_workFor]
def wsX9_workTeam_r2 : List Cond := [Cond.instanceMethod yX2_workFor, Cond.selects RX2 yX2_workFor yX2_workFor, Cond.initialized RX2, Cond.fieldLink RX2 18 "RidingYard$Horse" "tired" "I", Cond.selects RX3 ⟨"RidingYard$Horse", "workFor", "(I)I"⟩ yX3_workFor, Cond.instanceMethod yX3_workFor, Cond.initialized RX3, Cond.code yX3_workFor cX3_workFor 2 (some .int), Cond.fieldLink RX3 23 "RidingYard$Hunter" "tired" "I", Cond.sameField "RidingYard$Hunter" "RidingYard$Horse" "tired" "I", Cond.methodLink RX3 19 yX1_workFor, Cond.sameMethod "RidingYard$Cob" "RidingYard$Cob" "workFor" "(I)I", Cond.superclass RX3 RX1, Cond.methodLink RX9 231 yX9_comeTo, Cond.instanceMethod yX9_comeTo, Cond.selects RX9 yX9_comeTo yX9_comeTo, Cond.code yX9_comeTo cX9_comeTo 2 (some .int), Cond.fieldLink RX9 118 "RidingYard" "cameTo" "I"]
def wsX9_workTeam : List Cond := .code yX9_workTeam cX9_workTeam 7 (some .int) :: ((wsX9_workTeam_r1 ++ wsX9_workTeam_r2) ++ wsX60 ++ wsX90 ++ wsX10 ++ wsX20 ++ wsX30)
def wsX9_ledgerAt : List Cond := .code yX9_ledgerAt cX9_ledgerAt 2 (some (.object "RidingYard$Ledger")) :: ([.fieldLink RX9 29 "RidingYard" "ledgers" "[LRidingYard$Ledger;", .methodLink RX9 224 yJ9_floorMod_7cf53, .static yJ9_floorMod_7cf53, .initialized RJ9, .code yJ9_floorMod_7cf53 cJ9_floorMod_7cf53 3 (some .int)] ++ wsX90)
def wsX9_openLedger_r1 : List Cond := [Cond.methodLink RX9 130 Lib.Math.min.name, Cond.static Lib.Math.min.name, Cond.initialized "java/lang/Math", Cond.code Lib.Math.min.name Lib.Math.min.code 2 (some .int), Cond.methodLink RX9 262 yX9_ledgerAt, Cond.instanceMethod yX9_ledgerAt, Cond.selects RX9 yX9_ledgerAt yX9_ledgerAt, Cond.initialized RX9, Cond.code yX9_ledgerAt cX9_ledgerAt 2 (some (.object "RidingYard$Ledger")), Cond.fieldLink RX9 29 "RidingYard" "ledgers" "[LRidingYard$Ledger;", Cond.methodLink RX9 224 yJ9_floorMod_7cf53, Cond.static yJ9_floorMod_7cf53, Cond.initialized RJ9, Cond.code yJ9_floorMod_7cf53 cJ9_floorMod_7cf53 3 (some .int), Cond.methodLink RX9 266 yX4_open, Cond.instanceMethod yX4_open, Cond.selects RX4 yX4_open yX4_open, Cond.initialized RX4, Cond.code yX4_open cX4_open 2 none, Cond.fieldLink RX4 15 "RidingYard$Ledger" "there" "Z", Cond.fieldLink RX4 19 "RidingYard$Ledger" "size" "I", Cond.fieldLink RX4 9 "RidingYard$Ledger" "ints" "[I", Cond.methodLink RX4 23 yJ7_fill_53178, Cond.static yJ7_fill_53178]
def wsX9_openLedger_r2 : List Cond := [Cond.initialized RJ7, Cond.code yJ7_fill_53178 cJ7_fill_53178 4 none, Cond.methodLink RX9 231 yX9_comeTo, Cond.instanceMethod yX9_comeTo, Cond.selects RX9 yX9_comeTo yX9_comeTo, Cond.code yX9_comeTo cX9_comeTo 2 (some .int), Cond.fieldLink RX9 118 "RidingYard" "cameTo" "I"]
def wsX9_openLedger : List Cond := .code yX9_openLedger cX9_openLedger 4 (some .int) :: ((wsX9_openLedger_r1 ++ wsX9_openLedger_r2) ++ wsX90 ++ wsX40)
def wsX9_addInLedger : List Cond := .code yX9_addInLedger cX9_addInLedger 5 (some .int) :: ([.fieldLink RX9 164 "RidingYard$Ledger" "there" "Z", .fieldLink RX9 269 "RidingYard$Ledger" "size" "I", .fieldLink RX9 270 "RidingYard$Ledger" "ints" "[I", .methodLink RX9 262 yX9_ledgerAt, .instanceMethod yX9_ledgerAt, .selects RX9 yX9_ledgerAt yX9_ledgerAt, .initialized RX9, .code yX9_ledgerAt cX9_ledgerAt 2 (some (.object "RidingYard$Ledger")), .fieldLink RX9 29 "RidingYard" "ledgers" "[LRidingYard$Ledger;", .methodLink RX9 224 yJ9_floorMod_7cf53, .static yJ9_floorMod_7cf53, .initialized RJ9, .code yJ9_floorMod_7cf53 cJ9_floorMod_7cf53 3 (some .int), .methodLink RX9 63 yX9_within, .static yX9_within, .code yX9_within cX9_within 2 (some .boolean), .methodLink RX9 231 yX9_comeTo, .instanceMethod yX9_comeTo, .selects RX9 yX9_comeTo yX9_comeTo, .code yX9_comeTo cX9_comeTo 2 (some .int), .fieldLink RX9 118 "RidingYard" "cameTo" "I"] ++ wsX40 ++ wsX90)
def wsX9_sumLedger : List Cond := .code yX9_sumLedger cX9_sumLedger 3 (some .int) :: ([.fieldLink RX9 164 "RidingYard$Ledger" "there" "Z", .methodLink RX9 262 yX9_ledgerAt, .instanceMethod yX9_ledgerAt, .selects RX9 yX9_ledgerAt yX9_ledgerAt, .initialized RX9, .code yX9_ledgerAt cX9_ledgerAt 2 (some (.object "RidingYard$Ledger")), .fieldLink RX9 29 "RidingYard" "ledgers" "[LRidingYard$Ledger;", .methodLink RX9 224 yJ9_floorMod_7cf53, .static yJ9_floorMod_7cf53, .initialized RJ9, .code yJ9_floorMod_7cf53 cJ9_floorMod_7cf53 3 (some .int), .methodLink RX9 273 yX4_sum, .instanceMethod yX4_sum, .selects RX4 yX4_sum yX4_sum, .initialized RX4, .code yX4_sum cX4_sum 3 (some .int), .fieldLink RX4 19 "RidingYard$Ledger" "size" "I", .fieldLink RX4 9 "RidingYard$Ledger" "ints" "[I", .methodLink RX9 231 yX9_comeTo, .instanceMethod yX9_comeTo, .selects RX9 yX9_comeTo yX9_comeTo, .code yX9_comeTo cX9_comeTo 2 (some .int), .fieldLink RX9 118 "RidingYard" "cameTo" "I"] ++ wsX40 ++ wsX90)
def wsX9_tableAt : List Cond := .code yX9_tableAt cX9_tableAt 2 (some (.object "RidingYard$Table")) :: ([.fieldLink RX9 35 "RidingYard" "tables" "[LRidingYard$Table;", .methodLink RX9 224 yJ9_floorMod_7cf53, .static yJ9_floorMod_7cf53, .initialized RJ9, .code yJ9_floorMod_7cf53 cJ9_floorMod_7cf53 3 (some .int)] ++ wsX90)
def wsX9_setTable_r1 : List Cond := [Cond.methodLink RX9 130 Lib.Math.min.name, Cond.static Lib.Math.min.name, Cond.initialized "java/lang/Math", Cond.code Lib.Math.min.name Lib.Math.min.code 2 (some .int), Cond.methodLink RX9 276 yX9_tableAt, Cond.instanceMethod yX9_tableAt, Cond.selects RX9 yX9_tableAt yX9_tableAt, Cond.initialized RX9, Cond.code yX9_tableAt cX9_tableAt 2 (some (.object "RidingYard$Table")), Cond.fieldLink RX9 35 "RidingYard" "tables" "[LRidingYard$Table;", Cond.methodLink RX9 224 yJ9_floorMod_7cf53, Cond.static yJ9_floorMod_7cf53, Cond.initialized RJ9, Cond.code yJ9_floorMod_7cf53 cJ9_floorMod_7cf53 3 (some .int), Cond.methodLink RX9 280 yX5_set, Cond.instanceMethod yX5_set, Cond.selects RX5 yX5_set yX5_set, Cond.initialized RX5, Cond.code yX5_set cX5_set 4 none, Cond.fieldLink RX5 20 "RidingYard$Table" "there" "Z", Cond.fieldLink RX5 24 "RidingYard$Table" "height" "I", Cond.fieldLink RX5 28 "RidingYard$Table" "width" "I", Cond.fieldLink RX5 16 "RidingYard$Table" "rowThere" "[Z", Cond.fieldLink RX5 11 "RidingYard$Table" "rows" "[[I"]
def wsX9_setTable_r2 : List Cond := [Cond.methodLink RX5 31 yJ7_fill_53178, Cond.static yJ7_fill_53178, Cond.initialized RJ7, Cond.code yJ7_fill_53178 cJ7_fill_53178 4 none, Cond.methodLink RX9 231 yX9_comeTo, Cond.instanceMethod yX9_comeTo, Cond.selects RX9 yX9_comeTo yX9_comeTo, Cond.code yX9_comeTo cX9_comeTo 2 (some .int), Cond.fieldLink RX9 118 "RidingYard" "cameTo" "I"]
def wsX9_setTable : List Cond := .code yX9_setTable cX9_setTable 4 (some .int) :: ((wsX9_setTable_r1 ++ wsX9_setTable_r2) ++ wsX90 ++ wsX50)
def wsX9_markTable : List Cond := .code yX9_markTable cX9_markTable 5 (some .int) :: ([.fieldLink RX9 99 "RidingYard$Table" "there" "Z", .fieldLink RX9 103 "RidingYard$Table" "height" "I", .fieldLink RX9 106 "RidingYard$Table" "rowThere" "[Z", .fieldLink RX9 283 "RidingYard$Table" "width" "I", .fieldLink RX9 286 "RidingYard$Table" "rows" "[[I", .methodLink RX9 276 yX9_tableAt, .instanceMethod yX9_tableAt, .selects RX9 yX9_tableAt yX9_tableAt, .initialized RX9, .code yX9_tableAt cX9_tableAt 2 (some (.object "RidingYard$Table")), .fieldLink RX9 35 "RidingYard" "tables" "[LRidingYard$Table;", .methodLink RX9 224 yJ9_floorMod_7cf53, .static yJ9_floorMod_7cf53, .initialized RJ9, .code yJ9_floorMod_7cf53 cJ9_floorMod_7cf53 3 (some .int), .methodLink RX9 63 yX9_within, .static yX9_within, .code yX9_within cX9_within 2 (some .boolean), .methodLink RX9 231 yX9_comeTo, .instanceMethod yX9_comeTo, .selects RX9 yX9_comeTo yX9_comeTo, .code yX9_comeTo cX9_comeTo 2 (some .int), .fieldLink RX9 118 "RidingYard" "cameTo" "I"] ++ wsX50 ++ wsX90)
def wsX9_raiseAlarm : List Cond := .code yX9_raiseAlarm cX9_raiseAlarm 3 (some .int) :: ([.fieldLink RX9 41 "RidingYard" "hooks" "[LRidingYard$Alarm;", .fieldLink RX9 289 "RidingYard$Alarm" "number" "I", .fieldLink RX9 118 "RidingYard" "cameTo" "I", .methodLink RX9 224 yJ9_floorMod_7cf53, .static yJ9_floorMod_7cf53, .initialized RJ9, .code yJ9_floorMod_7cf53 cJ9_floorMod_7cf53 3 (some .int)] ++ wsX90 ++ wsX00)
def wsX9_faultOf_r1 : List Cond := [Cond.methodLink RX9 168 yX9_feedHorse, Cond.instanceMethod yX9_feedHorse, Cond.selects RX9 yX9_feedHorse yX9_feedHorse, Cond.initialized RX9, Cond.code yX9_feedHorse cX9_feedHorse 4 (some .int), Cond.fieldLink RX9 143 "RidingYard$Horse" "fed" "I", Cond.methodLink RX9 227 yX9_horseAt, Cond.instanceMethod yX9_horseAt, Cond.selects RX9 yX9_horseAt yX9_horseAt, Cond.code yX9_horseAt cX9_horseAt 2 (some (.object "RidingYard$Horse")), Cond.fieldLink RX9 11 "RidingYard" "stalls" "[LRidingYard$Horse;", Cond.methodLink RX9 224 yJ9_floorMod_7cf53, Cond.static yJ9_floorMod_7cf53, Cond.initialized RJ9, Cond.code yJ9_floorMod_7cf53 cJ9_floorMod_7cf53 3 (some .int), Cond.methodLink RX9 231 yX9_comeTo, Cond.instanceMethod yX9_comeTo, Cond.selects RX9 yX9_comeTo yX9_comeTo, Cond.code yX9_comeTo cX9_comeTo 2 (some .int), Cond.fieldLink RX9 118 "RidingYard" "cameTo" "I", Cond.methodLink RX9 171 yX9_askStrength, Cond.instanceMethod yX9_askStrength, Cond.selects RX9 yX9_askStrength yX9_askStrength, Cond.code yX9_askStrength cX9_askStrength 3 (some .int)]
def wsX9_faultOf_r2 : List Cond := [Cond.fieldLink RX9 140 "RidingYard$Horse" "strength" "I", Cond.methodLink RX9 175 yX9_coverHorse, Cond.instanceMethod yX9_coverHorse, Cond.selects RX9 yX9_coverHorse yX9_coverHorse, Cond.code yX9_coverHorse cX9_coverHorse 4 (some .int), Cond.fieldLink RX9 146 "RidingYard$Horse" "rug" "I", Cond.methodLink RX9 178 yX9_groomHorse, Cond.instanceMethod yX9_groomHorse, Cond.selects RX9 yX9_groomHorse yX9_groomHorse, Cond.code yX9_groomHorse cX9_groomHorse 3 (some .int), Cond.methodLink RX9 234 ⟨"RidingYard$Horse", "groom", "()I"⟩, Cond.sameMethod "RidingYard$Horse" "RidingYard$Horse" "groom" "()I", Cond.instanceMethod ⟨"RidingYard$Horse", "groom", "()I"⟩, Cond.selects RX1 ⟨"RidingYard$Horse", "groom", "()I"⟩ yX1_groom, Cond.instanceMethod yX1_groom, Cond.initialized RX1, Cond.code yX1_groom cX1_groom 1 (some .int), Cond.fieldLink RX1 9 "RidingYard$Cob" "groomed" "I", Cond.sameField "RidingYard$Cob" "RidingYard$Horse" "groomed" "I", Cond.code yX2_groom cX2_groom 1 (some .int), Cond.methodLink RX9 234 yX2_groom, Cond.instanceMethod yX2_groom, Cond.selects RX2 yX2_groom yX2_groom, Cond.initialized RX2]
def wsX9_faultOf_r3 : List Cond := [Cond.fieldLink RX2 15 "RidingYard$Horse" "groomed" "I", Cond.selects RX3 ⟨"RidingYard$Horse", "groom", "()I"⟩ yX3_groom, Cond.instanceMethod yX3_groom, Cond.initialized RX3, Cond.code yX3_groom cX3_groom 1 (some .int), Cond.fieldLink RX3 9 "RidingYard$Hunter" "rug" "I", Cond.sameField "RidingYard$Hunter" "RidingYard$Horse" "rug" "I", Cond.methodLink RX3 15 yX1_groom, Cond.sameMethod "RidingYard$Cob" "RidingYard$Cob" "groom" "()I", Cond.superclass RX3 RX1, Cond.methodLink RX9 181 yX9_workInShed, Cond.instanceMethod yX9_workInShed, Cond.selects RX9 yX9_workInShed yX9_workInShed, Cond.code yX9_workInShed cX9_workInShed 4 (some .int), Cond.methodLink RX9 237 yX9_workerAt, Cond.instanceMethod yX9_workerAt, Cond.selects RX9 yX9_workerAt yX9_workerAt, Cond.code yX9_workerAt cX9_workerAt 2 (some (.object "RidingYard$Worker")), Cond.fieldLink RX9 17 "RidingYard" "sheds" "[LRidingYard$Worker;", Cond.methodLink RX9 241 ⟨"RidingYard$Worker", "workFor", "(I)I"⟩, Cond.sameMethod "RidingYard$Worker" "RidingYard$Worker" "workFor" "(I)I", Cond.selects RX1 ⟨"RidingYard$Worker", "workFor", "(I)I"⟩ yX1_workFor, Cond.instanceMethod yX1_workFor, Cond.code yX1_workFor cX1_workFor 2 (some .int)]
def wsX9_faultOf_r4 : List Cond := [Cond.fieldLink RX1 15 "RidingYard$Cob" "tired" "I", Cond.sameField "RidingYard$Cob" "RidingYard$Horse" "tired" "I", Cond.selects RX2 ⟨"RidingYard$Worker", "workFor", "(I)I"⟩ yX2_workFor, Cond.instanceMethod yX2_workFor, Cond.code yX2_workFor cX2_workFor 2 (some .int), Cond.fieldLink RX2 18 "RidingYard$Horse" "tired" "I", Cond.selects RX3 ⟨"RidingYard$Worker", "workFor", "(I)I"⟩ yX3_workFor, Cond.instanceMethod yX3_workFor, Cond.code yX3_workFor cX3_workFor 2 (some .int), Cond.fieldLink RX3 23 "RidingYard$Hunter" "tired" "I", Cond.sameField "RidingYard$Hunter" "RidingYard$Horse" "tired" "I", Cond.methodLink RX3 19 yX1_workFor, Cond.sameMethod "RidingYard$Cob" "RidingYard$Cob" "workFor" "(I)I", Cond.selects RX7 ⟨"RidingYard$Worker", "workFor", "(I)I"⟩ yX7_workFor, Cond.instanceMethod yX7_workFor, Cond.initialized RX7, Cond.code yX7_workFor cX7_workFor 2 (some .int), Cond.fieldLink RX7 13 "RidingYard$Wagon" "worn" "I", Cond.fieldLink RX7 7 "RidingYard$Wagon" "load" "I", Cond.methodLink RX9 184 yX9_askStrengthInShed, Cond.instanceMethod yX9_askStrengthInShed, Cond.selects RX9 yX9_askStrengthInShed yX9_askStrengthInShed, Cond.code yX9_askStrengthInShed cX9_askStrengthInShed 4 (some .int), Cond.classLink RX9 9 "RidingYard$Horse"]
def wsX9_faultOf_r5 : List Cond := [Cond.methodLink RX9 187 yX9_askRugOfHunter, Cond.instanceMethod yX9_askRugOfHunter, Cond.selects RX9 yX9_askRugOfHunter yX9_askRugOfHunter, Cond.code yX9_askRugOfHunter cX9_askRugOfHunter 3 (some .int), Cond.classLink RX9 159 "RidingYard$Hunter", Cond.methodLink RX9 190 yX9_formTeam, Cond.instanceMethod yX9_formTeam, Cond.selects RX9 yX9_formTeam yX9_formTeam, Cond.code yX9_formTeam cX9_formTeam 5 (some .int), Cond.methodLink RX9 130 Lib.Math.min.name, Cond.static Lib.Math.min.name, Cond.initialized "java/lang/Math", Cond.code Lib.Math.min.name Lib.Math.min.code 2 (some .int), Cond.methodLink RX9 244 yX9_teamAt, Cond.instanceMethod yX9_teamAt, Cond.selects RX9 yX9_teamAt yX9_teamAt, Cond.code yX9_teamAt cX9_teamAt 2 (some (.object "RidingYard$Team")), Cond.fieldLink RX9 23 "RidingYard" "teams" "[LRidingYard$Team;", Cond.methodLink RX9 248 yX6_form, Cond.instanceMethod yX6_form, Cond.selects RX6 yX6_form yX6_form, Cond.initialized RX6, Cond.code yX6_form cX6_form 4 none, Cond.fieldLink RX6 17 "RidingYard$Team" "there" "Z"]
def wsX9_faultOf_r6 : List Cond := [Cond.fieldLink RX6 21 "RidingYard$Team" "kind" "I", Cond.fieldLink RX6 25 "RidingYard$Team" "size" "I", Cond.fieldLink RX6 11 "RidingYard$Team" "places" "[LRidingYard$Horse;", Cond.methodLink RX9 194 yX9_putInTeam, Cond.instanceMethod yX9_putInTeam, Cond.selects RX9 yX9_putInTeam yX9_putInTeam, Cond.code yX9_putInTeam cX9_putInTeam 6 (some .int), Cond.fieldLink RX9 163 "RidingYard$Team" "there" "Z", Cond.fieldLink RX9 251 "RidingYard$Team" "size" "I", Cond.fieldLink RX9 258 "RidingYard$Team" "places" "[LRidingYard$Horse;", Cond.methodLink RX9 63 yX9_within, Cond.static yX9_within, Cond.code yX9_within cX9_within 2 (some .boolean), Cond.methodLink RX9 254 yX6_isFor, Cond.instanceMethod yX6_isFor, Cond.selects RX6 yX6_isFor yX6_isFor, Cond.code yX6_isFor cX6_isFor 2 (some .boolean), Cond.methodLink RX6 28 ⟨"RidingYard$Horse", "kindNumber", "()I"⟩, Cond.sameMethod "RidingYard$Horse" "RidingYard$Horse" "kindNumber" "()I", Cond.instanceMethod ⟨"RidingYard$Horse", "kindNumber", "()I"⟩, Cond.selects RX1 ⟨"RidingYard$Horse", "kindNumber", "()I"⟩ yX1_kindNumber, Cond.instanceMethod yX1_kindNumber, Cond.code yX1_kindNumber cX1_kindNumber 1 (some .int), Cond.code yX2_kindNumber cX2_kindNumber 1 (some .int)]
def wsX9_faultOf_r7 : List Cond := [Cond.methodLink RX6 28 yX2_kindNumber, Cond.instanceMethod yX2_kindNumber, Cond.selects RX2 yX2_kindNumber yX2_kindNumber, Cond.selects RX3 ⟨"RidingYard$Horse", "kindNumber", "()I"⟩ yX3_kindNumber, Cond.instanceMethod yX3_kindNumber, Cond.code yX3_kindNumber cX3_kindNumber 1 (some .int), Cond.methodLink RX9 197 yX9_takeFromTeam, Cond.instanceMethod yX9_takeFromTeam, Cond.selects RX9 yX9_takeFromTeam yX9_takeFromTeam, Cond.code yX9_takeFromTeam cX9_takeFromTeam 6 (some .int), Cond.methodLink RX9 85 yX9_oneIf, Cond.static yX9_oneIf, Cond.code yX9_oneIf cX9_oneIf 1 (some .int), Cond.methodLink RX9 200 yX9_askPlaces, Cond.instanceMethod yX9_askPlaces, Cond.selects RX9 yX9_askPlaces yX9_askPlaces, Cond.code yX9_askPlaces cX9_askPlaces 3 (some .int), Cond.methodLink RX9 203 yX9_workTeam, Cond.instanceMethod yX9_workTeam, Cond.selects RX9 yX9_workTeam yX9_workTeam, Cond.code yX9_workTeam cX9_workTeam 7 (some .int), Cond.methodLink RX9 261 ⟨"RidingYard$Horse", "workFor", "(I)I"⟩, Cond.sameMethod "RidingYard$Horse" "RidingYard$Horse" "workFor" "(I)I", Cond.instanceMethod ⟨"RidingYard$Horse", "workFor", "(I)I"⟩]
def wsX9_faultOf_r8 : List Cond := [Cond.selects RX1 ⟨"RidingYard$Horse", "workFor", "(I)I"⟩ yX1_workFor, Cond.methodLink RX9 261 yX2_workFor, Cond.selects RX2 yX2_workFor yX2_workFor, Cond.selects RX3 ⟨"RidingYard$Horse", "workFor", "(I)I"⟩ yX3_workFor, Cond.methodLink RX9 206 yX9_openLedger, Cond.instanceMethod yX9_openLedger, Cond.selects RX9 yX9_openLedger yX9_openLedger, Cond.code yX9_openLedger cX9_openLedger 4 (some .int), Cond.methodLink RX9 262 yX9_ledgerAt, Cond.instanceMethod yX9_ledgerAt, Cond.selects RX9 yX9_ledgerAt yX9_ledgerAt, Cond.code yX9_ledgerAt cX9_ledgerAt 2 (some (.object "RidingYard$Ledger")), Cond.fieldLink RX9 29 "RidingYard" "ledgers" "[LRidingYard$Ledger;", Cond.methodLink RX9 266 yX4_open, Cond.instanceMethod yX4_open, Cond.selects RX4 yX4_open yX4_open, Cond.initialized RX4, Cond.code yX4_open cX4_open 2 none, Cond.fieldLink RX4 15 "RidingYard$Ledger" "there" "Z", Cond.fieldLink RX4 19 "RidingYard$Ledger" "size" "I", Cond.fieldLink RX4 9 "RidingYard$Ledger" "ints" "[I", Cond.methodLink RX4 23 yJ7_fill_53178, Cond.static yJ7_fill_53178, Cond.initialized RJ7]
def wsX9_faultOf_r9 : List Cond := [Cond.code yJ7_fill_53178 cJ7_fill_53178 4 none, Cond.methodLink RX9 209 yX9_addInLedger, Cond.instanceMethod yX9_addInLedger, Cond.selects RX9 yX9_addInLedger yX9_addInLedger, Cond.code yX9_addInLedger cX9_addInLedger 5 (some .int), Cond.fieldLink RX9 164 "RidingYard$Ledger" "there" "Z", Cond.fieldLink RX9 269 "RidingYard$Ledger" "size" "I", Cond.fieldLink RX9 270 "RidingYard$Ledger" "ints" "[I", Cond.methodLink RX9 212 yX9_sumLedger, Cond.instanceMethod yX9_sumLedger, Cond.selects RX9 yX9_sumLedger yX9_sumLedger, Cond.code yX9_sumLedger cX9_sumLedger 3 (some .int), Cond.methodLink RX9 273 yX4_sum, Cond.instanceMethod yX4_sum, Cond.selects RX4 yX4_sum yX4_sum, Cond.code yX4_sum cX4_sum 3 (some .int), Cond.methodLink RX9 215 yX9_setTable, Cond.instanceMethod yX9_setTable, Cond.selects RX9 yX9_setTable yX9_setTable, Cond.code yX9_setTable cX9_setTable 4 (some .int), Cond.methodLink RX9 276 yX9_tableAt, Cond.instanceMethod yX9_tableAt, Cond.selects RX9 yX9_tableAt yX9_tableAt, Cond.code yX9_tableAt cX9_tableAt 2 (some (.object "RidingYard$Table"))]
def wsX9_faultOf_r10 : List Cond := [Cond.fieldLink RX9 35 "RidingYard" "tables" "[LRidingYard$Table;", Cond.methodLink RX9 280 yX5_set, Cond.instanceMethod yX5_set, Cond.selects RX5 yX5_set yX5_set, Cond.initialized RX5, Cond.code yX5_set cX5_set 4 none, Cond.fieldLink RX5 20 "RidingYard$Table" "there" "Z", Cond.fieldLink RX5 24 "RidingYard$Table" "height" "I", Cond.fieldLink RX5 28 "RidingYard$Table" "width" "I", Cond.fieldLink RX5 16 "RidingYard$Table" "rowThere" "[Z", Cond.fieldLink RX5 11 "RidingYard$Table" "rows" "[[I", Cond.methodLink RX5 31 yJ7_fill_53178, Cond.methodLink RX9 218 yX9_markTable, Cond.instanceMethod yX9_markTable, Cond.selects RX9 yX9_markTable yX9_markTable, Cond.code yX9_markTable cX9_markTable 5 (some .int), Cond.fieldLink RX9 99 "RidingYard$Table" "there" "Z", Cond.fieldLink RX9 103 "RidingYard$Table" "height" "I", Cond.fieldLink RX9 106 "RidingYard$Table" "rowThere" "[Z", Cond.fieldLink RX9 283 "RidingYard$Table" "width" "I", Cond.fieldLink RX9 286 "RidingYard$Table" "rows" "[[I", Cond.methodLink RX9 221 yX9_raiseAlarm, Cond.instanceMethod yX9_raiseAlarm, Cond.selects RX9 yX9_raiseAlarm yX9_raiseAlarm]
def wsX9_faultOf_r11 : List Cond := [Cond.code yX9_raiseAlarm cX9_raiseAlarm 3 (some .int), Cond.fieldLink RX9 41 "RidingYard" "hooks" "[LRidingYard$Alarm;", Cond.fieldLink RX9 289 "RidingYard$Alarm" "number" "I"]
def wsX9_faultOf : List Cond := .code yX9_faultOf cX9_faultOf 5 (some .int) :: ((wsX9_faultOf_r1 ++ (wsX9_faultOf_r2 ++ (wsX9_faultOf_r3 ++ (wsX9_faultOf_r4 ++ (wsX9_faultOf_r5 ++ (wsX9_faultOf_r6 ++ (wsX9_faultOf_r7 ++ (wsX9_faultOf_r8 ++ (wsX9_faultOf_r9 ++ (wsX9_faultOf_r10 ++ wsX9_faultOf_r11)))))))))) ++ wsX10 ++ wsX20 ++ wsX30 ++ wsX90 ++ wsX70 ++ wsX60 ++ wsX40 ++ wsX50 ++ wsX00)
def wsX9_perform_r1 : List Cond := [Cond.fieldLink RX9 57 "RidingYard" "faultsMet" "[I", Cond.methodLink RX9 165 yX9_faultOf, Cond.instanceMethod yX9_faultOf, Cond.selects RX9 yX9_faultOf yX9_faultOf, Cond.initialized RX9, Cond.code yX9_faultOf cX9_faultOf 5 (some .int), Cond.methodLink RX9 168 yX9_feedHorse, Cond.instanceMethod yX9_feedHorse, Cond.selects RX9 yX9_feedHorse yX9_feedHorse, Cond.code yX9_feedHorse cX9_feedHorse 4 (some .int), Cond.fieldLink RX9 143 "RidingYard$Horse" "fed" "I", Cond.methodLink RX9 227 yX9_horseAt, Cond.instanceMethod yX9_horseAt, Cond.selects RX9 yX9_horseAt yX9_horseAt, Cond.code yX9_horseAt cX9_horseAt 2 (some (.object "RidingYard$Horse")), Cond.fieldLink RX9 11 "RidingYard" "stalls" "[LRidingYard$Horse;", Cond.methodLink RX9 224 yJ9_floorMod_7cf53, Cond.static yJ9_floorMod_7cf53, Cond.initialized RJ9, Cond.code yJ9_floorMod_7cf53 cJ9_floorMod_7cf53 3 (some .int), Cond.methodLink RX9 231 yX9_comeTo, Cond.instanceMethod yX9_comeTo, Cond.selects RX9 yX9_comeTo yX9_comeTo, Cond.code yX9_comeTo cX9_comeTo 2 (some .int)]
def wsX9_perform_r2 : List Cond := [Cond.fieldLink RX9 118 "RidingYard" "cameTo" "I", Cond.methodLink RX9 171 yX9_askStrength, Cond.instanceMethod yX9_askStrength, Cond.selects RX9 yX9_askStrength yX9_askStrength, Cond.code yX9_askStrength cX9_askStrength 3 (some .int), Cond.fieldLink RX9 140 "RidingYard$Horse" "strength" "I", Cond.methodLink RX9 175 yX9_coverHorse, Cond.instanceMethod yX9_coverHorse, Cond.selects RX9 yX9_coverHorse yX9_coverHorse, Cond.code yX9_coverHorse cX9_coverHorse 4 (some .int), Cond.fieldLink RX9 146 "RidingYard$Horse" "rug" "I", Cond.methodLink RX9 178 yX9_groomHorse, Cond.instanceMethod yX9_groomHorse, Cond.selects RX9 yX9_groomHorse yX9_groomHorse, Cond.code yX9_groomHorse cX9_groomHorse 3 (some .int), Cond.methodLink RX9 234 ⟨"RidingYard$Horse", "groom", "()I"⟩, Cond.sameMethod "RidingYard$Horse" "RidingYard$Horse" "groom" "()I", Cond.instanceMethod ⟨"RidingYard$Horse", "groom", "()I"⟩, Cond.selects RX1 ⟨"RidingYard$Horse", "groom", "()I"⟩ yX1_groom, Cond.instanceMethod yX1_groom, Cond.initialized RX1, Cond.code yX1_groom cX1_groom 1 (some .int), Cond.fieldLink RX1 9 "RidingYard$Cob" "groomed" "I", Cond.sameField "RidingYard$Cob" "RidingYard$Horse" "groomed" "I"]
def wsX9_perform_r3 : List Cond := [Cond.code yX2_groom cX2_groom 1 (some .int), Cond.methodLink RX9 234 yX2_groom, Cond.instanceMethod yX2_groom, Cond.selects RX2 yX2_groom yX2_groom, Cond.initialized RX2, Cond.fieldLink RX2 15 "RidingYard$Horse" "groomed" "I", Cond.selects RX3 ⟨"RidingYard$Horse", "groom", "()I"⟩ yX3_groom, Cond.instanceMethod yX3_groom, Cond.initialized RX3, Cond.code yX3_groom cX3_groom 1 (some .int), Cond.fieldLink RX3 9 "RidingYard$Hunter" "rug" "I", Cond.sameField "RidingYard$Hunter" "RidingYard$Horse" "rug" "I", Cond.methodLink RX3 15 yX1_groom, Cond.sameMethod "RidingYard$Cob" "RidingYard$Cob" "groom" "()I", Cond.superclass RX3 RX1, Cond.methodLink RX9 181 yX9_workInShed, Cond.instanceMethod yX9_workInShed, Cond.selects RX9 yX9_workInShed yX9_workInShed, Cond.code yX9_workInShed cX9_workInShed 4 (some .int), Cond.methodLink RX9 237 yX9_workerAt, Cond.instanceMethod yX9_workerAt, Cond.selects RX9 yX9_workerAt yX9_workerAt, Cond.code yX9_workerAt cX9_workerAt 2 (some (.object "RidingYard$Worker")), Cond.fieldLink RX9 17 "RidingYard" "sheds" "[LRidingYard$Worker;"]
def wsX9_perform_r4 : List Cond := [Cond.methodLink RX9 241 ⟨"RidingYard$Worker", "workFor", "(I)I"⟩, Cond.sameMethod "RidingYard$Worker" "RidingYard$Worker" "workFor" "(I)I", Cond.selects RX1 ⟨"RidingYard$Worker", "workFor", "(I)I"⟩ yX1_workFor, Cond.instanceMethod yX1_workFor, Cond.code yX1_workFor cX1_workFor 2 (some .int), Cond.fieldLink RX1 15 "RidingYard$Cob" "tired" "I", Cond.sameField "RidingYard$Cob" "RidingYard$Horse" "tired" "I", Cond.selects RX2 ⟨"RidingYard$Worker", "workFor", "(I)I"⟩ yX2_workFor, Cond.instanceMethod yX2_workFor, Cond.code yX2_workFor cX2_workFor 2 (some .int), Cond.fieldLink RX2 18 "RidingYard$Horse" "tired" "I", Cond.selects RX3 ⟨"RidingYard$Worker", "workFor", "(I)I"⟩ yX3_workFor, Cond.instanceMethod yX3_workFor, Cond.code yX3_workFor cX3_workFor 2 (some .int), Cond.fieldLink RX3 23 "RidingYard$Hunter" "tired" "I", Cond.sameField "RidingYard$Hunter" "RidingYard$Horse" "tired" "I", Cond.methodLink RX3 19 yX1_workFor, Cond.sameMethod "RidingYard$Cob" "RidingYard$Cob" "workFor" "(I)I", Cond.selects RX7 ⟨"RidingYard$Worker", "workFor", "(I)I"⟩ yX7_workFor, Cond.instanceMethod yX7_workFor, Cond.initialized RX7, Cond.code yX7_workFor cX7_workFor 2 (some .int), Cond.fieldLink RX7 13 "RidingYard$Wagon" "worn" "I", Cond.fieldLink RX7 7 "RidingYard$Wagon" "load" "I"]
def wsX9_perform_r5 : List Cond := [Cond.methodLink RX9 184 yX9_askStrengthInShed, Cond.instanceMethod yX9_askStrengthInShed, Cond.selects RX9 yX9_askStrengthInShed yX9_askStrengthInShed, Cond.code yX9_askStrengthInShed cX9_askStrengthInShed 4 (some .int), Cond.classLink RX9 9 "RidingYard$Horse", Cond.methodLink RX9 187 yX9_askRugOfHunter, Cond.instanceMethod yX9_askRugOfHunter, Cond.selects RX9 yX9_askRugOfHunter yX9_askRugOfHunter, Cond.code yX9_askRugOfHunter cX9_askRugOfHunter 3 (some .int), Cond.classLink RX9 159 "RidingYard$Hunter", Cond.methodLink RX9 190 yX9_formTeam, Cond.instanceMethod yX9_formTeam, Cond.selects RX9 yX9_formTeam yX9_formTeam, Cond.code yX9_formTeam cX9_formTeam 5 (some .int), Cond.methodLink RX9 130 Lib.Math.min.name, Cond.static Lib.Math.min.name, Cond.initialized "java/lang/Math", Cond.code Lib.Math.min.name Lib.Math.min.code 2 (some .int), Cond.methodLink RX9 244 yX9_teamAt, Cond.instanceMethod yX9_teamAt, Cond.selects RX9 yX9_teamAt yX9_teamAt, Cond.code yX9_teamAt cX9_teamAt 2 (some (.object "RidingYard$Team")), Cond.fieldLink RX9 23 "RidingYard" "teams" "[LRidingYard$Team;", Cond.methodLink RX9 248 yX6_form]
def wsX9_perform_r6 : List Cond := [Cond.instanceMethod yX6_form, Cond.selects RX6 yX6_form yX6_form, Cond.initialized RX6, Cond.code yX6_form cX6_form 4 none, Cond.fieldLink RX6 17 "RidingYard$Team" "there" "Z", Cond.fieldLink RX6 21 "RidingYard$Team" "kind" "I", Cond.fieldLink RX6 25 "RidingYard$Team" "size" "I", Cond.fieldLink RX6 11 "RidingYard$Team" "places" "[LRidingYard$Horse;", Cond.methodLink RX9 194 yX9_putInTeam, Cond.instanceMethod yX9_putInTeam, Cond.selects RX9 yX9_putInTeam yX9_putInTeam, Cond.code yX9_putInTeam cX9_putInTeam 6 (some .int), Cond.fieldLink RX9 163 "RidingYard$Team" "there" "Z", Cond.fieldLink RX9 251 "RidingYard$Team" "size" "I", Cond.fieldLink RX9 258 "RidingYard$Team" "places" "[LRidingYard$Horse;", Cond.methodLink RX9 63 yX9_within, Cond.static yX9_within, Cond.code yX9_within cX9_within 2 (some .boolean), Cond.methodLink RX9 254 yX6_isFor, Cond.instanceMethod yX6_isFor, Cond.selects RX6 yX6_isFor yX6_isFor, Cond.code yX6_isFor cX6_isFor 2 (some .boolean), Cond.methodLink RX6 28 ⟨"RidingYard$Horse", "kindNumber", "()I"⟩, Cond.sameMethod "RidingYard$Horse" "RidingYard$Horse" "kindNumber" "()I"]
def wsX9_perform_r7 : List Cond := [Cond.instanceMethod ⟨"RidingYard$Horse", "kindNumber", "()I"⟩, Cond.selects RX1 ⟨"RidingYard$Horse", "kindNumber", "()I"⟩ yX1_kindNumber, Cond.instanceMethod yX1_kindNumber, Cond.code yX1_kindNumber cX1_kindNumber 1 (some .int), Cond.code yX2_kindNumber cX2_kindNumber 1 (some .int), Cond.methodLink RX6 28 yX2_kindNumber, Cond.instanceMethod yX2_kindNumber, Cond.selects RX2 yX2_kindNumber yX2_kindNumber, Cond.selects RX3 ⟨"RidingYard$Horse", "kindNumber", "()I"⟩ yX3_kindNumber, Cond.instanceMethod yX3_kindNumber, Cond.code yX3_kindNumber cX3_kindNumber 1 (some .int), Cond.methodLink RX9 197 yX9_takeFromTeam, Cond.instanceMethod yX9_takeFromTeam, Cond.selects RX9 yX9_takeFromTeam yX9_takeFromTeam, Cond.code yX9_takeFromTeam cX9_takeFromTeam 6 (some .int), Cond.methodLink RX9 85 yX9_oneIf, Cond.static yX9_oneIf, Cond.code yX9_oneIf cX9_oneIf 1 (some .int), Cond.methodLink RX9 200 yX9_askPlaces, Cond.instanceMethod yX9_askPlaces, Cond.selects RX9 yX9_askPlaces yX9_askPlaces, Cond.code yX9_askPlaces cX9_askPlaces 3 (some .int), Cond.methodLink RX9 203 yX9_workTeam, Cond.instanceMethod yX9_workTeam]
def wsX9_perform_r8 : List Cond := [Cond.selects RX9 yX9_workTeam yX9_workTeam, Cond.code yX9_workTeam cX9_workTeam 7 (some .int), Cond.methodLink RX9 261 ⟨"RidingYard$Horse", "workFor", "(I)I"⟩, Cond.sameMethod "RidingYard$Horse" "RidingYard$Horse" "workFor" "(I)I", Cond.instanceMethod ⟨"RidingYard$Horse", "workFor", "(I)I"⟩, Cond.selects RX1 ⟨"RidingYard$Horse", "workFor", "(I)I"⟩ yX1_workFor, Cond.methodLink RX9 261 yX2_workFor, Cond.selects RX2 yX2_workFor yX2_workFor, Cond.selects RX3 ⟨"RidingYard$Horse", "workFor", "(I)I"⟩ yX3_workFor, Cond.methodLink RX9 206 yX9_openLedger, Cond.instanceMethod yX9_openLedger, Cond.selects RX9 yX9_openLedger yX9_openLedger, Cond.code yX9_openLedger cX9_openLedger 4 (some .int), Cond.methodLink RX9 262 yX9_ledgerAt, Cond.instanceMethod yX9_ledgerAt, Cond.selects RX9 yX9_ledgerAt yX9_ledgerAt, Cond.code yX9_ledgerAt cX9_ledgerAt 2 (some (.object "RidingYard$Ledger")), Cond.fieldLink RX9 29 "RidingYard" "ledgers" "[LRidingYard$Ledger;", Cond.methodLink RX9 266 yX4_open, Cond.instanceMethod yX4_open, Cond.selects RX4 yX4_open yX4_open, Cond.initialized RX4, Cond.code yX4_open cX4_open 2 none, Cond.fieldLink RX4 15 "RidingYard$Ledger" "there" "Z"]
def wsX9_perform_r9 : List Cond := [Cond.fieldLink RX4 19 "RidingYard$Ledger" "size" "I", Cond.fieldLink RX4 9 "RidingYard$Ledger" "ints" "[I", Cond.methodLink RX4 23 yJ7_fill_53178, Cond.static yJ7_fill_53178, Cond.initialized RJ7, Cond.code yJ7_fill_53178 cJ7_fill_53178 4 none, Cond.methodLink RX9 209 yX9_addInLedger, Cond.instanceMethod yX9_addInLedger, Cond.selects RX9 yX9_addInLedger yX9_addInLedger, Cond.code yX9_addInLedger cX9_addInLedger 5 (some .int), Cond.fieldLink RX9 164 "RidingYard$Ledger" "there" "Z", Cond.fieldLink RX9 269 "RidingYard$Ledger" "size" "I", Cond.fieldLink RX9 270 "RidingYard$Ledger" "ints" "[I", Cond.methodLink RX9 212 yX9_sumLedger, Cond.instanceMethod yX9_sumLedger, Cond.selects RX9 yX9_sumLedger yX9_sumLedger, Cond.code yX9_sumLedger cX9_sumLedger 3 (some .int), Cond.methodLink RX9 273 yX4_sum, Cond.instanceMethod yX4_sum, Cond.selects RX4 yX4_sum yX4_sum, Cond.code yX4_sum cX4_sum 3 (some .int), Cond.methodLink RX9 215 yX9_setTable, Cond.instanceMethod yX9_setTable, Cond.selects RX9 yX9_setTable yX9_setTable]
def wsX9_perform_r10 : List Cond := [Cond.code yX9_setTable cX9_setTable 4 (some .int), Cond.methodLink RX9 276 yX9_tableAt, Cond.instanceMethod yX9_tableAt, Cond.selects RX9 yX9_tableAt yX9_tableAt, Cond.code yX9_tableAt cX9_tableAt 2 (some (.object "RidingYard$Table")), Cond.fieldLink RX9 35 "RidingYard" "tables" "[LRidingYard$Table;", Cond.methodLink RX9 280 yX5_set, Cond.instanceMethod yX5_set, Cond.selects RX5 yX5_set yX5_set, Cond.initialized RX5, Cond.code yX5_set cX5_set 4 none, Cond.fieldLink RX5 20 "RidingYard$Table" "there" "Z", Cond.fieldLink RX5 24 "RidingYard$Table" "height" "I", Cond.fieldLink RX5 28 "RidingYard$Table" "width" "I", Cond.fieldLink RX5 16 "RidingYard$Table" "rowThere" "[Z", Cond.fieldLink RX5 11 "RidingYard$Table" "rows" "[[I", Cond.methodLink RX5 31 yJ7_fill_53178, Cond.methodLink RX9 218 yX9_markTable, Cond.instanceMethod yX9_markTable, Cond.selects RX9 yX9_markTable yX9_markTable, Cond.code yX9_markTable cX9_markTable 5 (some .int), Cond.fieldLink RX9 99 "RidingYard$Table" "there" "Z", Cond.fieldLink RX9 103 "RidingYard$Table" "height" "I", Cond.fieldLink RX9 106 "RidingYard$Table" "rowThere" "[Z"]
def wsX9_perform_r11 : List Cond := [Cond.fieldLink RX9 283 "RidingYard$Table" "width" "I", Cond.fieldLink RX9 286 "RidingYard$Table" "rows" "[[I", Cond.methodLink RX9 221 yX9_raiseAlarm, Cond.instanceMethod yX9_raiseAlarm, Cond.selects RX9 yX9_raiseAlarm yX9_raiseAlarm, Cond.code yX9_raiseAlarm cX9_raiseAlarm 3 (some .int), Cond.fieldLink RX9 41 "RidingYard" "hooks" "[LRidingYard$Alarm;", Cond.fieldLink RX9 289 "RidingYard$Alarm" "number" "I"]
def wsX9_perform : List Cond := .code yX9_perform cX9_perform 6 (some .int) :: ((wsX9_perform_r1 ++ (wsX9_perform_r2 ++ (wsX9_perform_r3 ++ (wsX9_perform_r4 ++ (wsX9_perform_r5 ++ (wsX9_perform_r6 ++ (wsX9_perform_r7 ++ (wsX9_perform_r8 ++ (wsX9_perform_r9 ++ (wsX9_perform_r10 ++ wsX9_perform_r11)))))))))) ++ wsX90 ++ wsX10 ++ wsX20 ++ wsX30 ++ wsX70 ++ wsX60 ++ wsX40 ++ wsX50 ++ wsX00)
def wsX9_act_r1 : List Cond := [Cond.constant RX9 67 (-1000000001), Cond.methodLink RX9 63 yX9_within, Cond.static yX9_within, Cond.initialized RX9, Cond.code yX9_within cX9_within 2 (some .boolean), Cond.methodLink RX9 114 yX9_perform, Cond.instanceMethod yX9_perform, Cond.selects RX9 yX9_perform yX9_perform, Cond.code yX9_perform cX9_perform 6 (some .int), Cond.fieldLink RX9 57 "RidingYard" "faultsMet" "[I", Cond.methodLink RX9 165 yX9_faultOf, Cond.instanceMethod yX9_faultOf, Cond.selects RX9 yX9_faultOf yX9_faultOf, Cond.code yX9_faultOf cX9_faultOf 5 (some .int), Cond.methodLink RX9 168 yX9_feedHorse, Cond.instanceMethod yX9_feedHorse, Cond.selects RX9 yX9_feedHorse yX9_feedHorse, Cond.code yX9_feedHorse cX9_feedHorse 4 (some .int), Cond.fieldLink RX9 143 "RidingYard$Horse" "fed" "I", Cond.methodLink RX9 227 yX9_horseAt, Cond.instanceMethod yX9_horseAt, Cond.selects RX9 yX9_horseAt yX9_horseAt, Cond.code yX9_horseAt cX9_horseAt 2 (some (.object "RidingYard$Horse")), Cond.fieldLink RX9 11 "RidingYard" "stalls" "[LRidingYard$Horse;"]
def wsX9_act_r2 : List Cond := [Cond.methodLink RX9 224 yJ9_floorMod_7cf53, Cond.static yJ9_floorMod_7cf53, Cond.initialized RJ9, Cond.code yJ9_floorMod_7cf53 cJ9_floorMod_7cf53 3 (some .int), Cond.methodLink RX9 231 yX9_comeTo, Cond.instanceMethod yX9_comeTo, Cond.selects RX9 yX9_comeTo yX9_comeTo, Cond.code yX9_comeTo cX9_comeTo 2 (some .int), Cond.fieldLink RX9 118 "RidingYard" "cameTo" "I", Cond.methodLink RX9 171 yX9_askStrength, Cond.instanceMethod yX9_askStrength, Cond.selects RX9 yX9_askStrength yX9_askStrength, Cond.code yX9_askStrength cX9_askStrength 3 (some .int), Cond.fieldLink RX9 140 "RidingYard$Horse" "strength" "I", Cond.methodLink RX9 175 yX9_coverHorse, Cond.instanceMethod yX9_coverHorse, Cond.selects RX9 yX9_coverHorse yX9_coverHorse, Cond.code yX9_coverHorse cX9_coverHorse 4 (some .int), Cond.fieldLink RX9 146 "RidingYard$Horse" "rug" "I", Cond.methodLink RX9 178 yX9_groomHorse, Cond.instanceMethod yX9_groomHorse, Cond.selects RX9 yX9_groomHorse yX9_groomHorse, Cond.code yX9_groomHorse cX9_groomHorse 3 (some .int), Cond.methodLink RX9 234 ⟨"RidingYard$Horse", "groom", "()I"⟩]
def wsX9_act_r3 : List Cond := [Cond.sameMethod "RidingYard$Horse" "RidingYard$Horse" "groom" "()I", Cond.instanceMethod ⟨"RidingYard$Horse", "groom", "()I"⟩, Cond.selects RX1 ⟨"RidingYard$Horse", "groom", "()I"⟩ yX1_groom, Cond.instanceMethod yX1_groom, Cond.initialized RX1, Cond.code yX1_groom cX1_groom 1 (some .int), Cond.fieldLink RX1 9 "RidingYard$Cob" "groomed" "I", Cond.sameField "RidingYard$Cob" "RidingYard$Horse" "groomed" "I", Cond.code yX2_groom cX2_groom 1 (some .int), Cond.methodLink RX9 234 yX2_groom, Cond.instanceMethod yX2_groom, Cond.selects RX2 yX2_groom yX2_groom, Cond.initialized RX2, Cond.fieldLink RX2 15 "RidingYard$Horse" "groomed" "I", Cond.selects RX3 ⟨"RidingYard$Horse", "groom", "()I"⟩ yX3_groom, Cond.instanceMethod yX3_groom, Cond.initialized RX3, Cond.code yX3_groom cX3_groom 1 (some .int), Cond.fieldLink RX3 9 "RidingYard$Hunter" "rug" "I", Cond.sameField "RidingYard$Hunter" "RidingYard$Horse" "rug" "I", Cond.methodLink RX3 15 yX1_groom, Cond.sameMethod "RidingYard$Cob" "RidingYard$Cob" "groom" "()I", Cond.superclass RX3 RX1, Cond.methodLink RX9 181 yX9_workInShed]
def wsX9_act_r4 : List Cond := [Cond.instanceMethod yX9_workInShed, Cond.selects RX9 yX9_workInShed yX9_workInShed, Cond.code yX9_workInShed cX9_workInShed 4 (some .int), Cond.methodLink RX9 237 yX9_workerAt, Cond.instanceMethod yX9_workerAt, Cond.selects RX9 yX9_workerAt yX9_workerAt, Cond.code yX9_workerAt cX9_workerAt 2 (some (.object "RidingYard$Worker")), Cond.fieldLink RX9 17 "RidingYard" "sheds" "[LRidingYard$Worker;", Cond.methodLink RX9 241 ⟨"RidingYard$Worker", "workFor", "(I)I"⟩, Cond.sameMethod "RidingYard$Worker" "RidingYard$Worker" "workFor" "(I)I", Cond.selects RX1 ⟨"RidingYard$Worker", "workFor", "(I)I"⟩ yX1_workFor, Cond.instanceMethod yX1_workFor, Cond.code yX1_workFor cX1_workFor 2 (some .int), Cond.fieldLink RX1 15 "RidingYard$Cob" "tired" "I", Cond.sameField "RidingYard$Cob" "RidingYard$Horse" "tired" "I", Cond.selects RX2 ⟨"RidingYard$Worker", "workFor", "(I)I"⟩ yX2_workFor, Cond.instanceMethod yX2_workFor, Cond.code yX2_workFor cX2_workFor 2 (some .int), Cond.fieldLink RX2 18 "RidingYard$Horse" "tired" "I", Cond.selects RX3 ⟨"RidingYard$Worker", "workFor", "(I)I"⟩ yX3_workFor, Cond.instanceMethod yX3_workFor, Cond.code yX3_workFor cX3_workFor 2 (some .int), Cond.fieldLink RX3 23 "RidingYard$Hunter" "tired" "I", Cond.sameField "RidingYard$Hunter" "RidingYard$Horse" "tired" "I"]
def wsX9_act_r5 : List Cond := [Cond.methodLink RX3 19 yX1_workFor, Cond.sameMethod "RidingYard$Cob" "RidingYard$Cob" "workFor" "(I)I", Cond.selects RX7 ⟨"RidingYard$Worker", "workFor", "(I)I"⟩ yX7_workFor, Cond.instanceMethod yX7_workFor, Cond.initialized RX7, Cond.code yX7_workFor cX7_workFor 2 (some .int), Cond.fieldLink RX7 13 "RidingYard$Wagon" "worn" "I", Cond.fieldLink RX7 7 "RidingYard$Wagon" "load" "I", Cond.methodLink RX9 184 yX9_askStrengthInShed, Cond.instanceMethod yX9_askStrengthInShed, Cond.selects RX9 yX9_askStrengthInShed yX9_askStrengthInShed, Cond.code yX9_askStrengthInShed cX9_askStrengthInShed 4 (some .int), Cond.classLink RX9 9 "RidingYard$Horse", Cond.methodLink RX9 187 yX9_askRugOfHunter, Cond.instanceMethod yX9_askRugOfHunter, Cond.selects RX9 yX9_askRugOfHunter yX9_askRugOfHunter, Cond.code yX9_askRugOfHunter cX9_askRugOfHunter 3 (some .int), Cond.classLink RX9 159 "RidingYard$Hunter", Cond.methodLink RX9 190 yX9_formTeam, Cond.instanceMethod yX9_formTeam, Cond.selects RX9 yX9_formTeam yX9_formTeam, Cond.code yX9_formTeam cX9_formTeam 5 (some .int), Cond.methodLink RX9 130 Lib.Math.min.name, Cond.static Lib.Math.min.name]
def wsX9_act_r6 : List Cond := [Cond.initialized "java/lang/Math", Cond.code Lib.Math.min.name Lib.Math.min.code 2 (some .int), Cond.methodLink RX9 244 yX9_teamAt, Cond.instanceMethod yX9_teamAt, Cond.selects RX9 yX9_teamAt yX9_teamAt, Cond.code yX9_teamAt cX9_teamAt 2 (some (.object "RidingYard$Team")), Cond.fieldLink RX9 23 "RidingYard" "teams" "[LRidingYard$Team;", Cond.methodLink RX9 248 yX6_form, Cond.instanceMethod yX6_form, Cond.selects RX6 yX6_form yX6_form, Cond.initialized RX6, Cond.code yX6_form cX6_form 4 none, Cond.fieldLink RX6 17 "RidingYard$Team" "there" "Z", Cond.fieldLink RX6 21 "RidingYard$Team" "kind" "I", Cond.fieldLink RX6 25 "RidingYard$Team" "size" "I", Cond.fieldLink RX6 11 "RidingYard$Team" "places" "[LRidingYard$Horse;", Cond.methodLink RX9 194 yX9_putInTeam, Cond.instanceMethod yX9_putInTeam, Cond.selects RX9 yX9_putInTeam yX9_putInTeam, Cond.code yX9_putInTeam cX9_putInTeam 6 (some .int), Cond.fieldLink RX9 163 "RidingYard$Team" "there" "Z", Cond.fieldLink RX9 251 "RidingYard$Team" "size" "I", Cond.fieldLink RX9 258 "RidingYard$Team" "places" "[LRidingYard$Horse;", Cond.methodLink RX9 254 yX6_isFor]
def wsX9_act_r7 : List Cond := [Cond.instanceMethod yX6_isFor, Cond.selects RX6 yX6_isFor yX6_isFor, Cond.code yX6_isFor cX6_isFor 2 (some .boolean), Cond.methodLink RX6 28 ⟨"RidingYard$Horse", "kindNumber", "()I"⟩, Cond.sameMethod "RidingYard$Horse" "RidingYard$Horse" "kindNumber" "()I", Cond.instanceMethod ⟨"RidingYard$Horse", "kindNumber", "()I"⟩, Cond.selects RX1 ⟨"RidingYard$Horse", "kindNumber", "()I"⟩ yX1_kindNumber, Cond.instanceMethod yX1_kindNumber, Cond.code yX1_kindNumber cX1_kindNumber 1 (some .int), Cond.code yX2_kindNumber cX2_kindNumber 1 (some .int), Cond.methodLink RX6 28 yX2_kindNumber, Cond.instanceMethod yX2_kindNumber, Cond.selects RX2 yX2_kindNumber yX2_kindNumber, Cond.selects RX3 ⟨"RidingYard$Horse", "kindNumber", "()I"⟩ yX3_kindNumber, Cond.instanceMethod yX3_kindNumber, Cond.code yX3_kindNumber cX3_kindNumber 1 (some .int), Cond.methodLink RX9 197 yX9_takeFromTeam, Cond.instanceMethod yX9_takeFromTeam, Cond.selects RX9 yX9_takeFromTeam yX9_takeFromTeam, Cond.code yX9_takeFromTeam cX9_takeFromTeam 6 (some .int), Cond.methodLink RX9 85 yX9_oneIf, Cond.static yX9_oneIf, Cond.code yX9_oneIf cX9_oneIf 1 (some .int), Cond.methodLink RX9 200 yX9_askPlaces]
def wsX9_act_r8 : List Cond := [Cond.instanceMethod yX9_askPlaces, Cond.selects RX9 yX9_askPlaces yX9_askPlaces, Cond.code yX9_askPlaces cX9_askPlaces 3 (some .int), Cond.methodLink RX9 203 yX9_workTeam, Cond.instanceMethod yX9_workTeam, Cond.selects RX9 yX9_workTeam yX9_workTeam, Cond.code yX9_workTeam cX9_workTeam 7 (some .int), Cond.methodLink RX9 261 ⟨"RidingYard$Horse", "workFor", "(I)I"⟩, Cond.sameMethod "RidingYard$Horse" "RidingYard$Horse" "workFor" "(I)I", Cond.instanceMethod ⟨"RidingYard$Horse", "workFor", "(I)I"⟩, Cond.selects RX1 ⟨"RidingYard$Horse", "workFor", "(I)I"⟩ yX1_workFor, Cond.methodLink RX9 261 yX2_workFor, Cond.selects RX2 yX2_workFor yX2_workFor, Cond.selects RX3 ⟨"RidingYard$Horse", "workFor", "(I)I"⟩ yX3_workFor, Cond.methodLink RX9 206 yX9_openLedger, Cond.instanceMethod yX9_openLedger, Cond.selects RX9 yX9_openLedger yX9_openLedger, Cond.code yX9_openLedger cX9_openLedger 4 (some .int), Cond.methodLink RX9 262 yX9_ledgerAt, Cond.instanceMethod yX9_ledgerAt, Cond.selects RX9 yX9_ledgerAt yX9_ledgerAt, Cond.code yX9_ledgerAt cX9_ledgerAt 2 (some (.object "RidingYard$Ledger")), Cond.fieldLink RX9 29 "RidingYard" "ledgers" "[LRidingYard$Ledger;", Cond.methodLink RX9 266 yX4_open]
def wsX9_act_r9 : List Cond := [Cond.instanceMethod yX4_open, Cond.selects RX4 yX4_open yX4_open, Cond.initialized RX4, Cond.code yX4_open cX4_open 2 none, Cond.fieldLink RX4 15 "RidingYard$Ledger" "there" "Z", Cond.fieldLink RX4 19 "RidingYard$Ledger" "size" "I", Cond.fieldLink RX4 9 "RidingYard$Ledger" "ints" "[I", Cond.methodLink RX4 23 yJ7_fill_53178, Cond.static yJ7_fill_53178, Cond.initialized RJ7, Cond.code yJ7_fill_53178 cJ7_fill_53178 4 none, Cond.methodLink RX9 209 yX9_addInLedger, Cond.instanceMethod yX9_addInLedger, Cond.selects RX9 yX9_addInLedger yX9_addInLedger, Cond.code yX9_addInLedger cX9_addInLedger 5 (some .int), Cond.fieldLink RX9 164 "RidingYard$Ledger" "there" "Z", Cond.fieldLink RX9 269 "RidingYard$Ledger" "size" "I", Cond.fieldLink RX9 270 "RidingYard$Ledger" "ints" "[I", Cond.methodLink RX9 212 yX9_sumLedger, Cond.instanceMethod yX9_sumLedger, Cond.selects RX9 yX9_sumLedger yX9_sumLedger, Cond.code yX9_sumLedger cX9_sumLedger 3 (some .int), Cond.methodLink RX9 273 yX4_sum, Cond.instanceMethod yX4_sum]
def wsX9_act_r10 : List Cond := [Cond.selects RX4 yX4_sum yX4_sum, Cond.code yX4_sum cX4_sum 3 (some .int), Cond.methodLink RX9 215 yX9_setTable, Cond.instanceMethod yX9_setTable, Cond.selects RX9 yX9_setTable yX9_setTable, Cond.code yX9_setTable cX9_setTable 4 (some .int), Cond.methodLink RX9 276 yX9_tableAt, Cond.instanceMethod yX9_tableAt, Cond.selects RX9 yX9_tableAt yX9_tableAt, Cond.code yX9_tableAt cX9_tableAt 2 (some (.object "RidingYard$Table")), Cond.fieldLink RX9 35 "RidingYard" "tables" "[LRidingYard$Table;", Cond.methodLink RX9 280 yX5_set, Cond.instanceMethod yX5_set, Cond.selects RX5 yX5_set yX5_set, Cond.initialized RX5, Cond.code yX5_set cX5_set 4 none, Cond.fieldLink RX5 20 "RidingYard$Table" "there" "Z", Cond.fieldLink RX5 24 "RidingYard$Table" "height" "I", Cond.fieldLink RX5 28 "RidingYard$Table" "width" "I", Cond.fieldLink RX5 16 "RidingYard$Table" "rowThere" "[Z", Cond.fieldLink RX5 11 "RidingYard$Table" "rows" "[[I", Cond.methodLink RX5 31 yJ7_fill_53178, Cond.methodLink RX9 218 yX9_markTable, Cond.instanceMethod yX9_markTable]
def wsX9_act_r11 : List Cond := [Cond.selects RX9 yX9_markTable yX9_markTable, Cond.code yX9_markTable cX9_markTable 5 (some .int), Cond.fieldLink RX9 99 "RidingYard$Table" "there" "Z", Cond.fieldLink RX9 103 "RidingYard$Table" "height" "I", Cond.fieldLink RX9 106 "RidingYard$Table" "rowThere" "[Z", Cond.fieldLink RX9 283 "RidingYard$Table" "width" "I", Cond.fieldLink RX9 286 "RidingYard$Table" "rows" "[[I", Cond.methodLink RX9 221 yX9_raiseAlarm, Cond.instanceMethod yX9_raiseAlarm, Cond.selects RX9 yX9_raiseAlarm yX9_raiseAlarm, Cond.code yX9_raiseAlarm cX9_raiseAlarm 3 (some .int), Cond.fieldLink RX9 41 "RidingYard" "hooks" "[LRidingYard$Alarm;", Cond.fieldLink RX9 289 "RidingYard$Alarm" "number" "I"]
def wsX9_act : List Cond := .code yX9_act cX9_act 6 (some .int) :: ((wsX9_act_r1 ++ (wsX9_act_r2 ++ (wsX9_act_r3 ++ (wsX9_act_r4 ++ (wsX9_act_r5 ++ (wsX9_act_r6 ++ (wsX9_act_r7 ++ (wsX9_act_r8 ++ (wsX9_act_r9 ++ (wsX9_act_r10 ++ wsX9_act_r11)))))))))) ++ wsX90 ++ wsX10 ++ wsX20 ++ wsX30 ++ wsX70 ++ wsX60 ++ wsX40 ++ wsX50 ++ wsX00)
def wsX9_came : List Cond := .code yX9_came cX9_came 1 (some .int) :: ([.fieldLink RX9 118 "RidingYard" "cameTo" "I"] ++ wsX90)
def wsX9_task : List Cond := .code yX9_task cX9_task 6 (some .int) :: ([.constant RX9 67 (-1000000001), .fieldLink RX9 121 "RidingYard" "taskCount" "I", .constant RX9 72 (-1000000003), .fieldLink RX9 47 "RidingYard" "tasks" "[[I", .methodLink RX9 63 yX9_within, .static yX9_within, .initialized RX9, .code yX9_within cX9_within 2 (some .boolean)] ++ wsX90)
def wsX9_clear : List Cond := .code yX9_clear cX9_clear 2 (some .int) :: ([.fieldLink RX9 121 "RidingYard" "taskCount" "I"] ++ wsX90)
def wsX9_putDown : List Cond := .code yX9_putDown cX9_putDown 3 none :: ([.fieldLink RX9 127 "RidingYard" "putDownInAll" "I", .fieldLink RX9 50 "RidingYard" "tasksPutDown" "[I", .fieldLink RX9 54 "RidingYard" "faultsPutDown" "[I"] ++ wsX90)
def wsX9_day_r1 : List Cond := [Cond.fieldLink RX9 121 "RidingYard" "taskCount" "I", Cond.fieldLink RX9 47 "RidingYard" "tasks" "[[I", Cond.methodLink RX9 114 yX9_perform, Cond.instanceMethod yX9_perform, Cond.selects RX9 yX9_perform yX9_perform, Cond.initialized RX9, Cond.code yX9_perform cX9_perform 6 (some .int), Cond.fieldLink RX9 57 "RidingYard" "faultsMet" "[I", Cond.methodLink RX9 165 yX9_faultOf, Cond.instanceMethod yX9_faultOf, Cond.selects RX9 yX9_faultOf yX9_faultOf, Cond.code yX9_faultOf cX9_faultOf 5 (some .int), Cond.methodLink RX9 168 yX9_feedHorse, Cond.instanceMethod yX9_feedHorse, Cond.selects RX9 yX9_feedHorse yX9_feedHorse, Cond.code yX9_feedHorse cX9_feedHorse 4 (some .int), Cond.fieldLink RX9 143 "RidingYard$Horse" "fed" "I", Cond.methodLink RX9 227 yX9_horseAt, Cond.instanceMethod yX9_horseAt, Cond.selects RX9 yX9_horseAt yX9_horseAt, Cond.code yX9_horseAt cX9_horseAt 2 (some (.object "RidingYard$Horse")), Cond.fieldLink RX9 11 "RidingYard" "stalls" "[LRidingYard$Horse;", Cond.methodLink RX9 224 yJ9_floorMod_7cf53, Cond.static yJ9_floorMod_7cf53]
def wsX9_day_r2 : List Cond := [Cond.initialized RJ9, Cond.code yJ9_floorMod_7cf53 cJ9_floorMod_7cf53 3 (some .int), Cond.methodLink RX9 231 yX9_comeTo, Cond.instanceMethod yX9_comeTo, Cond.selects RX9 yX9_comeTo yX9_comeTo, Cond.code yX9_comeTo cX9_comeTo 2 (some .int), Cond.fieldLink RX9 118 "RidingYard" "cameTo" "I", Cond.methodLink RX9 171 yX9_askStrength, Cond.instanceMethod yX9_askStrength, Cond.selects RX9 yX9_askStrength yX9_askStrength, Cond.code yX9_askStrength cX9_askStrength 3 (some .int), Cond.fieldLink RX9 140 "RidingYard$Horse" "strength" "I", Cond.methodLink RX9 175 yX9_coverHorse, Cond.instanceMethod yX9_coverHorse, Cond.selects RX9 yX9_coverHorse yX9_coverHorse, Cond.code yX9_coverHorse cX9_coverHorse 4 (some .int), Cond.fieldLink RX9 146 "RidingYard$Horse" "rug" "I", Cond.methodLink RX9 178 yX9_groomHorse, Cond.instanceMethod yX9_groomHorse, Cond.selects RX9 yX9_groomHorse yX9_groomHorse, Cond.code yX9_groomHorse cX9_groomHorse 3 (some .int), Cond.methodLink RX9 234 ⟨"RidingYard$Horse", "groom", "()I"⟩, Cond.sameMethod "RidingYard$Horse" "RidingYard$Horse" "groom" "()I", Cond.instanceMethod ⟨"RidingYard$Horse", "groom", "()I"⟩]
def wsX9_day_r3 : List Cond := [Cond.selects RX1 ⟨"RidingYard$Horse", "groom", "()I"⟩ yX1_groom, Cond.instanceMethod yX1_groom, Cond.initialized RX1, Cond.code yX1_groom cX1_groom 1 (some .int), Cond.fieldLink RX1 9 "RidingYard$Cob" "groomed" "I", Cond.sameField "RidingYard$Cob" "RidingYard$Horse" "groomed" "I", Cond.code yX2_groom cX2_groom 1 (some .int), Cond.methodLink RX9 234 yX2_groom, Cond.instanceMethod yX2_groom, Cond.selects RX2 yX2_groom yX2_groom, Cond.initialized RX2, Cond.fieldLink RX2 15 "RidingYard$Horse" "groomed" "I", Cond.selects RX3 ⟨"RidingYard$Horse", "groom", "()I"⟩ yX3_groom, Cond.instanceMethod yX3_groom, Cond.initialized RX3, Cond.code yX3_groom cX3_groom 1 (some .int), Cond.fieldLink RX3 9 "RidingYard$Hunter" "rug" "I", Cond.sameField "RidingYard$Hunter" "RidingYard$Horse" "rug" "I", Cond.methodLink RX3 15 yX1_groom, Cond.sameMethod "RidingYard$Cob" "RidingYard$Cob" "groom" "()I", Cond.superclass RX3 RX1, Cond.methodLink RX9 181 yX9_workInShed, Cond.instanceMethod yX9_workInShed, Cond.selects RX9 yX9_workInShed yX9_workInShed]
def wsX9_day_r4 : List Cond := [Cond.code yX9_workInShed cX9_workInShed 4 (some .int), Cond.methodLink RX9 237 yX9_workerAt, Cond.instanceMethod yX9_workerAt, Cond.selects RX9 yX9_workerAt yX9_workerAt, Cond.code yX9_workerAt cX9_workerAt 2 (some (.object "RidingYard$Worker")), Cond.fieldLink RX9 17 "RidingYard" "sheds" "[LRidingYard$Worker;", Cond.methodLink RX9 241 ⟨"RidingYard$Worker", "workFor", "(I)I"⟩, Cond.sameMethod "RidingYard$Worker" "RidingYard$Worker" "workFor" "(I)I", Cond.selects RX1 ⟨"RidingYard$Worker", "workFor", "(I)I"⟩ yX1_workFor, Cond.instanceMethod yX1_workFor, Cond.code yX1_workFor cX1_workFor 2 (some .int), Cond.fieldLink RX1 15 "RidingYard$Cob" "tired" "I", Cond.sameField "RidingYard$Cob" "RidingYard$Horse" "tired" "I", Cond.selects RX2 ⟨"RidingYard$Worker", "workFor", "(I)I"⟩ yX2_workFor, Cond.instanceMethod yX2_workFor, Cond.code yX2_workFor cX2_workFor 2 (some .int), Cond.fieldLink RX2 18 "RidingYard$Horse" "tired" "I", Cond.selects RX3 ⟨"RidingYard$Worker", "workFor", "(I)I"⟩ yX3_workFor, Cond.instanceMethod yX3_workFor, Cond.code yX3_workFor cX3_workFor 2 (some .int), Cond.fieldLink RX3 23 "RidingYard$Hunter" "tired" "I", Cond.sameField "RidingYard$Hunter" "RidingYard$Horse" "tired" "I", Cond.methodLink RX3 19 yX1_workFor, Cond.sameMethod "RidingYard$Cob" "RidingYard$Cob" "workFor" "(I)I"]
def wsX9_day_r5 : List Cond := [Cond.selects RX7 ⟨"RidingYard$Worker", "workFor", "(I)I"⟩ yX7_workFor, Cond.instanceMethod yX7_workFor, Cond.initialized RX7, Cond.code yX7_workFor cX7_workFor 2 (some .int), Cond.fieldLink RX7 13 "RidingYard$Wagon" "worn" "I", Cond.fieldLink RX7 7 "RidingYard$Wagon" "load" "I", Cond.methodLink RX9 184 yX9_askStrengthInShed, Cond.instanceMethod yX9_askStrengthInShed, Cond.selects RX9 yX9_askStrengthInShed yX9_askStrengthInShed, Cond.code yX9_askStrengthInShed cX9_askStrengthInShed 4 (some .int), Cond.classLink RX9 9 "RidingYard$Horse", Cond.methodLink RX9 187 yX9_askRugOfHunter, Cond.instanceMethod yX9_askRugOfHunter, Cond.selects RX9 yX9_askRugOfHunter yX9_askRugOfHunter, Cond.code yX9_askRugOfHunter cX9_askRugOfHunter 3 (some .int), Cond.classLink RX9 159 "RidingYard$Hunter", Cond.methodLink RX9 190 yX9_formTeam, Cond.instanceMethod yX9_formTeam, Cond.selects RX9 yX9_formTeam yX9_formTeam, Cond.code yX9_formTeam cX9_formTeam 5 (some .int), Cond.methodLink RX9 130 Lib.Math.min.name, Cond.static Lib.Math.min.name, Cond.initialized "java/lang/Math", Cond.code Lib.Math.min.name Lib.Math.min.code 2 (some .int)]
def wsX9_day_r6 : List Cond := [Cond.methodLink RX9 244 yX9_teamAt, Cond.instanceMethod yX9_teamAt, Cond.selects RX9 yX9_teamAt yX9_teamAt, Cond.code yX9_teamAt cX9_teamAt 2 (some (.object "RidingYard$Team")), Cond.fieldLink RX9 23 "RidingYard" "teams" "[LRidingYard$Team;", Cond.methodLink RX9 248 yX6_form, Cond.instanceMethod yX6_form, Cond.selects RX6 yX6_form yX6_form, Cond.initialized RX6, Cond.code yX6_form cX6_form 4 none, Cond.fieldLink RX6 17 "RidingYard$Team" "there" "Z", Cond.fieldLink RX6 21 "RidingYard$Team" "kind" "I", Cond.fieldLink RX6 25 "RidingYard$Team" "size" "I", Cond.fieldLink RX6 11 "RidingYard$Team" "places" "[LRidingYard$Horse;", Cond.methodLink RX9 194 yX9_putInTeam, Cond.instanceMethod yX9_putInTeam, Cond.selects RX9 yX9_putInTeam yX9_putInTeam, Cond.code yX9_putInTeam cX9_putInTeam 6 (some .int), Cond.fieldLink RX9 163 "RidingYard$Team" "there" "Z", Cond.fieldLink RX9 251 "RidingYard$Team" "size" "I", Cond.fieldLink RX9 258 "RidingYard$Team" "places" "[LRidingYard$Horse;", Cond.methodLink RX9 63 yX9_within, Cond.static yX9_within, Cond.code yX9_within cX9_within 2 (some .boolean)]
def wsX9_day_r7 : List Cond := [Cond.methodLink RX9 254 yX6_isFor, Cond.instanceMethod yX6_isFor, Cond.selects RX6 yX6_isFor yX6_isFor, Cond.code yX6_isFor cX6_isFor 2 (some .boolean), Cond.methodLink RX6 28 ⟨"RidingYard$Horse", "kindNumber", "()I"⟩, Cond.sameMethod "RidingYard$Horse" "RidingYard$Horse" "kindNumber" "()I", Cond.instanceMethod ⟨"RidingYard$Horse", "kindNumber", "()I"⟩, Cond.selects RX1 ⟨"RidingYard$Horse", "kindNumber", "()I"⟩ yX1_kindNumber, Cond.instanceMethod yX1_kindNumber, Cond.code yX1_kindNumber cX1_kindNumber 1 (some .int), Cond.code yX2_kindNumber cX2_kindNumber 1 (some .int), Cond.methodLink RX6 28 yX2_kindNumber, Cond.instanceMethod yX2_kindNumber, Cond.selects RX2 yX2_kindNumber yX2_kindNumber, Cond.selects RX3 ⟨"RidingYard$Horse", "kindNumber", "()I"⟩ yX3_kindNumber, Cond.instanceMethod yX3_kindNumber, Cond.code yX3_kindNumber cX3_kindNumber 1 (some .int), Cond.methodLink RX9 197 yX9_takeFromTeam, Cond.instanceMethod yX9_takeFromTeam, Cond.selects RX9 yX9_takeFromTeam yX9_takeFromTeam, Cond.code yX9_takeFromTeam cX9_takeFromTeam 6 (some .int), Cond.methodLink RX9 85 yX9_oneIf, Cond.static yX9_oneIf, Cond.code yX9_oneIf cX9_oneIf 1 (some .int)]
def wsX9_day_r8 : List Cond := [Cond.methodLink RX9 200 yX9_askPlaces, Cond.instanceMethod yX9_askPlaces, Cond.selects RX9 yX9_askPlaces yX9_askPlaces, Cond.code yX9_askPlaces cX9_askPlaces 3 (some .int), Cond.methodLink RX9 203 yX9_workTeam, Cond.instanceMethod yX9_workTeam, Cond.selects RX9 yX9_workTeam yX9_workTeam, Cond.code yX9_workTeam cX9_workTeam 7 (some .int), Cond.methodLink RX9 261 ⟨"RidingYard$Horse", "workFor", "(I)I"⟩, Cond.sameMethod "RidingYard$Horse" "RidingYard$Horse" "workFor" "(I)I", Cond.instanceMethod ⟨"RidingYard$Horse", "workFor", "(I)I"⟩, Cond.selects RX1 ⟨"RidingYard$Horse", "workFor", "(I)I"⟩ yX1_workFor, Cond.methodLink RX9 261 yX2_workFor, Cond.selects RX2 yX2_workFor yX2_workFor, Cond.selects RX3 ⟨"RidingYard$Horse", "workFor", "(I)I"⟩ yX3_workFor, Cond.methodLink RX9 206 yX9_openLedger, Cond.instanceMethod yX9_openLedger, Cond.selects RX9 yX9_openLedger yX9_openLedger, Cond.code yX9_openLedger cX9_openLedger 4 (some .int), Cond.methodLink RX9 262 yX9_ledgerAt, Cond.instanceMethod yX9_ledgerAt, Cond.selects RX9 yX9_ledgerAt yX9_ledgerAt, Cond.code yX9_ledgerAt cX9_ledgerAt 2 (some (.object "RidingYard$Ledger")), Cond.fieldLink RX9 29 "RidingYard" "ledgers" "[LRidingYard$Ledger;"]
def wsX9_day_r9 : List Cond := [Cond.methodLink RX9 266 yX4_open, Cond.instanceMethod yX4_open, Cond.selects RX4 yX4_open yX4_open, Cond.initialized RX4, Cond.code yX4_open cX4_open 2 none, Cond.fieldLink RX4 15 "RidingYard$Ledger" "there" "Z", Cond.fieldLink RX4 19 "RidingYard$Ledger" "size" "I", Cond.fieldLink RX4 9 "RidingYard$Ledger" "ints" "[I", Cond.methodLink RX4 23 yJ7_fill_53178, Cond.static yJ7_fill_53178, Cond.initialized RJ7, Cond.code yJ7_fill_53178 cJ7_fill_53178 4 none, Cond.methodLink RX9 209 yX9_addInLedger, Cond.instanceMethod yX9_addInLedger, Cond.selects RX9 yX9_addInLedger yX9_addInLedger, Cond.code yX9_addInLedger cX9_addInLedger 5 (some .int), Cond.fieldLink RX9 164 "RidingYard$Ledger" "there" "Z", Cond.fieldLink RX9 269 "RidingYard$Ledger" "size" "I", Cond.fieldLink RX9 270 "RidingYard$Ledger" "ints" "[I", Cond.methodLink RX9 212 yX9_sumLedger, Cond.instanceMethod yX9_sumLedger, Cond.selects RX9 yX9_sumLedger yX9_sumLedger, Cond.code yX9_sumLedger cX9_sumLedger 3 (some .int), Cond.methodLink RX9 273 yX4_sum]
def wsX9_day_r10 : List Cond := [Cond.instanceMethod yX4_sum, Cond.selects RX4 yX4_sum yX4_sum, Cond.code yX4_sum cX4_sum 3 (some .int), Cond.methodLink RX9 215 yX9_setTable, Cond.instanceMethod yX9_setTable, Cond.selects RX9 yX9_setTable yX9_setTable, Cond.code yX9_setTable cX9_setTable 4 (some .int), Cond.methodLink RX9 276 yX9_tableAt, Cond.instanceMethod yX9_tableAt, Cond.selects RX9 yX9_tableAt yX9_tableAt, Cond.code yX9_tableAt cX9_tableAt 2 (some (.object "RidingYard$Table")), Cond.fieldLink RX9 35 "RidingYard" "tables" "[LRidingYard$Table;", Cond.methodLink RX9 280 yX5_set, Cond.instanceMethod yX5_set, Cond.selects RX5 yX5_set yX5_set, Cond.initialized RX5, Cond.code yX5_set cX5_set 4 none, Cond.fieldLink RX5 20 "RidingYard$Table" "there" "Z", Cond.fieldLink RX5 24 "RidingYard$Table" "height" "I", Cond.fieldLink RX5 28 "RidingYard$Table" "width" "I", Cond.fieldLink RX5 16 "RidingYard$Table" "rowThere" "[Z", Cond.fieldLink RX5 11 "RidingYard$Table" "rows" "[[I", Cond.methodLink RX5 31 yJ7_fill_53178, Cond.methodLink RX9 218 yX9_markTable]
def wsX9_day_r11 : List Cond := [Cond.instanceMethod yX9_markTable, Cond.selects RX9 yX9_markTable yX9_markTable, Cond.code yX9_markTable cX9_markTable 5 (some .int), Cond.fieldLink RX9 99 "RidingYard$Table" "there" "Z", Cond.fieldLink RX9 103 "RidingYard$Table" "height" "I", Cond.fieldLink RX9 106 "RidingYard$Table" "rowThere" "[Z", Cond.fieldLink RX9 283 "RidingYard$Table" "width" "I", Cond.fieldLink RX9 286 "RidingYard$Table" "rows" "[[I", Cond.methodLink RX9 221 yX9_raiseAlarm, Cond.instanceMethod yX9_raiseAlarm, Cond.selects RX9 yX9_raiseAlarm yX9_raiseAlarm, Cond.code yX9_raiseAlarm cX9_raiseAlarm 3 (some .int), Cond.fieldLink RX9 41 "RidingYard" "hooks" "[LRidingYard$Alarm;", Cond.fieldLink RX9 289 "RidingYard$Alarm" "number" "I", Cond.methodLink RX9 124 yX9_putDown, Cond.instanceMethod yX9_putDown, Cond.selects RX9 yX9_putDown yX9_putDown, Cond.code yX9_putDown cX9_putDown 3 none, Cond.fieldLink RX9 127 "RidingYard" "putDownInAll" "I", Cond.fieldLink RX9 50 "RidingYard" "tasksPutDown" "[I", Cond.fieldLink RX9 54 "RidingYard" "faultsPutDown" "[I"]
def wsX9_day : List Cond := .code yX9_day cX9_day 5 (some .int) :: ((wsX9_day_r1 ++ (wsX9_day_r2 ++ (wsX9_day_r3 ++ (wsX9_day_r4 ++ (wsX9_day_r5 ++ (wsX9_day_r6 ++ (wsX9_day_r7 ++ (wsX9_day_r8 ++ (wsX9_day_r9 ++ (wsX9_day_r10 ++ wsX9_day_r11)))))))))) ++ wsX90 ++ wsX10 ++ wsX20 ++ wsX30 ++ wsX70 ++ wsX60 ++ wsX40 ++ wsX50 ++ wsX00)
def wsX9_book : List Cond := .code yX9_book cX9_book 3 (some .int) :: ([.fieldLink RX9 127 "RidingYard" "putDownInAll" "I", .methodLink RX9 130 Lib.Math.min.name, .static Lib.Math.min.name, .initialized "java/lang/Math", .code Lib.Math.min.name Lib.Math.min.code 2 (some .int), .constant RX9 67 (-1000000001), .fieldLink RX9 50 "RidingYard" "tasksPutDown" "[I", .fieldLink RX9 54 "RidingYard" "faultsPutDown" "[I", .methodLink RX9 63 yX9_within, .static yX9_within, .initialized RX9, .code yX9_within cX9_within 2 (some .boolean)] ++ wsX90)
def wsX9_horseTells_r1 : List Cond := [Cond.constant RX9 67 (-1000000001), Cond.fieldLink RX9 11 "RidingYard" "stalls" "[LRidingYard$Horse;", Cond.fieldLink RX9 140 "RidingYard$Horse" "strength" "I", Cond.fieldLink RX9 143 "RidingYard$Horse" "fed" "I", Cond.fieldLink RX9 146 "RidingYard$Horse" "rug" "I", Cond.fieldLink RX9 149 "RidingYard$Horse" "groomed" "I", Cond.fieldLink RX9 152 "RidingYard$Horse" "tired" "I", Cond.methodLink RX9 63 yX9_within, Cond.static yX9_within, Cond.initialized RX9, Cond.code yX9_within cX9_within 2 (some .boolean), Cond.methodLink RX9 136 ⟨"RidingYard$Horse", "kindNumber", "()I"⟩, Cond.sameMethod "RidingYard$Horse" "RidingYard$Horse" "kindNumber" "()I", Cond.instanceMethod ⟨"RidingYard$Horse", "kindNumber", "()I"⟩, Cond.selects RX1 ⟨"RidingYard$Horse", "kindNumber", "()I"⟩ yX1_kindNumber, Cond.instanceMethod yX1_kindNumber, Cond.initialized RX1, Cond.code yX1_kindNumber cX1_kindNumber 1 (some .int), Cond.code yX2_kindNumber cX2_kindNumber 1 (some .int), Cond.methodLink RX9 136 yX2_kindNumber, Cond.instanceMethod yX2_kindNumber, Cond.selects RX2 yX2_kindNumber yX2_kindNumber, Cond.initialized RX2, Cond.selects RX3 ⟨"RidingYard$Horse", "kindNumber", "()I"⟩ yX3_kindNumber]
def wsX9_horseTells_r2 : List Cond := [Cond.instanceMethod yX3_kindNumber, Cond.initialized RX3, Cond.code yX3_kindNumber cX3_kindNumber 1 (some .int)]
def wsX9_horseTells : List Cond := .code yX9_horseTells cX9_horseTells 4 (some .int) :: ((wsX9_horseTells_r1 ++ wsX9_horseTells_r2) ++ wsX90 ++ wsX10 ++ wsX20 ++ wsX30)
def wsX9_shed : List Cond := .code yX9_shed cX9_shed 3 (some .int) :: ([.constant RX9 67 (-1000000001), .fieldLink RX9 17 "RidingYard" "sheds" "[LRidingYard$Worker;", .classLink RX9 9 "RidingYard$Horse", .methodLink RX9 63 yX9_within, .static yX9_within, .initialized RX9, .code yX9_within cX9_within 2 (some .boolean)] ++ wsX90)
def wsX9_same : List Cond := .code yX9_same cX9_same 3 (some .int) :: ([.constant RX9 67 (-1000000001), .fieldLink RX9 11 "RidingYard" "stalls" "[LRidingYard$Horse;", .methodLink RX9 63 yX9_within, .static yX9_within, .initialized RX9, .code yX9_within cX9_within 2 (some .boolean), .methodLink RX9 85 yX9_oneIf, .static yX9_oneIf, .code yX9_oneIf cX9_oneIf 1 (some .int)] ++ wsX90)
def wsX9_count : List Cond := .code yX9_count cX9_count 2 (some .int) :: ([.fieldLink RX9 68 "RidingYard" "horsesMade" "I", .fieldLink RX9 77 "RidingYard" "wagonsMade" "I", .fieldLink RX9 110 "RidingYard" "alarmsMade" "I", .fieldLink RX9 121 "RidingYard" "taskCount" "I", .fieldLink RX9 127 "RidingYard" "putDownInAll" "I", .constant RX9 155 (-1000000002), .fieldLink RX9 57 "RidingYard" "faultsMet" "[I"] ++ wsX90)
def wsX10_init_r1 : List Cond := [Cond.methodLink RX10 1 objectInit, Cond.instanceMethod objectInit, Cond.code objectInit ⟨#[0xb1]⟩ 1 none, Cond.arrayClass .int, Cond.fieldLink RX10 7 "RidingYardModel" "kinds" "[I", Cond.fieldLink RX10 13 "RidingYardModel" "strengths" "[I", Cond.fieldLink RX10 16 "RidingYardModel" "fed" "[I", Cond.fieldLink RX10 19 "RidingYardModel" "rugs" "[I", Cond.fieldLink RX10 22 "RidingYardModel" "groomed" "[I", Cond.fieldLink RX10 25 "RidingYardModel" "tired" "[I", Cond.fieldLink RX10 28 "RidingYardModel" "loads" "[I", Cond.fieldLink RX10 31 "RidingYardModel" "worn" "[I", Cond.fieldLink RX10 34 "RidingYardModel" "stalls" "[I", Cond.fieldLink RX10 37 "RidingYardModel" "sheds" "[I", Cond.fieldLink RX10 40 "RidingYardModel" "teams" "[I", Cond.fieldLink RX10 43 "RidingYardModel" "teamFor" "[I", Cond.fieldLink RX10 46 "RidingYardModel" "places" "[I", Cond.fieldLink RX10 49 "RidingYardModel" "ledgers" "[I", Cond.fieldLink RX10 52 "RidingYardModel" "ints" "[I", Cond.fieldLink RX10 55 "RidingYardModel" "tables" "[I", Cond.fieldLink RX10 58 "RidingYardModel" "wides" "[I", Cond.arrayClass .boolean, Cond.fieldLink RX10 61 "RidingYardModel" "rows" "[Z", Cond.fieldLink RX10 65 "RidingYardModel" "cells" "[I"]
def wsX10_init_r2 : List Cond := [Cond.fieldLink RX10 68 "RidingYardModel" "hooked" "[Z", Cond.fieldLink RX10 71 "RidingYardModel" "hooks" "[I", Cond.fieldLink RX10 74 "RidingYardModel" "taskActs" "[I", Cond.fieldLink RX10 77 "RidingYardModel" "taskAs" "[I", Cond.fieldLink RX10 80 "RidingYardModel" "taskBs" "[I", Cond.fieldLink RX10 83 "RidingYardModel" "taskCs" "[I", Cond.fieldLink RX10 86 "RidingYardModel" "putTasks" "[I", Cond.fieldLink RX10 89 "RidingYardModel" "putFaults" "[I", Cond.fieldLink RX10 92 "RidingYardModel" "met" "[I"]
def wsX10_init : List Cond := .code yX10_init cX10_init 2 none :: ((wsX10_init_r1 ++ wsX10_init_r2) ++ wsX100)
def wsX10_in : List Cond := .code yX10_in cX10_in 3 (some .boolean) :: ([])
def wsX10_modulo : List Cond := .code yX10_modulo cX10_modulo 2 (some .int) :: ([])
def wsX10_least : List Cond := .code yX10_least cX10_least 2 (some .int) :: ([])
def wsX10_horse : List Cond := .code yX10_horse cX10_horse 4 (some .int) :: ([.constant RX10 99 (-1000000001), .fieldLink RX10 100 "RidingYardModel" "horses" "I", .constant RX10 104 (-1000000003), .fieldLink RX10 7 "RidingYardModel" "kinds" "[I", .fieldLink RX10 13 "RidingYardModel" "strengths" "[I", .fieldLink RX10 34 "RidingYardModel" "stalls" "[I", .methodLink RX10 95 yX10_in, .static yX10_in, .initialized RX10, .code yX10_in cX10_in 3 (some .boolean)] ++ wsX100)
def wsX10_wagon : List Cond := .code yX10_wagon cX10_wagon 3 (some .int) :: ([.constant RX10 99 (-1000000001), .fieldLink RX10 105 "RidingYardModel" "wagons" "I", .constant RX10 104 (-1000000003), .fieldLink RX10 28 "RidingYardModel" "loads" "[I", .fieldLink RX10 37 "RidingYardModel" "sheds" "[I", .methodLink RX10 95 yX10_in, .static yX10_in, .initialized RX10, .code yX10_in cX10_in 3 (some .boolean)] ++ wsX100)
def wsX10_lead : List Cond := .code yX10_lead cX10_lead 3 (some .int) :: ([.constant RX10 99 (-1000000001), .fieldLink RX10 37 "RidingYardModel" "sheds" "[I", .fieldLink RX10 34 "RidingYardModel" "stalls" "[I", .methodLink RX10 95 yX10_in, .static yX10_in, .initialized RX10, .code yX10_in cX10_in 3 (some .boolean)] ++ wsX100)
def wsX10_holds : List Cond := .code yX10_holds cX10_holds 3 (some .boolean) :: ([.fieldLink RX10 34 "RidingYardModel" "stalls" "[I", .fieldLink RX10 37 "RidingYardModel" "sheds" "[I", .fieldLink RX10 40 "RidingYardModel" "teams" "[I", .fieldLink RX10 49 "RidingYardModel" "ledgers" "[I", .fieldLink RX10 55 "RidingYardModel" "tables" "[I", .fieldLink RX10 68 "RidingYardModel" "hooked" "[Z"] ++ wsX100)
def wsX10_empty : List Cond := .code yX10_empty cX10_empty 4 (some .int) :: ([.constant RX10 99 (-1000000001), .fieldLink RX10 34 "RidingYardModel" "stalls" "[I", .fieldLink RX10 37 "RidingYardModel" "sheds" "[I", .fieldLink RX10 40 "RidingYardModel" "teams" "[I", .fieldLink RX10 49 "RidingYardModel" "ledgers" "[I", .fieldLink RX10 55 "RidingYardModel" "tables" "[I", .fieldLink RX10 68 "RidingYardModel" "hooked" "[Z", .methodLink RX10 95 yX10_in, .static yX10_in, .initialized RX10, .code yX10_in cX10_in 3 (some .boolean), .methodLink RX10 108 yX10_holds, .instanceMethod yX10_holds, .selects RX10 yX10_holds yX10_holds, .code yX10_holds cX10_holds 3 (some .boolean)] ++ wsX100)
def wsX10_tear : List Cond := .code yX10_tear cX10_tear 4 (some .int) :: ([.fieldLink RX10 55 "RidingYardModel" "tables" "[I", .constant RX10 99 (-1000000001), .fieldLink RX10 61 "RidingYardModel" "rows" "[Z", .methodLink RX10 95 yX10_in, .static yX10_in, .initialized RX10, .code yX10_in cX10_in 3 (some .boolean)] ++ wsX100)
def wsX10_hang : List Cond := .code yX10_hang cX10_hang 3 (some .int) :: ([.constant RX10 99 (-1000000001), .fieldLink RX10 112 "RidingYardModel" "alarms" "I", .constant RX10 104 (-1000000003), .fieldLink RX10 68 "RidingYardModel" "hooked" "[Z", .fieldLink RX10 71 "RidingYardModel" "hooks" "[I", .methodLink RX10 95 yX10_in, .static yX10_in, .initialized RX10, .code yX10_in cX10_in 3 (some .boolean)] ++ wsX100)
def wsX10_come : List Cond := .code yX10_come cX10_come 2 (some .int) :: ([.fieldLink RX10 115 "RidingYardModel" "comes" "I"] ++ wsX100)
def wsX10_groom : List Cond := .code yX10_groom cX10_groom 2 (some .int) :: ([.fieldLink RX10 22 "RidingYardModel" "groomed" "[I", .fieldLink RX10 7 "RidingYardModel" "kinds" "[I", .fieldLink RX10 19 "RidingYardModel" "rugs" "[I"] ++ wsX100)
def wsX10_work : List Cond := .code yX10_work cX10_work 4 (some .int) :: ([.fieldLink RX10 31 "RidingYardModel" "worn" "[I", .fieldLink RX10 28 "RidingYardModel" "loads" "[I", .fieldLink RX10 25 "RidingYardModel" "tired" "[I", .fieldLink RX10 7 "RidingYardModel" "kinds" "[I"] ++ wsX100)
def wsX10_ofStall : List Cond := .code yX10_ofStall cX10_ofStall 4 (some .int) :: ([.fieldLink RX10 7 "RidingYardModel" "kinds" "[I", .fieldLink RX10 16 "RidingYardModel" "fed" "[I", .fieldLink RX10 13 "RidingYardModel" "strengths" "[I", .fieldLink RX10 19 "RidingYardModel" "rugs" "[I", .methodLink RX10 129 yX10_come, .instanceMethod yX10_come, .selects RX10 yX10_come yX10_come, .initialized RX10, .code yX10_come cX10_come 2 (some .int), .fieldLink RX10 115 "RidingYardModel" "comes" "I", .methodLink RX10 143 yX10_groom, .instanceMethod yX10_groom, .selects RX10 yX10_groom yX10_groom, .code yX10_groom cX10_groom 2 (some .int), .fieldLink RX10 22 "RidingYardModel" "groomed" "[I"] ++ wsX100)
def wsX10_worksAll : List Cond := .code yX10_worksAll cX10_worksAll 6 (some .int) :: ([.fieldLink RX10 40 "RidingYardModel" "teams" "[I", .fieldLink RX10 46 "RidingYardModel" "places" "[I", .methodLink RX10 126 yX10_work, .instanceMethod yX10_work, .selects RX10 yX10_work yX10_work, .initialized RX10, .code yX10_work cX10_work 4 (some .int), .fieldLink RX10 31 "RidingYardModel" "worn" "[I", .fieldLink RX10 28 "RidingYardModel" "loads" "[I", .fieldLink RX10 25 "RidingYardModel" "tired" "[I", .fieldLink RX10 7 "RidingYardModel" "kinds" "[I", .methodLink RX10 129 yX10_come, .instanceMethod yX10_come, .selects RX10 yX10_come yX10_come, .code yX10_come cX10_come 2 (some .int), .fieldLink RX10 115 "RidingYardModel" "comes" "I"] ++ wsX100)
def wsX10_isFor : List Cond := .code yX10_isFor cX10_isFor 3 (some .boolean) :: ([.fieldLink RX10 7 "RidingYardModel" "kinds" "[I", .fieldLink RX10 43 "RidingYardModel" "teamFor" "[I"] ++ wsX100)
def wsX10_ofTeam_r1 : List Cond := [Cond.fieldLink RX10 40 "RidingYardModel" "teams" "[I", Cond.fieldLink RX10 43 "RidingYardModel" "teamFor" "[I", Cond.fieldLink RX10 46 "RidingYardModel" "places" "[I", Cond.fieldLink RX10 34 "RidingYardModel" "stalls" "[I", Cond.methodLink RX10 146 yX10_least, Cond.static yX10_least, Cond.initialized RX10, Cond.code yX10_least cX10_least 2 (some .int), Cond.methodLink RX10 118 yX10_modulo, Cond.static yX10_modulo, Cond.code yX10_modulo cX10_modulo 2 (some .int), Cond.methodLink RX10 129 yX10_come, Cond.instanceMethod yX10_come, Cond.selects RX10 yX10_come yX10_come, Cond.code yX10_come cX10_come 2 (some .int), Cond.fieldLink RX10 115 "RidingYardModel" "comes" "I", Cond.methodLink RX10 149 yX10_worksAll, Cond.instanceMethod yX10_worksAll, Cond.selects RX10 yX10_worksAll yX10_worksAll, Cond.code yX10_worksAll cX10_worksAll 6 (some .int), Cond.methodLink RX10 126 yX10_work, Cond.instanceMethod yX10_work, Cond.selects RX10 yX10_work yX10_work, Cond.code yX10_work cX10_work 4 (some .int)]
def wsX10_ofTeam_r2 : List Cond := [Cond.fieldLink RX10 31 "RidingYardModel" "worn" "[I", Cond.fieldLink RX10 28 "RidingYardModel" "loads" "[I", Cond.fieldLink RX10 25 "RidingYardModel" "tired" "[I", Cond.fieldLink RX10 7 "RidingYardModel" "kinds" "[I", Cond.methodLink RX10 95 yX10_in, Cond.static yX10_in, Cond.code yX10_in cX10_in 3 (some .boolean), Cond.methodLink RX10 152 yX10_isFor, Cond.instanceMethod yX10_isFor, Cond.selects RX10 yX10_isFor yX10_isFor, Cond.code yX10_isFor cX10_isFor 3 (some .boolean)]
def wsX10_ofTeam : List Cond := .code yX10_ofTeam cX10_ofTeam 6 (some .int) :: ((wsX10_ofTeam_r1 ++ wsX10_ofTeam_r2) ++ wsX100)
def wsX10_ofLedger : List Cond := .code yX10_ofLedger cX10_ofLedger 7 (some .int) :: ([.fieldLink RX10 49 "RidingYardModel" "ledgers" "[I", .fieldLink RX10 52 "RidingYardModel" "ints" "[I", .methodLink RX10 146 yX10_least, .static yX10_least, .initialized RX10, .code yX10_least cX10_least 2 (some .int), .methodLink RX10 129 yX10_come, .instanceMethod yX10_come, .selects RX10 yX10_come yX10_come, .code yX10_come cX10_come 2 (some .int), .fieldLink RX10 115 "RidingYardModel" "comes" "I", .methodLink RX10 95 yX10_in, .static yX10_in, .code yX10_in cX10_in 3 (some .boolean)] ++ wsX100)
def wsX10_ofTable : List Cond := .code yX10_ofTable cX10_ofTable 6 (some .int) :: ([.fieldLink RX10 55 "RidingYardModel" "tables" "[I", .fieldLink RX10 58 "RidingYardModel" "wides" "[I", .fieldLink RX10 61 "RidingYardModel" "rows" "[Z", .fieldLink RX10 65 "RidingYardModel" "cells" "[I", .methodLink RX10 146 yX10_least, .static yX10_least, .initialized RX10, .code yX10_least cX10_least 2 (some .int), .methodLink RX10 129 yX10_come, .instanceMethod yX10_come, .selects RX10 yX10_come yX10_come, .code yX10_come cX10_come 2 (some .int), .fieldLink RX10 115 "RidingYardModel" "comes" "I", .methodLink RX10 95 yX10_in, .static yX10_in, .code yX10_in cX10_in 3 (some .boolean)] ++ wsX100)
def wsX10_does_r1 : List Cond := [Cond.fieldLink RX10 34 "RidingYardModel" "stalls" "[I", Cond.fieldLink RX10 37 "RidingYardModel" "sheds" "[I", Cond.fieldLink RX10 13 "RidingYardModel" "strengths" "[I", Cond.fieldLink RX10 68 "RidingYardModel" "hooked" "[Z", Cond.fieldLink RX10 71 "RidingYardModel" "hooks" "[I", Cond.methodLink RX10 118 yX10_modulo, Cond.static yX10_modulo, Cond.initialized RX10, Cond.code yX10_modulo cX10_modulo 2 (some .int), Cond.methodLink RX10 122 yX10_ofStall, Cond.instanceMethod yX10_ofStall, Cond.selects RX10 yX10_ofStall yX10_ofStall, Cond.code yX10_ofStall cX10_ofStall 4 (some .int), Cond.fieldLink RX10 7 "RidingYardModel" "kinds" "[I", Cond.fieldLink RX10 16 "RidingYardModel" "fed" "[I", Cond.fieldLink RX10 19 "RidingYardModel" "rugs" "[I", Cond.methodLink RX10 129 yX10_come, Cond.instanceMethod yX10_come, Cond.selects RX10 yX10_come yX10_come, Cond.code yX10_come cX10_come 2 (some .int), Cond.fieldLink RX10 115 "RidingYardModel" "comes" "I", Cond.methodLink RX10 143 yX10_groom, Cond.instanceMethod yX10_groom, Cond.selects RX10 yX10_groom yX10_groom]
def wsX10_does_r2 : List Cond := [Cond.code yX10_groom cX10_groom 2 (some .int), Cond.fieldLink RX10 22 "RidingYardModel" "groomed" "[I", Cond.methodLink RX10 126 yX10_work, Cond.instanceMethod yX10_work, Cond.selects RX10 yX10_work yX10_work, Cond.code yX10_work cX10_work 4 (some .int), Cond.fieldLink RX10 31 "RidingYardModel" "worn" "[I", Cond.fieldLink RX10 28 "RidingYardModel" "loads" "[I", Cond.fieldLink RX10 25 "RidingYardModel" "tired" "[I", Cond.methodLink RX10 133 yX10_ofTeam, Cond.instanceMethod yX10_ofTeam, Cond.selects RX10 yX10_ofTeam yX10_ofTeam, Cond.code yX10_ofTeam cX10_ofTeam 6 (some .int), Cond.fieldLink RX10 40 "RidingYardModel" "teams" "[I", Cond.fieldLink RX10 43 "RidingYardModel" "teamFor" "[I", Cond.fieldLink RX10 46 "RidingYardModel" "places" "[I", Cond.methodLink RX10 146 yX10_least, Cond.static yX10_least, Cond.code yX10_least cX10_least 2 (some .int), Cond.methodLink RX10 149 yX10_worksAll, Cond.instanceMethod yX10_worksAll, Cond.selects RX10 yX10_worksAll yX10_worksAll, Cond.code yX10_worksAll cX10_worksAll 6 (some .int), Cond.methodLink RX10 95 yX10_in]
def wsX10_does_r3 : List Cond := [Cond.static yX10_in, Cond.code yX10_in cX10_in 3 (some .boolean), Cond.methodLink RX10 152 yX10_isFor, Cond.instanceMethod yX10_isFor, Cond.selects RX10 yX10_isFor yX10_isFor, Cond.code yX10_isFor cX10_isFor 3 (some .boolean), Cond.methodLink RX10 137 yX10_ofLedger, Cond.instanceMethod yX10_ofLedger, Cond.selects RX10 yX10_ofLedger yX10_ofLedger, Cond.code yX10_ofLedger cX10_ofLedger 7 (some .int), Cond.fieldLink RX10 49 "RidingYardModel" "ledgers" "[I", Cond.fieldLink RX10 52 "RidingYardModel" "ints" "[I", Cond.methodLink RX10 140 yX10_ofTable, Cond.instanceMethod yX10_ofTable, Cond.selects RX10 yX10_ofTable yX10_ofTable, Cond.code yX10_ofTable cX10_ofTable 6 (some .int), Cond.fieldLink RX10 55 "RidingYardModel" "tables" "[I", Cond.fieldLink RX10 58 "RidingYardModel" "wides" "[I", Cond.fieldLink RX10 61 "RidingYardModel" "rows" "[Z", Cond.fieldLink RX10 65 "RidingYardModel" "cells" "[I"]
def wsX10_does : List Cond := .code yX10_does cX10_does 6 (some .int) :: ((wsX10_does_r1 ++ (wsX10_does_r2 ++ wsX10_does_r3)) ++ wsX100)
def wsX10_attempt_r1 : List Cond := [Cond.fieldLink RX10 115 "RidingYardModel" "comes" "I", Cond.fieldLink RX10 158 "RidingYardModel" "came" "I", Cond.fieldLink RX10 92 "RidingYardModel" "met" "[I", Cond.methodLink RX10 155 yX10_does, Cond.instanceMethod yX10_does, Cond.selects RX10 yX10_does yX10_does, Cond.initialized RX10, Cond.code yX10_does cX10_does 6 (some .int), Cond.fieldLink RX10 34 "RidingYardModel" "stalls" "[I", Cond.fieldLink RX10 37 "RidingYardModel" "sheds" "[I", Cond.fieldLink RX10 13 "RidingYardModel" "strengths" "[I", Cond.fieldLink RX10 68 "RidingYardModel" "hooked" "[Z", Cond.fieldLink RX10 71 "RidingYardModel" "hooks" "[I", Cond.methodLink RX10 118 yX10_modulo, Cond.static yX10_modulo, Cond.code yX10_modulo cX10_modulo 2 (some .int), Cond.methodLink RX10 122 yX10_ofStall, Cond.instanceMethod yX10_ofStall, Cond.selects RX10 yX10_ofStall yX10_ofStall, Cond.code yX10_ofStall cX10_ofStall 4 (some .int), Cond.fieldLink RX10 7 "RidingYardModel" "kinds" "[I", Cond.fieldLink RX10 16 "RidingYardModel" "fed" "[I", Cond.fieldLink RX10 19 "RidingYardModel" "rugs" "[I", Cond.methodLink RX10 129 yX10_come]
def wsX10_attempt_r2 : List Cond := [Cond.instanceMethod yX10_come, Cond.selects RX10 yX10_come yX10_come, Cond.code yX10_come cX10_come 2 (some .int), Cond.methodLink RX10 143 yX10_groom, Cond.instanceMethod yX10_groom, Cond.selects RX10 yX10_groom yX10_groom, Cond.code yX10_groom cX10_groom 2 (some .int), Cond.fieldLink RX10 22 "RidingYardModel" "groomed" "[I", Cond.methodLink RX10 126 yX10_work, Cond.instanceMethod yX10_work, Cond.selects RX10 yX10_work yX10_work, Cond.code yX10_work cX10_work 4 (some .int), Cond.fieldLink RX10 31 "RidingYardModel" "worn" "[I", Cond.fieldLink RX10 28 "RidingYardModel" "loads" "[I", Cond.fieldLink RX10 25 "RidingYardModel" "tired" "[I", Cond.methodLink RX10 133 yX10_ofTeam, Cond.instanceMethod yX10_ofTeam, Cond.selects RX10 yX10_ofTeam yX10_ofTeam, Cond.code yX10_ofTeam cX10_ofTeam 6 (some .int), Cond.fieldLink RX10 40 "RidingYardModel" "teams" "[I", Cond.fieldLink RX10 43 "RidingYardModel" "teamFor" "[I", Cond.fieldLink RX10 46 "RidingYardModel" "places" "[I", Cond.methodLink RX10 146 yX10_least, Cond.static yX10_least]
def wsX10_attempt_r3 : List Cond := [Cond.code yX10_least cX10_least 2 (some .int), Cond.methodLink RX10 149 yX10_worksAll, Cond.instanceMethod yX10_worksAll, Cond.selects RX10 yX10_worksAll yX10_worksAll, Cond.code yX10_worksAll cX10_worksAll 6 (some .int), Cond.methodLink RX10 95 yX10_in, Cond.static yX10_in, Cond.code yX10_in cX10_in 3 (some .boolean), Cond.methodLink RX10 152 yX10_isFor, Cond.instanceMethod yX10_isFor, Cond.selects RX10 yX10_isFor yX10_isFor, Cond.code yX10_isFor cX10_isFor 3 (some .boolean), Cond.methodLink RX10 137 yX10_ofLedger, Cond.instanceMethod yX10_ofLedger, Cond.selects RX10 yX10_ofLedger yX10_ofLedger, Cond.code yX10_ofLedger cX10_ofLedger 7 (some .int), Cond.fieldLink RX10 49 "RidingYardModel" "ledgers" "[I", Cond.fieldLink RX10 52 "RidingYardModel" "ints" "[I", Cond.methodLink RX10 140 yX10_ofTable, Cond.instanceMethod yX10_ofTable, Cond.selects RX10 yX10_ofTable yX10_ofTable, Cond.code yX10_ofTable cX10_ofTable 6 (some .int), Cond.fieldLink RX10 55 "RidingYardModel" "tables" "[I", Cond.fieldLink RX10 58 "RidingYardModel" "wides" "[I"]
def wsX10_attempt_r4 : List Cond := [Cond.fieldLink RX10 61 "RidingYardModel" "rows" "[Z", Cond.fieldLink RX10 65 "RidingYardModel" "cells" "[I"]
def wsX10_attempt : List Cond := .code yX10_attempt cX10_attempt 6 (some .int) :: ((wsX10_attempt_r1 ++ (wsX10_attempt_r2 ++ (wsX10_attempt_r3 ++ wsX10_attempt_r4))) ++ wsX100)
def wsX10_act_r1 : List Cond := [Cond.constant RX10 99 (-1000000001), Cond.methodLink RX10 95 yX10_in, Cond.static yX10_in, Cond.initialized RX10, Cond.code yX10_in cX10_in 3 (some .boolean), Cond.methodLink RX10 161 yX10_attempt, Cond.instanceMethod yX10_attempt, Cond.selects RX10 yX10_attempt yX10_attempt, Cond.code yX10_attempt cX10_attempt 6 (some .int), Cond.fieldLink RX10 115 "RidingYardModel" "comes" "I", Cond.fieldLink RX10 158 "RidingYardModel" "came" "I", Cond.fieldLink RX10 92 "RidingYardModel" "met" "[I", Cond.methodLink RX10 155 yX10_does, Cond.instanceMethod yX10_does, Cond.selects RX10 yX10_does yX10_does, Cond.code yX10_does cX10_does 6 (some .int), Cond.fieldLink RX10 34 "RidingYardModel" "stalls" "[I", Cond.fieldLink RX10 37 "RidingYardModel" "sheds" "[I", Cond.fieldLink RX10 13 "RidingYardModel" "strengths" "[I", Cond.fieldLink RX10 68 "RidingYardModel" "hooked" "[Z", Cond.fieldLink RX10 71 "RidingYardModel" "hooks" "[I", Cond.methodLink RX10 118 yX10_modulo, Cond.static yX10_modulo, Cond.code yX10_modulo cX10_modulo 2 (some .int)]
def wsX10_act_r2 : List Cond := [Cond.methodLink RX10 122 yX10_ofStall, Cond.instanceMethod yX10_ofStall, Cond.selects RX10 yX10_ofStall yX10_ofStall, Cond.code yX10_ofStall cX10_ofStall 4 (some .int), Cond.fieldLink RX10 7 "RidingYardModel" "kinds" "[I", Cond.fieldLink RX10 16 "RidingYardModel" "fed" "[I", Cond.fieldLink RX10 19 "RidingYardModel" "rugs" "[I", Cond.methodLink RX10 129 yX10_come, Cond.instanceMethod yX10_come, Cond.selects RX10 yX10_come yX10_come, Cond.code yX10_come cX10_come 2 (some .int), Cond.methodLink RX10 143 yX10_groom, Cond.instanceMethod yX10_groom, Cond.selects RX10 yX10_groom yX10_groom, Cond.code yX10_groom cX10_groom 2 (some .int), Cond.fieldLink RX10 22 "RidingYardModel" "groomed" "[I", Cond.methodLink RX10 126 yX10_work, Cond.instanceMethod yX10_work, Cond.selects RX10 yX10_work yX10_work, Cond.code yX10_work cX10_work 4 (some .int), Cond.fieldLink RX10 31 "RidingYardModel" "worn" "[I", Cond.fieldLink RX10 28 "RidingYardModel" "loads" "[I", Cond.fieldLink RX10 25 "RidingYardModel" "tired" "[I", Cond.methodLink RX10 133 yX10_ofTeam]
def wsX10_act_r3 : List Cond := [Cond.instanceMethod yX10_ofTeam, Cond.selects RX10 yX10_ofTeam yX10_ofTeam, Cond.code yX10_ofTeam cX10_ofTeam 6 (some .int), Cond.fieldLink RX10 40 "RidingYardModel" "teams" "[I", Cond.fieldLink RX10 43 "RidingYardModel" "teamFor" "[I", Cond.fieldLink RX10 46 "RidingYardModel" "places" "[I", Cond.methodLink RX10 146 yX10_least, Cond.static yX10_least, Cond.code yX10_least cX10_least 2 (some .int), Cond.methodLink RX10 149 yX10_worksAll, Cond.instanceMethod yX10_worksAll, Cond.selects RX10 yX10_worksAll yX10_worksAll, Cond.code yX10_worksAll cX10_worksAll 6 (some .int), Cond.methodLink RX10 152 yX10_isFor, Cond.instanceMethod yX10_isFor, Cond.selects RX10 yX10_isFor yX10_isFor, Cond.code yX10_isFor cX10_isFor 3 (some .boolean), Cond.methodLink RX10 137 yX10_ofLedger, Cond.instanceMethod yX10_ofLedger, Cond.selects RX10 yX10_ofLedger yX10_ofLedger, Cond.code yX10_ofLedger cX10_ofLedger 7 (some .int), Cond.fieldLink RX10 49 "RidingYardModel" "ledgers" "[I", Cond.fieldLink RX10 52 "RidingYardModel" "ints" "[I", Cond.methodLink RX10 140 yX10_ofTable]
def wsX10_act_r4 : List Cond := [Cond.instanceMethod yX10_ofTable, Cond.selects RX10 yX10_ofTable yX10_ofTable, Cond.code yX10_ofTable cX10_ofTable 6 (some .int), Cond.fieldLink RX10 55 "RidingYardModel" "tables" "[I", Cond.fieldLink RX10 58 "RidingYardModel" "wides" "[I", Cond.fieldLink RX10 61 "RidingYardModel" "rows" "[Z", Cond.fieldLink RX10 65 "RidingYardModel" "cells" "[I"]
def wsX10_act : List Cond := .code yX10_act cX10_act 6 (some .int) :: ((wsX10_act_r1 ++ (wsX10_act_r2 ++ (wsX10_act_r3 ++ wsX10_act_r4))) ++ wsX100)
def wsX10_came : List Cond := .code yX10_came cX10_came 1 (some .int) :: ([.fieldLink RX10 158 "RidingYardModel" "came" "I"] ++ wsX100)
def wsX10_task : List Cond := .code yX10_task cX10_task 5 (some .int) :: ([.constant RX10 99 (-1000000001), .fieldLink RX10 164 "RidingYardModel" "tasks" "I", .constant RX10 104 (-1000000003), .fieldLink RX10 74 "RidingYardModel" "taskActs" "[I", .fieldLink RX10 77 "RidingYardModel" "taskAs" "[I", .fieldLink RX10 80 "RidingYardModel" "taskBs" "[I", .fieldLink RX10 83 "RidingYardModel" "taskCs" "[I", .methodLink RX10 95 yX10_in, .static yX10_in, .initialized RX10, .code yX10_in cX10_in 3 (some .boolean)] ++ wsX100)
def wsX10_clear : List Cond := .code yX10_clear cX10_clear 2 (some .int) :: ([.fieldLink RX10 164 "RidingYardModel" "tasks" "I"] ++ wsX100)
def wsX10_day_r1 : List Cond := [Cond.fieldLink RX10 164 "RidingYardModel" "tasks" "I", Cond.fieldLink RX10 74 "RidingYardModel" "taskActs" "[I", Cond.fieldLink RX10 77 "RidingYardModel" "taskAs" "[I", Cond.fieldLink RX10 80 "RidingYardModel" "taskBs" "[I", Cond.fieldLink RX10 83 "RidingYardModel" "taskCs" "[I", Cond.fieldLink RX10 167 "RidingYardModel" "put" "I", Cond.fieldLink RX10 86 "RidingYardModel" "putTasks" "[I", Cond.fieldLink RX10 89 "RidingYardModel" "putFaults" "[I", Cond.methodLink RX10 161 yX10_attempt, Cond.instanceMethod yX10_attempt, Cond.selects RX10 yX10_attempt yX10_attempt, Cond.initialized RX10, Cond.code yX10_attempt cX10_attempt 6 (some .int), Cond.fieldLink RX10 115 "RidingYardModel" "comes" "I", Cond.fieldLink RX10 158 "RidingYardModel" "came" "I", Cond.fieldLink RX10 92 "RidingYardModel" "met" "[I", Cond.methodLink RX10 155 yX10_does, Cond.instanceMethod yX10_does, Cond.selects RX10 yX10_does yX10_does, Cond.code yX10_does cX10_does 6 (some .int), Cond.fieldLink RX10 34 "RidingYardModel" "stalls" "[I", Cond.fieldLink RX10 37 "RidingYardModel" "sheds" "[I", Cond.fieldLink RX10 13 "RidingYardModel" "strengths" "[I", Cond.fieldLink RX10 68 "RidingYardModel" "hooked" "[Z"]
def wsX10_day_r2 : List Cond := [Cond.fieldLink RX10 71 "RidingYardModel" "hooks" "[I", Cond.methodLink RX10 118 yX10_modulo, Cond.static yX10_modulo, Cond.code yX10_modulo cX10_modulo 2 (some .int), Cond.methodLink RX10 122 yX10_ofStall, Cond.instanceMethod yX10_ofStall, Cond.selects RX10 yX10_ofStall yX10_ofStall, Cond.code yX10_ofStall cX10_ofStall 4 (some .int), Cond.fieldLink RX10 7 "RidingYardModel" "kinds" "[I", Cond.fieldLink RX10 16 "RidingYardModel" "fed" "[I", Cond.fieldLink RX10 19 "RidingYardModel" "rugs" "[I", Cond.methodLink RX10 129 yX10_come, Cond.instanceMethod yX10_come, Cond.selects RX10 yX10_come yX10_come, Cond.code yX10_come cX10_come 2 (some .int), Cond.methodLink RX10 143 yX10_groom, Cond.instanceMethod yX10_groom, Cond.selects RX10 yX10_groom yX10_groom, Cond.code yX10_groom cX10_groom 2 (some .int), Cond.fieldLink RX10 22 "RidingYardModel" "groomed" "[I", Cond.methodLink RX10 126 yX10_work, Cond.instanceMethod yX10_work, Cond.selects RX10 yX10_work yX10_work, Cond.code yX10_work cX10_work 4 (some .int)]
def wsX10_day_r3 : List Cond := [Cond.fieldLink RX10 31 "RidingYardModel" "worn" "[I", Cond.fieldLink RX10 28 "RidingYardModel" "loads" "[I", Cond.fieldLink RX10 25 "RidingYardModel" "tired" "[I", Cond.methodLink RX10 133 yX10_ofTeam, Cond.instanceMethod yX10_ofTeam, Cond.selects RX10 yX10_ofTeam yX10_ofTeam, Cond.code yX10_ofTeam cX10_ofTeam 6 (some .int), Cond.fieldLink RX10 40 "RidingYardModel" "teams" "[I", Cond.fieldLink RX10 43 "RidingYardModel" "teamFor" "[I", Cond.fieldLink RX10 46 "RidingYardModel" "places" "[I", Cond.methodLink RX10 146 yX10_least, Cond.static yX10_least, Cond.code yX10_least cX10_least 2 (some .int), Cond.methodLink RX10 149 yX10_worksAll, Cond.instanceMethod yX10_worksAll, Cond.selects RX10 yX10_worksAll yX10_worksAll, Cond.code yX10_worksAll cX10_worksAll 6 (some .int), Cond.methodLink RX10 95 yX10_in, Cond.static yX10_in, Cond.code yX10_in cX10_in 3 (some .boolean), Cond.methodLink RX10 152 yX10_isFor, Cond.instanceMethod yX10_isFor, Cond.selects RX10 yX10_isFor yX10_isFor, Cond.code yX10_isFor cX10_isFor 3 (some .boolean)]
def wsX10_day_r4 : List Cond := [Cond.methodLink RX10 137 yX10_ofLedger, Cond.instanceMethod yX10_ofLedger, Cond.selects RX10 yX10_ofLedger yX10_ofLedger, Cond.code yX10_ofLedger cX10_ofLedger 7 (some .int), Cond.fieldLink RX10 49 "RidingYardModel" "ledgers" "[I", Cond.fieldLink RX10 52 "RidingYardModel" "ints" "[I", Cond.methodLink RX10 140 yX10_ofTable, Cond.instanceMethod yX10_ofTable, Cond.selects RX10 yX10_ofTable yX10_ofTable, Cond.code yX10_ofTable cX10_ofTable 6 (some .int), Cond.fieldLink RX10 55 "RidingYardModel" "tables" "[I", Cond.fieldLink RX10 58 "RidingYardModel" "wides" "[I", Cond.fieldLink RX10 61 "RidingYardModel" "rows" "[Z", Cond.fieldLink RX10 65 "RidingYardModel" "cells" "[I"]
def wsX10_day : List Cond := .code yX10_day cX10_day 5 (some .int) :: ((wsX10_day_r1 ++ (wsX10_day_r2 ++ (wsX10_day_r3 ++ wsX10_day_r4))) ++ wsX100)
def wsX10_book : List Cond := .code yX10_book cX10_book 3 (some .int) :: ([.fieldLink RX10 167 "RidingYardModel" "put" "I", .constant RX10 99 (-1000000001), .fieldLink RX10 86 "RidingYardModel" "putTasks" "[I", .fieldLink RX10 89 "RidingYardModel" "putFaults" "[I", .methodLink RX10 146 yX10_least, .static yX10_least, .initialized RX10, .code yX10_least cX10_least 2 (some .int), .methodLink RX10 95 yX10_in, .static yX10_in, .code yX10_in cX10_in 3 (some .boolean)] ++ wsX100)
def wsX10_horseTells : List Cond := .code yX10_horseTells cX10_horseTells 4 (some .int) :: ([.fieldLink RX10 34 "RidingYardModel" "stalls" "[I", .constant RX10 99 (-1000000001), .fieldLink RX10 7 "RidingYardModel" "kinds" "[I", .fieldLink RX10 13 "RidingYardModel" "strengths" "[I", .fieldLink RX10 16 "RidingYardModel" "fed" "[I", .fieldLink RX10 19 "RidingYardModel" "rugs" "[I", .fieldLink RX10 22 "RidingYardModel" "groomed" "[I", .fieldLink RX10 25 "RidingYardModel" "tired" "[I", .methodLink RX10 95 yX10_in, .static yX10_in, .initialized RX10, .code yX10_in cX10_in 3 (some .boolean)] ++ wsX100)
def wsX10_shed : List Cond := .code yX10_shed cX10_shed 2 (some .int) :: ([.constant RX10 99 (-1000000001), .fieldLink RX10 37 "RidingYardModel" "sheds" "[I", .methodLink RX10 95 yX10_in, .static yX10_in, .initialized RX10, .code yX10_in cX10_in 3 (some .boolean)] ++ wsX100)
def wsX10_same : List Cond := .code yX10_same cX10_same 3 (some .int) :: ([.constant RX10 99 (-1000000001), .fieldLink RX10 34 "RidingYardModel" "stalls" "[I", .methodLink RX10 95 yX10_in, .static yX10_in, .initialized RX10, .code yX10_in cX10_in 3 (some .boolean)] ++ wsX100)
def wsX10_count : List Cond := .code yX10_count cX10_count 2 (some .int) :: ([.fieldLink RX10 100 "RidingYardModel" "horses" "I", .fieldLink RX10 105 "RidingYardModel" "wagons" "I", .fieldLink RX10 112 "RidingYardModel" "alarms" "I", .fieldLink RX10 164 "RidingYardModel" "tasks" "I", .fieldLink RX10 167 "RidingYardModel" "put" "I", .fieldLink RX10 92 "RidingYardModel" "met" "[I", .constant RX10 170 (-1000000002), .methodLink RX10 95 yX10_in, .static yX10_in, .initialized RX10, .code yX10_in cX10_in 3 (some .boolean)] ++ wsX100)
def wsJ9_min_7cf53 : List Cond := .code yJ9_min_7cf53 cJ9_min_7cf53 2 (some .int) :: ([])
def wsL_law_r1 : List Cond := [Cond.classLink RL 7 RX9, Cond.instantiable RX9 16, Cond.initialized RX9, Cond.classLink RL 10 RX10, Cond.instantiable RX10 35, Cond.initialized RX10, Cond.methodLink RL 9 yX9_init, Cond.instanceMethod yX9_init, Cond.code yX9_init cX9_init 2 none, Cond.methodLink RX9 1 objectInit, Cond.instanceMethod objectInit, Cond.code objectInit ⟨#[0xb1]⟩ 1 none, Cond.classLink RX9 9 RX2, Cond.fieldLink RX9 11 "RidingYard" "stalls" "[LRidingYard$Horse;", Cond.classLink RX9 15 RX8, Cond.fieldLink RX9 17 "RidingYard" "sheds" "[LRidingYard$Worker;", Cond.classLink RX9 21 RX6, Cond.fieldLink RX9 23 "RidingYard" "teams" "[LRidingYard$Team;", Cond.classLink RX9 27 RX4, Cond.fieldLink RX9 29 "RidingYard" "ledgers" "[LRidingYard$Ledger;", Cond.classLink RX9 33 RX5, Cond.fieldLink RX9 35 "RidingYard" "tables" "[LRidingYard$Table;", Cond.classLink RX9 39 RX0, Cond.fieldLink RX9 41 "RidingYard" "hooks" "[LRidingYard$Alarm;"]
def wsL_law_r2 : List Cond := [Cond.classLink RX9 45 "[[I", Cond.arrayClass .int, Cond.fieldLink RX9 47 "RidingYard" "tasks" "[[I", Cond.fieldLink RX9 50 "RidingYard" "tasksPutDown" "[I", Cond.fieldLink RX9 54 "RidingYard" "faultsPutDown" "[I", Cond.fieldLink RX9 57 "RidingYard" "faultsMet" "[I", Cond.instantiable RX6 4, Cond.initialized RX6, Cond.instantiable RX4 3, Cond.initialized RX4, Cond.instantiable RX5 5, Cond.initialized RX5, Cond.instanceMethod yX6_init, Cond.code yX6_init cX6_init 1 none, Cond.methodLink RX6 3 objectInit, Cond.classLink RX6 9 RX2, Cond.fieldLink RX6 11 "RidingYard$Team" "places" "[LRidingYard$Horse;", Cond.instanceMethod yX4_init, Cond.code yX4_init cX4_init 1 none, Cond.methodLink RX4 3 objectInit, Cond.fieldLink RX4 9 "RidingYard$Ledger" "ints" "[I", Cond.instanceMethod yX5_init, Cond.code yX5_init cX5_init 1 none, Cond.methodLink RX5 3 objectInit]
def wsL_law_r3 : List Cond := [Cond.classLink RX5 9 "[[I", Cond.fieldLink RX5 11 "RidingYard$Table" "rows" "[[I", Cond.arrayClass .boolean, Cond.fieldLink RX5 16 "RidingYard$Table" "rowThere" "[Z", Cond.methodLink RL 12 yX10_init, Cond.instanceMethod yX10_init, Cond.code yX10_init cX10_init 2 none, Cond.methodLink RX10 1 objectInit, Cond.fieldLink RX10 7 "RidingYardModel" "kinds" "[I", Cond.fieldLink RX10 13 "RidingYardModel" "strengths" "[I", Cond.fieldLink RX10 16 "RidingYardModel" "fed" "[I", Cond.fieldLink RX10 19 "RidingYardModel" "rugs" "[I", Cond.fieldLink RX10 22 "RidingYardModel" "groomed" "[I", Cond.fieldLink RX10 25 "RidingYardModel" "tired" "[I", Cond.fieldLink RX10 28 "RidingYardModel" "loads" "[I", Cond.fieldLink RX10 31 "RidingYardModel" "worn" "[I", Cond.fieldLink RX10 34 "RidingYardModel" "stalls" "[I", Cond.fieldLink RX10 37 "RidingYardModel" "sheds" "[I", Cond.fieldLink RX10 40 "RidingYardModel" "teams" "[I", Cond.fieldLink RX10 43 "RidingYardModel" "teamFor" "[I", Cond.fieldLink RX10 46 "RidingYardModel" "places" "[I", Cond.fieldLink RX10 49 "RidingYardModel" "ledgers" "[I", Cond.fieldLink RX10 52 "RidingYardModel" "ints" "[I", Cond.fieldLink RX10 55 "RidingYardModel" "tables" "[I"]
def wsL_law_r4 : List Cond := [Cond.fieldLink RX10 58 "RidingYardModel" "wides" "[I", Cond.fieldLink RX10 61 "RidingYardModel" "rows" "[Z", Cond.fieldLink RX10 65 "RidingYardModel" "cells" "[I", Cond.fieldLink RX10 68 "RidingYardModel" "hooked" "[Z", Cond.fieldLink RX10 71 "RidingYardModel" "hooks" "[I", Cond.fieldLink RX10 74 "RidingYardModel" "taskActs" "[I", Cond.fieldLink RX10 77 "RidingYardModel" "taskAs" "[I", Cond.fieldLink RX10 80 "RidingYardModel" "taskBs" "[I", Cond.fieldLink RX10 83 "RidingYardModel" "taskCs" "[I", Cond.fieldLink RX10 86 "RidingYardModel" "putTasks" "[I", Cond.fieldLink RX10 89 "RidingYardModel" "putFaults" "[I", Cond.fieldLink RX10 92 "RidingYardModel" "met" "[I", Cond.methodLink RL 13 yX9_horse, Cond.instanceMethod yX9_horse, Cond.selects RX9 yX9_horse yX9_horse, Cond.code yX9_horse cX9_horse 4 (some .int), Cond.constant RX9 67 (-1000000001), Cond.fieldLink RX9 68 "RidingYard" "horsesMade" "I", Cond.constant RX9 72 (-1000000003), Cond.methodLink RX9 63 yX9_within, Cond.static yX9_within, Cond.code yX9_within cX9_within 2 (some .boolean), Cond.methodLink RX9 73 yX9_newHorse, Cond.static yX9_newHorse]
def wsL_law_r5 : List Cond := [Cond.code yX9_newHorse cX9_newHorse 2 (some (.object "RidingYard$Horse")), Cond.classLink RX9 156 RX1, Cond.instantiable RX1 5, Cond.initialized RX1, Cond.classLink RX9 159 RX3, Cond.instantiable RX3 5, Cond.initialized RX3, Cond.instantiable RX2 5, Cond.initialized RX2, Cond.methodLink RX9 158 yX1_init, Cond.instanceMethod yX1_init, Cond.code yX1_init cX1_init 2 none, Cond.methodLink RX1 3 yX2_init, Cond.instanceMethod yX2_init, Cond.code yX2_init cX2_init 2 none, Cond.fieldLink RX2 9 "RidingYard$Horse" "strength" "I", Cond.instanceMethod yX8_init, Cond.initialized RX8, Cond.code yX8_init cX8_init 1 none, Cond.methodLink RX8 1 objectInit, Cond.methodLink RX9 161 yX3_init, Cond.instanceMethod yX3_init, Cond.code yX3_init cX3_init 2 none, Cond.methodLink RX3 3 yX1_init]
def wsL_law_r6 : List Cond := [Cond.methodLink RX9 162 yX2_init, Cond.methodLink RL 17 yX10_horse, Cond.instanceMethod yX10_horse, Cond.selects RX10 yX10_horse yX10_horse, Cond.code yX10_horse cX10_horse 4 (some .int), Cond.constant RX10 99 (-1000000001), Cond.fieldLink RX10 100 "RidingYardModel" "horses" "I", Cond.constant RX10 104 (-1000000003), Cond.methodLink RX10 95 yX10_in, Cond.static yX10_in, Cond.code yX10_in cX10_in 3 (some .boolean), Cond.methodLink RL 18 yX9_wagon, Cond.instanceMethod yX9_wagon, Cond.selects RX9 yX9_wagon yX9_wagon, Cond.code yX9_wagon cX9_wagon 3 (some .int), Cond.fieldLink RX9 77 "RidingYard" "wagonsMade" "I", Cond.classLink RX9 80 RX7, Cond.instantiable RX7 2, Cond.initialized RX7, Cond.methodLink RX9 82 yX7_init, Cond.instanceMethod yX7_init, Cond.code yX7_init cX7_init 2 none, Cond.fieldLink RX7 7 "RidingYard$Wagon" "load" "I", Cond.methodLink RL 22 yX10_wagon]
def wsL_law_r7 : List Cond := [Cond.instanceMethod yX10_wagon, Cond.selects RX10 yX10_wagon yX10_wagon, Cond.code yX10_wagon cX10_wagon 3 (some .int), Cond.fieldLink RX10 105 "RidingYardModel" "wagons" "I", Cond.methodLink RL 23 yX9_lead, Cond.instanceMethod yX9_lead, Cond.selects RX9 yX9_lead yX9_lead, Cond.code yX9_lead cX9_lead 3 (some .int), Cond.methodLink RX9 85 yX9_oneIf, Cond.static yX9_oneIf, Cond.code yX9_oneIf cX9_oneIf 1 (some .int), Cond.methodLink RL 26 yX10_lead, Cond.instanceMethod yX10_lead, Cond.selects RX10 yX10_lead yX10_lead, Cond.code yX10_lead cX10_lead 3 (some .int), Cond.methodLink RL 27 yX9_empty, Cond.instanceMethod yX9_empty, Cond.selects RX9 yX9_empty yX9_empty, Cond.code yX9_empty cX9_empty 4 (some .int), Cond.fieldLink RX9 89 "RidingYard" "PLACES_OF_SORT" "[I", Cond.methodLink RX9 92 yX9_holdsSomething, Cond.instanceMethod yX9_holdsSomething, Cond.selects RX9 yX9_holdsSomething yX9_holdsSomething, Cond.code yX9_holdsSomething cX9_holdsSomething 3 (some .boolean)]
def wsL_law_r8 : List Cond := [Cond.fieldLink RX9 163 "RidingYard$Team" "there" "Z", Cond.fieldLink RX9 164 "RidingYard$Ledger" "there" "Z", Cond.fieldLink RX9 99 "RidingYard$Table" "there" "Z", Cond.methodLink RX9 95 yX9_takeAway, Cond.instanceMethod yX9_takeAway, Cond.selects RX9 yX9_takeAway yX9_takeAway, Cond.code yX9_takeAway cX9_takeAway 3 none, Cond.methodLink RL 30 yX10_empty, Cond.instanceMethod yX10_empty, Cond.selects RX10 yX10_empty yX10_empty, Cond.code yX10_empty cX10_empty 4 (some .int), Cond.methodLink RX10 108 yX10_holds, Cond.instanceMethod yX10_holds, Cond.selects RX10 yX10_holds yX10_holds, Cond.code yX10_holds cX10_holds 3 (some .boolean), Cond.methodLink RL 31 yX9_tear, Cond.instanceMethod yX9_tear, Cond.selects RX9 yX9_tear yX9_tear, Cond.code yX9_tear cX9_tear 5 (some .int), Cond.fieldLink RX9 103 "RidingYard$Table" "height" "I", Cond.fieldLink RX9 106 "RidingYard$Table" "rowThere" "[Z", Cond.methodLink RL 34 yX10_tear, Cond.instanceMethod yX10_tear, Cond.selects RX10 yX10_tear yX10_tear]
def wsL_law_r9 : List Cond := [Cond.code yX10_tear cX10_tear 4 (some .int), Cond.methodLink RL 35 yX9_hang, Cond.instanceMethod yX9_hang, Cond.selects RX9 yX9_hang yX9_hang, Cond.code yX9_hang cX9_hang 3 (some .int), Cond.fieldLink RX9 110 "RidingYard" "alarmsMade" "I", Cond.instantiable RX0 1, Cond.initialized RX0, Cond.methodLink RX9 113 yX0_init, Cond.instanceMethod yX0_init, Cond.code yX0_init cX0_init 2 none, Cond.methodLink RX0 1 objectInit, Cond.fieldLink RX0 7 "RidingYard$Alarm" "number" "I", Cond.methodLink RL 38 yX10_hang, Cond.instanceMethod yX10_hang, Cond.selects RX10 yX10_hang yX10_hang, Cond.code yX10_hang cX10_hang 3 (some .int), Cond.fieldLink RX10 112 "RidingYardModel" "alarms" "I", Cond.methodLink RL 39 yX9_act, Cond.instanceMethod yX9_act, Cond.selects RX9 yX9_act yX9_act, Cond.code yX9_act cX9_act 6 (some .int), Cond.methodLink RX9 114 yX9_perform, Cond.instanceMethod yX9_perform]
def wsL_law_r10 : List Cond := [Cond.selects RX9 yX9_perform yX9_perform, Cond.code yX9_perform cX9_perform 6 (some .int), Cond.methodLink RX9 165 yX9_faultOf, Cond.instanceMethod yX9_faultOf, Cond.selects RX9 yX9_faultOf yX9_faultOf, Cond.code yX9_faultOf cX9_faultOf 5 (some .int), Cond.methodLink RX9 168 yX9_feedHorse, Cond.instanceMethod yX9_feedHorse, Cond.selects RX9 yX9_feedHorse yX9_feedHorse, Cond.code yX9_feedHorse cX9_feedHorse 4 (some .int), Cond.fieldLink RX9 143 "RidingYard$Horse" "fed" "I", Cond.methodLink RX9 227 yX9_horseAt, Cond.instanceMethod yX9_horseAt, Cond.selects RX9 yX9_horseAt yX9_horseAt, Cond.code yX9_horseAt cX9_horseAt 2 (some (.object "RidingYard$Horse")), Cond.methodLink RX9 224 yJ9_floorMod_7cf53, Cond.static yJ9_floorMod_7cf53, Cond.initialized RJ9, Cond.code yJ9_floorMod_7cf53 cJ9_floorMod_7cf53 3 (some .int), Cond.methodLink RX9 231 yX9_comeTo, Cond.instanceMethod yX9_comeTo, Cond.selects RX9 yX9_comeTo yX9_comeTo, Cond.code yX9_comeTo cX9_comeTo 2 (some .int), Cond.fieldLink RX9 118 "RidingYard" "cameTo" "I"]
def wsL_law_r11 : List Cond := [Cond.methodLink RX9 171 yX9_askStrength, Cond.instanceMethod yX9_askStrength, Cond.selects RX9 yX9_askStrength yX9_askStrength, Cond.code yX9_askStrength cX9_askStrength 3 (some .int), Cond.fieldLink RX9 140 "RidingYard$Horse" "strength" "I", Cond.methodLink RX9 175 yX9_coverHorse, Cond.instanceMethod yX9_coverHorse, Cond.selects RX9 yX9_coverHorse yX9_coverHorse, Cond.code yX9_coverHorse cX9_coverHorse 4 (some .int), Cond.fieldLink RX9 146 "RidingYard$Horse" "rug" "I", Cond.methodLink RX9 178 yX9_groomHorse, Cond.instanceMethod yX9_groomHorse, Cond.selects RX9 yX9_groomHorse yX9_groomHorse, Cond.code yX9_groomHorse cX9_groomHorse 3 (some .int), Cond.methodLink RX9 234 ⟨"RidingYard$Horse", "groom", "()I"⟩, Cond.sameMethod "RidingYard$Horse" "RidingYard$Horse" "groom" "()I", Cond.instanceMethod ⟨"RidingYard$Horse", "groom", "()I"⟩, Cond.selects RX1 ⟨"RidingYard$Horse", "groom", "()I"⟩ yX1_groom, Cond.instanceMethod yX1_groom, Cond.code yX1_groom cX1_groom 1 (some .int), Cond.fieldLink RX1 9 "RidingYard$Cob" "groomed" "I", Cond.sameField "RidingYard$Cob" "RidingYard$Horse" "groomed" "I", Cond.code yX2_groom cX2_groom 1 (some .int), Cond.methodLink RX9 234 yX2_groom]
def wsL_law_r12 : List Cond := [Cond.instanceMethod yX2_groom, Cond.selects RX2 yX2_groom yX2_groom, Cond.fieldLink RX2 15 "RidingYard$Horse" "groomed" "I", Cond.selects RX3 ⟨"RidingYard$Horse", "groom", "()I"⟩ yX3_groom, Cond.instanceMethod yX3_groom, Cond.code yX3_groom cX3_groom 1 (some .int), Cond.fieldLink RX3 9 "RidingYard$Hunter" "rug" "I", Cond.sameField "RidingYard$Hunter" "RidingYard$Horse" "rug" "I", Cond.methodLink RX3 15 yX1_groom, Cond.sameMethod "RidingYard$Cob" "RidingYard$Cob" "groom" "()I", Cond.superclass RX3 RX1, Cond.methodLink RX9 181 yX9_workInShed, Cond.instanceMethod yX9_workInShed, Cond.selects RX9 yX9_workInShed yX9_workInShed, Cond.code yX9_workInShed cX9_workInShed 4 (some .int), Cond.methodLink RX9 237 yX9_workerAt, Cond.instanceMethod yX9_workerAt, Cond.selects RX9 yX9_workerAt yX9_workerAt, Cond.code yX9_workerAt cX9_workerAt 2 (some (.object "RidingYard$Worker")), Cond.methodLink RX9 241 ⟨"RidingYard$Worker", "workFor", "(I)I"⟩, Cond.sameMethod "RidingYard$Worker" "RidingYard$Worker" "workFor" "(I)I", Cond.selects RX1 ⟨"RidingYard$Worker", "workFor", "(I)I"⟩ yX1_workFor, Cond.instanceMethod yX1_workFor, Cond.code yX1_workFor cX1_workFor 2 (some .int)]
def wsL_law_r13 : List Cond := [Cond.fieldLink RX1 15 "RidingYard$Cob" "tired" "I", Cond.sameField "RidingYard$Cob" "RidingYard$Horse" "tired" "I", Cond.selects RX2 ⟨"RidingYard$Worker", "workFor", "(I)I"⟩ yX2_workFor, Cond.instanceMethod yX2_workFor, Cond.code yX2_workFor cX2_workFor 2 (some .int), Cond.fieldLink RX2 18 "RidingYard$Horse" "tired" "I", Cond.selects RX3 ⟨"RidingYard$Worker", "workFor", "(I)I"⟩ yX3_workFor, Cond.instanceMethod yX3_workFor, Cond.code yX3_workFor cX3_workFor 2 (some .int), Cond.fieldLink RX3 23 "RidingYard$Hunter" "tired" "I", Cond.sameField "RidingYard$Hunter" "RidingYard$Horse" "tired" "I", Cond.methodLink RX3 19 yX1_workFor, Cond.sameMethod "RidingYard$Cob" "RidingYard$Cob" "workFor" "(I)I", Cond.selects RX7 ⟨"RidingYard$Worker", "workFor", "(I)I"⟩ yX7_workFor, Cond.instanceMethod yX7_workFor, Cond.code yX7_workFor cX7_workFor 2 (some .int), Cond.fieldLink RX7 13 "RidingYard$Wagon" "worn" "I", Cond.methodLink RX9 184 yX9_askStrengthInShed, Cond.instanceMethod yX9_askStrengthInShed, Cond.selects RX9 yX9_askStrengthInShed yX9_askStrengthInShed, Cond.code yX9_askStrengthInShed cX9_askStrengthInShed 4 (some .int), Cond.classLink RX9 9 "RidingYard$Horse", Cond.methodLink RX9 187 yX9_askRugOfHunter, Cond.instanceMethod yX9_askRugOfHunter]
def wsL_law_r14 : List Cond := [Cond.selects RX9 yX9_askRugOfHunter yX9_askRugOfHunter, Cond.code yX9_askRugOfHunter cX9_askRugOfHunter 3 (some .int), Cond.classLink RX9 159 "RidingYard$Hunter", Cond.methodLink RX9 190 yX9_formTeam, Cond.instanceMethod yX9_formTeam, Cond.selects RX9 yX9_formTeam yX9_formTeam, Cond.code yX9_formTeam cX9_formTeam 5 (some .int), Cond.methodLink RX9 130 Lib.Math.min.name, Cond.static Lib.Math.min.name, Cond.initialized "java/lang/Math", Cond.code Lib.Math.min.name Lib.Math.min.code 2 (some .int), Cond.methodLink RX9 244 yX9_teamAt, Cond.instanceMethod yX9_teamAt, Cond.selects RX9 yX9_teamAt yX9_teamAt, Cond.code yX9_teamAt cX9_teamAt 2 (some (.object "RidingYard$Team")), Cond.methodLink RX9 248 yX6_form, Cond.instanceMethod yX6_form, Cond.selects RX6 yX6_form yX6_form, Cond.code yX6_form cX6_form 4 none, Cond.fieldLink RX6 17 "RidingYard$Team" "there" "Z", Cond.fieldLink RX6 21 "RidingYard$Team" "kind" "I", Cond.fieldLink RX6 25 "RidingYard$Team" "size" "I", Cond.methodLink RX9 194 yX9_putInTeam, Cond.instanceMethod yX9_putInTeam]
def wsL_law_r15 : List Cond := [Cond.selects RX9 yX9_putInTeam yX9_putInTeam, Cond.code yX9_putInTeam cX9_putInTeam 6 (some .int), Cond.fieldLink RX9 251 "RidingYard$Team" "size" "I", Cond.fieldLink RX9 258 "RidingYard$Team" "places" "[LRidingYard$Horse;", Cond.methodLink RX9 254 yX6_isFor, Cond.instanceMethod yX6_isFor, Cond.selects RX6 yX6_isFor yX6_isFor, Cond.code yX6_isFor cX6_isFor 2 (some .boolean), Cond.methodLink RX6 28 ⟨"RidingYard$Horse", "kindNumber", "()I"⟩, Cond.sameMethod "RidingYard$Horse" "RidingYard$Horse" "kindNumber" "()I", Cond.instanceMethod ⟨"RidingYard$Horse", "kindNumber", "()I"⟩, Cond.selects RX1 ⟨"RidingYard$Horse", "kindNumber", "()I"⟩ yX1_kindNumber, Cond.instanceMethod yX1_kindNumber, Cond.code yX1_kindNumber cX1_kindNumber 1 (some .int), Cond.code yX2_kindNumber cX2_kindNumber 1 (some .int), Cond.methodLink RX6 28 yX2_kindNumber, Cond.instanceMethod yX2_kindNumber, Cond.selects RX2 yX2_kindNumber yX2_kindNumber, Cond.selects RX3 ⟨"RidingYard$Horse", "kindNumber", "()I"⟩ yX3_kindNumber, Cond.instanceMethod yX3_kindNumber, Cond.code yX3_kindNumber cX3_kindNumber 1 (some .int), Cond.methodLink RX9 197 yX9_takeFromTeam, Cond.instanceMethod yX9_takeFromTeam, Cond.selects RX9 yX9_takeFromTeam yX9_takeFromTeam]
def wsL_law_r16 : List Cond := [Cond.code yX9_takeFromTeam cX9_takeFromTeam 6 (some .int), Cond.methodLink RX9 200 yX9_askPlaces, Cond.instanceMethod yX9_askPlaces, Cond.selects RX9 yX9_askPlaces yX9_askPlaces, Cond.code yX9_askPlaces cX9_askPlaces 3 (some .int), Cond.methodLink RX9 203 yX9_workTeam, Cond.instanceMethod yX9_workTeam, Cond.selects RX9 yX9_workTeam yX9_workTeam, Cond.code yX9_workTeam cX9_workTeam 7 (some .int), Cond.methodLink RX9 261 ⟨"RidingYard$Horse", "workFor", "(I)I"⟩, Cond.sameMethod "RidingYard$Horse" "RidingYard$Horse" "workFor" "(I)I", Cond.instanceMethod ⟨"RidingYard$Horse", "workFor", "(I)I"⟩, Cond.selects RX1 ⟨"RidingYard$Horse", "workFor", "(I)I"⟩ yX1_workFor, Cond.methodLink RX9 261 yX2_workFor, Cond.selects RX2 yX2_workFor yX2_workFor, Cond.selects RX3 ⟨"RidingYard$Horse", "workFor", "(I)I"⟩ yX3_workFor, Cond.methodLink RX9 206 yX9_openLedger, Cond.instanceMethod yX9_openLedger, Cond.selects RX9 yX9_openLedger yX9_openLedger, Cond.code yX9_openLedger cX9_openLedger 4 (some .int), Cond.methodLink RX9 262 yX9_ledgerAt, Cond.instanceMethod yX9_ledgerAt, Cond.selects RX9 yX9_ledgerAt yX9_ledgerAt, Cond.code yX9_ledgerAt cX9_ledgerAt 2 (some (.object "RidingYard$Ledger"))]
def wsL_law_r17 : List Cond := [Cond.methodLink RX9 266 yX4_open, Cond.instanceMethod yX4_open, Cond.selects RX4 yX4_open yX4_open, Cond.code yX4_open cX4_open 2 none, Cond.fieldLink RX4 15 "RidingYard$Ledger" "there" "Z", Cond.fieldLink RX4 19 "RidingYard$Ledger" "size" "I", Cond.methodLink RX4 23 yJ7_fill_53178, Cond.static yJ7_fill_53178, Cond.initialized RJ7, Cond.code yJ7_fill_53178 cJ7_fill_53178 4 none, Cond.methodLink RX9 209 yX9_addInLedger, Cond.instanceMethod yX9_addInLedger, Cond.selects RX9 yX9_addInLedger yX9_addInLedger, Cond.code yX9_addInLedger cX9_addInLedger 5 (some .int), Cond.fieldLink RX9 269 "RidingYard$Ledger" "size" "I", Cond.fieldLink RX9 270 "RidingYard$Ledger" "ints" "[I", Cond.methodLink RX9 212 yX9_sumLedger, Cond.instanceMethod yX9_sumLedger, Cond.selects RX9 yX9_sumLedger yX9_sumLedger, Cond.code yX9_sumLedger cX9_sumLedger 3 (some .int), Cond.methodLink RX9 273 yX4_sum, Cond.instanceMethod yX4_sum, Cond.selects RX4 yX4_sum yX4_sum, Cond.code yX4_sum cX4_sum 3 (some .int)]
def wsL_law_r18 : List Cond := [Cond.methodLink RX9 215 yX9_setTable, Cond.instanceMethod yX9_setTable, Cond.selects RX9 yX9_setTable yX9_setTable, Cond.code yX9_setTable cX9_setTable 4 (some .int), Cond.methodLink RX9 276 yX9_tableAt, Cond.instanceMethod yX9_tableAt, Cond.selects RX9 yX9_tableAt yX9_tableAt, Cond.code yX9_tableAt cX9_tableAt 2 (some (.object "RidingYard$Table")), Cond.methodLink RX9 280 yX5_set, Cond.instanceMethod yX5_set, Cond.selects RX5 yX5_set yX5_set, Cond.code yX5_set cX5_set 4 none, Cond.fieldLink RX5 20 "RidingYard$Table" "there" "Z", Cond.fieldLink RX5 24 "RidingYard$Table" "height" "I", Cond.fieldLink RX5 28 "RidingYard$Table" "width" "I", Cond.methodLink RX5 31 yJ7_fill_53178, Cond.methodLink RX9 218 yX9_markTable, Cond.instanceMethod yX9_markTable, Cond.selects RX9 yX9_markTable yX9_markTable, Cond.code yX9_markTable cX9_markTable 5 (some .int), Cond.fieldLink RX9 283 "RidingYard$Table" "width" "I", Cond.fieldLink RX9 286 "RidingYard$Table" "rows" "[[I", Cond.methodLink RX9 221 yX9_raiseAlarm, Cond.instanceMethod yX9_raiseAlarm]
def wsL_law_r19 : List Cond := [Cond.selects RX9 yX9_raiseAlarm yX9_raiseAlarm, Cond.code yX9_raiseAlarm cX9_raiseAlarm 3 (some .int), Cond.fieldLink RX9 289 "RidingYard$Alarm" "number" "I", Cond.methodLink RL 43 yX10_act, Cond.instanceMethod yX10_act, Cond.selects RX10 yX10_act yX10_act, Cond.code yX10_act cX10_act 6 (some .int), Cond.methodLink RX10 161 yX10_attempt, Cond.instanceMethod yX10_attempt, Cond.selects RX10 yX10_attempt yX10_attempt, Cond.code yX10_attempt cX10_attempt 6 (some .int), Cond.fieldLink RX10 115 "RidingYardModel" "comes" "I", Cond.fieldLink RX10 158 "RidingYardModel" "came" "I", Cond.methodLink RX10 155 yX10_does, Cond.instanceMethod yX10_does, Cond.selects RX10 yX10_does yX10_does, Cond.code yX10_does cX10_does 6 (some .int), Cond.methodLink RX10 118 yX10_modulo, Cond.static yX10_modulo, Cond.code yX10_modulo cX10_modulo 2 (some .int), Cond.methodLink RX10 122 yX10_ofStall, Cond.instanceMethod yX10_ofStall, Cond.selects RX10 yX10_ofStall yX10_ofStall, Cond.code yX10_ofStall cX10_ofStall 4 (some .int)]
def wsL_law_r20 : List Cond := [Cond.methodLink RX10 129 yX10_come, Cond.instanceMethod yX10_come, Cond.selects RX10 yX10_come yX10_come, Cond.code yX10_come cX10_come 2 (some .int), Cond.methodLink RX10 143 yX10_groom, Cond.instanceMethod yX10_groom, Cond.selects RX10 yX10_groom yX10_groom, Cond.code yX10_groom cX10_groom 2 (some .int), Cond.methodLink RX10 126 yX10_work, Cond.instanceMethod yX10_work, Cond.selects RX10 yX10_work yX10_work, Cond.code yX10_work cX10_work 4 (some .int), Cond.methodLink RX10 133 yX10_ofTeam, Cond.instanceMethod yX10_ofTeam, Cond.selects RX10 yX10_ofTeam yX10_ofTeam, Cond.code yX10_ofTeam cX10_ofTeam 6 (some .int), Cond.methodLink RX10 146 yX10_least, Cond.static yX10_least, Cond.code yX10_least cX10_least 2 (some .int), Cond.methodLink RX10 149 yX10_worksAll, Cond.instanceMethod yX10_worksAll, Cond.selects RX10 yX10_worksAll yX10_worksAll, Cond.code yX10_worksAll cX10_worksAll 6 (some .int), Cond.methodLink RX10 152 yX10_isFor]
def wsL_law_r21 : List Cond := [Cond.instanceMethod yX10_isFor, Cond.selects RX10 yX10_isFor yX10_isFor, Cond.code yX10_isFor cX10_isFor 3 (some .boolean), Cond.methodLink RX10 137 yX10_ofLedger, Cond.instanceMethod yX10_ofLedger, Cond.selects RX10 yX10_ofLedger yX10_ofLedger, Cond.code yX10_ofLedger cX10_ofLedger 7 (some .int), Cond.methodLink RX10 140 yX10_ofTable, Cond.instanceMethod yX10_ofTable, Cond.selects RX10 yX10_ofTable yX10_ofTable, Cond.code yX10_ofTable cX10_ofTable 6 (some .int), Cond.methodLink RL 44 yX9_came, Cond.instanceMethod yX9_came, Cond.selects RX9 yX9_came yX9_came, Cond.code yX9_came cX9_came 1 (some .int), Cond.methodLink RL 48 yX10_came, Cond.instanceMethod yX10_came, Cond.selects RX10 yX10_came yX10_came, Cond.code yX10_came cX10_came 1 (some .int), Cond.methodLink RL 49 yX9_task, Cond.instanceMethod yX9_task, Cond.selects RX9 yX9_task yX9_task, Cond.code yX9_task cX9_task 6 (some .int), Cond.fieldLink RX9 121 "RidingYard" "taskCount" "I"]
def wsL_law_r22 : List Cond := [Cond.methodLink RL 52 yX10_task, Cond.instanceMethod yX10_task, Cond.selects RX10 yX10_task yX10_task, Cond.code yX10_task cX10_task 5 (some .int), Cond.fieldLink RX10 164 "RidingYardModel" "tasks" "I", Cond.methodLink RL 53 yX9_clear, Cond.instanceMethod yX9_clear, Cond.selects RX9 yX9_clear yX9_clear, Cond.code yX9_clear cX9_clear 2 (some .int), Cond.methodLink RL 56 yX10_clear, Cond.instanceMethod yX10_clear, Cond.selects RX10 yX10_clear yX10_clear, Cond.code yX10_clear cX10_clear 2 (some .int), Cond.methodLink RL 57 yX9_day, Cond.instanceMethod yX9_day, Cond.selects RX9 yX9_day yX9_day, Cond.code yX9_day cX9_day 5 (some .int), Cond.methodLink RX9 124 yX9_putDown, Cond.instanceMethod yX9_putDown, Cond.selects RX9 yX9_putDown yX9_putDown, Cond.code yX9_putDown cX9_putDown 3 none, Cond.fieldLink RX9 127 "RidingYard" "putDownInAll" "I", Cond.methodLink RL 60 yX10_day, Cond.instanceMethod yX10_day]
def wsL_law_r23 : List Cond := [Cond.selects RX10 yX10_day yX10_day, Cond.code yX10_day cX10_day 5 (some .int), Cond.fieldLink RX10 167 "RidingYardModel" "put" "I", Cond.methodLink RL 61 yX9_book, Cond.instanceMethod yX9_book, Cond.selects RX9 yX9_book yX9_book, Cond.code yX9_book cX9_book 3 (some .int), Cond.methodLink RL 64 yX10_book, Cond.instanceMethod yX10_book, Cond.selects RX10 yX10_book yX10_book, Cond.code yX10_book cX10_book 3 (some .int), Cond.methodLink RL 65 yX9_horseTells, Cond.instanceMethod yX9_horseTells, Cond.selects RX9 yX9_horseTells yX9_horseTells, Cond.code yX9_horseTells cX9_horseTells 4 (some .int), Cond.fieldLink RX9 149 "RidingYard$Horse" "groomed" "I", Cond.fieldLink RX9 152 "RidingYard$Horse" "tired" "I", Cond.methodLink RX9 136 ⟨"RidingYard$Horse", "kindNumber", "()I"⟩, Cond.methodLink RX9 136 yX2_kindNumber, Cond.methodLink RL 68 yX10_horseTells, Cond.instanceMethod yX10_horseTells, Cond.selects RX10 yX10_horseTells yX10_horseTells, Cond.code yX10_horseTells cX10_horseTells 4 (some .int), Cond.methodLink RL 69 yX9_shed]
def wsL_law_r24 : List Cond := [Cond.instanceMethod yX9_shed, Cond.selects RX9 yX9_shed yX9_shed, Cond.code yX9_shed cX9_shed 3 (some .int), Cond.methodLink RL 73 yX10_shed, Cond.instanceMethod yX10_shed, Cond.selects RX10 yX10_shed yX10_shed, Cond.code yX10_shed cX10_shed 2 (some .int), Cond.methodLink RL 74 yX9_same, Cond.instanceMethod yX9_same, Cond.selects RX9 yX9_same yX9_same, Cond.code yX9_same cX9_same 3 (some .int), Cond.methodLink RL 77 yX10_same, Cond.instanceMethod yX10_same, Cond.selects RX10 yX10_same yX10_same, Cond.code yX10_same cX10_same 3 (some .int), Cond.methodLink RL 78 yX9_count, Cond.instanceMethod yX9_count, Cond.selects RX9 yX9_count yX9_count, Cond.code yX9_count cX9_count 2 (some .int), Cond.constant RX9 155 (-1000000002), Cond.methodLink RL 81 yX10_count, Cond.instanceMethod yX10_count, Cond.selects RX10 yX10_count yX10_count, Cond.code yX10_count cX10_count 2 (some .int)]
end
section
def wsL_law_r25 : List Cond := [Cond.constant RX10 170 (-1000000002)]
def wsL_law : List Cond := (wsL_law_r1 ++ (wsL_law_r2 ++ (wsL_law_r3 ++ (wsL_law_r4 ++ (wsL_law_r5 ++ (wsL_law_r6 ++ (wsL_law_r7 ++ (wsL_law_r8 ++ (wsL_law_r9 ++ (wsL_law_r10 ++ (wsL_law_r11 ++ (wsL_law_r12 ++ (wsL_law_r13 ++ (wsL_law_r14 ++ (wsL_law_r15 ++ (wsL_law_r16 ++ (wsL_law_r17 ++ (wsL_law_r18 ++ (wsL_law_r19 ++ (wsL_law_r20 ++ (wsL_law_r21 ++ (wsL_law_r22 ++ (wsL_law_r23 ++ (wsL_law_r24 ++ wsL_law_r25)))))))))))))))))))))))) ++ wsX90 ++ wsX100 ++ wsX60 ++ wsX40 ++ wsX50 ++ wsX10 ++ wsX30 ++ wsX20 ++ wsX70 ++ wsX00 ++ ([] : List Cond)
set_option maxRecDepth 20000 in
theorem lw_cat {a b c : List Cond} (h1 : ∀ w ∈ a, w ∈ c) (h2 : ∀ w ∈ b, w ∈ c) : ∀ w ∈ a ++ b, w ∈ c := fun w h => (List.mem_append.mp h).elim (h1 w) (h2 w)
theorem lwin_r1 : ∀ w ∈ wsL_law_r1, w ∈ lw_tbl := List.forall_mem_cons.mpr ⟨List.mem_of_getElem? (i := 55) (by decide +kernel), List.forall_mem_cons.mpr ⟨List.mem_of_getElem? (i := 56) (by decide +kernel), List.forall_mem_cons.mpr ⟨List.mem_of_getElem? (i := 42) (by decide +kernel), List.forall_mem_cons.mpr ⟨List.mem_of_getElem? (i := 542) (by decide +kernel), List.forall_mem_cons.mpr ⟨List.mem_of_getElem? (i := 543) (by decide +kernel), List.forall_mem_cons.mpr ⟨List.mem_of_getElem? (i := 46) (by decide +kernel), List.forall_mem_cons.mpr ⟨List.mem_of_getElem? (i := 57) (by decide +kernel), List.forall_mem_cons.mpr ⟨List.mem_of_getElem? (i := 58) (by decide +kernel), List.forall_mem_cons.mpr ⟨List.mem_of_getElem? (i := 59) (by decide +kernel), List.forall_mem_cons.mpr ⟨List.mem_of_getElem? (i := 60) (by decide +kernel), List.forall_mem_cons.mpr ⟨List.mem_of_getElem? (i := 61) (by decide +kernel), List.forall_mem_cons.mpr ⟨List.mem_of_getElem? (i := 62) (by decide +kernel), List.forall_mem_cons.mpr ⟨List.mem_of_getElem? (i := 63) (by decide +kernel), List.forall_mem_cons.mpr ⟨List.mem_of_getElem? (i := 146) (by decide +kernel), List.forall_mem_cons.mpr ⟨List.mem_of_getElem? (i := 65) (by decide +kernel), List.forall_mem_cons.mpr ⟨List.mem_of_getElem? (i := 147) (by decide +kernel), List.forall_mem_cons.mpr ⟨List.mem_of_getElem? (i := 67) (by decide +kernel), List.forall_mem_cons.mpr ⟨List.mem_of_getElem? (i := 148) (by decide +kernel), List.forall_mem_cons.mpr ⟨List.mem_of_getElem? (i := 69) (by decide +kernel), List.forall_mem_cons.mpr ⟨List.mem_of_getElem? (i := 149) (by decide +kernel), List.forall_mem_cons.mpr ⟨List.mem_of_getElem? (i := 71) (by decide +kernel), List.forall_mem_cons.mpr ⟨List.mem_of_getElem? (i := 150) (by decide +kernel), List.forall_mem_cons.mpr ⟨List.mem_of_getElem? (i := 73) (by decide +kernel), List.forall_mem_cons.mpr ⟨List.mem_of_getElem? (i := 151) (by decide +kernel), fun _ h => absurd h List.not_mem_nil⟩⟩⟩⟩⟩⟩⟩⟩⟩⟩⟩⟩⟩⟩⟩⟩⟩⟩⟩⟩⟩⟩⟩⟩
theorem lwin_r2 : ∀ w ∈ wsL_law_r2, w ∈ lw_tbl := List.forall_mem_cons.mpr ⟨List.mem_of_getElem? (i := 75) (by decide +kernel), List.forall_mem_cons.mpr ⟨List.mem_of_getElem? (i := 99) (by decide +kernel), List.forall_mem_cons.mpr ⟨List.mem_of_getElem? (i := 155) (by decide +kernel), List.forall_mem_cons.mpr ⟨List.mem_of_getElem? (i := 157) (by decide +kernel), List.forall_mem_cons.mpr ⟨List.mem_of_getElem? (i := 158) (by decide +kernel), List.forall_mem_cons.mpr ⟨List.mem_of_getElem? (i := 160) (by decide +kernel), List.forall_mem_cons.mpr ⟨List.mem_of_getElem? (i := 77) (by decide +kernel), List.forall_mem_cons.mpr ⟨List.mem_of_getElem? (i := 43) (by decide +kernel), List.forall_mem_cons.mpr ⟨List.mem_of_getElem? (i := 100) (by decide +kernel), List.forall_mem_cons.mpr ⟨List.mem_of_getElem? (i := 44) (by decide +kernel), List.forall_mem_cons.mpr ⟨List.mem_of_getElem? (i := 118) (by decide +kernel), List.forall_mem_cons.mpr ⟨List.mem_of_getElem? (i := 45) (by decide +kernel), List.forall_mem_cons.mpr ⟨List.mem_of_getElem? (i := 79) (by decide +kernel), List.forall_mem_cons.mpr ⟨List.mem_of_getElem? (i := 80) (by decide +kernel), List.forall_mem_cons.mpr ⟨List.mem_of_getElem? (i := 81) (by decide +kernel), List.forall_mem_cons.mpr ⟨List.mem_of_getElem? (i := 82) (by decide +kernel), List.forall_mem_cons.mpr ⟨List.mem_of_getElem? (i := 83) (by decide +kernel), List.forall_mem_cons.mpr ⟨List.mem_of_getElem? (i := 102) (by decide +kernel), List.forall_mem_cons.mpr ⟨List.mem_of_getElem? (i := 103) (by decide +kernel), List.forall_mem_cons.mpr ⟨List.mem_of_getElem? (i := 104) (by decide +kernel), List.forall_mem_cons.mpr ⟨List.mem_of_getElem? (i := 105) (by decide +kernel), List.forall_mem_cons.mpr ⟨List.mem_of_getElem? (i := 120) (by decide +kernel), List.forall_mem_cons.mpr ⟨List.mem_of_getElem? (i := 121) (by decide +kernel), List.forall_mem_cons.mpr ⟨List.mem_of_getElem? (i := 122) (by decide +kernel), fun _ h => absurd h List.not_mem_nil⟩⟩⟩⟩⟩⟩⟩⟩⟩⟩⟩⟩⟩⟩⟩⟩⟩⟩⟩⟩⟩⟩⟩⟩
theorem lwin_r3 : ∀ w ∈ wsL_law_r3, w ∈ lw_tbl := List.forall_mem_cons.mpr ⟨List.mem_of_getElem? (i := 123) (by decide +kernel), List.forall_mem_cons.mpr ⟨List.mem_of_getElem? (i := 124) (by decide +kernel), List.forall_mem_cons.mpr ⟨List.mem_of_getElem? (i := 145) (by decide +kernel), List.forall_mem_cons.mpr ⟨List.mem_of_getElem? (i := 126) (by decide +kernel), List.forall_mem_cons.mpr ⟨List.mem_of_getElem? (i := 544) (by decide +kernel), List.forall_mem_cons.mpr ⟨List.mem_of_getElem? (i := 545) (by decide +kernel), List.forall_mem_cons.mpr ⟨List.mem_of_getElem? (i := 546) (by decide +kernel), List.forall_mem_cons.mpr ⟨List.mem_of_getElem? (i := 547) (by decide +kernel), List.forall_mem_cons.mpr ⟨List.mem_of_getElem? (i := 549) (by decide +kernel), List.forall_mem_cons.mpr ⟨List.mem_of_getElem? (i := 550) (by decide +kernel), List.forall_mem_cons.mpr ⟨List.mem_of_getElem? (i := 551) (by decide +kernel), List.forall_mem_cons.mpr ⟨List.mem_of_getElem? (i := 552) (by decide +kernel), List.forall_mem_cons.mpr ⟨List.mem_of_getElem? (i := 553) (by decide +kernel), List.forall_mem_cons.mpr ⟨List.mem_of_getElem? (i := 554) (by decide +kernel), List.forall_mem_cons.mpr ⟨List.mem_of_getElem? (i := 556) (by decide +kernel), List.forall_mem_cons.mpr ⟨List.mem_of_getElem? (i := 557) (by decide +kernel), List.forall_mem_cons.mpr ⟨List.mem_of_getElem? (i := 559) (by decide +kernel), List.forall_mem_cons.mpr ⟨List.mem_of_getElem? (i := 560) (by decide +kernel), List.forall_mem_cons.mpr ⟨List.mem_of_getElem? (i := 561) (by decide +kernel), List.forall_mem_cons.mpr ⟨List.mem_of_getElem? (i := 562) (by decide +kernel), List.forall_mem_cons.mpr ⟨List.mem_of_getElem? (i := 563) (by decide +kernel), List.forall_mem_cons.mpr ⟨List.mem_of_getElem? (i := 564) (by decide +kernel), List.forall_mem_cons.mpr ⟨List.mem_of_getElem? (i := 565) (by decide +kernel), List.forall_mem_cons.mpr ⟨List.mem_of_getElem? (i := 566) (by decide +kernel), fun _ h => absurd h List.not_mem_nil⟩⟩⟩⟩⟩⟩⟩⟩⟩⟩⟩⟩⟩⟩⟩⟩⟩⟩⟩⟩⟩⟩⟩⟩
theorem lwin_r4 : ∀ w ∈ wsL_law_r4, w ∈ lw_tbl := List.forall_mem_cons.mpr ⟨List.mem_of_getElem? (i := 567) (by decide +kernel), List.forall_mem_cons.mpr ⟨List.mem_of_getElem? (i := 568) (by decide +kernel), List.forall_mem_cons.mpr ⟨List.mem_of_getElem? (i := 569) (by decide +kernel), List.forall_mem_cons.mpr ⟨List.mem_of_getElem? (i := 570) (by decide +kernel), List.forall_mem_cons.mpr ⟨List.mem_of_getElem? (i := 571) (by decide +kernel), List.forall_mem_cons.mpr ⟨List.mem_of_getElem? (i := 573) (by decide +kernel), List.forall_mem_cons.mpr ⟨List.mem_of_getElem? (i := 574) (by decide +kernel), List.forall_mem_cons.mpr ⟨List.mem_of_getElem? (i := 575) (by decide +kernel), List.forall_mem_cons.mpr ⟨List.mem_of_getElem? (i := 576) (by decide +kernel), List.forall_mem_cons.mpr ⟨List.mem_of_getElem? (i := 578) (by decide +kernel), List.forall_mem_cons.mpr ⟨List.mem_of_getElem? (i := 579) (by decide +kernel), List.forall_mem_cons.mpr ⟨List.mem_of_getElem? (i := 580) (by decide +kernel), List.forall_mem_cons.mpr ⟨List.mem_of_getElem? (i := 195) (by decide +kernel), List.forall_mem_cons.mpr ⟨List.mem_of_getElem? (i := 196) (by decide +kernel), List.forall_mem_cons.mpr ⟨List.mem_of_getElem? (i := 197) (by decide +kernel), List.forall_mem_cons.mpr ⟨List.mem_of_getElem? (i := 198) (by decide +kernel), List.forall_mem_cons.mpr ⟨List.mem_of_getElem? (i := 202) (by decide +kernel), List.forall_mem_cons.mpr ⟨List.mem_of_getElem? (i := 152) (by decide +kernel), List.forall_mem_cons.mpr ⟨List.mem_of_getElem? (i := 203) (by decide +kernel), List.forall_mem_cons.mpr ⟨List.mem_of_getElem? (i := 199) (by decide +kernel), List.forall_mem_cons.mpr ⟨List.mem_of_getElem? (i := 200) (by decide +kernel), List.forall_mem_cons.mpr ⟨List.mem_of_getElem? (i := 201) (by decide +kernel), List.forall_mem_cons.mpr ⟨List.mem_of_getElem? (i := 204) (by decide +kernel), List.forall_mem_cons.mpr ⟨List.mem_of_getElem? (i := 205) (by decide +kernel), fun _ h => absurd h List.not_mem_nil⟩⟩⟩⟩⟩⟩⟩⟩⟩⟩⟩⟩⟩⟩⟩⟩⟩⟩⟩⟩⟩⟩⟩⟩
theorem lwin_r5 : ∀ w ∈ wsL_law_r5, w ∈ lw_tbl := List.forall_mem_cons.mpr ⟨List.mem_of_getElem? (i := 206) (by decide +kernel), List.forall_mem_cons.mpr ⟨List.mem_of_getElem? (i := 207) (by decide +kernel), List.forall_mem_cons.mpr ⟨List.mem_of_getElem? (i := 208) (by decide +kernel), List.forall_mem_cons.mpr ⟨List.mem_of_getElem? (i := 49) (by decide +kernel), List.forall_mem_cons.mpr ⟨List.mem_of_getElem? (i := 246) (by decide +kernel), List.forall_mem_cons.mpr ⟨List.mem_of_getElem? (i := 247) (by decide +kernel), List.forall_mem_cons.mpr ⟨List.mem_of_getElem? (i := 50) (by decide +kernel), List.forall_mem_cons.mpr ⟨List.mem_of_getElem? (i := 258) (by decide +kernel), List.forall_mem_cons.mpr ⟨List.mem_of_getElem? (i := 48) (by decide +kernel), List.forall_mem_cons.mpr ⟨List.mem_of_getElem? (i := 209) (by decide +kernel), List.forall_mem_cons.mpr ⟨List.mem_of_getElem? (i := 210) (by decide +kernel), List.forall_mem_cons.mpr ⟨List.mem_of_getElem? (i := 211) (by decide +kernel), List.forall_mem_cons.mpr ⟨List.mem_of_getElem? (i := 212) (by decide +kernel), List.forall_mem_cons.mpr ⟨List.mem_of_getElem? (i := 213) (by decide +kernel), List.forall_mem_cons.mpr ⟨List.mem_of_getElem? (i := 214) (by decide +kernel), List.forall_mem_cons.mpr ⟨List.mem_of_getElem? (i := 219) (by decide +kernel), List.forall_mem_cons.mpr ⟨List.mem_of_getElem? (i := 216) (by decide +kernel), List.forall_mem_cons.mpr ⟨List.mem_of_getElem? (i := 47) (by decide +kernel), List.forall_mem_cons.mpr ⟨List.mem_of_getElem? (i := 217) (by decide +kernel), List.forall_mem_cons.mpr ⟨List.mem_of_getElem? (i := 218) (by decide +kernel), List.forall_mem_cons.mpr ⟨List.mem_of_getElem? (i := 248) (by decide +kernel), List.forall_mem_cons.mpr ⟨List.mem_of_getElem? (i := 249) (by decide +kernel), List.forall_mem_cons.mpr ⟨List.mem_of_getElem? (i := 250) (by decide +kernel), List.forall_mem_cons.mpr ⟨List.mem_of_getElem? (i := 251) (by decide +kernel), fun _ h => absurd h List.not_mem_nil⟩⟩⟩⟩⟩⟩⟩⟩⟩⟩⟩⟩⟩⟩⟩⟩⟩⟩⟩⟩⟩⟩⟩⟩
theorem lwin_r6 : ∀ w ∈ wsL_law_r6, w ∈ lw_tbl := List.forall_mem_cons.mpr ⟨List.mem_of_getElem? (i := 259) (by decide +kernel), List.forall_mem_cons.mpr ⟨List.mem_of_getElem? (i := 654) (by decide +kernel), List.forall_mem_cons.mpr ⟨List.mem_of_getElem? (i := 655) (by decide +kernel), List.forall_mem_cons.mpr ⟨List.mem_of_getElem? (i := 656) (by decide +kernel), List.forall_mem_cons.mpr ⟨List.mem_of_getElem? (i := 657) (by decide +kernel), List.forall_mem_cons.mpr ⟨List.mem_of_getElem? (i := 661) (by decide +kernel), List.forall_mem_cons.mpr ⟨List.mem_of_getElem? (i := 548) (by decide +kernel), List.forall_mem_cons.mpr ⟨List.mem_of_getElem? (i := 662) (by decide +kernel), List.forall_mem_cons.mpr ⟨List.mem_of_getElem? (i := 658) (by decide +kernel), List.forall_mem_cons.mpr ⟨List.mem_of_getElem? (i := 659) (by decide +kernel), List.forall_mem_cons.mpr ⟨List.mem_of_getElem? (i := 660) (by decide +kernel), List.forall_mem_cons.mpr ⟨List.mem_of_getElem? (i := 266) (by decide +kernel), List.forall_mem_cons.mpr ⟨List.mem_of_getElem? (i := 267) (by decide +kernel), List.forall_mem_cons.mpr ⟨List.mem_of_getElem? (i := 268) (by decide +kernel), List.forall_mem_cons.mpr ⟨List.mem_of_getElem? (i := 269) (by decide +kernel), List.forall_mem_cons.mpr ⟨List.mem_of_getElem? (i := 153) (by decide +kernel), List.forall_mem_cons.mpr ⟨List.mem_of_getElem? (i := 270) (by decide +kernel), List.forall_mem_cons.mpr ⟨List.mem_of_getElem? (i := 271) (by decide +kernel), List.forall_mem_cons.mpr ⟨List.mem_of_getElem? (i := 51) (by decide +kernel), List.forall_mem_cons.mpr ⟨List.mem_of_getElem? (i := 272) (by decide +kernel), List.forall_mem_cons.mpr ⟨List.mem_of_getElem? (i := 273) (by decide +kernel), List.forall_mem_cons.mpr ⟨List.mem_of_getElem? (i := 274) (by decide +kernel), List.forall_mem_cons.mpr ⟨List.mem_of_getElem? (i := 276) (by decide +kernel), List.forall_mem_cons.mpr ⟨List.mem_of_getElem? (i := 663) (by decide +kernel), fun _ h => absurd h List.not_mem_nil⟩⟩⟩⟩⟩⟩⟩⟩⟩⟩⟩⟩⟩⟩⟩⟩⟩⟩⟩⟩⟩⟩⟩⟩
theorem lwin_r7 : ∀ w ∈ wsL_law_r7, w ∈ lw_tbl := List.forall_mem_cons.mpr ⟨List.mem_of_getElem? (i := 664) (by decide +kernel), List.forall_mem_cons.mpr ⟨List.mem_of_getElem? (i := 665) (by decide +kernel), List.forall_mem_cons.mpr ⟨List.mem_of_getElem? (i := 666) (by decide +kernel), List.forall_mem_cons.mpr ⟨List.mem_of_getElem? (i := 555) (by decide +kernel), List.forall_mem_cons.mpr ⟨List.mem_of_getElem? (i := 283) (by decide +kernel), List.forall_mem_cons.mpr ⟨List.mem_of_getElem? (i := 284) (by decide +kernel), List.forall_mem_cons.mpr ⟨List.mem_of_getElem? (i := 285) (by decide +kernel), List.forall_mem_cons.mpr ⟨List.mem_of_getElem? (i := 286) (by decide +kernel), List.forall_mem_cons.mpr ⟨List.mem_of_getElem? (i := 287) (by decide +kernel), List.forall_mem_cons.mpr ⟨List.mem_of_getElem? (i := 288) (by decide +kernel), List.forall_mem_cons.mpr ⟨List.mem_of_getElem? (i := 289) (by decide +kernel), List.forall_mem_cons.mpr ⟨List.mem_of_getElem? (i := 667) (by decide +kernel), List.forall_mem_cons.mpr ⟨List.mem_of_getElem? (i := 668) (by decide +kernel), List.forall_mem_cons.mpr ⟨List.mem_of_getElem? (i := 669) (by decide +kernel), List.forall_mem_cons.mpr ⟨List.mem_of_getElem? (i := 670) (by decide +kernel), List.forall_mem_cons.mpr ⟨List.mem_of_getElem? (i := 290) (by decide +kernel), List.forall_mem_cons.mpr ⟨List.mem_of_getElem? (i := 291) (by decide +kernel), List.forall_mem_cons.mpr ⟨List.mem_of_getElem? (i := 292) (by decide +kernel), List.forall_mem_cons.mpr ⟨List.mem_of_getElem? (i := 293) (by decide +kernel), List.forall_mem_cons.mpr ⟨List.mem_of_getElem? (i := 294) (by decide +kernel), List.forall_mem_cons.mpr ⟨List.mem_of_getElem? (i := 296) (by decide +kernel), List.forall_mem_cons.mpr ⟨List.mem_of_getElem? (i := 298) (by decide +kernel), List.forall_mem_cons.mpr ⟨List.mem_of_getElem? (i := 0) (by decide +kernel), List.forall_mem_cons.mpr ⟨List.mem_of_getElem? (i := 299) (by decide +kernel), fun _ h => absurd h List.not_mem_nil⟩⟩⟩⟩⟩⟩⟩⟩⟩⟩⟩⟩⟩⟩⟩⟩⟩⟩⟩⟩⟩⟩⟩⟩
theorem lwin_r8 : ∀ w ∈ wsL_law_r8, w ∈ lw_tbl := List.forall_mem_cons.mpr ⟨List.mem_of_getElem? (i := 86) (by decide +kernel), List.forall_mem_cons.mpr ⟨List.mem_of_getElem? (i := 108) (by decide +kernel), List.forall_mem_cons.mpr ⟨List.mem_of_getElem? (i := 129) (by decide +kernel), List.forall_mem_cons.mpr ⟨List.mem_of_getElem? (i := 300) (by decide +kernel), List.forall_mem_cons.mpr ⟨List.mem_of_getElem? (i := 302) (by decide +kernel), List.forall_mem_cons.mpr ⟨List.mem_of_getElem? (i := 1) (by decide +kernel), List.forall_mem_cons.mpr ⟨List.mem_of_getElem? (i := 303) (by decide +kernel), List.forall_mem_cons.mpr ⟨List.mem_of_getElem? (i := 671) (by decide +kernel), List.forall_mem_cons.mpr ⟨List.mem_of_getElem? (i := 672) (by decide +kernel), List.forall_mem_cons.mpr ⟨List.mem_of_getElem? (i := 673) (by decide +kernel), List.forall_mem_cons.mpr ⟨List.mem_of_getElem? (i := 674) (by decide +kernel), List.forall_mem_cons.mpr ⟨List.mem_of_getElem? (i := 675) (by decide +kernel), List.forall_mem_cons.mpr ⟨List.mem_of_getElem? (i := 677) (by decide +kernel), List.forall_mem_cons.mpr ⟨List.mem_of_getElem? (i := 29) (by decide +kernel), List.forall_mem_cons.mpr ⟨List.mem_of_getElem? (i := 678) (by decide +kernel), List.forall_mem_cons.mpr ⟨List.mem_of_getElem? (i := 304) (by decide +kernel), List.forall_mem_cons.mpr ⟨List.mem_of_getElem? (i := 305) (by decide +kernel), List.forall_mem_cons.mpr ⟨List.mem_of_getElem? (i := 306) (by decide +kernel), List.forall_mem_cons.mpr ⟨List.mem_of_getElem? (i := 307) (by decide +kernel), List.forall_mem_cons.mpr ⟨List.mem_of_getElem? (i := 131) (by decide +kernel), List.forall_mem_cons.mpr ⟨List.mem_of_getElem? (i := 127) (by decide +kernel), List.forall_mem_cons.mpr ⟨List.mem_of_getElem? (i := 679) (by decide +kernel), List.forall_mem_cons.mpr ⟨List.mem_of_getElem? (i := 680) (by decide +kernel), List.forall_mem_cons.mpr ⟨List.mem_of_getElem? (i := 681) (by decide +kernel), fun _ h => absurd h List.not_mem_nil⟩⟩⟩⟩⟩⟩⟩⟩⟩⟩⟩⟩⟩⟩⟩⟩⟩⟩⟩⟩⟩⟩⟩⟩
theorem lwin_r9 : ∀ w ∈ wsL_law_r9, w ∈ lw_tbl := List.forall_mem_cons.mpr ⟨List.mem_of_getElem? (i := 682) (by decide +kernel), List.forall_mem_cons.mpr ⟨List.mem_of_getElem? (i := 308) (by decide +kernel), List.forall_mem_cons.mpr ⟨List.mem_of_getElem? (i := 309) (by decide +kernel), List.forall_mem_cons.mpr ⟨List.mem_of_getElem? (i := 310) (by decide +kernel), List.forall_mem_cons.mpr ⟨List.mem_of_getElem? (i := 311) (by decide +kernel), List.forall_mem_cons.mpr ⟨List.mem_of_getElem? (i := 154) (by decide +kernel), List.forall_mem_cons.mpr ⟨List.mem_of_getElem? (i := 312) (by decide +kernel), List.forall_mem_cons.mpr ⟨List.mem_of_getElem? (i := 52) (by decide +kernel), List.forall_mem_cons.mpr ⟨List.mem_of_getElem? (i := 313) (by decide +kernel), List.forall_mem_cons.mpr ⟨List.mem_of_getElem? (i := 314) (by decide +kernel), List.forall_mem_cons.mpr ⟨List.mem_of_getElem? (i := 315) (by decide +kernel), List.forall_mem_cons.mpr ⟨List.mem_of_getElem? (i := 316) (by decide +kernel), List.forall_mem_cons.mpr ⟨List.mem_of_getElem? (i := 317) (by decide +kernel), List.forall_mem_cons.mpr ⟨List.mem_of_getElem? (i := 683) (by decide +kernel), List.forall_mem_cons.mpr ⟨List.mem_of_getElem? (i := 684) (by decide +kernel), List.forall_mem_cons.mpr ⟨List.mem_of_getElem? (i := 685) (by decide +kernel), List.forall_mem_cons.mpr ⟨List.mem_of_getElem? (i := 686) (by decide +kernel), List.forall_mem_cons.mpr ⟨List.mem_of_getElem? (i := 558) (by decide +kernel), List.forall_mem_cons.mpr ⟨List.mem_of_getElem? (i := 322) (by decide +kernel), List.forall_mem_cons.mpr ⟨List.mem_of_getElem? (i := 323) (by decide +kernel), List.forall_mem_cons.mpr ⟨List.mem_of_getElem? (i := 324) (by decide +kernel), List.forall_mem_cons.mpr ⟨List.mem_of_getElem? (i := 325) (by decide +kernel), List.forall_mem_cons.mpr ⟨List.mem_of_getElem? (i := 326) (by decide +kernel), List.forall_mem_cons.mpr ⟨List.mem_of_getElem? (i := 328) (by decide +kernel), fun _ h => absurd h List.not_mem_nil⟩⟩⟩⟩⟩⟩⟩⟩⟩⟩⟩⟩⟩⟩⟩⟩⟩⟩⟩⟩⟩⟩⟩⟩
theorem lwin_r10 : ∀ w ∈ wsL_law_r10, w ∈ lw_tbl := List.forall_mem_cons.mpr ⟨List.mem_of_getElem? (i := 2) (by decide +kernel), List.forall_mem_cons.mpr ⟨List.mem_of_getElem? (i := 329) (by decide +kernel), List.forall_mem_cons.mpr ⟨List.mem_of_getElem? (i := 330) (by decide +kernel), List.forall_mem_cons.mpr ⟨List.mem_of_getElem? (i := 332) (by decide +kernel), List.forall_mem_cons.mpr ⟨List.mem_of_getElem? (i := 3) (by decide +kernel), List.forall_mem_cons.mpr ⟨List.mem_of_getElem? (i := 333) (by decide +kernel), List.forall_mem_cons.mpr ⟨List.mem_of_getElem? (i := 334) (by decide +kernel), List.forall_mem_cons.mpr ⟨List.mem_of_getElem? (i := 336) (by decide +kernel), List.forall_mem_cons.mpr ⟨List.mem_of_getElem? (i := 4) (by decide +kernel), List.forall_mem_cons.mpr ⟨List.mem_of_getElem? (i := 337) (by decide +kernel), List.forall_mem_cons.mpr ⟨List.mem_of_getElem? (i := 221) (by decide +kernel), List.forall_mem_cons.mpr ⟨List.mem_of_getElem? (i := 338) (by decide +kernel), List.forall_mem_cons.mpr ⟨List.mem_of_getElem? (i := 340) (by decide +kernel), List.forall_mem_cons.mpr ⟨List.mem_of_getElem? (i := 5) (by decide +kernel), List.forall_mem_cons.mpr ⟨List.mem_of_getElem? (i := 341) (by decide +kernel), List.forall_mem_cons.mpr ⟨List.mem_of_getElem? (i := 342) (by decide +kernel), List.forall_mem_cons.mpr ⟨List.mem_of_getElem? (i := 343) (by decide +kernel), List.forall_mem_cons.mpr ⟨List.mem_of_getElem? (i := 53) (by decide +kernel), List.forall_mem_cons.mpr ⟨List.mem_of_getElem? (i := 344) (by decide +kernel), List.forall_mem_cons.mpr ⟨List.mem_of_getElem? (i := 345) (by decide +kernel), List.forall_mem_cons.mpr ⟨List.mem_of_getElem? (i := 347) (by decide +kernel), List.forall_mem_cons.mpr ⟨List.mem_of_getElem? (i := 6) (by decide +kernel), List.forall_mem_cons.mpr ⟨List.mem_of_getElem? (i := 348) (by decide +kernel), List.forall_mem_cons.mpr ⟨List.mem_of_getElem? (i := 161) (by decide +kernel), fun _ h => absurd h List.not_mem_nil⟩⟩⟩⟩⟩⟩⟩⟩⟩⟩⟩⟩⟩⟩⟩⟩⟩⟩⟩⟩⟩⟩⟩⟩
theorem lwin_r11 : ∀ w ∈ wsL_law_r11, w ∈ lw_tbl := List.forall_mem_cons.mpr ⟨List.mem_of_getElem? (i := 349) (by decide +kernel), List.forall_mem_cons.mpr ⟨List.mem_of_getElem? (i := 351) (by decide +kernel), List.forall_mem_cons.mpr ⟨List.mem_of_getElem? (i := 7) (by decide +kernel), List.forall_mem_cons.mpr ⟨List.mem_of_getElem? (i := 352) (by decide +kernel), List.forall_mem_cons.mpr ⟨List.mem_of_getElem? (i := 220) (by decide +kernel), List.forall_mem_cons.mpr ⟨List.mem_of_getElem? (i := 353) (by decide +kernel), List.forall_mem_cons.mpr ⟨List.mem_of_getElem? (i := 355) (by decide +kernel), List.forall_mem_cons.mpr ⟨List.mem_of_getElem? (i := 8) (by decide +kernel), List.forall_mem_cons.mpr ⟨List.mem_of_getElem? (i := 356) (by decide +kernel), List.forall_mem_cons.mpr ⟨List.mem_of_getElem? (i := 224) (by decide +kernel), List.forall_mem_cons.mpr ⟨List.mem_of_getElem? (i := 357) (by decide +kernel), List.forall_mem_cons.mpr ⟨List.mem_of_getElem? (i := 359) (by decide +kernel), List.forall_mem_cons.mpr ⟨List.mem_of_getElem? (i := 9) (by decide +kernel), List.forall_mem_cons.mpr ⟨List.mem_of_getElem? (i := 360) (by decide +kernel), List.forall_mem_cons.mpr ⟨List.mem_of_getElem? (i := 361) (by decide +kernel), List.forall_mem_cons.mpr ⟨List.mem_of_getElem? (i := 364) (by decide +kernel), List.forall_mem_cons.mpr ⟨List.mem_of_getElem? (i := 362) (by decide +kernel), List.forall_mem_cons.mpr ⟨List.mem_of_getElem? (i := 365) (by decide +kernel), List.forall_mem_cons.mpr ⟨List.mem_of_getElem? (i := 366) (by decide +kernel), List.forall_mem_cons.mpr ⟨List.mem_of_getElem? (i := 367) (by decide +kernel), List.forall_mem_cons.mpr ⟨List.mem_of_getElem? (i := 226) (by decide +kernel), List.forall_mem_cons.mpr ⟨List.mem_of_getElem? (i := 227) (by decide +kernel), List.forall_mem_cons.mpr ⟨List.mem_of_getElem? (i := 372) (by decide +kernel), List.forall_mem_cons.mpr ⟨List.mem_of_getElem? (i := 361) (by decide +kernel), fun _ h => absurd h List.not_mem_nil⟩⟩⟩⟩⟩⟩⟩⟩⟩⟩⟩⟩⟩⟩⟩⟩⟩⟩⟩⟩⟩⟩⟩⟩
theorem lwin_r12 : ∀ w ∈ wsL_law_r12, w ∈ lw_tbl := List.forall_mem_cons.mpr ⟨List.mem_of_getElem? (i := 362) (by decide +kernel), List.forall_mem_cons.mpr ⟨List.mem_of_getElem? (i := 363) (by decide +kernel), List.forall_mem_cons.mpr ⟨List.mem_of_getElem? (i := 225) (by decide +kernel), List.forall_mem_cons.mpr ⟨List.mem_of_getElem? (i := 368) (by decide +kernel), List.forall_mem_cons.mpr ⟨List.mem_of_getElem? (i := 369) (by decide +kernel), List.forall_mem_cons.mpr ⟨List.mem_of_getElem? (i := 370) (by decide +kernel), List.forall_mem_cons.mpr ⟨List.mem_of_getElem? (i := 222) (by decide +kernel), List.forall_mem_cons.mpr ⟨List.mem_of_getElem? (i := 223) (by decide +kernel), List.forall_mem_cons.mpr ⟨List.mem_of_getElem? (i := 371) (by decide +kernel), List.forall_mem_cons.mpr ⟨List.mem_of_getElem? (i := 778) (by decide +kernel), List.forall_mem_cons.mpr ⟨List.mem_of_getElem? (i := 257) (by decide +kernel), List.forall_mem_cons.mpr ⟨List.mem_of_getElem? (i := 373) (by decide +kernel), List.forall_mem_cons.mpr ⟨List.mem_of_getElem? (i := 375) (by decide +kernel), List.forall_mem_cons.mpr ⟨List.mem_of_getElem? (i := 10) (by decide +kernel), List.forall_mem_cons.mpr ⟨List.mem_of_getElem? (i := 376) (by decide +kernel), List.forall_mem_cons.mpr ⟨List.mem_of_getElem? (i := 377) (by decide +kernel), List.forall_mem_cons.mpr ⟨List.mem_of_getElem? (i := 379) (by decide +kernel), List.forall_mem_cons.mpr ⟨List.mem_of_getElem? (i := 11) (by decide +kernel), List.forall_mem_cons.mpr ⟨List.mem_of_getElem? (i := 380) (by decide +kernel), List.forall_mem_cons.mpr ⟨List.mem_of_getElem? (i := 381) (by decide +kernel), List.forall_mem_cons.mpr ⟨List.mem_of_getElem? (i := 383) (by decide +kernel), List.forall_mem_cons.mpr ⟨List.mem_of_getElem? (i := 384) (by decide +kernel), List.forall_mem_cons.mpr ⟨List.mem_of_getElem? (i := 385) (by decide +kernel), List.forall_mem_cons.mpr ⟨List.mem_of_getElem? (i := 386) (by decide +kernel), fun _ h => absurd h List.not_mem_nil⟩⟩⟩⟩⟩⟩⟩⟩⟩⟩⟩⟩⟩⟩⟩⟩⟩⟩⟩⟩⟩⟩⟩⟩
theorem lwin_r13 : ∀ w ∈ wsL_law_r13, w ∈ lw_tbl := List.forall_mem_cons.mpr ⟨List.mem_of_getElem? (i := 229) (by decide +kernel), List.forall_mem_cons.mpr ⟨List.mem_of_getElem? (i := 230) (by decide +kernel), List.forall_mem_cons.mpr ⟨List.mem_of_getElem? (i := 387) (by decide +kernel), List.forall_mem_cons.mpr ⟨List.mem_of_getElem? (i := 388) (by decide +kernel), List.forall_mem_cons.mpr ⟨List.mem_of_getElem? (i := 389) (by decide +kernel), List.forall_mem_cons.mpr ⟨List.mem_of_getElem? (i := 231) (by decide +kernel), List.forall_mem_cons.mpr ⟨List.mem_of_getElem? (i := 390) (by decide +kernel), List.forall_mem_cons.mpr ⟨List.mem_of_getElem? (i := 391) (by decide +kernel), List.forall_mem_cons.mpr ⟨List.mem_of_getElem? (i := 392) (by decide +kernel), List.forall_mem_cons.mpr ⟨List.mem_of_getElem? (i := 232) (by decide +kernel), List.forall_mem_cons.mpr ⟨List.mem_of_getElem? (i := 233) (by decide +kernel), List.forall_mem_cons.mpr ⟨List.mem_of_getElem? (i := 393) (by decide +kernel), List.forall_mem_cons.mpr ⟨List.mem_of_getElem? (i := 779) (by decide +kernel), List.forall_mem_cons.mpr ⟨List.mem_of_getElem? (i := 394) (by decide +kernel), List.forall_mem_cons.mpr ⟨List.mem_of_getElem? (i := 395) (by decide +kernel), List.forall_mem_cons.mpr ⟨List.mem_of_getElem? (i := 396) (by decide +kernel), List.forall_mem_cons.mpr ⟨List.mem_of_getElem? (i := 277) (by decide +kernel), List.forall_mem_cons.mpr ⟨List.mem_of_getElem? (i := 397) (by decide +kernel), List.forall_mem_cons.mpr ⟨List.mem_of_getElem? (i := 399) (by decide +kernel), List.forall_mem_cons.mpr ⟨List.mem_of_getElem? (i := 12) (by decide +kernel), List.forall_mem_cons.mpr ⟨List.mem_of_getElem? (i := 400) (by decide +kernel), List.forall_mem_cons.mpr ⟨List.mem_of_getElem? (i := 63) (by decide +kernel), List.forall_mem_cons.mpr ⟨List.mem_of_getElem? (i := 401) (by decide +kernel), List.forall_mem_cons.mpr ⟨List.mem_of_getElem? (i := 403) (by decide +kernel), fun _ h => absurd h List.not_mem_nil⟩⟩⟩⟩⟩⟩⟩⟩⟩⟩⟩⟩⟩⟩⟩⟩⟩⟩⟩⟩⟩⟩⟩⟩
theorem lwin_r14 : ∀ w ∈ wsL_law_r14, w ∈ lw_tbl := List.forall_mem_cons.mpr ⟨List.mem_of_getElem? (i := 13) (by decide +kernel), List.forall_mem_cons.mpr ⟨List.mem_of_getElem? (i := 404) (by decide +kernel), List.forall_mem_cons.mpr ⟨List.mem_of_getElem? (i := 246) (by decide +kernel), List.forall_mem_cons.mpr ⟨List.mem_of_getElem? (i := 405) (by decide +kernel), List.forall_mem_cons.mpr ⟨List.mem_of_getElem? (i := 407) (by decide +kernel), List.forall_mem_cons.mpr ⟨List.mem_of_getElem? (i := 14) (by decide +kernel), List.forall_mem_cons.mpr ⟨List.mem_of_getElem? (i := 408) (by decide +kernel), List.forall_mem_cons.mpr ⟨by decide +kernel, List.forall_mem_cons.mpr ⟨by decide +kernel, List.forall_mem_cons.mpr ⟨List.mem_of_getElem? (i := 53) (by decide +kernel), List.forall_mem_cons.mpr ⟨by decide +kernel, List.forall_mem_cons.mpr ⟨List.mem_of_getElem? (i := 412) (by decide +kernel), List.forall_mem_cons.mpr ⟨List.mem_of_getElem? (i := 414) (by decide +kernel), List.forall_mem_cons.mpr ⟨List.mem_of_getElem? (i := 15) (by decide +kernel), List.forall_mem_cons.mpr ⟨List.mem_of_getElem? (i := 415) (by decide +kernel), List.forall_mem_cons.mpr ⟨List.mem_of_getElem? (i := 416) (by decide +kernel), List.forall_mem_cons.mpr ⟨List.mem_of_getElem? (i := 417) (by decide +kernel), List.forall_mem_cons.mpr ⟨List.mem_of_getElem? (i := 418) (by decide +kernel), List.forall_mem_cons.mpr ⟨List.mem_of_getElem? (i := 419) (by decide +kernel), List.forall_mem_cons.mpr ⟨List.mem_of_getElem? (i := 85) (by decide +kernel), List.forall_mem_cons.mpr ⟨List.mem_of_getElem? (i := 87) (by decide +kernel), List.forall_mem_cons.mpr ⟨List.mem_of_getElem? (i := 88) (by decide +kernel), List.forall_mem_cons.mpr ⟨List.mem_of_getElem? (i := 420) (by decide +kernel), List.forall_mem_cons.mpr ⟨List.mem_of_getElem? (i := 422) (by decide +kernel), fun _ h => absurd h List.not_mem_nil⟩⟩⟩⟩⟩⟩⟩⟩⟩⟩⟩⟩⟩⟩⟩⟩⟩⟩⟩⟩⟩⟩⟩⟩
theorem lwin_r15 : ∀ w ∈ wsL_law_r15, w ∈ lw_tbl := List.forall_mem_cons.mpr ⟨List.mem_of_getElem? (i := 16) (by decide +kernel), List.forall_mem_cons.mpr ⟨List.mem_of_getElem? (i := 423) (by decide +kernel), List.forall_mem_cons.mpr ⟨List.mem_of_getElem? (i := 89) (by decide +kernel), List.forall_mem_cons.mpr ⟨List.mem_of_getElem? (i := 84) (by decide +kernel), List.forall_mem_cons.mpr ⟨List.mem_of_getElem? (i := 424) (by decide +kernel), List.forall_mem_cons.mpr ⟨List.mem_of_getElem? (i := 425) (by decide +kernel), List.forall_mem_cons.mpr ⟨List.mem_of_getElem? (i := 426) (by decide +kernel), List.forall_mem_cons.mpr ⟨List.mem_of_getElem? (i := 427) (by decide +kernel), List.forall_mem_cons.mpr ⟨List.mem_of_getElem? (i := 428) (by decide +kernel), List.forall_mem_cons.mpr ⟨List.mem_of_getElem? (i := 431) (by decide +kernel), List.forall_mem_cons.mpr ⟨List.mem_of_getElem? (i := 429) (by decide +kernel), List.forall_mem_cons.mpr ⟨List.mem_of_getElem? (i := 432) (by decide +kernel), List.forall_mem_cons.mpr ⟨List.mem_of_getElem? (i := 433) (by decide +kernel), List.forall_mem_cons.mpr ⟨List.mem_of_getElem? (i := 434) (by decide +kernel), List.forall_mem_cons.mpr ⟨List.mem_of_getElem? (i := 438) (by decide +kernel), List.forall_mem_cons.mpr ⟨List.mem_of_getElem? (i := 428) (by decide +kernel), List.forall_mem_cons.mpr ⟨List.mem_of_getElem? (i := 429) (by decide +kernel), List.forall_mem_cons.mpr ⟨List.mem_of_getElem? (i := 430) (by decide +kernel), List.forall_mem_cons.mpr ⟨List.mem_of_getElem? (i := 435) (by decide +kernel), List.forall_mem_cons.mpr ⟨List.mem_of_getElem? (i := 436) (by decide +kernel), List.forall_mem_cons.mpr ⟨List.mem_of_getElem? (i := 437) (by decide +kernel), List.forall_mem_cons.mpr ⟨List.mem_of_getElem? (i := 439) (by decide +kernel), List.forall_mem_cons.mpr ⟨List.mem_of_getElem? (i := 441) (by decide +kernel), List.forall_mem_cons.mpr ⟨List.mem_of_getElem? (i := 17) (by decide +kernel), fun _ h => absurd h List.not_mem_nil⟩⟩⟩⟩⟩⟩⟩⟩⟩⟩⟩⟩⟩⟩⟩⟩⟩⟩⟩⟩⟩⟩⟩⟩
theorem lwin_r16 : ∀ w ∈ wsL_law_r16, w ∈ lw_tbl := List.forall_mem_cons.mpr ⟨List.mem_of_getElem? (i := 442) (by decide +kernel), List.forall_mem_cons.mpr ⟨List.mem_of_getElem? (i := 443) (by decide +kernel), List.forall_mem_cons.mpr ⟨List.mem_of_getElem? (i := 445) (by decide +kernel), List.forall_mem_cons.mpr ⟨List.mem_of_getElem? (i := 18) (by decide +kernel), List.forall_mem_cons.mpr ⟨List.mem_of_getElem? (i := 446) (by decide +kernel), List.forall_mem_cons.mpr ⟨List.mem_of_getElem? (i := 447) (by decide +kernel), List.forall_mem_cons.mpr ⟨List.mem_of_getElem? (i := 449) (by decide +kernel), List.forall_mem_cons.mpr ⟨List.mem_of_getElem? (i := 19) (by decide +kernel), List.forall_mem_cons.mpr ⟨List.mem_of_getElem? (i := 450) (by decide +kernel), List.forall_mem_cons.mpr ⟨List.mem_of_getElem? (i := 451) (by decide +kernel), List.forall_mem_cons.mpr ⟨List.mem_of_getElem? (i := 780) (by decide +kernel), List.forall_mem_cons.mpr ⟨List.mem_of_getElem? (i := 388) (by decide +kernel), List.forall_mem_cons.mpr ⟨List.mem_of_getElem? (i := 781) (by decide +kernel), List.forall_mem_cons.mpr ⟨List.mem_of_getElem? (i := 451) (by decide +kernel), List.forall_mem_cons.mpr ⟨List.mem_of_getElem? (i := 782) (by decide +kernel), List.forall_mem_cons.mpr ⟨List.mem_of_getElem? (i := 783) (by decide +kernel), List.forall_mem_cons.mpr ⟨List.mem_of_getElem? (i := 452) (by decide +kernel), List.forall_mem_cons.mpr ⟨List.mem_of_getElem? (i := 454) (by decide +kernel), List.forall_mem_cons.mpr ⟨List.mem_of_getElem? (i := 20) (by decide +kernel), List.forall_mem_cons.mpr ⟨List.mem_of_getElem? (i := 455) (by decide +kernel), List.forall_mem_cons.mpr ⟨List.mem_of_getElem? (i := 456) (by decide +kernel), List.forall_mem_cons.mpr ⟨List.mem_of_getElem? (i := 458) (by decide +kernel), List.forall_mem_cons.mpr ⟨List.mem_of_getElem? (i := 21) (by decide +kernel), List.forall_mem_cons.mpr ⟨List.mem_of_getElem? (i := 459) (by decide +kernel), fun _ h => absurd h List.not_mem_nil⟩⟩⟩⟩⟩⟩⟩⟩⟩⟩⟩⟩⟩⟩⟩⟩⟩⟩⟩⟩⟩⟩⟩⟩
theorem lwin_r17 : ∀ w ∈ wsL_law_r17, w ∈ lw_tbl := List.forall_mem_cons.mpr ⟨List.mem_of_getElem? (i := 460) (by decide +kernel), List.forall_mem_cons.mpr ⟨List.mem_of_getElem? (i := 461) (by decide +kernel), List.forall_mem_cons.mpr ⟨List.mem_of_getElem? (i := 462) (by decide +kernel), List.forall_mem_cons.mpr ⟨List.mem_of_getElem? (i := 463) (by decide +kernel), List.forall_mem_cons.mpr ⟨List.mem_of_getElem? (i := 107) (by decide +kernel), List.forall_mem_cons.mpr ⟨List.mem_of_getElem? (i := 109) (by decide +kernel), List.forall_mem_cons.mpr ⟨List.mem_of_getElem? (i := 464) (by decide +kernel), List.forall_mem_cons.mpr ⟨List.mem_of_getElem? (i := 465) (by decide +kernel), List.forall_mem_cons.mpr ⟨List.mem_of_getElem? (i := 54) (by decide +kernel), List.forall_mem_cons.mpr ⟨List.mem_of_getElem? (i := 466) (by decide +kernel), List.forall_mem_cons.mpr ⟨List.mem_of_getElem? (i := 467) (by decide +kernel), List.forall_mem_cons.mpr ⟨List.mem_of_getElem? (i := 469) (by decide +kernel), List.forall_mem_cons.mpr ⟨List.mem_of_getElem? (i := 22) (by decide +kernel), List.forall_mem_cons.mpr ⟨List.mem_of_getElem? (i := 470) (by decide +kernel), List.forall_mem_cons.mpr ⟨List.mem_of_getElem? (i := 110) (by decide +kernel), List.forall_mem_cons.mpr ⟨List.mem_of_getElem? (i := 106) (by decide +kernel), List.forall_mem_cons.mpr ⟨List.mem_of_getElem? (i := 471) (by decide +kernel), List.forall_mem_cons.mpr ⟨List.mem_of_getElem? (i := 473) (by decide +kernel), List.forall_mem_cons.mpr ⟨List.mem_of_getElem? (i := 23) (by decide +kernel), List.forall_mem_cons.mpr ⟨List.mem_of_getElem? (i := 474) (by decide +kernel), List.forall_mem_cons.mpr ⟨List.mem_of_getElem? (i := 475) (by decide +kernel), List.forall_mem_cons.mpr ⟨List.mem_of_getElem? (i := 476) (by decide +kernel), List.forall_mem_cons.mpr ⟨List.mem_of_getElem? (i := 477) (by decide +kernel), List.forall_mem_cons.mpr ⟨List.mem_of_getElem? (i := 478) (by decide +kernel), fun _ h => absurd h List.not_mem_nil⟩⟩⟩⟩⟩⟩⟩⟩⟩⟩⟩⟩⟩⟩⟩⟩⟩⟩⟩⟩⟩⟩⟩⟩
theorem lwin_r18 : ∀ w ∈ wsL_law_r18, w ∈ lw_tbl := List.forall_mem_cons.mpr ⟨List.mem_of_getElem? (i := 479) (by decide +kernel), List.forall_mem_cons.mpr ⟨List.mem_of_getElem? (i := 481) (by decide +kernel), List.forall_mem_cons.mpr ⟨List.mem_of_getElem? (i := 24) (by decide +kernel), List.forall_mem_cons.mpr ⟨List.mem_of_getElem? (i := 482) (by decide +kernel), List.forall_mem_cons.mpr ⟨List.mem_of_getElem? (i := 483) (by decide +kernel), List.forall_mem_cons.mpr ⟨List.mem_of_getElem? (i := 485) (by decide +kernel), List.forall_mem_cons.mpr ⟨List.mem_of_getElem? (i := 25) (by decide +kernel), List.forall_mem_cons.mpr ⟨List.mem_of_getElem? (i := 486) (by decide +kernel), List.forall_mem_cons.mpr ⟨List.mem_of_getElem? (i := 487) (by decide +kernel), List.forall_mem_cons.mpr ⟨List.mem_of_getElem? (i := 488) (by decide +kernel), List.forall_mem_cons.mpr ⟨List.mem_of_getElem? (i := 489) (by decide +kernel), List.forall_mem_cons.mpr ⟨List.mem_of_getElem? (i := 490) (by decide +kernel), List.forall_mem_cons.mpr ⟨List.mem_of_getElem? (i := 128) (by decide +kernel), List.forall_mem_cons.mpr ⟨List.mem_of_getElem? (i := 130) (by decide +kernel), List.forall_mem_cons.mpr ⟨List.mem_of_getElem? (i := 132) (by decide +kernel), List.forall_mem_cons.mpr ⟨List.mem_of_getElem? (i := 491) (by decide +kernel), List.forall_mem_cons.mpr ⟨List.mem_of_getElem? (i := 492) (by decide +kernel), List.forall_mem_cons.mpr ⟨List.mem_of_getElem? (i := 494) (by decide +kernel), List.forall_mem_cons.mpr ⟨List.mem_of_getElem? (i := 26) (by decide +kernel), List.forall_mem_cons.mpr ⟨List.mem_of_getElem? (i := 495) (by decide +kernel), List.forall_mem_cons.mpr ⟨List.mem_of_getElem? (i := 133) (by decide +kernel), List.forall_mem_cons.mpr ⟨List.mem_of_getElem? (i := 125) (by decide +kernel), List.forall_mem_cons.mpr ⟨List.mem_of_getElem? (i := 496) (by decide +kernel), List.forall_mem_cons.mpr ⟨List.mem_of_getElem? (i := 498) (by decide +kernel), fun _ h => absurd h List.not_mem_nil⟩⟩⟩⟩⟩⟩⟩⟩⟩⟩⟩⟩⟩⟩⟩⟩⟩⟩⟩⟩⟩⟩⟩⟩
theorem lwin_r19 : ∀ w ∈ wsL_law_r19, w ∈ lw_tbl := List.forall_mem_cons.mpr ⟨List.mem_of_getElem? (i := 27) (by decide +kernel), List.forall_mem_cons.mpr ⟨List.mem_of_getElem? (i := 499) (by decide +kernel), List.forall_mem_cons.mpr ⟨List.mem_of_getElem? (i := 318) (by decide +kernel), List.forall_mem_cons.mpr ⟨List.mem_of_getElem? (i := 687) (by decide +kernel), List.forall_mem_cons.mpr ⟨List.mem_of_getElem? (i := 688) (by decide +kernel), List.forall_mem_cons.mpr ⟨List.mem_of_getElem? (i := 689) (by decide +kernel), List.forall_mem_cons.mpr ⟨List.mem_of_getElem? (i := 690) (by decide +kernel), List.forall_mem_cons.mpr ⟨List.mem_of_getElem? (i := 691) (by decide +kernel), List.forall_mem_cons.mpr ⟨List.mem_of_getElem? (i := 693) (by decide +kernel), List.forall_mem_cons.mpr ⟨List.mem_of_getElem? (i := 30) (by decide +kernel), List.forall_mem_cons.mpr ⟨List.mem_of_getElem? (i := 694) (by decide +kernel), List.forall_mem_cons.mpr ⟨List.mem_of_getElem? (i := 582) (by decide +kernel), List.forall_mem_cons.mpr ⟨List.mem_of_getElem? (i := 581) (by decide +kernel), List.forall_mem_cons.mpr ⟨List.mem_of_getElem? (i := 695) (by decide +kernel), List.forall_mem_cons.mpr ⟨List.mem_of_getElem? (i := 697) (by decide +kernel), List.forall_mem_cons.mpr ⟨List.mem_of_getElem? (i := 31) (by decide +kernel), List.forall_mem_cons.mpr ⟨List.mem_of_getElem? (i := 698) (by decide +kernel), List.forall_mem_cons.mpr ⟨List.mem_of_getElem? (i := 699) (by decide +kernel), List.forall_mem_cons.mpr ⟨List.mem_of_getElem? (i := 700) (by decide +kernel), List.forall_mem_cons.mpr ⟨List.mem_of_getElem? (i := 701) (by decide +kernel), List.forall_mem_cons.mpr ⟨List.mem_of_getElem? (i := 702) (by decide +kernel), List.forall_mem_cons.mpr ⟨List.mem_of_getElem? (i := 704) (by decide +kernel), List.forall_mem_cons.mpr ⟨List.mem_of_getElem? (i := 32) (by decide +kernel), List.forall_mem_cons.mpr ⟨List.mem_of_getElem? (i := 705) (by decide +kernel), fun _ h => absurd h List.not_mem_nil⟩⟩⟩⟩⟩⟩⟩⟩⟩⟩⟩⟩⟩⟩⟩⟩⟩⟩⟩⟩⟩⟩⟩⟩
theorem lwin_r20 : ∀ w ∈ wsL_law_r20, w ∈ lw_tbl := List.forall_mem_cons.mpr ⟨List.mem_of_getElem? (i := 706) (by decide +kernel), List.forall_mem_cons.mpr ⟨List.mem_of_getElem? (i := 708) (by decide +kernel), List.forall_mem_cons.mpr ⟨List.mem_of_getElem? (i := 33) (by decide +kernel), List.forall_mem_cons.mpr ⟨List.mem_of_getElem? (i := 709) (by decide +kernel), List.forall_mem_cons.mpr ⟨List.mem_of_getElem? (i := 710) (by decide +kernel), List.forall_mem_cons.mpr ⟨List.mem_of_getElem? (i := 712) (by decide +kernel), List.forall_mem_cons.mpr ⟨List.mem_of_getElem? (i := 34) (by decide +kernel), List.forall_mem_cons.mpr ⟨List.mem_of_getElem? (i := 713) (by decide +kernel), List.forall_mem_cons.mpr ⟨List.mem_of_getElem? (i := 714) (by decide +kernel), List.forall_mem_cons.mpr ⟨List.mem_of_getElem? (i := 716) (by decide +kernel), List.forall_mem_cons.mpr ⟨List.mem_of_getElem? (i := 35) (by decide +kernel), List.forall_mem_cons.mpr ⟨List.mem_of_getElem? (i := 717) (by decide +kernel), List.forall_mem_cons.mpr ⟨List.mem_of_getElem? (i := 718) (by decide +kernel), List.forall_mem_cons.mpr ⟨List.mem_of_getElem? (i := 720) (by decide +kernel), List.forall_mem_cons.mpr ⟨List.mem_of_getElem? (i := 36) (by decide +kernel), List.forall_mem_cons.mpr ⟨List.mem_of_getElem? (i := 721) (by decide +kernel), List.forall_mem_cons.mpr ⟨List.mem_of_getElem? (i := 722) (by decide +kernel), List.forall_mem_cons.mpr ⟨List.mem_of_getElem? (i := 723) (by decide +kernel), List.forall_mem_cons.mpr ⟨List.mem_of_getElem? (i := 724) (by decide +kernel), List.forall_mem_cons.mpr ⟨List.mem_of_getElem? (i := 725) (by decide +kernel), List.forall_mem_cons.mpr ⟨List.mem_of_getElem? (i := 727) (by decide +kernel), List.forall_mem_cons.mpr ⟨List.mem_of_getElem? (i := 37) (by decide +kernel), List.forall_mem_cons.mpr ⟨List.mem_of_getElem? (i := 728) (by decide +kernel), List.forall_mem_cons.mpr ⟨List.mem_of_getElem? (i := 729) (by decide +kernel), fun _ h => absurd h List.not_mem_nil⟩⟩⟩⟩⟩⟩⟩⟩⟩⟩⟩⟩⟩⟩⟩⟩⟩⟩⟩⟩⟩⟩⟩⟩
theorem lwin_r21 : ∀ w ∈ wsL_law_r21, w ∈ lw_tbl := List.forall_mem_cons.mpr ⟨List.mem_of_getElem? (i := 731) (by decide +kernel), List.forall_mem_cons.mpr ⟨List.mem_of_getElem? (i := 38) (by decide +kernel), List.forall_mem_cons.mpr ⟨List.mem_of_getElem? (i := 732) (by decide +kernel), List.forall_mem_cons.mpr ⟨List.mem_of_getElem? (i := 733) (by decide +kernel), List.forall_mem_cons.mpr ⟨List.mem_of_getElem? (i := 735) (by decide +kernel), List.forall_mem_cons.mpr ⟨List.mem_of_getElem? (i := 39) (by decide +kernel), List.forall_mem_cons.mpr ⟨List.mem_of_getElem? (i := 736) (by decide +kernel), List.forall_mem_cons.mpr ⟨List.mem_of_getElem? (i := 737) (by decide +kernel), List.forall_mem_cons.mpr ⟨List.mem_of_getElem? (i := 739) (by decide +kernel), List.forall_mem_cons.mpr ⟨List.mem_of_getElem? (i := 40) (by decide +kernel), List.forall_mem_cons.mpr ⟨List.mem_of_getElem? (i := 740) (by decide +kernel), List.forall_mem_cons.mpr ⟨List.mem_of_getElem? (i := 500) (by decide +kernel), List.forall_mem_cons.mpr ⟨List.mem_of_getElem? (i := 501) (by decide +kernel), List.forall_mem_cons.mpr ⟨List.mem_of_getElem? (i := 502) (by decide +kernel), List.forall_mem_cons.mpr ⟨List.mem_of_getElem? (i := 503) (by decide +kernel), List.forall_mem_cons.mpr ⟨List.mem_of_getElem? (i := 741) (by decide +kernel), List.forall_mem_cons.mpr ⟨List.mem_of_getElem? (i := 742) (by decide +kernel), List.forall_mem_cons.mpr ⟨List.mem_of_getElem? (i := 743) (by decide +kernel), List.forall_mem_cons.mpr ⟨List.mem_of_getElem? (i := 744) (by decide +kernel), List.forall_mem_cons.mpr ⟨List.mem_of_getElem? (i := 504) (by decide +kernel), List.forall_mem_cons.mpr ⟨List.mem_of_getElem? (i := 505) (by decide +kernel), List.forall_mem_cons.mpr ⟨List.mem_of_getElem? (i := 506) (by decide +kernel), List.forall_mem_cons.mpr ⟨List.mem_of_getElem? (i := 507) (by decide +kernel), List.forall_mem_cons.mpr ⟨List.mem_of_getElem? (i := 156) (by decide +kernel), fun _ h => absurd h List.not_mem_nil⟩⟩⟩⟩⟩⟩⟩⟩⟩⟩⟩⟩⟩⟩⟩⟩⟩⟩⟩⟩⟩⟩⟩⟩
theorem lwin_r22 : ∀ w ∈ wsL_law_r22, w ∈ lw_tbl := List.forall_mem_cons.mpr ⟨List.mem_of_getElem? (i := 745) (by decide +kernel), List.forall_mem_cons.mpr ⟨List.mem_of_getElem? (i := 746) (by decide +kernel), List.forall_mem_cons.mpr ⟨List.mem_of_getElem? (i := 747) (by decide +kernel), List.forall_mem_cons.mpr ⟨List.mem_of_getElem? (i := 748) (by decide +kernel), List.forall_mem_cons.mpr ⟨List.mem_of_getElem? (i := 572) (by decide +kernel), List.forall_mem_cons.mpr ⟨List.mem_of_getElem? (i := 508) (by decide +kernel), List.forall_mem_cons.mpr ⟨List.mem_of_getElem? (i := 509) (by decide +kernel), List.forall_mem_cons.mpr ⟨List.mem_of_getElem? (i := 510) (by decide +kernel), List.forall_mem_cons.mpr ⟨List.mem_of_getElem? (i := 511) (by decide +kernel), List.forall_mem_cons.mpr ⟨List.mem_of_getElem? (i := 749) (by decide +kernel), List.forall_mem_cons.mpr ⟨List.mem_of_getElem? (i := 750) (by decide +kernel), List.forall_mem_cons.mpr ⟨List.mem_of_getElem? (i := 751) (by decide +kernel), List.forall_mem_cons.mpr ⟨List.mem_of_getElem? (i := 752) (by decide +kernel), List.forall_mem_cons.mpr ⟨List.mem_of_getElem? (i := 512) (by decide +kernel), List.forall_mem_cons.mpr ⟨List.mem_of_getElem? (i := 513) (by decide +kernel), List.forall_mem_cons.mpr ⟨List.mem_of_getElem? (i := 514) (by decide +kernel), List.forall_mem_cons.mpr ⟨List.mem_of_getElem? (i := 515) (by decide +kernel), List.forall_mem_cons.mpr ⟨List.mem_of_getElem? (i := 516) (by decide +kernel), List.forall_mem_cons.mpr ⟨List.mem_of_getElem? (i := 518) (by decide +kernel), List.forall_mem_cons.mpr ⟨List.mem_of_getElem? (i := 28) (by decide +kernel), List.forall_mem_cons.mpr ⟨List.mem_of_getElem? (i := 519) (by decide +kernel), List.forall_mem_cons.mpr ⟨List.mem_of_getElem? (i := 159) (by decide +kernel), List.forall_mem_cons.mpr ⟨List.mem_of_getElem? (i := 753) (by decide +kernel), List.forall_mem_cons.mpr ⟨List.mem_of_getElem? (i := 754) (by decide +kernel), fun _ h => absurd h List.not_mem_nil⟩⟩⟩⟩⟩⟩⟩⟩⟩⟩⟩⟩⟩⟩⟩⟩⟩⟩⟩⟩⟩⟩⟩⟩
theorem lwin_r23 : ∀ w ∈ wsL_law_r23, w ∈ lw_tbl := List.forall_mem_cons.mpr ⟨List.mem_of_getElem? (i := 755) (by decide +kernel), List.forall_mem_cons.mpr ⟨List.mem_of_getElem? (i := 756) (by decide +kernel), List.forall_mem_cons.mpr ⟨List.mem_of_getElem? (i := 577) (by decide +kernel), List.forall_mem_cons.mpr ⟨List.mem_of_getElem? (i := 520) (by decide +kernel), List.forall_mem_cons.mpr ⟨List.mem_of_getElem? (i := 521) (by decide +kernel), List.forall_mem_cons.mpr ⟨List.mem_of_getElem? (i := 522) (by decide +kernel), List.forall_mem_cons.mpr ⟨List.mem_of_getElem? (i := 523) (by decide +kernel), List.forall_mem_cons.mpr ⟨List.mem_of_getElem? (i := 757) (by decide +kernel), List.forall_mem_cons.mpr ⟨List.mem_of_getElem? (i := 758) (by decide +kernel), List.forall_mem_cons.mpr ⟨List.mem_of_getElem? (i := 759) (by decide +kernel), List.forall_mem_cons.mpr ⟨List.mem_of_getElem? (i := 760) (by decide +kernel), List.forall_mem_cons.mpr ⟨List.mem_of_getElem? (i := 524) (by decide +kernel), List.forall_mem_cons.mpr ⟨List.mem_of_getElem? (i := 525) (by decide +kernel), List.forall_mem_cons.mpr ⟨List.mem_of_getElem? (i := 526) (by decide +kernel), List.forall_mem_cons.mpr ⟨List.mem_of_getElem? (i := 527) (by decide +kernel), List.forall_mem_cons.mpr ⟨List.mem_of_getElem? (i := 228) (by decide +kernel), List.forall_mem_cons.mpr ⟨List.mem_of_getElem? (i := 234) (by decide +kernel), List.forall_mem_cons.mpr ⟨List.mem_of_getElem? (i := 528) (by decide +kernel), List.forall_mem_cons.mpr ⟨List.mem_of_getElem? (i := 528) (by decide +kernel), List.forall_mem_cons.mpr ⟨List.mem_of_getElem? (i := 761) (by decide +kernel), List.forall_mem_cons.mpr ⟨List.mem_of_getElem? (i := 762) (by decide +kernel), List.forall_mem_cons.mpr ⟨List.mem_of_getElem? (i := 763) (by decide +kernel), List.forall_mem_cons.mpr ⟨List.mem_of_getElem? (i := 764) (by decide +kernel), List.forall_mem_cons.mpr ⟨List.mem_of_getElem? (i := 529) (by decide +kernel), fun _ h => absurd h List.not_mem_nil⟩⟩⟩⟩⟩⟩⟩⟩⟩⟩⟩⟩⟩⟩⟩⟩⟩⟩⟩⟩⟩⟩⟩⟩
theorem lwin_r24 : ∀ w ∈ wsL_law_r24, w ∈ lw_tbl := List.forall_mem_cons.mpr ⟨List.mem_of_getElem? (i := 530) (by decide +kernel), List.forall_mem_cons.mpr ⟨List.mem_of_getElem? (i := 531) (by decide +kernel), List.forall_mem_cons.mpr ⟨List.mem_of_getElem? (i := 532) (by decide +kernel), List.forall_mem_cons.mpr ⟨List.mem_of_getElem? (i := 765) (by decide +kernel), List.forall_mem_cons.mpr ⟨List.mem_of_getElem? (i := 766) (by decide +kernel), List.forall_mem_cons.mpr ⟨List.mem_of_getElem? (i := 767) (by decide +kernel), List.forall_mem_cons.mpr ⟨List.mem_of_getElem? (i := 768) (by decide +kernel), List.forall_mem_cons.mpr ⟨List.mem_of_getElem? (i := 533) (by decide +kernel), List.forall_mem_cons.mpr ⟨List.mem_of_getElem? (i := 534) (by decide +kernel), List.forall_mem_cons.mpr ⟨List.mem_of_getElem? (i := 535) (by decide +kernel), List.forall_mem_cons.mpr ⟨List.mem_of_getElem? (i := 536) (by decide +kernel), List.forall_mem_cons.mpr ⟨List.mem_of_getElem? (i := 769) (by decide +kernel), List.forall_mem_cons.mpr ⟨List.mem_of_getElem? (i := 770) (by decide +kernel), List.forall_mem_cons.mpr ⟨List.mem_of_getElem? (i := 771) (by decide +kernel), List.forall_mem_cons.mpr ⟨List.mem_of_getElem? (i := 772) (by decide +kernel), List.forall_mem_cons.mpr ⟨List.mem_of_getElem? (i := 537) (by decide +kernel), List.forall_mem_cons.mpr ⟨List.mem_of_getElem? (i := 538) (by decide +kernel), List.forall_mem_cons.mpr ⟨List.mem_of_getElem? (i := 539) (by decide +kernel), List.forall_mem_cons.mpr ⟨List.mem_of_getElem? (i := 540) (by decide +kernel), List.forall_mem_cons.mpr ⟨List.mem_of_getElem? (i := 541) (by decide +kernel), List.forall_mem_cons.mpr ⟨List.mem_of_getElem? (i := 773) (by decide +kernel), List.forall_mem_cons.mpr ⟨List.mem_of_getElem? (i := 774) (by decide +kernel), List.forall_mem_cons.mpr ⟨List.mem_of_getElem? (i := 775) (by decide +kernel), List.forall_mem_cons.mpr ⟨List.mem_of_getElem? (i := 776) (by decide +kernel), fun _ h => absurd h List.not_mem_nil⟩⟩⟩⟩⟩⟩⟩⟩⟩⟩⟩⟩⟩⟩⟩⟩⟩⟩⟩⟩⟩⟩⟩⟩
theorem lwin_r25 : ∀ w ∈ wsL_law_r25, w ∈ lw_tbl := List.forall_mem_cons.mpr ⟨List.mem_of_getElem? (i := 777) (by decide +kernel), fun _ h => absurd h List.not_mem_nil⟩
theorem lwin_X90 : ∀ w ∈ wsX90, w ∈ lw_tbl := by decide +kernel
theorem lwin_X100 : ∀ w ∈ wsX100, w ∈ lw_tbl := by decide +kernel
theorem lwin_X60 : ∀ w ∈ wsX60, w ∈ lw_tbl := by decide +kernel
theorem lwin_X40 : ∀ w ∈ wsX40, w ∈ lw_tbl := by decide +kernel
theorem lwin_X50 : ∀ w ∈ wsX50, w ∈ lw_tbl := by decide +kernel
theorem lwin_X10 : ∀ w ∈ wsX10, w ∈ lw_tbl := by decide +kernel
theorem lwin_X30 : ∀ w ∈ wsX30, w ∈ lw_tbl := by decide +kernel
theorem lwin_X20 : ∀ w ∈ wsX20, w ∈ lw_tbl := by decide +kernel
theorem lwin_X70 : ∀ w ∈ wsX70, w ∈ lw_tbl := by decide +kernel
theorem lwin_X00 : ∀ w ∈ wsX00, w ∈ lw_tbl := by decide +kernel
theorem wsL_law_in : ∀ w ∈ wsL_law, w ∈ lw_tbl := lw_cat (lw_cat (lw_cat (lw_cat (lw_cat (lw_cat (lw_cat (lw_cat (lw_cat (lw_cat (lw_cat (lw_cat lwin_r1 (lw_cat lwin_r2 (lw_cat lwin_r3 (lw_cat lwin_r4 (lw_cat lwin_r5 (lw_cat lwin_r6 (lw_cat lwin_r7 (lw_cat lwin_r8 (lw_cat lwin_r9 (lw_cat lwin_r10 (lw_cat lwin_r11 (lw_cat lwin_r12 (lw_cat lwin_r13 (lw_cat lwin_r14 (lw_cat lwin_r15 (lw_cat lwin_r16 (lw_cat lwin_r17 (lw_cat lwin_r18 (lw_cat lwin_r19 (lw_cat lwin_r20 (lw_cat lwin_r21 (lw_cat lwin_r22 (lw_cat lwin_r23 (lw_cat lwin_r24 lwin_r25)))))))))))))))))))))))) lwin_X90) lwin_X100) lwin_X60) lwin_X40) lwin_X50) lwin_X10) lwin_X30) lwin_X20) lwin_X70) lwin_X00) (fun _ h => absurd h List.not_mem_nil)
theorem inlX0 : ∀ w ∈ wsX00, w ∈ wsL_law := fun _ h => List.mem_append_left _ (List.mem_append_right _ h)
theorem inX0 : ∀ w ∈ wsX00, w ∈ lw_tbl := fun w h => wsL_law_in w (inlX0 w h)
theorem inlX1 : ∀ w ∈ wsX10, w ∈ wsL_law := fun _ h => List.mem_append_left _ (List.mem_append_left _ (List.mem_append_left _ (List.mem_append_left _ (List.mem_append_left _ (List.mem_append_right _ h)))))
theorem inX1 : ∀ w ∈ wsX10, w ∈ lw_tbl := fun w h => wsL_law_in w (inlX1 w h)
theorem inlX2 : ∀ w ∈ wsX20, w ∈ wsL_law := fun _ h => List.mem_append_left _ (List.mem_append_left _ (List.mem_append_left _ (List.mem_append_right _ h)))
theorem inX2 : ∀ w ∈ wsX20, w ∈ lw_tbl := fun w h => wsL_law_in w (inlX2 w h)
theorem inlX3 : ∀ w ∈ wsX30, w ∈ wsL_law := fun _ h => List.mem_append_left _ (List.mem_append_left _ (List.mem_append_left _ (List.mem_append_left _ (List.mem_append_right _ h))))
theorem inX3 : ∀ w ∈ wsX30, w ∈ lw_tbl := fun w h => wsL_law_in w (inlX3 w h)
theorem inlX4 : ∀ w ∈ wsX40, w ∈ wsL_law := fun _ h => List.mem_append_left _ (List.mem_append_left _ (List.mem_append_left _ (List.mem_append_left _ (List.mem_append_left _ (List.mem_append_left _ (List.mem_append_left _ (List.mem_append_right _ h)))))))
theorem inX4 : ∀ w ∈ wsX40, w ∈ lw_tbl := fun w h => wsL_law_in w (inlX4 w h)
theorem inlX5 : ∀ w ∈ wsX50, w ∈ wsL_law := fun _ h => List.mem_append_left _ (List.mem_append_left _ (List.mem_append_left _ (List.mem_append_left _ (List.mem_append_left _ (List.mem_append_left _ (List.mem_append_right _ h))))))
theorem inX5 : ∀ w ∈ wsX50, w ∈ lw_tbl := fun w h => wsL_law_in w (inlX5 w h)
theorem inlX6 : ∀ w ∈ wsX60, w ∈ wsL_law := fun _ h => List.mem_append_left _ (List.mem_append_left _ (List.mem_append_left _ (List.mem_append_left _ (List.mem_append_left _ (List.mem_append_left _ (List.mem_append_left _ (List.mem_append_left _ (List.mem_append_right _ h))))))))
theorem inX6 : ∀ w ∈ wsX60, w ∈ lw_tbl := fun w h => wsL_law_in w (inlX6 w h)
theorem inlX7 : ∀ w ∈ wsX70, w ∈ wsL_law := fun _ h => List.mem_append_left _ (List.mem_append_left _ (List.mem_append_right _ h))
theorem inX7 : ∀ w ∈ wsX70, w ∈ lw_tbl := fun w h => wsL_law_in w (inlX7 w h)
theorem inX8 : ∀ w ∈ wsX80, w ∈ lw_tbl := by decide +kernel
theorem inlX9 : ∀ w ∈ wsX90, w ∈ wsL_law := fun _ h => List.mem_append_left _ (List.mem_append_left _ (List.mem_append_left _ (List.mem_append_left _ (List.mem_append_left _ (List.mem_append_left _ (List.mem_append_left _ (List.mem_append_left _ (List.mem_append_left _ (List.mem_append_left _ (List.mem_append_right _ h))))))))))
theorem inX9 : ∀ w ∈ wsX90, w ∈ lw_tbl := fun w h => wsL_law_in w (inlX9 w h)
theorem inlX10 : ∀ w ∈ wsX100, w ∈ wsL_law := fun _ h => List.mem_append_left _ (List.mem_append_left _ (List.mem_append_left _ (List.mem_append_left _ (List.mem_append_left _ (List.mem_append_left _ (List.mem_append_left _ (List.mem_append_left _ (List.mem_append_left _ (List.mem_append_right _ h)))))))))
theorem inX10 : ∀ w ∈ wsX100, w ∈ lw_tbl := fun w h => wsL_law_in w (inlX10 w h)
theorem inJ9 : ∀ w ∈ wsJ90, w ∈ lw_tbl := by decide +kernel
theorem inJ7 : ∀ w ∈ wsJ70, w ∈ lw_tbl := by decide +kernel
theorem dX0_init_0 : decode cX0_init 0 = .ok (.aload_n 0, 1) := by decide +kernel
theorem dX0_init_1 : decode cX0_init 1 = .ok (.invokespecial 1, 3) := by decide +kernel
theorem dX0_init_4 : decode cX0_init 4 = .ok (.aload_n 0, 1) := by decide +kernel
theorem dX0_init_5 : decode cX0_init 5 = .ok (.iload_n 1, 1) := by decide +kernel
theorem dX0_init_6 : decode cX0_init 6 = .ok (.putfield 7, 3) := by decide +kernel
theorem dX0_init_9 : decode cX0_init 9 = .ok (.return_, 1) := by decide +kernel
set_option maxRecDepth 20000 in
theorem ggX1_init_X2_init : GoodIn wsX1_init wsX2_init := goodIn_r _ [4, 5, 6, 7, 8, 9, 10, 11, 12, 13, 14, 15, 16, 17, 18, 19, 20, 21, 22, 23, 24, 25, 26] (by decide +kernel) (by decide +kernel)
end
section
set_option maxRecDepth 20000 in
theorem gX1_init_X2_init : GoodIn wsX1_init (wsX2_init) := ggX1_init_X2_init
theorem dX1_init_0 : decode cX1_init 0 = .ok (.aload_n 0, 1) := by decide +kernel
theorem dX1_init_1 : decode cX1_init 1 = .ok (.iload_n 1, 1) := by decide +kernel
theorem dX1_init_2 : decode cX1_init 2 = .ok (.invokespecial 3, 3) := by decide +kernel
theorem dX1_init_5 : decode cX1_init 5 = .ok (.return_, 1) := by decide +kernel
theorem dX1_kindNumber_0 : decode cX1_kindNumber 0 = .ok (.iconst 1, 1) := by decide +kernel
theorem dX1_kindNumber_1 : decode cX1_kindNumber 1 = .ok (.ireturn, 1) := by decide +kernel
theorem dX1_groom_0 : decode cX1_groom 0 = .ok (.aload_n 0, 1) := by decide +kernel
theorem dX1_groom_1 : decode cX1_groom 1 = .ok (.dup, 1) := by decide +kernel
theorem dX1_groom_2 : decode cX1_groom 2 = .ok (.getfield 9, 3) := by decide +kernel
theorem dX1_groom_5 : decode cX1_groom 5 = .ok (.iconst 2, 1) := by decide +kernel
theorem dX1_groom_6 : decode cX1_groom 6 = .ok (.iadd, 1) := by decide +kernel
theorem dX1_groom_7 : decode cX1_groom 7 = .ok (.putfield 9, 3) := by decide +kernel
theorem dX1_groom_10 : decode cX1_groom 10 = .ok (.aload_n 0, 1) := by decide +kernel
theorem dX1_groom_11 : decode cX1_groom 11 = .ok (.getfield 9, 3) := by decide +kernel
theorem dX1_groom_14 : decode cX1_groom 14 = .ok (.ireturn, 1) := by decide +kernel
theorem dX1_workFor_0 : decode cX1_workFor 0 = .ok (.aload_n 0, 1) := by decide +kernel
theorem dX1_workFor_1 : decode cX1_workFor 1 = .ok (.dup, 1) := by decide +kernel
theorem dX1_workFor_2 : decode cX1_workFor 2 = .ok (.getfield 15, 3) := by decide +kernel
theorem dX1_workFor_5 : decode cX1_workFor 5 = .ok (.iconst 2, 1) := by decide +kernel
theorem dX1_workFor_6 : decode cX1_workFor 6 = .ok (.iload_n 1, 1) := by decide +kernel
theorem dX1_workFor_7 : decode cX1_workFor 7 = .ok (.imul, 1) := by decide +kernel
theorem dX1_workFor_8 : decode cX1_workFor 8 = .ok (.iadd, 1) := by decide +kernel
theorem dX1_workFor_9 : decode cX1_workFor 9 = .ok (.putfield 15, 3) := by decide +kernel
theorem dX1_workFor_12 : decode cX1_workFor 12 = .ok (.aload_n 0, 1) := by decide +kernel
theorem dX1_workFor_13 : decode cX1_workFor 13 = .ok (.getfield 15, 3) := by decide +kernel
theorem dX1_workFor_16 : decode cX1_workFor 16 = .ok (.ireturn, 1) := by decide +kernel
set_option maxRecDepth 20000 in
theorem ggX2_init_X8_init : GoodIn wsX2_init wsX8_init := goodIn_r _ [4, 5, 6, 7] (by decide +kernel) (by decide +kernel)
set_option maxRecDepth 20000 in
theorem gX2_init_X8_init_n3 : GoodIn wsX2_init (wsX8_init) := ggX2_init_X8_init
theorem dX2_init_0 : decode cX2_init 0 = .ok (.aload_n 0, 1) := by decide +kernel
theorem dX2_init_1 : decode cX2_init 1 = .ok (.invokespecial 3, 3) := by decide +kernel
theorem dX2_init_4 : decode cX2_init 4 = .ok (.aload_n 0, 1) := by decide +kernel
theorem dX2_init_5 : decode cX2_init 5 = .ok (.iload_n 1, 1) := by decide +kernel
theorem dX2_init_6 : decode cX2_init 6 = .ok (.putfield 9, 3) := by decide +kernel
theorem dX2_init_9 : decode cX2_init 9 = .ok (.return_, 1) := by decide +kernel
theorem dX2_kindNumber_0 : decode cX2_kindNumber 0 = .ok (.iconst 0, 1) := by decide +kernel
theorem dX2_kindNumber_1 : decode cX2_kindNumber 1 = .ok (.ireturn, 1) := by decide +kernel
theorem dX2_groom_0 : decode cX2_groom 0 = .ok (.aload_n 0, 1) := by decide +kernel
theorem dX2_groom_1 : decode cX2_groom 1 = .ok (.dup, 1) := by decide +kernel
theorem dX2_groom_2 : decode cX2_groom 2 = .ok (.getfield 15, 3) := by decide +kernel
theorem dX2_groom_5 : decode cX2_groom 5 = .ok (.iconst 1, 1) := by decide +kernel
theorem dX2_groom_6 : decode cX2_groom 6 = .ok (.iadd, 1) := by decide +kernel
theorem dX2_groom_7 : decode cX2_groom 7 = .ok (.putfield 15, 3) := by decide +kernel
theorem dX2_groom_10 : decode cX2_groom 10 = .ok (.aload_n 0, 1) := by decide +kernel
theorem dX2_groom_11 : decode cX2_groom 11 = .ok (.getfield 15, 3) := by decide +kernel
theorem dX2_groom_14 : decode cX2_groom 14 = .ok (.ireturn, 1) := by decide +kernel
theorem dX2_workFor_0 : decode cX2_workFor 0 = .ok (.aload_n 0, 1) := by decide +kernel
theorem dX2_workFor_1 : decode cX2_workFor 1 = .ok (.dup, 1) := by decide +kernel
theorem dX2_workFor_2 : decode cX2_workFor 2 = .ok (.getfield 18, 3) := by decide +kernel
theorem dX2_workFor_5 : decode cX2_workFor 5 = .ok (.iload_n 1, 1) := by decide +kernel
theorem dX2_workFor_6 : decode cX2_workFor 6 = .ok (.iadd, 1) := by decide +kernel
theorem dX2_workFor_7 : decode cX2_workFor 7 = .ok (.putfield 18, 3) := by decide +kernel
theorem dX2_workFor_10 : decode cX2_workFor 10 = .ok (.aload_n 0, 1) := by decide +kernel
theorem dX2_workFor_11 : decode cX2_workFor 11 = .ok (.getfield 18, 3) := by decide +kernel
theorem dX2_workFor_14 : decode cX2_workFor 14 = .ok (.ireturn, 1) := by decide +kernel
set_option maxRecDepth 20000 in
theorem ggX3_init_X1_init : GoodIn wsX3_init wsX1_init := goodIn_r _ [4, 5, 6, 7, 8, 9, 10, 11, 12, 13, 14, 15, 16, 17, 18, 19, 20, 21, 22, 23, 24, 25, 26, 27, 28, 29, 30] (by decide +kernel) (by decide +kernel)
set_option maxRecDepth 20000 in
theorem gX3_init_X1_init : GoodIn wsX3_init (wsX1_init) := ggX3_init_X1_init
theorem dX3_init_0 : decode cX3_init 0 = .ok (.aload_n 0, 1) := by decide +kernel
theorem dX3_init_1 : decode cX3_init 1 = .ok (.iload_n 1, 1) := by decide +kernel
theorem dX3_init_2 : decode cX3_init 2 = .ok (.invokespecial 3, 3) := by decide +kernel
theorem dX3_init_5 : decode cX3_init 5 = .ok (.return_, 1) := by decide +kernel
theorem dX3_kindNumber_0 : decode cX3_kindNumber 0 = .ok (.iconst 2, 1) := by decide +kernel
theorem dX3_kindNumber_1 : decode cX3_kindNumber 1 = .ok (.ireturn, 1) := by decide +kernel
set_option maxRecDepth 20000 in
theorem ggX3_groom_X1_groom : GoodIn wsX3_groom wsX1_groom := goodIn_r _ [8, 9, 10, 11, 12, 13, 14, 15, 16, 17, 18, 19, 20, 21, 22, 23, 24, 25] (by decide +kernel) (by decide +kernel)
set_option maxRecDepth 20000 in
theorem gX3_groom_X1_groom_s15 : GoodIn wsX3_groom (va_wsSU RX3 15 yX1_groom wsX1_groom) := goodIn_app (goodIn_of _ (by decide +kernel)) ggX3_groom_X1_groom
theorem dX3_groom_0 : decode cX3_groom 0 = .ok (.aload_n 0, 1) := by decide +kernel
theorem dX3_groom_1 : decode cX3_groom 1 = .ok (.iconst 0, 1) := by decide +kernel
theorem dX3_groom_2 : decode cX3_groom 2 = .ok (.putfield 9, 3) := by decide +kernel
theorem dX3_groom_5 : decode cX3_groom 5 = .ok (.aload_n 0, 1) := by decide +kernel
theorem dX3_groom_6 : decode cX3_groom 6 = .ok (.invokespecial 15, 3) := by decide +kernel
theorem dX3_groom_9 : decode cX3_groom 9 = .ok (.ireturn, 1) := by decide +kernel
set_option maxRecDepth 20000 in
theorem ggX3_workFor_X1_workFor : GoodIn wsX3_workFor wsX1_workFor := goodIn_r _ [8, 9, 10, 11, 12, 13, 14, 15, 16, 17, 18, 19, 20, 21, 22, 23, 24, 25] (by decide +kernel) (by decide +kernel)
set_option maxRecDepth 20000 in
theorem gX3_workFor_X1_workFor_s19 : GoodIn wsX3_workFor (va_wsSU RX3 19 yX1_workFor wsX1_workFor) := goodIn_app (goodIn_of _ (by decide +kernel)) ggX3_workFor_X1_workFor
theorem dX3_workFor_0 : decode cX3_workFor 0 = .ok (.aload_n 0, 1) := by decide +kernel
theorem dX3_workFor_1 : decode cX3_workFor 1 = .ok (.aload_n 0, 1) := by decide +kernel
theorem dX3_workFor_2 : decode cX3_workFor 2 = .ok (.iload_n 1, 1) := by decide +kernel
theorem dX3_workFor_3 : decode cX3_workFor 3 = .ok (.invokespecial 19, 3) := by decide +kernel
theorem dX3_workFor_6 : decode cX3_workFor 6 = .ok (.iconst 1, 1) := by decide +kernel
theorem dX3_workFor_7 : decode cX3_workFor 7 = .ok (.iadd, 1) := by decide +kernel
theorem dX3_workFor_8 : decode cX3_workFor 8 = .ok (.putfield 23, 3) := by decide +kernel
theorem dX3_workFor_11 : decode cX3_workFor 11 = .ok (.aload_n 0, 1) := by decide +kernel
theorem dX3_workFor_12 : decode cX3_workFor 12 = .ok (.getfield 23, 3) := by decide +kernel
theorem dX3_workFor_15 : decode cX3_workFor 15 = .ok (.ireturn, 1) := by decide +kernel
theorem dX4_init_0 : decode cX4_init 0 = .ok (.aload_n 0, 1) := by decide +kernel
theorem dX4_init_1 : decode cX4_init 1 = .ok (.invokespecial 3, 3) := by decide +kernel
theorem dX4_init_4 : decode cX4_init 4 = .ok (.aload_n 0, 1) := by decide +kernel
theorem dX4_init_5 : decode cX4_init 5 = .ok (.bipush 12, 2) := by decide +kernel
theorem dX4_init_7 : decode cX4_init 7 = .ok (.newarray .int, 2) := by decide +kernel
theorem dX4_init_9 : decode cX4_init 9 = .ok (.putfield 9, 3) := by decide +kernel
theorem dX4_init_12 : decode cX4_init 12 = .ok (.return_, 1) := by decide +kernel
set_option maxRecDepth 20000 in
theorem ggX4_open_J7_fill_53178 : GoodIn wsX4_open wsJ7_fill_53178 := goodIn_r _ [7] (by decide +kernel) (by decide +kernel)
set_option maxRecDepth 20000 in
theorem gX4_open_J7_fill_53178 : GoodIn wsX4_open (va_wsS RX4 23 yJ7_fill_53178 wsJ7_fill_53178) := goodIn_app (goodIn_of _ (by decide +kernel)) ggX4_open_J7_fill_53178
theorem dX4_open_0 : decode cX4_open 0 = .ok (.aload_n 0, 1) := by decide +kernel
theorem dX4_open_1 : decode cX4_open 1 = .ok (.iconst 1, 1) := by decide +kernel
theorem dX4_open_2 : decode cX4_open 2 = .ok (.putfield 15, 3) := by decide +kernel
theorem dX4_open_5 : decode cX4_open 5 = .ok (.aload_n 0, 1) := by decide +kernel
theorem dX4_open_6 : decode cX4_open 6 = .ok (.iload_n 1, 1) := by decide +kernel
theorem dX4_open_7 : decode cX4_open 7 = .ok (.putfield 19, 3) := by decide +kernel
theorem dX4_open_10 : decode cX4_open 10 = .ok (.aload_n 0, 1) := by decide +kernel
theorem dX4_open_11 : decode cX4_open 11 = .ok (.getfield 9, 3) := by decide +kernel
theorem dX4_open_14 : decode cX4_open 14 = .ok (.iconst 0, 1) := by decide +kernel
theorem dX4_open_15 : decode cX4_open 15 = .ok (.invokestatic 23, 3) := by decide +kernel
theorem dX4_open_18 : decode cX4_open 18 = .ok (.return_, 1) := by decide +kernel
theorem dX4_sum_0 : decode cX4_sum 0 = .ok (.iconst 0, 1) := by decide +kernel
theorem dX4_sum_1 : decode cX4_sum 1 = .ok (.istore_n 1, 1) := by decide +kernel
theorem dX4_sum_2 : decode cX4_sum 2 = .ok (.iconst 0, 1) := by decide +kernel
theorem dX4_sum_3 : decode cX4_sum 3 = .ok (.istore_n 2, 1) := by decide +kernel
theorem dX4_sum_4 : decode cX4_sum 4 = .ok (.iload_n 2, 1) := by decide +kernel
theorem dX4_sum_5 : decode cX4_sum 5 = .ok (.aload_n 0, 1) := by decide +kernel
theorem dX4_sum_6 : decode cX4_sum 6 = .ok (.getfield 19, 3) := by decide +kernel
theorem dX4_sum_9 : decode cX4_sum 9 = .ok (.if_icmp .ge 18, 3) := by decide +kernel
theorem dX4_sum_12 : decode cX4_sum 12 = .ok (.iload_n 1, 1) := by decide +kernel
theorem dX4_sum_13 : decode cX4_sum 13 = .ok (.aload_n 0, 1) := by decide +kernel
theorem dX4_sum_14 : decode cX4_sum 14 = .ok (.getfield 9, 3) := by decide +kernel
theorem dX4_sum_17 : decode cX4_sum 17 = .ok (.iload_n 2, 1) := by decide +kernel
theorem dX4_sum_18 : decode cX4_sum 18 = .ok (.iaload, 1) := by decide +kernel
theorem dX4_sum_19 : decode cX4_sum 19 = .ok (.iadd, 1) := by decide +kernel
theorem dX4_sum_20 : decode cX4_sum 20 = .ok (.istore_n 1, 1) := by decide +kernel
theorem dX4_sum_21 : decode cX4_sum 21 = .ok (.iinc 2 1, 3) := by decide +kernel
theorem dX4_sum_24 : decode cX4_sum 24 = .ok (.goto (-20), 3) := by decide +kernel
theorem dX4_sum_27 : decode cX4_sum 27 = .ok (.iload_n 1, 1) := by decide +kernel
theorem dX4_sum_28 : decode cX4_sum 28 = .ok (.ireturn, 1) := by decide +kernel
theorem dX5_init_0 : decode cX5_init 0 = .ok (.aload_n 0, 1) := by decide +kernel
theorem dX5_init_1 : decode cX5_init 1 = .ok (.invokespecial 3, 3) := by decide +kernel
theorem dX5_init_4 : decode cX5_init 4 = .ok (.aload_n 0, 1) := by decide +kernel
theorem dX5_init_5 : decode cX5_init 5 = .ok (.bipush 6, 2) := by decide +kernel
theorem dX5_init_7 : decode cX5_init 7 = .ok (.bipush 6, 2) := by decide +kernel
theorem dX5_init_9 : decode cX5_init 9 = .ok (.multianewarray 9 2, 4) := by decide +kernel
theorem dX5_init_13 : decode cX5_init 13 = .ok (.putfield 11, 3) := by decide +kernel
theorem dX5_init_16 : decode cX5_init 16 = .ok (.aload_n 0, 1) := by decide +kernel
theorem dX5_init_17 : decode cX5_init 17 = .ok (.bipush 6, 2) := by decide +kernel
theorem dX5_init_19 : decode cX5_init 19 = .ok (.newarray .boolean, 2) := by decide +kernel
theorem dX5_init_21 : decode cX5_init 21 = .ok (.putfield 16, 3) := by decide +kernel
theorem dX5_init_24 : decode cX5_init 24 = .ok (.return_, 1) := by decide +kernel
set_option maxRecDepth 20000 in
theorem ggX5_set_J7_fill_53178 : GoodIn wsX5_set wsJ7_fill_53178 := goodIn_r _ [9] (by decide +kernel) (by decide +kernel)
set_option maxRecDepth 20000 in
theorem gX5_set_J7_fill_53178 : GoodIn wsX5_set (va_wsS RX5 31 yJ7_fill_53178 wsJ7_fill_53178) := goodIn_app (goodIn_of _ (by decide +kernel)) ggX5_set_J7_fill_53178
theorem dX5_set_0 : decode cX5_set 0 = .ok (.aload_n 0, 1) := by decide +kernel
theorem dX5_set_1 : decode cX5_set 1 = .ok (.iconst 1, 1) := by decide +kernel
theorem dX5_set_2 : decode cX5_set 2 = .ok (.putfield 20, 3) := by decide +kernel
theorem dX5_set_5 : decode cX5_set 5 = .ok (.aload_n 0, 1) := by decide +kernel
theorem dX5_set_6 : decode cX5_set 6 = .ok (.iload_n 1, 1) := by decide +kernel
theorem dX5_set_7 : decode cX5_set 7 = .ok (.putfield 24, 3) := by decide +kernel
theorem dX5_set_10 : decode cX5_set 10 = .ok (.aload_n 0, 1) := by decide +kernel
theorem dX5_set_11 : decode cX5_set 11 = .ok (.iload_n 2, 1) := by decide +kernel
theorem dX5_set_12 : decode cX5_set 12 = .ok (.putfield 28, 3) := by decide +kernel
theorem dX5_set_15 : decode cX5_set 15 = .ok (.iconst 0, 1) := by decide +kernel
theorem dX5_set_16 : decode cX5_set 16 = .ok (.istore_n 3, 1) := by decide +kernel
theorem dX5_set_17 : decode cX5_set 17 = .ok (.iload_n 3, 1) := by decide +kernel
theorem dX5_set_18 : decode cX5_set 18 = .ok (.bipush 6, 2) := by decide +kernel
theorem dX5_set_20 : decode cX5_set 20 = .ok (.if_icmp .ge 26, 3) := by decide +kernel
theorem dX5_set_23 : decode cX5_set 23 = .ok (.aload_n 0, 1) := by decide +kernel
theorem dX5_set_24 : decode cX5_set 24 = .ok (.getfield 16, 3) := by decide +kernel
theorem dX5_set_27 : decode cX5_set 27 = .ok (.iload_n 3, 1) := by decide +kernel
theorem dX5_set_28 : decode cX5_set 28 = .ok (.iconst 1, 1) := by decide +kernel
theorem dX5_set_29 : decode cX5_set 29 = .ok (.bastore, 1) := by decide +kernel
theorem dX5_set_30 : decode cX5_set 30 = .ok (.aload_n 0, 1) := by decide +kernel
theorem dX5_set_31 : decode cX5_set 31 = .ok (.getfield 11, 3) := by decide +kernel
theorem dX5_set_34 : decode cX5_set 34 = .ok (.iload_n 3, 1) := by decide +kernel
theorem dX5_set_35 : decode cX5_set 35 = .ok (.aaload, 1) := by decide +kernel
theorem dX5_set_36 : decode cX5_set 36 = .ok (.iconst 0, 1) := by decide +kernel
theorem dX5_set_37 : decode cX5_set 37 = .ok (.invokestatic 31, 3) := by decide +kernel
theorem dX5_set_40 : decode cX5_set 40 = .ok (.iinc 3 1, 3) := by decide +kernel
theorem dX5_set_43 : decode cX5_set 43 = .ok (.goto (-26), 3) := by decide +kernel
theorem dX5_set_46 : decode cX5_set 46 = .ok (.return_, 1) := by decide +kernel
theorem dX6_init_0 : decode cX6_init 0 = .ok (.aload_n 0, 1) := by decide +kernel
theorem dX6_init_1 : decode cX6_init 1 = .ok (.invokespecial 3, 3) := by decide +kernel
theorem dX6_init_4 : decode cX6_init 4 = .ok (.aload_n 0, 1) := by decide +kernel
theorem dX6_init_5 : decode cX6_init 5 = .ok (.bipush 8, 2) := by decide +kernel
theorem dX6_init_7 : decode cX6_init 7 = .ok (.anewarray 9, 3) := by decide +kernel
theorem dX6_init_10 : decode cX6_init 10 = .ok (.putfield 11, 3) := by decide +kernel
theorem dX6_init_13 : decode cX6_init 13 = .ok (.return_, 1) := by decide +kernel
theorem dX6_form_0 : decode cX6_form 0 = .ok (.aload_n 0, 1) := by decide +kernel
theorem dX6_form_1 : decode cX6_form 1 = .ok (.iconst 1, 1) := by decide +kernel
theorem dX6_form_2 : decode cX6_form 2 = .ok (.putfield 17, 3) := by decide +kernel
theorem dX6_form_5 : decode cX6_form 5 = .ok (.aload_n 0, 1) := by decide +kernel
theorem dX6_form_6 : decode cX6_form 6 = .ok (.iload_n 1, 1) := by decide +kernel
theorem dX6_form_7 : decode cX6_form 7 = .ok (.putfield 21, 3) := by decide +kernel
theorem dX6_form_10 : decode cX6_form 10 = .ok (.aload_n 0, 1) := by decide +kernel
theorem dX6_form_11 : decode cX6_form 11 = .ok (.iload_n 2, 1) := by decide +kernel
theorem dX6_form_12 : decode cX6_form 12 = .ok (.putfield 25, 3) := by decide +kernel
theorem dX6_form_15 : decode cX6_form 15 = .ok (.iconst 0, 1) := by decide +kernel
theorem dX6_form_16 : decode cX6_form 16 = .ok (.istore_n 3, 1) := by decide +kernel
theorem dX6_form_17 : decode cX6_form 17 = .ok (.iload_n 3, 1) := by decide +kernel
theorem dX6_form_18 : decode cX6_form 18 = .ok (.bipush 8, 2) := by decide +kernel
theorem dX6_form_20 : decode cX6_form 20 = .ok (.if_icmp .ge 16, 3) := by decide +kernel
theorem dX6_form_23 : decode cX6_form 23 = .ok (.aload_n 0, 1) := by decide +kernel
theorem dX6_form_24 : decode cX6_form 24 = .ok (.getfield 11, 3) := by decide +kernel
theorem dX6_form_27 : decode cX6_form 27 = .ok (.iload_n 3, 1) := by decide +kernel
theorem dX6_form_28 : decode cX6_form 28 = .ok (.aconst_null, 1) := by decide +kernel
theorem dX6_form_29 : decode cX6_form 29 = .ok (.aastore, 1) := by decide +kernel
theorem dX6_form_30 : decode cX6_form 30 = .ok (.iinc 3 1, 3) := by decide +kernel
theorem dX6_form_33 : decode cX6_form 33 = .ok (.goto (-16), 3) := by decide +kernel
theorem dX6_form_36 : decode cX6_form 36 = .ok (.return_, 1) := by decide +kernel
set_option maxRecDepth 20000 in
theorem ggX6_isFor_X1_kindNumber : GoodIn wsX6_isFor wsX1_kindNumber := goodIn_r _ [8] (by decide +kernel) (by decide +kernel)
set_option maxRecDepth 20000 in
theorem gX6_isFor_X1_kindNumber_u28X1 : GoodIn wsX6_isFor (va_wsO RX6 28 RX1 "RidingYard$Horse" ⟨"RidingYard$Horse", "kindNumber", "()I"⟩ yX1_kindNumber wsX1_kindNumber) := goodIn_app (goodIn_of _ (by decide +kernel)) ggX6_isFor_X1_kindNumber
set_option maxRecDepth 20000 in
theorem ggX6_isFor_X2_kindNumber : GoodIn wsX6_isFor wsX2_kindNumber := goodIn_r _ [9] (by decide +kernel) (by decide +kernel)
set_option maxRecDepth 20000 in
theorem gX6_isFor_X2_kindNumber : GoodIn wsX6_isFor (wsV RX6 28 RX2 yX2_kindNumber wsX2_kindNumber) := goodIn_app (goodIn_of _ (by decide +kernel)) ggX6_isFor_X2_kindNumber
set_option maxRecDepth 20000 in
theorem ggX6_isFor_X3_kindNumber : GoodIn wsX6_isFor wsX3_kindNumber := goodIn_r _ [17] (by decide +kernel) (by decide +kernel)
set_option maxRecDepth 20000 in
theorem gX6_isFor_X3_kindNumber_u28X3 : GoodIn wsX6_isFor (va_wsO RX6 28 RX3 "RidingYard$Horse" ⟨"RidingYard$Horse", "kindNumber", "()I"⟩ yX3_kindNumber wsX3_kindNumber) := goodIn_app (goodIn_of _ (by decide +kernel)) ggX6_isFor_X3_kindNumber
theorem dX6_isFor_0 : decode cX6_isFor 0 = .ok (.aload_n 1, 1) := by decide +kernel
theorem dX6_isFor_1 : decode cX6_isFor 1 = .ok (.ifnull 14, 3) := by decide +kernel
theorem dX6_isFor_4 : decode cX6_isFor 4 = .ok (.aload_n 1, 1) := by decide +kernel
theorem dX6_isFor_5 : decode cX6_isFor 5 = .ok (.invokevirtual 28, 3) := by decide +kernel
theorem dX6_isFor_8 : decode cX6_isFor 8 = .ok (.aload_n 0, 1) := by decide +kernel
theorem dX6_isFor_9 : decode cX6_isFor 9 = .ok (.getfield 21, 3) := by decide +kernel
theorem dX6_isFor_12 : decode cX6_isFor 12 = .ok (.if_icmp .lt 7, 3) := by decide +kernel
theorem dX6_isFor_15 : decode cX6_isFor 15 = .ok (.iconst 1, 1) := by decide +kernel
theorem dX6_isFor_16 : decode cX6_isFor 16 = .ok (.goto 4, 3) := by decide +kernel
theorem dX6_isFor_19 : decode cX6_isFor 19 = .ok (.iconst 0, 1) := by decide +kernel
theorem dX6_isFor_20 : decode cX6_isFor 20 = .ok (.ireturn, 1) := by decide +kernel
set_option maxRecDepth 20000 in
theorem ggX7_init_X8_init : GoodIn wsX7_init wsX8_init := goodIn_r _ [4, 5, 6, 7] (by decide +kernel) (by decide +kernel)
set_option maxRecDepth 20000 in
theorem gX7_init_X8_init_n1 : GoodIn wsX7_init (wsX8_init) := ggX7_init_X8_init
theorem dX7_init_0 : decode cX7_init 0 = .ok (.aload_n 0, 1) := by decide +kernel
theorem dX7_init_1 : decode cX7_init 1 = .ok (.invokespecial 1, 3) := by decide +kernel
theorem dX7_init_4 : decode cX7_init 4 = .ok (.aload_n 0, 1) := by decide +kernel
theorem dX7_init_5 : decode cX7_init 5 = .ok (.iload_n 1, 1) := by decide +kernel
theorem dX7_init_6 : decode cX7_init 6 = .ok (.putfield 7, 3) := by decide +kernel
theorem dX7_init_9 : decode cX7_init 9 = .ok (.return_, 1) := by decide +kernel
theorem dX7_workFor_0 : decode cX7_workFor 0 = .ok (.aload_n 0, 1) := by decide +kernel
theorem dX7_workFor_1 : decode cX7_workFor 1 = .ok (.dup, 1) := by decide +kernel
theorem dX7_workFor_2 : decode cX7_workFor 2 = .ok (.getfield 13, 3) := by decide +kernel
theorem dX7_workFor_5 : decode cX7_workFor 5 = .ok (.iload_n 1, 1) := by decide +kernel
theorem dX7_workFor_6 : decode cX7_workFor 6 = .ok (.aload_n 0, 1) := by decide +kernel
theorem dX7_workFor_7 : decode cX7_workFor 7 = .ok (.getfield 7, 3) := by decide +kernel
theorem dX7_workFor_10 : decode cX7_workFor 10 = .ok (.imul, 1) := by decide +kernel
theorem dX7_workFor_11 : decode cX7_workFor 11 = .ok (.iadd, 1) := by decide +kernel
theorem dX7_workFor_12 : decode cX7_workFor 12 = .ok (.putfield 13, 3) := by decide +kernel
theorem dX7_workFor_15 : decode cX7_workFor 15 = .ok (.aload_n 0, 1) := by decide +kernel
theorem dX7_workFor_16 : decode cX7_workFor 16 = .ok (.getfield 13, 3) := by decide +kernel
theorem dX7_workFor_19 : decode cX7_workFor 19 = .ok (.ireturn, 1) := by decide +kernel
theorem dX8_init_0 : decode cX8_init 0 = .ok (.aload_n 0, 1) := by decide +kernel
theorem dX8_init_1 : decode cX8_init 1 = .ok (.invokespecial 1, 3) := by decide +kernel
theorem dX8_init_4 : decode cX8_init 4 = .ok (.return_, 1) := by decide +kernel
set_option maxRecDepth 20000 in
theorem ggX9_init_X6_init : GoodIn wsX9_init wsX6_init := goodIn_r _ [29, 30, 2, 3, 31, 32, 60, 61, 62, 63] (by decide +kernel) (by decide +kernel)
set_option maxRecDepth 20000 in
theorem gX9_init_X6_init_n60 : GoodIn wsX9_init (wsX6_init) := ggX9_init_X6_init
set_option maxRecDepth 20000 in
theorem ggX9_init_X4_init : GoodIn wsX9_init wsX4_init := goodIn_r _ [34, 35, 2, 3, 17, 36, 64, 65, 66] (by decide +kernel) (by decide +kernel)
set_option maxRecDepth 20000 in
theorem gX9_init_X4_init_n61 : GoodIn wsX9_init (wsX4_init) := ggX9_init_X4_init
set_option maxRecDepth 20000 in
theorem ggX9_init_X5_init : GoodIn wsX9_init wsX5_init := goodIn_r _ [38, 39, 2, 3, 40, 17, 41, 42, 43, 67, 68, 69, 70, 71] (by decide +kernel) (by decide +kernel)
set_option maxRecDepth 20000 in
theorem gX9_init_X5_init_n62 : GoodIn wsX9_init (wsX5_init) := ggX9_init_X5_init
theorem dX9_init_0 : decode cX9_init 0 = .ok (.aload_n 0, 1) := by decide +kernel
theorem dX9_init_1 : decode cX9_init 1 = .ok (.invokespecial 1, 3) := by decide +kernel
theorem dX9_init_4 : decode cX9_init 4 = .ok (.aload_n 0, 1) := by decide +kernel
theorem dX9_init_5 : decode cX9_init 5 = .ok (.bipush 10, 2) := by decide +kernel
theorem dX9_init_7 : decode cX9_init 7 = .ok (.anewarray 9, 3) := by decide +kernel
theorem dX9_init_10 : decode cX9_init 10 = .ok (.putfield 11, 3) := by decide +kernel
theorem dX9_init_13 : decode cX9_init 13 = .ok (.aload_n 0, 1) := by decide +kernel
theorem dX9_init_14 : decode cX9_init 14 = .ok (.bipush 6, 2) := by decide +kernel
theorem dX9_init_16 : decode cX9_init 16 = .ok (.anewarray 15, 3) := by decide +kernel
theorem dX9_init_19 : decode cX9_init 19 = .ok (.putfield 17, 3) := by decide +kernel
theorem dX9_init_22 : decode cX9_init 22 = .ok (.aload_n 0, 1) := by decide +kernel
theorem dX9_init_23 : decode cX9_init 23 = .ok (.bipush 6, 2) := by decide +kernel
theorem dX9_init_25 : decode cX9_init 25 = .ok (.anewarray 21, 3) := by decide +kernel
theorem dX9_init_28 : decode cX9_init 28 = .ok (.putfield 23, 3) := by decide +kernel
theorem dX9_init_31 : decode cX9_init 31 = .ok (.aload_n 0, 1) := by decide +kernel
theorem dX9_init_32 : decode cX9_init 32 = .ok (.iconst 4, 1) := by decide +kernel
theorem dX9_init_33 : decode cX9_init 33 = .ok (.anewarray 27, 3) := by decide +kernel
theorem dX9_init_36 : decode cX9_init 36 = .ok (.putfield 29, 3) := by decide +kernel
theorem dX9_init_39 : decode cX9_init 39 = .ok (.aload_n 0, 1) := by decide +kernel
theorem dX9_init_40 : decode cX9_init 40 = .ok (.iconst 4, 1) := by decide +kernel
theorem dX9_init_41 : decode cX9_init 41 = .ok (.anewarray 33, 3) := by decide +kernel
theorem dX9_init_44 : decode cX9_init 44 = .ok (.putfield 35, 3) := by decide +kernel
theorem dX9_init_47 : decode cX9_init 47 = .ok (.aload_n 0, 1) := by decide +kernel
theorem dX9_init_48 : decode cX9_init 48 = .ok (.bipush 6, 2) := by decide +kernel
theorem dX9_init_50 : decode cX9_init 50 = .ok (.anewarray 39, 3) := by decide +kernel
theorem dX9_init_53 : decode cX9_init 53 = .ok (.putfield 41, 3) := by decide +kernel
theorem dX9_init_56 : decode cX9_init 56 = .ok (.aload_n 0, 1) := by decide +kernel
theorem dX9_init_57 : decode cX9_init 57 = .ok (.bipush 20, 2) := by decide +kernel
theorem dX9_init_59 : decode cX9_init 59 = .ok (.iconst 4, 1) := by decide +kernel
theorem dX9_init_60 : decode cX9_init 60 = .ok (.multianewarray 45 2, 4) := by decide +kernel
theorem dX9_init_64 : decode cX9_init 64 = .ok (.putfield 47, 3) := by decide +kernel
theorem dX9_init_67 : decode cX9_init 67 = .ok (.aload_n 0, 1) := by decide +kernel
theorem dX9_init_68 : decode cX9_init 68 = .ok (.bipush 40, 2) := by decide +kernel
theorem dX9_init_70 : decode cX9_init 70 = .ok (.newarray .int, 2) := by decide +kernel
theorem dX9_init_72 : decode cX9_init 72 = .ok (.putfield 50, 3) := by decide +kernel
theorem dX9_init_75 : decode cX9_init 75 = .ok (.aload_n 0, 1) := by decide +kernel
theorem dX9_init_76 : decode cX9_init 76 = .ok (.bipush 40, 2) := by decide +kernel
theorem dX9_init_78 : decode cX9_init 78 = .ok (.newarray .int, 2) := by decide +kernel
theorem dX9_init_80 : decode cX9_init 80 = .ok (.putfield 54, 3) := by decide +kernel
theorem dX9_init_83 : decode cX9_init 83 = .ok (.aload_n 0, 1) := by decide +kernel
theorem dX9_init_84 : decode cX9_init 84 = .ok (.bipush 7, 2) := by decide +kernel
theorem dX9_init_86 : decode cX9_init 86 = .ok (.newarray .int, 2) := by decide +kernel
theorem dX9_init_88 : decode cX9_init 88 = .ok (.putfield 57, 3) := by decide +kernel
theorem dX9_init_91 : decode cX9_init 91 = .ok (.iconst 0, 1) := by decide +kernel
theorem dX9_init_92 : decode cX9_init 92 = .ok (.istore_n 1, 1) := by decide +kernel
theorem dX9_init_93 : decode cX9_init 93 = .ok (.iload_n 1, 1) := by decide +kernel
theorem dX9_init_94 : decode cX9_init 94 = .ok (.bipush 6, 2) := by decide +kernel
theorem dX9_init_96 : decode cX9_init 96 = .ok (.if_icmp .ge 22, 3) := by decide +kernel
theorem dX9_init_99 : decode cX9_init 99 = .ok (.aload_n 0, 1) := by decide +kernel
theorem dX9_init_100 : decode cX9_init 100 = .ok (.getfield 23, 3) := by decide +kernel
theorem dX9_init_103 : decode cX9_init 103 = .ok (.iload_n 1, 1) := by decide +kernel
theorem dX9_init_104 : decode cX9_init 104 = .ok (.new 21, 3) := by decide +kernel
theorem dX9_init_107 : decode cX9_init 107 = .ok (.dup, 1) := by decide +kernel
theorem dX9_init_108 : decode cX9_init 108 = .ok (.invokespecial 60, 3) := by decide +kernel
theorem dX9_init_111 : decode cX9_init 111 = .ok (.aastore, 1) := by decide +kernel
theorem dX9_init_112 : decode cX9_init 112 = .ok (.iinc 1 1, 3) := by decide +kernel
theorem dX9_init_115 : decode cX9_init 115 = .ok (.goto (-22), 3) := by decide +kernel
theorem dX9_init_118 : decode cX9_init 118 = .ok (.iconst 0, 1) := by decide +kernel
theorem dX9_init_119 : decode cX9_init 119 = .ok (.istore_n 1, 1) := by decide +kernel
theorem dX9_init_120 : decode cX9_init 120 = .ok (.iload_n 1, 1) := by decide +kernel
theorem dX9_init_121 : decode cX9_init 121 = .ok (.iconst 4, 1) := by decide +kernel
theorem dX9_init_122 : decode cX9_init 122 = .ok (.if_icmp .ge 22, 3) := by decide +kernel
theorem dX9_init_125 : decode cX9_init 125 = .ok (.aload_n 0, 1) := by decide +kernel
theorem dX9_init_126 : decode cX9_init 126 = .ok (.getfield 29, 3) := by decide +kernel
theorem dX9_init_129 : decode cX9_init 129 = .ok (.iload_n 1, 1) := by decide +kernel
theorem dX9_init_130 : decode cX9_init 130 = .ok (.new 27, 3) := by decide +kernel
theorem dX9_init_133 : decode cX9_init 133 = .ok (.dup, 1) := by decide +kernel
theorem dX9_init_134 : decode cX9_init 134 = .ok (.invokespecial 61, 3) := by decide +kernel
theorem dX9_init_137 : decode cX9_init 137 = .ok (.aastore, 1) := by decide +kernel
theorem dX9_init_138 : decode cX9_init 138 = .ok (.iinc 1 1, 3) := by decide +kernel
theorem dX9_init_141 : decode cX9_init 141 = .ok (.goto (-21), 3) := by decide +kernel
theorem dX9_init_144 : decode cX9_init 144 = .ok (.iconst 0, 1) := by decide +kernel
theorem dX9_init_145 : decode cX9_init 145 = .ok (.istore_n 1, 1) := by decide +kernel
theorem dX9_init_146 : decode cX9_init 146 = .ok (.iload_n 1, 1) := by decide +kernel
theorem dX9_init_147 : decode cX9_init 147 = .ok (.iconst 4, 1) := by decide +kernel
theorem dX9_init_148 : decode cX9_init 148 = .ok (.if_icmp .ge 22, 3) := by decide +kernel
theorem dX9_init_151 : decode cX9_init 151 = .ok (.aload_n 0, 1) := by decide +kernel
theorem dX9_init_152 : decode cX9_init 152 = .ok (.getfield 35, 3) := by decide +kernel
theorem dX9_init_155 : decode cX9_init 155 = .ok (.iload_n 1, 1) := by decide +kernel
theorem dX9_init_156 : decode cX9_init 156 = .ok (.new 33, 3) := by decide +kernel
theorem dX9_init_159 : decode cX9_init 159 = .ok (.dup, 1) := by decide +kernel
theorem dX9_init_160 : decode cX9_init 160 = .ok (.invokespecial 62, 3) := by decide +kernel
theorem dX9_init_163 : decode cX9_init 163 = .ok (.aastore, 1) := by decide +kernel
theorem dX9_init_164 : decode cX9_init 164 = .ok (.iinc 1 1, 3) := by decide +kernel
theorem dX9_init_167 : decode cX9_init 167 = .ok (.goto (-21), 3) := by decide +kernel
theorem dX9_init_170 : decode cX9_init 170 = .ok (.return_, 1) := by decide +kernel
set_option maxRecDepth 20000 in
theorem ggX9_horse_X9_within : GoodIn wsX9_horse wsX9_within := goodIn_r _ [8] (by decide +kernel) (by decide +kernel)
set_option maxRecDepth 20000 in
theorem gX9_horse_X9_within : GoodIn wsX9_horse (va_wsS RX9 63 yX9_within wsX9_within) := goodIn_app (goodIn_of _ (by decide +kernel)) ggX9_horse_X9_within
set_option maxRecDepth 20000 in
theorem ggX9_horse_X9_newHorse : GoodIn wsX9_horse wsX9_newHorse := goodIn_r _ [11, 12, 13, 14, 15, 16, 17, 18, 19, 20, 21, 22, 23, 24, 25, 26, 27, 28, 29, 30, 31, 32, 33, 34, 35, 36, 37, 38, 55, 56, 57, 58, 59, 60, 61, 62, 63, 64, 65, 66, 67, 68, 69] (by decide +kernel) (by decide +kernel)
set_option maxRecDepth 20000 in
theorem gX9_horse_X9_newHorse : GoodIn wsX9_horse (va_wsS RX9 73 yX9_newHorse wsX9_newHorse) := goodIn_app (goodIn_of _ (by decide +kernel)) ggX9_horse_X9_newHorse
theorem dX9_horse_0 : decode cX9_horse 0 = .ok (.iload_n 1, 1) := by decide +kernel
theorem dX9_horse_1 : decode cX9_horse 1 = .ok (.bipush 10, 2) := by decide +kernel
theorem dX9_horse_3 : decode cX9_horse 3 = .ok (.invokestatic 63, 3) := by decide +kernel
theorem dX9_horse_6 : decode cX9_horse 6 = .ok (.ifCond .eq 11, 3) := by decide +kernel
theorem dX9_horse_9 : decode cX9_horse 9 = .ok (.iload_n 2, 1) := by decide +kernel
theorem dX9_horse_10 : decode cX9_horse 10 = .ok (.iconst 3, 1) := by decide +kernel
theorem dX9_horse_11 : decode cX9_horse 11 = .ok (.invokestatic 63, 3) := by decide +kernel
theorem dX9_horse_14 : decode cX9_horse 14 = .ok (.ifCond .ne 6, 3) := by decide +kernel
theorem dX9_horse_17 : decode cX9_horse 17 = .ok (.ldc 67, 2) := by decide +kernel
theorem dX9_horse_19 : decode cX9_horse 19 = .ok (.ireturn, 1) := by decide +kernel
theorem dX9_horse_20 : decode cX9_horse 20 = .ok (.aload_n 0, 1) := by decide +kernel
theorem dX9_horse_21 : decode cX9_horse 21 = .ok (.getfield 68, 3) := by decide +kernel
theorem dX9_horse_24 : decode cX9_horse 24 = .ok (.bipush 60, 2) := by decide +kernel
theorem dX9_horse_26 : decode cX9_horse 26 = .ok (.if_icmp .lt 6, 3) := by decide +kernel
theorem dX9_horse_29 : decode cX9_horse 29 = .ok (.ldc 72, 2) := by decide +kernel
theorem dX9_horse_31 : decode cX9_horse 31 = .ok (.ireturn, 1) := by decide +kernel
theorem dX9_horse_32 : decode cX9_horse 32 = .ok (.aload_n 0, 1) := by decide +kernel
theorem dX9_horse_33 : decode cX9_horse 33 = .ok (.getfield 11, 3) := by decide +kernel
theorem dX9_horse_36 : decode cX9_horse 36 = .ok (.iload_n 1, 1) := by decide +kernel
theorem dX9_horse_37 : decode cX9_horse 37 = .ok (.iload_n 2, 1) := by decide +kernel
theorem dX9_horse_38 : decode cX9_horse 38 = .ok (.iload_n 3, 1) := by decide +kernel
theorem dX9_horse_39 : decode cX9_horse 39 = .ok (.invokestatic 73, 3) := by decide +kernel
theorem dX9_horse_42 : decode cX9_horse 42 = .ok (.aastore, 1) := by decide +kernel
theorem dX9_horse_43 : decode cX9_horse 43 = .ok (.aload_n 0, 1) := by decide +kernel
theorem dX9_horse_44 : decode cX9_horse 44 = .ok (.dup, 1) := by decide +kernel
theorem dX9_horse_45 : decode cX9_horse 45 = .ok (.getfield 68, 3) := by decide +kernel
theorem dX9_horse_48 : decode cX9_horse 48 = .ok (.iconst 1, 1) := by decide +kernel
theorem dX9_horse_49 : decode cX9_horse 49 = .ok (.iadd, 1) := by decide +kernel
theorem dX9_horse_50 : decode cX9_horse 50 = .ok (.putfield 68, 3) := by decide +kernel
theorem dX9_horse_53 : decode cX9_horse 53 = .ok (.aload_n 0, 1) := by decide +kernel
theorem dX9_horse_54 : decode cX9_horse 54 = .ok (.getfield 68, 3) := by decide +kernel
theorem dX9_horse_57 : decode cX9_horse 57 = .ok (.iconst 1, 1) := by decide +kernel
theorem dX9_horse_58 : decode cX9_horse 58 = .ok (.isub, 1) := by decide +kernel
theorem dX9_horse_59 : decode cX9_horse 59 = .ok (.ireturn, 1) := by decide +kernel
set_option maxRecDepth 20000 in
theorem ggX9_wagon_X9_within : GoodIn wsX9_wagon wsX9_within := goodIn_r _ [11] (by decide +kernel) (by decide +kernel)
set_option maxRecDepth 20000 in
theorem gX9_wagon_X9_within : GoodIn wsX9_wagon (va_wsS RX9 63 yX9_within wsX9_within) := goodIn_app (goodIn_of _ (by decide +kernel)) ggX9_wagon_X9_within
set_option maxRecDepth 20000 in
theorem ggX9_wagon_X7_init : GoodIn wsX9_wagon wsX7_init := goodIn_r _ [14, 15, 16, 17, 18, 19, 20, 21, 38, 39] (by decide +kernel) (by decide +kernel)
set_option maxRecDepth 20000 in
theorem gX9_wagon_X7_init : GoodIn wsX9_wagon (wsX7_init) := ggX9_wagon_X7_init
theorem dX9_wagon_0 : decode cX9_wagon 0 = .ok (.iload_n 1, 1) := by decide +kernel
theorem dX9_wagon_1 : decode cX9_wagon 1 = .ok (.bipush 6, 2) := by decide +kernel
theorem dX9_wagon_3 : decode cX9_wagon 3 = .ok (.invokestatic 63, 3) := by decide +kernel
theorem dX9_wagon_6 : decode cX9_wagon 6 = .ok (.ifCond .ne 6, 3) := by decide +kernel
theorem dX9_wagon_9 : decode cX9_wagon 9 = .ok (.ldc 67, 2) := by decide +kernel
theorem dX9_wagon_11 : decode cX9_wagon 11 = .ok (.ireturn, 1) := by decide +kernel
theorem dX9_wagon_12 : decode cX9_wagon 12 = .ok (.aload_n 0, 1) := by decide +kernel
theorem dX9_wagon_13 : decode cX9_wagon 13 = .ok (.getfield 77, 3) := by decide +kernel
theorem dX9_wagon_16 : decode cX9_wagon 16 = .ok (.bipush 60, 2) := by decide +kernel
theorem dX9_wagon_18 : decode cX9_wagon 18 = .ok (.if_icmp .lt 6, 3) := by decide +kernel
theorem dX9_wagon_21 : decode cX9_wagon 21 = .ok (.ldc 72, 2) := by decide +kernel
theorem dX9_wagon_23 : decode cX9_wagon 23 = .ok (.ireturn, 1) := by decide +kernel
theorem dX9_wagon_24 : decode cX9_wagon 24 = .ok (.aload_n 0, 1) := by decide +kernel
theorem dX9_wagon_25 : decode cX9_wagon 25 = .ok (.getfield 17, 3) := by decide +kernel
theorem dX9_wagon_28 : decode cX9_wagon 28 = .ok (.iload_n 1, 1) := by decide +kernel
theorem dX9_wagon_29 : decode cX9_wagon 29 = .ok (.new 80, 3) := by decide +kernel
theorem dX9_wagon_32 : decode cX9_wagon 32 = .ok (.dup, 1) := by decide +kernel
theorem dX9_wagon_33 : decode cX9_wagon 33 = .ok (.iload_n 2, 1) := by decide +kernel
theorem dX9_wagon_34 : decode cX9_wagon 34 = .ok (.invokespecial 82, 3) := by decide +kernel
theorem dX9_wagon_37 : decode cX9_wagon 37 = .ok (.aastore, 1) := by decide +kernel
theorem dX9_wagon_38 : decode cX9_wagon 38 = .ok (.aload_n 0, 1) := by decide +kernel
theorem dX9_wagon_39 : decode cX9_wagon 39 = .ok (.dup, 1) := by decide +kernel
theorem dX9_wagon_40 : decode cX9_wagon 40 = .ok (.getfield 77, 3) := by decide +kernel
theorem dX9_wagon_43 : decode cX9_wagon 43 = .ok (.iconst 1, 1) := by decide +kernel
theorem dX9_wagon_44 : decode cX9_wagon 44 = .ok (.iadd, 1) := by decide +kernel
theorem dX9_wagon_45 : decode cX9_wagon 45 = .ok (.putfield 77, 3) := by decide +kernel
theorem dX9_wagon_48 : decode cX9_wagon 48 = .ok (.aload_n 0, 1) := by decide +kernel
theorem dX9_wagon_49 : decode cX9_wagon 49 = .ok (.getfield 77, 3) := by decide +kernel
theorem dX9_wagon_52 : decode cX9_wagon 52 = .ok (.iconst 1, 1) := by decide +kernel
theorem dX9_wagon_53 : decode cX9_wagon 53 = .ok (.isub, 1) := by decide +kernel
theorem dX9_wagon_54 : decode cX9_wagon 54 = .ok (.ireturn, 1) := by decide +kernel
set_option maxRecDepth 20000 in
theorem ggX9_lead_X9_within : GoodIn wsX9_lead wsX9_within := goodIn_r _ [7] (by decide +kernel) (by decide +kernel)
set_option maxRecDepth 20000 in
theorem gX9_lead_X9_within : GoodIn wsX9_lead (va_wsS RX9 63 yX9_within wsX9_within) := goodIn_app (goodIn_of _ (by decide +kernel)) ggX9_lead_X9_within
set_option maxRecDepth 20000 in
theorem ggX9_lead_X9_oneIf : GoodIn wsX9_lead wsX9_oneIf := goodIn_r _ [10] (by decide +kernel) (by decide +kernel)
set_option maxRecDepth 20000 in
theorem gX9_lead_X9_oneIf : GoodIn wsX9_lead (va_wsS RX9 85 yX9_oneIf wsX9_oneIf) := goodIn_app (goodIn_of _ (by decide +kernel)) ggX9_lead_X9_oneIf
theorem dX9_lead_0 : decode cX9_lead 0 = .ok (.iload_n 1, 1) := by decide +kernel
theorem dX9_lead_1 : decode cX9_lead 1 = .ok (.bipush 10, 2) := by decide +kernel
theorem dX9_lead_3 : decode cX9_lead 3 = .ok (.invokestatic 63, 3) := by decide +kernel
theorem dX9_lead_6 : decode cX9_lead 6 = .ok (.ifCond .eq 12, 3) := by decide +kernel
theorem dX9_lead_9 : decode cX9_lead 9 = .ok (.iload_n 2, 1) := by decide +kernel
theorem dX9_lead_10 : decode cX9_lead 10 = .ok (.bipush 6, 2) := by decide +kernel
theorem dX9_lead_12 : decode cX9_lead 12 = .ok (.invokestatic 63, 3) := by decide +kernel
theorem dX9_lead_15 : decode cX9_lead 15 = .ok (.ifCond .ne 6, 3) := by decide +kernel
theorem dX9_lead_18 : decode cX9_lead 18 = .ok (.ldc 67, 2) := by decide +kernel
theorem dX9_lead_20 : decode cX9_lead 20 = .ok (.ireturn, 1) := by decide +kernel
theorem dX9_lead_21 : decode cX9_lead 21 = .ok (.aload_n 0, 1) := by decide +kernel
theorem dX9_lead_22 : decode cX9_lead 22 = .ok (.getfield 17, 3) := by decide +kernel
theorem dX9_lead_25 : decode cX9_lead 25 = .ok (.iload_n 2, 1) := by decide +kernel
theorem dX9_lead_26 : decode cX9_lead 26 = .ok (.aload_n 0, 1) := by decide +kernel
theorem dX9_lead_27 : decode cX9_lead 27 = .ok (.getfield 11, 3) := by decide +kernel
theorem dX9_lead_30 : decode cX9_lead 30 = .ok (.iload_n 1, 1) := by decide +kernel
theorem dX9_lead_31 : decode cX9_lead 31 = .ok (.aaload, 1) := by decide +kernel
theorem dX9_lead_32 : decode cX9_lead 32 = .ok (.aastore, 1) := by decide +kernel
theorem dX9_lead_33 : decode cX9_lead 33 = .ok (.aload_n 0, 1) := by decide +kernel
theorem dX9_lead_34 : decode cX9_lead 34 = .ok (.getfield 11, 3) := by decide +kernel
theorem dX9_lead_37 : decode cX9_lead 37 = .ok (.iload_n 1, 1) := by decide +kernel
theorem dX9_lead_38 : decode cX9_lead 38 = .ok (.aaload, 1) := by decide +kernel
theorem dX9_lead_39 : decode cX9_lead 39 = .ok (.ifnull 7, 3) := by decide +kernel
theorem dX9_lead_42 : decode cX9_lead 42 = .ok (.iconst 1, 1) := by decide +kernel
theorem dX9_lead_43 : decode cX9_lead 43 = .ok (.goto 4, 3) := by decide +kernel
theorem dX9_lead_46 : decode cX9_lead 46 = .ok (.iconst 0, 1) := by decide +kernel
theorem dX9_lead_47 : decode cX9_lead 47 = .ok (.invokestatic 85, 3) := by decide +kernel
theorem dX9_lead_50 : decode cX9_lead 50 = .ok (.ireturn, 1) := by decide +kernel
set_option maxRecDepth 20000 in
theorem ggX9_empty_X9_within : GoodIn wsX9_empty wsX9_within := goodIn_r _ [6] (by decide +kernel) (by decide +kernel)
set_option maxRecDepth 20000 in
theorem gX9_empty_X9_within : GoodIn wsX9_empty (va_wsS RX9 63 yX9_within wsX9_within) := goodIn_app (goodIn_of _ (by decide +kernel)) ggX9_empty_X9_within
set_option maxRecDepth 20000 in
theorem ggX9_empty_X9_holdsSomething : GoodIn wsX9_empty wsX9_holdsSomething := goodIn_r _ [10, 11, 12, 13, 14, 15, 16, 17, 18, 19, 27, 28, 29, 30, 31, 32, 33, 34, 35, 36, 37, 38, 39, 40, 41, 42, 43, 44, 45, 46, 47, 48, 49, 50, 51, 52, 53, 54] (by decide +kernel) (by decide +kernel)
set_option maxRecDepth 20000 in
theorem gX9_empty_X9_holdsSomething : GoodIn wsX9_empty (wsV RX9 92 RX9 yX9_holdsSomething wsX9_holdsSomething) := goodIn_app (goodIn_of _ (by decide +kernel)) ggX9_empty_X9_holdsSomething
set_option maxRecDepth 20000 in
theorem ggX9_empty_X9_takeAway : GoodIn wsX9_empty wsX9_takeAway := goodIn_r _ [23, 11, 12, 13, 14, 15, 16, 17, 18, 19, 27, 28, 29, 30, 31, 32, 33, 34, 35, 36, 37, 38, 39, 40, 41, 42, 43, 44, 45, 46, 47, 48, 49, 50, 51, 52, 53, 54] (by decide +kernel) (by decide +kernel)
set_option maxRecDepth 20000 in
theorem gX9_empty_X9_takeAway : GoodIn wsX9_empty (wsV RX9 95 RX9 yX9_takeAway wsX9_takeAway) := goodIn_app (goodIn_of _ (by decide +kernel)) ggX9_empty_X9_takeAway
set_option maxRecDepth 20000 in
theorem ggX9_empty_X9_oneIf : GoodIn wsX9_empty wsX9_oneIf := goodIn_r _ [26] (by decide +kernel) (by decide +kernel)
set_option maxRecDepth 20000 in
theorem gX9_empty_X9_oneIf : GoodIn wsX9_empty (va_wsS RX9 85 yX9_oneIf wsX9_oneIf) := goodIn_app (goodIn_of _ (by decide +kernel)) ggX9_empty_X9_oneIf
theorem dX9_empty_0 : decode cX9_empty 0 = .ok (.iload_n 1, 1) := by decide +kernel
theorem dX9_empty_1 : decode cX9_empty 1 = .ok (.getstatic 89, 3) := by decide +kernel
theorem dX9_empty_4 : decode cX9_empty 4 = .ok (.arraylength, 1) := by decide +kernel
theorem dX9_empty_5 : decode cX9_empty 5 = .ok (.invokestatic 63, 3) := by decide +kernel
theorem dX9_empty_8 : decode cX9_empty 8 = .ok (.ifCond .eq 15, 3) := by decide +kernel
theorem dX9_empty_11 : decode cX9_empty 11 = .ok (.iload_n 2, 1) := by decide +kernel
theorem dX9_empty_12 : decode cX9_empty 12 = .ok (.getstatic 89, 3) := by decide +kernel
theorem dX9_empty_15 : decode cX9_empty 15 = .ok (.iload_n 1, 1) := by decide +kernel
theorem dX9_empty_16 : decode cX9_empty 16 = .ok (.iaload, 1) := by decide +kernel
theorem dX9_empty_17 : decode cX9_empty 17 = .ok (.invokestatic 63, 3) := by decide +kernel
theorem dX9_empty_20 : decode cX9_empty 20 = .ok (.ifCond .ne 6, 3) := by decide +kernel
theorem dX9_empty_23 : decode cX9_empty 23 = .ok (.ldc 67, 2) := by decide +kernel
theorem dX9_empty_25 : decode cX9_empty 25 = .ok (.ireturn, 1) := by decide +kernel
theorem dX9_empty_26 : decode cX9_empty 26 = .ok (.aload_n 0, 1) := by decide +kernel
theorem dX9_empty_27 : decode cX9_empty 27 = .ok (.iload_n 1, 1) := by decide +kernel
theorem dX9_empty_28 : decode cX9_empty 28 = .ok (.iload_n 2, 1) := by decide +kernel
theorem dX9_empty_29 : decode cX9_empty 29 = .ok (.invokevirtual 92, 3) := by decide +kernel
theorem dX9_empty_32 : decode cX9_empty 32 = .ok (.istore_n 3, 1) := by decide +kernel
theorem dX9_empty_33 : decode cX9_empty 33 = .ok (.aload_n 0, 1) := by decide +kernel
theorem dX9_empty_34 : decode cX9_empty 34 = .ok (.iload_n 1, 1) := by decide +kernel
theorem dX9_empty_35 : decode cX9_empty 35 = .ok (.iload_n 2, 1) := by decide +kernel
theorem dX9_empty_36 : decode cX9_empty 36 = .ok (.invokevirtual 95, 3) := by decide +kernel
theorem dX9_empty_39 : decode cX9_empty 39 = .ok (.iload_n 3, 1) := by decide +kernel
theorem dX9_empty_40 : decode cX9_empty 40 = .ok (.invokestatic 85, 3) := by decide +kernel
theorem dX9_empty_43 : decode cX9_empty 43 = .ok (.ireturn, 1) := by decide +kernel
set_option maxRecDepth 20000 in
theorem ggX9_tear_X9_within : GoodIn wsX9_tear wsX9_within := goodIn_r _ [9] (by decide +kernel) (by decide +kernel)
set_option maxRecDepth 20000 in
theorem gX9_tear_X9_within : GoodIn wsX9_tear (va_wsS RX9 63 yX9_within wsX9_within) := goodIn_app (goodIn_of _ (by decide +kernel)) ggX9_tear_X9_within
set_option maxRecDepth 20000 in
theorem ggX9_tear_X9_oneIf : GoodIn wsX9_tear wsX9_oneIf := goodIn_r _ [12] (by decide +kernel) (by decide +kernel)
set_option maxRecDepth 20000 in
theorem gX9_tear_X9_oneIf : GoodIn wsX9_tear (va_wsS RX9 85 yX9_oneIf wsX9_oneIf) := goodIn_app (goodIn_of _ (by decide +kernel)) ggX9_tear_X9_oneIf
theorem dX9_tear_0 : decode cX9_tear 0 = .ok (.iload_n 1, 1) := by decide +kernel
theorem dX9_tear_1 : decode cX9_tear 1 = .ok (.iconst 4, 1) := by decide +kernel
theorem dX9_tear_2 : decode cX9_tear 2 = .ok (.invokestatic 63, 3) := by decide +kernel
theorem dX9_tear_5 : decode cX9_tear 5 = .ok (.ifCond .ne 6, 3) := by decide +kernel
theorem dX9_tear_8 : decode cX9_tear 8 = .ok (.ldc 67, 2) := by decide +kernel
theorem dX9_tear_10 : decode cX9_tear 10 = .ok (.ireturn, 1) := by decide +kernel
theorem dX9_tear_11 : decode cX9_tear 11 = .ok (.aload_n 0, 1) := by decide +kernel
theorem dX9_tear_12 : decode cX9_tear 12 = .ok (.getfield 35, 3) := by decide +kernel
theorem dX9_tear_15 : decode cX9_tear 15 = .ok (.iload_n 1, 1) := by decide +kernel
theorem dX9_tear_16 : decode cX9_tear 16 = .ok (.aaload, 1) := by decide +kernel
theorem dX9_tear_17 : decode cX9_tear 17 = .ok (.astore_n 3, 1) := by decide +kernel
theorem dX9_tear_18 : decode cX9_tear 18 = .ok (.aload_n 3, 1) := by decide +kernel
theorem dX9_tear_19 : decode cX9_tear 19 = .ok (.getfield 99, 3) := by decide +kernel
theorem dX9_tear_22 : decode cX9_tear 22 = .ok (.ifCond .eq 14, 3) := by decide +kernel
theorem dX9_tear_25 : decode cX9_tear 25 = .ok (.iload_n 2, 1) := by decide +kernel
theorem dX9_tear_26 : decode cX9_tear 26 = .ok (.aload_n 3, 1) := by decide +kernel
theorem dX9_tear_27 : decode cX9_tear 27 = .ok (.getfield 103, 3) := by decide +kernel
theorem dX9_tear_30 : decode cX9_tear 30 = .ok (.invokestatic 63, 3) := by decide +kernel
theorem dX9_tear_33 : decode cX9_tear 33 = .ok (.ifCond .ne 6, 3) := by decide +kernel
theorem dX9_tear_36 : decode cX9_tear 36 = .ok (.ldc 67, 2) := by decide +kernel
theorem dX9_tear_38 : decode cX9_tear 38 = .ok (.ireturn, 1) := by decide +kernel
theorem dX9_tear_39 : decode cX9_tear 39 = .ok (.aload_n 3, 1) := by decide +kernel
theorem dX9_tear_40 : decode cX9_tear 40 = .ok (.getfield 106, 3) := by decide +kernel
theorem dX9_tear_43 : decode cX9_tear 43 = .ok (.iload_n 2, 1) := by decide +kernel
theorem dX9_tear_44 : decode cX9_tear 44 = .ok (.baload, 1) := by decide +kernel
theorem dX9_tear_45 : decode cX9_tear 45 = .ok (.istore 4, 2) := by decide +kernel
theorem dX9_tear_47 : decode cX9_tear 47 = .ok (.aload_n 3, 1) := by decide +kernel
theorem dX9_tear_48 : decode cX9_tear 48 = .ok (.getfield 106, 3) := by decide +kernel
theorem dX9_tear_51 : decode cX9_tear 51 = .ok (.iload_n 2, 1) := by decide +kernel
theorem dX9_tear_52 : decode cX9_tear 52 = .ok (.iconst 0, 1) := by decide +kernel
theorem dX9_tear_53 : decode cX9_tear 53 = .ok (.bastore, 1) := by decide +kernel
theorem dX9_tear_54 : decode cX9_tear 54 = .ok (.iload 4, 2) := by decide +kernel
theorem dX9_tear_56 : decode cX9_tear 56 = .ok (.invokestatic 85, 3) := by decide +kernel
theorem dX9_tear_59 : decode cX9_tear 59 = .ok (.ireturn, 1) := by decide +kernel
set_option maxRecDepth 20000 in
theorem ggX9_hang_X9_within : GoodIn wsX9_hang wsX9_within := goodIn_r _ [11] (by decide +kernel) (by decide +kernel)
set_option maxRecDepth 20000 in
theorem gX9_hang_X9_within : GoodIn wsX9_hang (va_wsS RX9 63 yX9_within wsX9_within) := goodIn_app (goodIn_of _ (by decide +kernel)) ggX9_hang_X9_within
set_option maxRecDepth 20000 in
theorem ggX9_hang_X0_init : GoodIn wsX9_hang wsX0_init := goodIn_r _ [14, 15, 16, 17, 18, 35] (by decide +kernel) (by decide +kernel)
set_option maxRecDepth 20000 in
theorem gX9_hang_X0_init : GoodIn wsX9_hang (wsX0_init) := ggX9_hang_X0_init
theorem dX9_hang_0 : decode cX9_hang 0 = .ok (.iload_n 1, 1) := by decide +kernel
theorem dX9_hang_1 : decode cX9_hang 1 = .ok (.bipush 6, 2) := by decide +kernel
theorem dX9_hang_3 : decode cX9_hang 3 = .ok (.invokestatic 63, 3) := by decide +kernel
theorem dX9_hang_6 : decode cX9_hang 6 = .ok (.ifCond .ne 6, 3) := by decide +kernel
theorem dX9_hang_9 : decode cX9_hang 9 = .ok (.ldc 67, 2) := by decide +kernel
theorem dX9_hang_11 : decode cX9_hang 11 = .ok (.ireturn, 1) := by decide +kernel
theorem dX9_hang_12 : decode cX9_hang 12 = .ok (.aload_n 0, 1) := by decide +kernel
theorem dX9_hang_13 : decode cX9_hang 13 = .ok (.getfield 110, 3) := by decide +kernel
theorem dX9_hang_16 : decode cX9_hang 16 = .ok (.bipush 60, 2) := by decide +kernel
theorem dX9_hang_18 : decode cX9_hang 18 = .ok (.if_icmp .lt 6, 3) := by decide +kernel
theorem dX9_hang_21 : decode cX9_hang 21 = .ok (.ldc 72, 2) := by decide +kernel
theorem dX9_hang_23 : decode cX9_hang 23 = .ok (.ireturn, 1) := by decide +kernel
theorem dX9_hang_24 : decode cX9_hang 24 = .ok (.aload_n 0, 1) := by decide +kernel
theorem dX9_hang_25 : decode cX9_hang 25 = .ok (.getfield 41, 3) := by decide +kernel
theorem dX9_hang_28 : decode cX9_hang 28 = .ok (.iload_n 1, 1) := by decide +kernel
theorem dX9_hang_29 : decode cX9_hang 29 = .ok (.new 39, 3) := by decide +kernel
theorem dX9_hang_32 : decode cX9_hang 32 = .ok (.dup, 1) := by decide +kernel
theorem dX9_hang_33 : decode cX9_hang 33 = .ok (.iload_n 2, 1) := by decide +kernel
theorem dX9_hang_34 : decode cX9_hang 34 = .ok (.invokespecial 113, 3) := by decide +kernel
theorem dX9_hang_37 : decode cX9_hang 37 = .ok (.aastore, 1) := by decide +kernel
theorem dX9_hang_38 : decode cX9_hang 38 = .ok (.aload_n 0, 1) := by decide +kernel
theorem dX9_hang_39 : decode cX9_hang 39 = .ok (.dup, 1) := by decide +kernel
theorem dX9_hang_40 : decode cX9_hang 40 = .ok (.getfield 110, 3) := by decide +kernel
theorem dX9_hang_43 : decode cX9_hang 43 = .ok (.iconst 1, 1) := by decide +kernel
theorem dX9_hang_44 : decode cX9_hang 44 = .ok (.iadd, 1) := by decide +kernel
theorem dX9_hang_45 : decode cX9_hang 45 = .ok (.putfield 110, 3) := by decide +kernel
theorem dX9_hang_48 : decode cX9_hang 48 = .ok (.iconst 1, 1) := by decide +kernel
theorem dX9_hang_49 : decode cX9_hang 49 = .ok (.ireturn, 1) := by decide +kernel
set_option maxRecDepth 20000 in
theorem ggX9_act_X9_within : GoodIn wsX9_act wsX9_within := goodIn_r _ [5] (by decide +kernel) (by decide +kernel)
set_option maxRecDepth 20000 in
theorem gX9_act_X9_within : GoodIn wsX9_act (va_wsS RX9 63 yX9_within wsX9_within) := goodIn_app (goodIn_of _ (by decide +kernel)) ggX9_act_X9_within
set_option maxRecDepth 20000 in
theorem ggX9_act_X9_perform : GoodIn wsX9_act wsX9_perform := goodIn_r _ [9, 10, 11, 12, 13, 4, 14, 15, 16, 17, 18, 19, 20, 21, 22, 23, 24, 25, 26, 27, 28, 29, 30, 31, 32, 33, 34, 35, 36, 37, 38, 39, 40, 41, 42, 43, 44, 45, 46, 47, 48, 49, 50, 51, 52, 53, 54, 55, 56, 57, 58, 59, 60, 61, 62, 63, 64, 65, 66, 67, 68, 69, 70, 71, 72, 73, 74, 75, 76, 77, 78, 79, 80, 81, 82, 83, 84, 85, 86, 87, 88, 89, 90, 91, 92, 93, 94, 95, 96, 97, 98, 99, 100, 101, 102, 103, 104, 105, 106, 107, 108, 109, 110, 111, 112, 113, 114, 115, 116, 117, 118, 119, 120, 121, 122, 123, 124, 125, 126, 127, 128, 129, 130, 131, 132, 133, 134, 135, 136, 137, 138, 139, 140, 141, 142, 143, 2, 3, 5, 144, 145, 146, 147, 148, 149, 150, 151, 152, 153, 154, 155, 156, 157, 158, 159, 160, 161, 162, 163, 164, 165, 166, 167, 168, 169, 170, 171, 172, 173, 174, 175, 176, 177, 178, 179, 180, 181, 182, 183, 184, 185, 186, 187, 188, 189, 190, 191, 192, 193, 194, 195, 196, 197, 198, 199, 200, 201, 202, 203, 204, 205, 206, 207, 208, 209, 210, 211, 212, 213, 214, 215, 216, 217, 218, 219, 220, 221, 222, 223, 224, 225, 226, 227, 228, 229, 230, 231, 232, 233, 234, 235, 236, 237, 238, 239, 240, 241, 242, 243, 244, 245, 246, 247, 248, 249, 250, 251, 252, 253, 254, 255, 256, 257, 258, 259, 260, 261, 262, 263, 264, 265, 266, 267, 268, 269, 270, 271, 272, 273, 274, 275, 276, 277, 278, 279, 280, 281, 282, 283, 284, 285, 286, 287, 288, 289, 290, 291, 292, 293, 294, 295, 296, 297, 298, 299] (by decide +kernel) (by decide +kernel)
set_option maxRecDepth 20000 in
theorem gX9_act_X9_perform : GoodIn wsX9_act (wsV RX9 114 RX9 yX9_perform wsX9_perform) := goodIn_app (goodIn_of _ (by decide +kernel)) ggX9_act_X9_perform
theorem dX9_act_0 : decode cX9_act 0 = .ok (.iload_n 1, 1) := by decide +kernel
theorem dX9_act_1 : decode cX9_act 1 = .ok (.bipush 18, 2) := by decide +kernel
theorem dX9_act_3 : decode cX9_act 3 = .ok (.invokestatic 63, 3) := by decide +kernel
theorem dX9_act_6 : decode cX9_act 6 = .ok (.ifCond .ne 6, 3) := by decide +kernel
theorem dX9_act_9 : decode cX9_act 9 = .ok (.ldc 67, 2) := by decide +kernel
theorem dX9_act_11 : decode cX9_act 11 = .ok (.ireturn, 1) := by decide +kernel
theorem dX9_act_12 : decode cX9_act 12 = .ok (.aload_n 0, 1) := by decide +kernel
theorem dX9_act_13 : decode cX9_act 13 = .ok (.iload_n 1, 1) := by decide +kernel
theorem dX9_act_14 : decode cX9_act 14 = .ok (.iload_n 2, 1) := by decide +kernel
theorem dX9_act_15 : decode cX9_act 15 = .ok (.iload_n 3, 1) := by decide +kernel
theorem dX9_act_16 : decode cX9_act 16 = .ok (.iload 4, 2) := by decide +kernel
theorem dX9_act_18 : decode cX9_act 18 = .ok (.invokevirtual 114, 3) := by decide +kernel
theorem dX9_act_21 : decode cX9_act 21 = .ok (.istore 5, 2) := by decide +kernel
theorem dX9_act_23 : decode cX9_act 23 = .ok (.iload 5, 2) := by decide +kernel
theorem dX9_act_25 : decode cX9_act 25 = .ok (.ifCond .ne 7, 3) := by decide +kernel
theorem dX9_act_28 : decode cX9_act 28 = .ok (.iconst 1, 1) := by decide +kernel
theorem dX9_act_29 : decode cX9_act 29 = .ok (.goto 8, 3) := by decide +kernel
theorem dX9_act_32 : decode cX9_act 32 = .ok (.bipush (-10), 2) := by decide +kernel
theorem dX9_act_34 : decode cX9_act 34 = .ok (.iload 5, 2) := by decide +kernel
theorem dX9_act_36 : decode cX9_act 36 = .ok (.isub, 1) := by decide +kernel
theorem dX9_act_37 : decode cX9_act 37 = .ok (.ireturn, 1) := by decide +kernel
theorem dX9_came_0 : decode cX9_came 0 = .ok (.aload_n 0, 1) := by decide +kernel
theorem dX9_came_1 : decode cX9_came 1 = .ok (.getfield 118, 3) := by decide +kernel
theorem dX9_came_4 : decode cX9_came 4 = .ok (.ireturn, 1) := by decide +kernel
set_option maxRecDepth 20000 in
theorem ggX9_task_X9_within : GoodIn wsX9_task wsX9_within := goodIn_r _ [8] (by decide +kernel) (by decide +kernel)
set_option maxRecDepth 20000 in
theorem gX9_task_X9_within : GoodIn wsX9_task (va_wsS RX9 63 yX9_within wsX9_within) := goodIn_app (goodIn_of _ (by decide +kernel)) ggX9_task_X9_within
theorem dX9_task_0 : decode cX9_task 0 = .ok (.iload_n 1, 1) := by decide +kernel
theorem dX9_task_1 : decode cX9_task 1 = .ok (.bipush 18, 2) := by decide +kernel
theorem dX9_task_3 : decode cX9_task 3 = .ok (.invokestatic 63, 3) := by decide +kernel
theorem dX9_task_6 : decode cX9_task 6 = .ok (.ifCond .ne 6, 3) := by decide +kernel
theorem dX9_task_9 : decode cX9_task 9 = .ok (.ldc 67, 2) := by decide +kernel
theorem dX9_task_11 : decode cX9_task 11 = .ok (.ireturn, 1) := by decide +kernel
theorem dX9_task_12 : decode cX9_task 12 = .ok (.aload_n 0, 1) := by decide +kernel
theorem dX9_task_13 : decode cX9_task 13 = .ok (.getfield 121, 3) := by decide +kernel
theorem dX9_task_16 : decode cX9_task 16 = .ok (.bipush 20, 2) := by decide +kernel
theorem dX9_task_18 : decode cX9_task 18 = .ok (.if_icmp .lt 6, 3) := by decide +kernel
theorem dX9_task_21 : decode cX9_task 21 = .ok (.ldc 72, 2) := by decide +kernel
theorem dX9_task_23 : decode cX9_task 23 = .ok (.ireturn, 1) := by decide +kernel
theorem dX9_task_24 : decode cX9_task 24 = .ok (.aload_n 0, 1) := by decide +kernel
theorem dX9_task_25 : decode cX9_task 25 = .ok (.getfield 47, 3) := by decide +kernel
theorem dX9_task_28 : decode cX9_task 28 = .ok (.aload_n 0, 1) := by decide +kernel
theorem dX9_task_29 : decode cX9_task 29 = .ok (.getfield 121, 3) := by decide +kernel
theorem dX9_task_32 : decode cX9_task 32 = .ok (.aaload, 1) := by decide +kernel
theorem dX9_task_33 : decode cX9_task 33 = .ok (.astore 5, 2) := by decide +kernel
theorem dX9_task_35 : decode cX9_task 35 = .ok (.aload 5, 2) := by decide +kernel
theorem dX9_task_37 : decode cX9_task 37 = .ok (.iconst 0, 1) := by decide +kernel
theorem dX9_task_38 : decode cX9_task 38 = .ok (.iload_n 1, 1) := by decide +kernel
theorem dX9_task_39 : decode cX9_task 39 = .ok (.iastore, 1) := by decide +kernel
theorem dX9_task_40 : decode cX9_task 40 = .ok (.aload 5, 2) := by decide +kernel
theorem dX9_task_42 : decode cX9_task 42 = .ok (.iconst 1, 1) := by decide +kernel
theorem dX9_task_43 : decode cX9_task 43 = .ok (.iload_n 2, 1) := by decide +kernel
theorem dX9_task_44 : decode cX9_task 44 = .ok (.iastore, 1) := by decide +kernel
theorem dX9_task_45 : decode cX9_task 45 = .ok (.aload 5, 2) := by decide +kernel
theorem dX9_task_47 : decode cX9_task 47 = .ok (.iconst 2, 1) := by decide +kernel
theorem dX9_task_48 : decode cX9_task 48 = .ok (.iload_n 3, 1) := by decide +kernel
theorem dX9_task_49 : decode cX9_task 49 = .ok (.iastore, 1) := by decide +kernel
theorem dX9_task_50 : decode cX9_task 50 = .ok (.aload 5, 2) := by decide +kernel
theorem dX9_task_52 : decode cX9_task 52 = .ok (.iconst 3, 1) := by decide +kernel
theorem dX9_task_53 : decode cX9_task 53 = .ok (.iload 4, 2) := by decide +kernel
theorem dX9_task_55 : decode cX9_task 55 = .ok (.iastore, 1) := by decide +kernel
theorem dX9_task_56 : decode cX9_task 56 = .ok (.aload_n 0, 1) := by decide +kernel
theorem dX9_task_57 : decode cX9_task 57 = .ok (.dup, 1) := by decide +kernel
theorem dX9_task_58 : decode cX9_task 58 = .ok (.getfield 121, 3) := by decide +kernel
theorem dX9_task_61 : decode cX9_task 61 = .ok (.iconst 1, 1) := by decide +kernel
theorem dX9_task_62 : decode cX9_task 62 = .ok (.iadd, 1) := by decide +kernel
theorem dX9_task_63 : decode cX9_task 63 = .ok (.putfield 121, 3) := by decide +kernel
theorem dX9_task_66 : decode cX9_task 66 = .ok (.aload_n 0, 1) := by decide +kernel
theorem dX9_task_67 : decode cX9_task 67 = .ok (.getfield 121, 3) := by decide +kernel
theorem dX9_task_70 : decode cX9_task 70 = .ok (.ireturn, 1) := by decide +kernel
theorem dX9_clear_0 : decode cX9_clear 0 = .ok (.aload_n 0, 1) := by decide +kernel
theorem dX9_clear_1 : decode cX9_clear 1 = .ok (.getfield 121, 3) := by decide +kernel
theorem dX9_clear_4 : decode cX9_clear 4 = .ok (.istore_n 1, 1) := by decide +kernel
theorem dX9_clear_5 : decode cX9_clear 5 = .ok (.aload_n 0, 1) := by decide +kernel
theorem dX9_clear_6 : decode cX9_clear 6 = .ok (.iconst 0, 1) := by decide +kernel
theorem dX9_clear_7 : decode cX9_clear 7 = .ok (.putfield 121, 3) := by decide +kernel
theorem dX9_clear_10 : decode cX9_clear 10 = .ok (.iload_n 1, 1) := by decide +kernel
theorem dX9_clear_11 : decode cX9_clear 11 = .ok (.ireturn, 1) := by decide +kernel
set_option maxRecDepth 20000 in
theorem ggX9_day_X9_perform : GoodIn wsX9_day wsX9_perform := goodIn_r _ [7, 8, 9, 10, 11, 6, 12, 13, 14, 15, 16, 17, 18, 19, 20, 21, 22, 23, 24, 25, 26, 27, 28, 29, 30, 31, 32, 33, 34, 35, 36, 37, 38, 39, 40, 41, 42, 43, 44, 45, 46, 47, 48, 49, 50, 51, 52, 53, 54, 55, 56, 57, 58, 59, 60, 61, 62, 63, 64, 65, 66, 67, 68, 69, 70, 71, 72, 73, 74, 75, 76, 77, 78, 79, 80, 81, 82, 83, 84, 85, 86, 87, 88, 89, 90, 91, 92, 93, 94, 95, 96, 97, 98, 99, 100, 101, 102, 103, 104, 105, 106, 107, 108, 109, 110, 111, 112, 113, 114, 115, 116, 117, 118, 119, 120, 121, 122, 123, 124, 125, 126, 127, 128, 129, 130, 131, 132, 133, 134, 135, 136, 137, 138, 139, 140, 141, 142, 143, 144, 145, 146, 147, 148, 149, 150, 151, 152, 153, 154, 155, 156, 157, 158, 159, 160, 161, 162, 163, 164, 165, 166, 167, 168, 169, 170, 171, 172, 173, 174, 175, 176, 177, 178, 179, 180, 181, 182, 183, 184, 185, 186, 187, 188, 189, 190, 191, 192, 193, 194, 195, 196, 197, 198, 199, 200, 201, 202, 203, 204, 205, 206, 207, 208, 209, 210, 211, 212, 213, 214, 215, 216, 217, 218, 219, 220, 221, 222, 223, 224, 225, 226, 227, 228, 229, 230, 231, 232, 233, 234, 235, 236, 237, 238, 239, 240, 241, 242, 243, 244, 245, 246, 247, 248, 249, 250, 251, 252, 253, 254, 262, 263, 264, 265, 266, 267, 268, 269, 270, 271, 272, 273, 274, 275, 276, 277, 278, 279, 280, 281, 282, 283, 284, 285, 286, 287, 288, 289, 290, 291, 292, 293, 294, 295, 296, 297, 298, 299, 300, 301, 302, 303, 304, 305, 306, 307] (by decide +kernel) (by decide +kernel)
set_option maxRecDepth 20000 in
theorem gX9_day_X9_perform : GoodIn wsX9_day (wsV RX9 114 RX9 yX9_perform wsX9_perform) := goodIn_app (goodIn_of _ (by decide +kernel)) ggX9_day_X9_perform
set_option maxRecDepth 20000 in
theorem ggX9_day_X9_putDown : GoodIn wsX9_day wsX9_putDown := goodIn_r _ [258, 259, 260, 261, 262, 263, 264, 265, 266, 267, 268, 269, 270, 271, 272, 273, 274, 275, 276, 277] (by decide +kernel) (by decide +kernel)
set_option maxRecDepth 20000 in
theorem gX9_day_X9_putDown : GoodIn wsX9_day (wsV RX9 124 RX9 yX9_putDown wsX9_putDown) := goodIn_app (goodIn_of _ (by decide +kernel)) ggX9_day_X9_putDown
theorem dX9_day_0 : decode cX9_day 0 = .ok (.iconst 0, 1) := by decide +kernel
theorem dX9_day_1 : decode cX9_day 1 = .ok (.istore_n 1, 1) := by decide +kernel
theorem dX9_day_2 : decode cX9_day 2 = .ok (.iconst 0, 1) := by decide +kernel
theorem dX9_day_3 : decode cX9_day 3 = .ok (.istore_n 2, 1) := by decide +kernel
theorem dX9_day_4 : decode cX9_day 4 = .ok (.iload_n 2, 1) := by decide +kernel
theorem dX9_day_5 : decode cX9_day 5 = .ok (.aload_n 0, 1) := by decide +kernel
theorem dX9_day_6 : decode cX9_day 6 = .ok (.getfield 121, 3) := by decide +kernel
theorem dX9_day_9 : decode cX9_day 9 = .ok (.if_icmp .ge 61, 3) := by decide +kernel
theorem dX9_day_12 : decode cX9_day 12 = .ok (.aload_n 0, 1) := by decide +kernel
theorem dX9_day_13 : decode cX9_day 13 = .ok (.getfield 47, 3) := by decide +kernel
theorem dX9_day_16 : decode cX9_day 16 = .ok (.iload_n 2, 1) := by decide +kernel
theorem dX9_day_17 : decode cX9_day 17 = .ok (.aaload, 1) := by decide +kernel
theorem dX9_day_18 : decode cX9_day 18 = .ok (.astore_n 3, 1) := by decide +kernel
theorem dX9_day_19 : decode cX9_day 19 = .ok (.aload_n 0, 1) := by decide +kernel
theorem dX9_day_20 : decode cX9_day 20 = .ok (.aload_n 3, 1) := by decide +kernel
theorem dX9_day_21 : decode cX9_day 21 = .ok (.iconst 0, 1) := by decide +kernel
theorem dX9_day_22 : decode cX9_day 22 = .ok (.iaload, 1) := by decide +kernel
theorem dX9_day_23 : decode cX9_day 23 = .ok (.aload_n 3, 1) := by decide +kernel
theorem dX9_day_24 : decode cX9_day 24 = .ok (.iconst 1, 1) := by decide +kernel
theorem dX9_day_25 : decode cX9_day 25 = .ok (.iaload, 1) := by decide +kernel
theorem dX9_day_26 : decode cX9_day 26 = .ok (.aload_n 3, 1) := by decide +kernel
theorem dX9_day_27 : decode cX9_day 27 = .ok (.iconst 2, 1) := by decide +kernel
theorem dX9_day_28 : decode cX9_day 28 = .ok (.iaload, 1) := by decide +kernel
theorem dX9_day_29 : decode cX9_day 29 = .ok (.aload_n 3, 1) := by decide +kernel
theorem dX9_day_30 : decode cX9_day 30 = .ok (.iconst 3, 1) := by decide +kernel
theorem dX9_day_31 : decode cX9_day 31 = .ok (.iaload, 1) := by decide +kernel
theorem dX9_day_32 : decode cX9_day 32 = .ok (.invokevirtual 114, 3) := by decide +kernel
theorem dX9_day_35 : decode cX9_day 35 = .ok (.istore 4, 2) := by decide +kernel
theorem dX9_day_37 : decode cX9_day 37 = .ok (.iload 4, 2) := by decide +kernel
theorem dX9_day_39 : decode cX9_day 39 = .ok (.ifCond .eq 13, 3) := by decide +kernel
theorem dX9_day_42 : decode cX9_day 42 = .ok (.iinc 1 1, 3) := by decide +kernel
theorem dX9_day_45 : decode cX9_day 45 = .ok (.aload_n 0, 1) := by decide +kernel
theorem dX9_day_46 : decode cX9_day 46 = .ok (.iload_n 2, 1) := by decide +kernel
theorem dX9_day_47 : decode cX9_day 47 = .ok (.iload 4, 2) := by decide +kernel
theorem dX9_day_49 : decode cX9_day 49 = .ok (.invokevirtual 124, 3) := by decide +kernel
theorem dX9_day_52 : decode cX9_day 52 = .ok (.iload 4, 2) := by decide +kernel
theorem dX9_day_54 : decode cX9_day 54 = .ok (.bipush 6, 2) := by decide +kernel
theorem dX9_day_56 : decode cX9_day 56 = .ok (.if_icmp .ne 8, 3) := by decide +kernel
theorem dX9_day_59 : decode cX9_day 59 = .ok (.bipush (-10), 2) := by decide +kernel
theorem dX9_day_61 : decode cX9_day 61 = .ok (.iload_n 1, 1) := by decide +kernel
theorem dX9_day_62 : decode cX9_day 62 = .ok (.isub, 1) := by decide +kernel
theorem dX9_day_63 : decode cX9_day 63 = .ok (.ireturn, 1) := by decide +kernel
theorem dX9_day_64 : decode cX9_day 64 = .ok (.iinc 2 1, 3) := by decide +kernel
theorem dX9_day_67 : decode cX9_day 67 = .ok (.goto (-63), 3) := by decide +kernel
theorem dX9_day_70 : decode cX9_day 70 = .ok (.aload_n 0, 1) := by decide +kernel
theorem dX9_day_71 : decode cX9_day 71 = .ok (.getfield 121, 3) := by decide +kernel
theorem dX9_day_74 : decode cX9_day 74 = .ok (.iload_n 1, 1) := by decide +kernel
theorem dX9_day_75 : decode cX9_day 75 = .ok (.isub, 1) := by decide +kernel
theorem dX9_day_76 : decode cX9_day 76 = .ok (.ireturn, 1) := by decide +kernel
set_option maxRecDepth 20000 in
theorem ggX9_book_X9_within : GoodIn wsX9_book wsX9_within := goodIn_r _ [12] (by decide +kernel) (by decide +kernel)
set_option maxRecDepth 20000 in
theorem gX9_book_X9_within : GoodIn wsX9_book (va_wsS RX9 63 yX9_within wsX9_within) := goodIn_app (goodIn_of _ (by decide +kernel)) ggX9_book_X9_within
theorem dX9_book_0 : decode cX9_book 0 = .ok (.iload_n 1, 1) := by decide +kernel
theorem dX9_book_1 : decode cX9_book 1 = .ok (.aload_n 0, 1) := by decide +kernel
theorem dX9_book_2 : decode cX9_book 2 = .ok (.getfield 127, 3) := by decide +kernel
theorem dX9_book_5 : decode cX9_book 5 = .ok (.bipush 40, 2) := by decide +kernel
theorem dX9_book_7 : decode cX9_book 7 = .ok (.invokestatic 130, 3) := by decide +kernel
theorem dX9_book_10 : decode cX9_book 10 = .ok (.invokestatic 63, 3) := by decide +kernel
theorem dX9_book_13 : decode cX9_book 13 = .ok (.ifCond .ne 6, 3) := by decide +kernel
theorem dX9_book_16 : decode cX9_book 16 = .ok (.ldc 67, 2) := by decide +kernel
theorem dX9_book_18 : decode cX9_book 18 = .ok (.ireturn, 1) := by decide +kernel
theorem dX9_book_19 : decode cX9_book 19 = .ok (.iload_n 2, 1) := by decide +kernel
theorem dX9_book_20 : decode cX9_book 20 = .ok (.lookupswitch 42 #[(0, 28), (1, 35)], 28) := by decide +kernel
theorem dX9_book_48 : decode cX9_book 48 = .ok (.aload_n 0, 1) := by decide +kernel
theorem dX9_book_49 : decode cX9_book 49 = .ok (.getfield 50, 3) := by decide +kernel
theorem dX9_book_52 : decode cX9_book 52 = .ok (.iload_n 1, 1) := by decide +kernel
theorem dX9_book_53 : decode cX9_book 53 = .ok (.iaload, 1) := by decide +kernel
theorem dX9_book_54 : decode cX9_book 54 = .ok (.ireturn, 1) := by decide +kernel
theorem dX9_book_55 : decode cX9_book 55 = .ok (.aload_n 0, 1) := by decide +kernel
theorem dX9_book_56 : decode cX9_book 56 = .ok (.getfield 54, 3) := by decide +kernel
theorem dX9_book_59 : decode cX9_book 59 = .ok (.iload_n 1, 1) := by decide +kernel
theorem dX9_book_60 : decode cX9_book 60 = .ok (.iaload, 1) := by decide +kernel
theorem dX9_book_61 : decode cX9_book 61 = .ok (.ireturn, 1) := by decide +kernel
theorem dX9_book_62 : decode cX9_book 62 = .ok (.ldc 67, 2) := by decide +kernel
theorem dX9_book_64 : decode cX9_book 64 = .ok (.ireturn, 1) := by decide +kernel
set_option maxRecDepth 20000 in
theorem ggX9_horseTells_X9_within : GoodIn wsX9_horseTells wsX9_within := goodIn_r _ [11] (by decide +kernel) (by decide +kernel)
set_option maxRecDepth 20000 in
theorem gX9_horseTells_X9_within : GoodIn wsX9_horseTells (va_wsS RX9 63 yX9_within wsX9_within) := goodIn_app (goodIn_of _ (by decide +kernel)) ggX9_horseTells_X9_within
set_option maxRecDepth 20000 in
theorem ggX9_horseTells_X1_kindNumber : GoodIn wsX9_horseTells wsX1_kindNumber := goodIn_r _ [18] (by decide +kernel) (by decide +kernel)
set_option maxRecDepth 20000 in
theorem gX9_horseTells_X1_kindNumber_u136X1 : GoodIn wsX9_horseTells (va_wsO RX9 136 RX1 "RidingYard$Horse" ⟨"RidingYard$Horse", "kindNumber", "()I"⟩ yX1_kindNumber wsX1_kindNumber) := goodIn_app (goodIn_of _ (by decide +kernel)) ggX9_horseTells_X1_kindNumber
set_option maxRecDepth 20000 in
theorem ggX9_horseTells_X2_kindNumber : GoodIn wsX9_horseTells wsX2_kindNumber := goodIn_r _ [19] (by decide +kernel) (by decide +kernel)
set_option maxRecDepth 20000 in
theorem gX9_horseTells_X2_kindNumber : GoodIn wsX9_horseTells (wsV RX9 136 RX2 yX2_kindNumber wsX2_kindNumber) := goodIn_app (goodIn_of _ (by decide +kernel)) ggX9_horseTells_X2_kindNumber
set_option maxRecDepth 20000 in
theorem ggX9_horseTells_X3_kindNumber : GoodIn wsX9_horseTells wsX3_kindNumber := goodIn_r _ [27] (by decide +kernel) (by decide +kernel)
set_option maxRecDepth 20000 in
theorem gX9_horseTells_X3_kindNumber_u136X3 : GoodIn wsX9_horseTells (va_wsO RX9 136 RX3 "RidingYard$Horse" ⟨"RidingYard$Horse", "kindNumber", "()I"⟩ yX3_kindNumber wsX3_kindNumber) := goodIn_app (goodIn_of _ (by decide +kernel)) ggX9_horseTells_X3_kindNumber
theorem dX9_horseTells_0 : decode cX9_horseTells 0 = .ok (.iload_n 1, 1) := by decide +kernel
theorem dX9_horseTells_1 : decode cX9_horseTells 1 = .ok (.bipush 10, 2) := by decide +kernel
theorem dX9_horseTells_3 : decode cX9_horseTells 3 = .ok (.invokestatic 63, 3) := by decide +kernel
theorem dX9_horseTells_6 : decode cX9_horseTells 6 = .ok (.ifCond .ne 6, 3) := by decide +kernel
theorem dX9_horseTells_9 : decode cX9_horseTells 9 = .ok (.ldc 67, 2) := by decide +kernel
theorem dX9_horseTells_11 : decode cX9_horseTells 11 = .ok (.ireturn, 1) := by decide +kernel
theorem dX9_horseTells_12 : decode cX9_horseTells 12 = .ok (.aload_n 0, 1) := by decide +kernel
theorem dX9_horseTells_13 : decode cX9_horseTells 13 = .ok (.getfield 11, 3) := by decide +kernel
theorem dX9_horseTells_16 : decode cX9_horseTells 16 = .ok (.iload_n 1, 1) := by decide +kernel
theorem dX9_horseTells_17 : decode cX9_horseTells 17 = .ok (.aaload, 1) := by decide +kernel
theorem dX9_horseTells_18 : decode cX9_horseTells 18 = .ok (.astore_n 3, 1) := by decide +kernel
theorem dX9_horseTells_19 : decode cX9_horseTells 19 = .ok (.aload_n 3, 1) := by decide +kernel
theorem dX9_horseTells_20 : decode cX9_horseTells 20 = .ok (.ifnonnull 6, 3) := by decide +kernel
theorem dX9_horseTells_23 : decode cX9_horseTells 23 = .ok (.ldc 67, 2) := by decide +kernel
theorem dX9_horseTells_25 : decode cX9_horseTells 25 = .ok (.ireturn, 1) := by decide +kernel
theorem dX9_horseTells_26 : decode cX9_horseTells 26 = .ok (.iload_n 2, 1) := by decide +kernel
theorem dX9_horseTells_27 : decode cX9_horseTells 27 = .ok (.tableswitch 67 0 5 #[37, 42, 47, 52, 57, 62], 37) := by decide +kernel
theorem dX9_horseTells_64 : decode cX9_horseTells 64 = .ok (.aload_n 3, 1) := by decide +kernel
theorem dX9_horseTells_65 : decode cX9_horseTells 65 = .ok (.invokevirtual 136, 3) := by decide +kernel
theorem dX9_horseTells_68 : decode cX9_horseTells 68 = .ok (.ireturn, 1) := by decide +kernel
theorem dX9_horseTells_69 : decode cX9_horseTells 69 = .ok (.aload_n 3, 1) := by decide +kernel
theorem dX9_horseTells_70 : decode cX9_horseTells 70 = .ok (.getfield 140, 3) := by decide +kernel
theorem dX9_horseTells_73 : decode cX9_horseTells 73 = .ok (.ireturn, 1) := by decide +kernel
theorem dX9_horseTells_74 : decode cX9_horseTells 74 = .ok (.aload_n 3, 1) := by decide +kernel
theorem dX9_horseTells_75 : decode cX9_horseTells 75 = .ok (.getfield 143, 3) := by decide +kernel
theorem dX9_horseTells_78 : decode cX9_horseTells 78 = .ok (.ireturn, 1) := by decide +kernel
theorem dX9_horseTells_79 : decode cX9_horseTells 79 = .ok (.aload_n 3, 1) := by decide +kernel
theorem dX9_horseTells_80 : decode cX9_horseTells 80 = .ok (.getfield 146, 3) := by decide +kernel
theorem dX9_horseTells_83 : decode cX9_horseTells 83 = .ok (.ireturn, 1) := by decide +kernel
theorem dX9_horseTells_84 : decode cX9_horseTells 84 = .ok (.aload_n 3, 1) := by decide +kernel
theorem dX9_horseTells_85 : decode cX9_horseTells 85 = .ok (.getfield 149, 3) := by decide +kernel
theorem dX9_horseTells_88 : decode cX9_horseTells 88 = .ok (.ireturn, 1) := by decide +kernel
theorem dX9_horseTells_89 : decode cX9_horseTells 89 = .ok (.aload_n 3, 1) := by decide +kernel
theorem dX9_horseTells_90 : decode cX9_horseTells 90 = .ok (.getfield 152, 3) := by decide +kernel
theorem dX9_horseTells_93 : decode cX9_horseTells 93 = .ok (.ireturn, 1) := by decide +kernel
theorem dX9_horseTells_94 : decode cX9_horseTells 94 = .ok (.ldc 67, 2) := by decide +kernel
theorem dX9_horseTells_96 : decode cX9_horseTells 96 = .ok (.ireturn, 1) := by decide +kernel
set_option maxRecDepth 20000 in
theorem ggX9_shed_X9_within : GoodIn wsX9_shed wsX9_within := goodIn_r _ [7] (by decide +kernel) (by decide +kernel)
set_option maxRecDepth 20000 in
theorem gX9_shed_X9_within : GoodIn wsX9_shed (va_wsS RX9 63 yX9_within wsX9_within) := goodIn_app (goodIn_of _ (by decide +kernel)) ggX9_shed_X9_within
theorem dX9_shed_0 : decode cX9_shed 0 = .ok (.iload_n 1, 1) := by decide +kernel
theorem dX9_shed_1 : decode cX9_shed 1 = .ok (.bipush 6, 2) := by decide +kernel
theorem dX9_shed_3 : decode cX9_shed 3 = .ok (.invokestatic 63, 3) := by decide +kernel
theorem dX9_shed_6 : decode cX9_shed 6 = .ok (.ifCond .ne 6, 3) := by decide +kernel
theorem dX9_shed_9 : decode cX9_shed 9 = .ok (.ldc 67, 2) := by decide +kernel
theorem dX9_shed_11 : decode cX9_shed 11 = .ok (.ireturn, 1) := by decide +kernel
theorem dX9_shed_12 : decode cX9_shed 12 = .ok (.aload_n 0, 1) := by decide +kernel
theorem dX9_shed_13 : decode cX9_shed 13 = .ok (.getfield 17, 3) := by decide +kernel
theorem dX9_shed_16 : decode cX9_shed 16 = .ok (.iload_n 1, 1) := by decide +kernel
theorem dX9_shed_17 : decode cX9_shed 17 = .ok (.aaload, 1) := by decide +kernel
theorem dX9_shed_18 : decode cX9_shed 18 = .ok (.astore_n 2, 1) := by decide +kernel
theorem dX9_shed_19 : decode cX9_shed 19 = .ok (.aload_n 2, 1) := by decide +kernel
theorem dX9_shed_20 : decode cX9_shed 20 = .ok (.ifnonnull 5, 3) := by decide +kernel
theorem dX9_shed_23 : decode cX9_shed 23 = .ok (.iconst 0, 1) := by decide +kernel
theorem dX9_shed_24 : decode cX9_shed 24 = .ok (.ireturn, 1) := by decide +kernel
theorem dX9_shed_25 : decode cX9_shed 25 = .ok (.aload_n 2, 1) := by decide +kernel
theorem dX9_shed_26 : decode cX9_shed 26 = .ok (.instanceof 9, 3) := by decide +kernel
theorem dX9_shed_29 : decode cX9_shed 29 = .ok (.ifCond .eq 7, 3) := by decide +kernel
theorem dX9_shed_32 : decode cX9_shed 32 = .ok (.iconst 1, 1) := by decide +kernel
theorem dX9_shed_33 : decode cX9_shed 33 = .ok (.goto 4, 3) := by decide +kernel
theorem dX9_shed_36 : decode cX9_shed 36 = .ok (.iconst 2, 1) := by decide +kernel
theorem dX9_shed_37 : decode cX9_shed 37 = .ok (.ireturn, 1) := by decide +kernel
set_option maxRecDepth 20000 in
theorem ggX9_same_X9_within : GoodIn wsX9_same wsX9_within := goodIn_r _ [6] (by decide +kernel) (by decide +kernel)
set_option maxRecDepth 20000 in
theorem gX9_same_X9_within : GoodIn wsX9_same (va_wsS RX9 63 yX9_within wsX9_within) := goodIn_app (goodIn_of _ (by decide +kernel)) ggX9_same_X9_within
set_option maxRecDepth 20000 in
theorem ggX9_same_X9_oneIf : GoodIn wsX9_same wsX9_oneIf := goodIn_r _ [9] (by decide +kernel) (by decide +kernel)
set_option maxRecDepth 20000 in
theorem gX9_same_X9_oneIf : GoodIn wsX9_same (va_wsS RX9 85 yX9_oneIf wsX9_oneIf) := goodIn_app (goodIn_of _ (by decide +kernel)) ggX9_same_X9_oneIf
theorem dX9_same_0 : decode cX9_same 0 = .ok (.iload_n 1, 1) := by decide +kernel
theorem dX9_same_1 : decode cX9_same 1 = .ok (.bipush 10, 2) := by decide +kernel
theorem dX9_same_3 : decode cX9_same 3 = .ok (.invokestatic 63, 3) := by decide +kernel
theorem dX9_same_6 : decode cX9_same 6 = .ok (.ifCond .eq 12, 3) := by decide +kernel
theorem dX9_same_9 : decode cX9_same 9 = .ok (.iload_n 2, 1) := by decide +kernel
theorem dX9_same_10 : decode cX9_same 10 = .ok (.bipush 10, 2) := by decide +kernel
theorem dX9_same_12 : decode cX9_same 12 = .ok (.invokestatic 63, 3) := by decide +kernel
theorem dX9_same_15 : decode cX9_same 15 = .ok (.ifCond .ne 6, 3) := by decide +kernel
theorem dX9_same_18 : decode cX9_same 18 = .ok (.ldc 67, 2) := by decide +kernel
theorem dX9_same_20 : decode cX9_same 20 = .ok (.ireturn, 1) := by decide +kernel
theorem dX9_same_21 : decode cX9_same 21 = .ok (.aload_n 0, 1) := by decide +kernel
theorem dX9_same_22 : decode cX9_same 22 = .ok (.getfield 11, 3) := by decide +kernel
theorem dX9_same_25 : decode cX9_same 25 = .ok (.iload_n 1, 1) := by decide +kernel
theorem dX9_same_26 : decode cX9_same 26 = .ok (.aaload, 1) := by decide +kernel
theorem dX9_same_27 : decode cX9_same 27 = .ok (.aload_n 0, 1) := by decide +kernel
theorem dX9_same_28 : decode cX9_same 28 = .ok (.getfield 11, 3) := by decide +kernel
theorem dX9_same_31 : decode cX9_same 31 = .ok (.iload_n 2, 1) := by decide +kernel
theorem dX9_same_32 : decode cX9_same 32 = .ok (.aaload, 1) := by decide +kernel
theorem dX9_same_33 : decode cX9_same 33 = .ok (.if_acmp .ne 7, 3) := by decide +kernel
theorem dX9_same_36 : decode cX9_same 36 = .ok (.iconst 1, 1) := by decide +kernel
theorem dX9_same_37 : decode cX9_same 37 = .ok (.goto 4, 3) := by decide +kernel
theorem dX9_same_40 : decode cX9_same 40 = .ok (.iconst 0, 1) := by decide +kernel
theorem dX9_same_41 : decode cX9_same 41 = .ok (.invokestatic 85, 3) := by decide +kernel
theorem dX9_same_44 : decode cX9_same 44 = .ok (.ireturn, 1) := by decide +kernel
theorem dX9_count_0 : decode cX9_count 0 = .ok (.iload_n 1, 1) := by decide +kernel
theorem dX9_count_1 : decode cX9_count 1 = .ok (.tableswitch 60 0 4 #[35, 40, 45, 50, 55], 35) := by decide +kernel
theorem dX9_count_36 : decode cX9_count 36 = .ok (.aload_n 0, 1) := by decide +kernel
theorem dX9_count_37 : decode cX9_count 37 = .ok (.getfield 68, 3) := by decide +kernel
theorem dX9_count_40 : decode cX9_count 40 = .ok (.ireturn, 1) := by decide +kernel
theorem dX9_count_41 : decode cX9_count 41 = .ok (.aload_n 0, 1) := by decide +kernel
theorem dX9_count_42 : decode cX9_count 42 = .ok (.getfield 77, 3) := by decide +kernel
theorem dX9_count_45 : decode cX9_count 45 = .ok (.ireturn, 1) := by decide +kernel
theorem dX9_count_46 : decode cX9_count 46 = .ok (.aload_n 0, 1) := by decide +kernel
theorem dX9_count_47 : decode cX9_count 47 = .ok (.getfield 110, 3) := by decide +kernel
theorem dX9_count_50 : decode cX9_count 50 = .ok (.ireturn, 1) := by decide +kernel
theorem dX9_count_51 : decode cX9_count 51 = .ok (.aload_n 0, 1) := by decide +kernel
theorem dX9_count_52 : decode cX9_count 52 = .ok (.getfield 121, 3) := by decide +kernel
theorem dX9_count_55 : decode cX9_count 55 = .ok (.ireturn, 1) := by decide +kernel
theorem dX9_count_56 : decode cX9_count 56 = .ok (.aload_n 0, 1) := by decide +kernel
theorem dX9_count_57 : decode cX9_count 57 = .ok (.getfield 127, 3) := by decide +kernel
theorem dX9_count_60 : decode cX9_count 60 = .ok (.ireturn, 1) := by decide +kernel
theorem dX9_count_61 : decode cX9_count 61 = .ok (.iload_n 1, 1) := by decide +kernel
theorem dX9_count_62 : decode cX9_count 62 = .ok (.iconst 5, 1) := by decide +kernel
theorem dX9_count_63 : decode cX9_count 63 = .ok (.if_icmp .le 9, 3) := by decide +kernel
theorem dX9_count_66 : decode cX9_count 66 = .ok (.iload_n 1, 1) := by decide +kernel
theorem dX9_count_67 : decode cX9_count 67 = .ok (.bipush 11, 2) := by decide +kernel
theorem dX9_count_69 : decode cX9_count 69 = .ok (.if_icmp .le 6, 3) := by decide +kernel
theorem dX9_count_72 : decode cX9_count 72 = .ok (.ldc 155, 2) := by decide +kernel
theorem dX9_count_74 : decode cX9_count 74 = .ok (.ireturn, 1) := by decide +kernel
theorem dX9_count_75 : decode cX9_count 75 = .ok (.aload_n 0, 1) := by decide +kernel
theorem dX9_count_76 : decode cX9_count 76 = .ok (.getfield 57, 3) := by decide +kernel
theorem dX9_count_79 : decode cX9_count 79 = .ok (.iload_n 1, 1) := by decide +kernel
theorem dX9_count_80 : decode cX9_count 80 = .ok (.iconst 5, 1) := by decide +kernel
theorem dX9_count_81 : decode cX9_count 81 = .ok (.isub, 1) := by decide +kernel
theorem dX9_count_82 : decode cX9_count 82 = .ok (.iaload, 1) := by decide +kernel
theorem dX9_count_83 : decode cX9_count 83 = .ok (.ireturn, 1) := by decide +kernel
theorem dX9_within_0 : decode cX9_within 0 = .ok (.iload_n 0, 1) := by decide +kernel
theorem dX9_within_1 : decode cX9_within 1 = .ok (.ifCond .lt 12, 3) := by decide +kernel
theorem dX9_within_4 : decode cX9_within 4 = .ok (.iload_n 0, 1) := by decide +kernel
theorem dX9_within_5 : decode cX9_within 5 = .ok (.iload_n 1, 1) := by decide +kernel
theorem dX9_within_6 : decode cX9_within 6 = .ok (.if_icmp .ge 7, 3) := by decide +kernel
theorem dX9_within_9 : decode cX9_within 9 = .ok (.iconst 1, 1) := by decide +kernel
theorem dX9_within_10 : decode cX9_within 10 = .ok (.goto 4, 3) := by decide +kernel
theorem dX9_within_13 : decode cX9_within 13 = .ok (.iconst 0, 1) := by decide +kernel
theorem dX9_within_14 : decode cX9_within 14 = .ok (.ireturn, 1) := by decide +kernel
theorem dX9_oneIf_0 : decode cX9_oneIf 0 = .ok (.iload_n 0, 1) := by decide +kernel
theorem dX9_oneIf_1 : decode cX9_oneIf 1 = .ok (.ifCond .eq 7, 3) := by decide +kernel
theorem dX9_oneIf_4 : decode cX9_oneIf 4 = .ok (.iconst 1, 1) := by decide +kernel
theorem dX9_oneIf_5 : decode cX9_oneIf 5 = .ok (.goto 4, 3) := by decide +kernel
theorem dX9_oneIf_8 : decode cX9_oneIf 8 = .ok (.iconst 0, 1) := by decide +kernel
theorem dX9_oneIf_9 : decode cX9_oneIf 9 = .ok (.ireturn, 1) := by decide +kernel
set_option maxRecDepth 20000 in
theorem ggX9_newHorse_X1_init : GoodIn wsX9_newHorse wsX1_init := goodIn_r _ [12, 13, 14, 9, 15, 16, 17, 18, 19, 20, 21, 22, 28, 29, 30, 31, 32, 38, 39, 40, 41, 42, 33, 34, 35, 36, 37] (by decide +kernel) (by decide +kernel)
set_option maxRecDepth 20000 in
theorem gX9_newHorse_X1_init : GoodIn wsX9_newHorse (wsX1_init) := ggX9_newHorse_X1_init
set_option maxRecDepth 20000 in
theorem ggX9_newHorse_X3_init : GoodIn wsX9_newHorse wsX3_init := goodIn_r _ [25, 26, 11, 3, 12, 13, 14, 9, 15, 16, 17, 18, 19, 20, 21, 22, 28, 29, 30, 31, 32, 38, 39, 40, 41, 42, 33, 34, 35, 36, 37] (by decide +kernel) (by decide +kernel)
set_option maxRecDepth 20000 in
theorem gX9_newHorse_X3_init : GoodIn wsX9_newHorse (wsX3_init) := ggX9_newHorse_X3_init
set_option maxRecDepth 20000 in
theorem ggX9_newHorse_X2_init : GoodIn wsX9_newHorse wsX2_init := goodIn_r _ [15, 16, 17, 18, 19, 20, 21, 22, 28, 29, 30, 31, 32, 38, 39, 40, 41, 42, 33, 34, 35, 36, 37] (by decide +kernel) (by decide +kernel)
set_option maxRecDepth 20000 in
theorem gX9_newHorse_X2_init : GoodIn wsX9_newHorse (wsX2_init) := ggX9_newHorse_X2_init
theorem dX9_newHorse_0 : decode cX9_newHorse 0 = .ok (.iload_n 0, 1) := by decide +kernel
theorem dX9_newHorse_1 : decode cX9_newHorse 1 = .ok (.lookupswitch 45 #[(1, 27), (2, 36)], 27) := by decide +kernel
theorem dX9_newHorse_28 : decode cX9_newHorse 28 = .ok (.new 156, 3) := by decide +kernel
theorem dX9_newHorse_31 : decode cX9_newHorse 31 = .ok (.dup, 1) := by decide +kernel
theorem dX9_newHorse_32 : decode cX9_newHorse 32 = .ok (.iload_n 1, 1) := by decide +kernel
theorem dX9_newHorse_33 : decode cX9_newHorse 33 = .ok (.invokespecial 158, 3) := by decide +kernel
theorem dX9_newHorse_36 : decode cX9_newHorse 36 = .ok (.areturn, 1) := by decide +kernel
theorem dX9_newHorse_37 : decode cX9_newHorse 37 = .ok (.new 159, 3) := by decide +kernel
theorem dX9_newHorse_40 : decode cX9_newHorse 40 = .ok (.dup, 1) := by decide +kernel
theorem dX9_newHorse_41 : decode cX9_newHorse 41 = .ok (.iload_n 1, 1) := by decide +kernel
theorem dX9_newHorse_42 : decode cX9_newHorse 42 = .ok (.invokespecial 161, 3) := by decide +kernel
theorem dX9_newHorse_45 : decode cX9_newHorse 45 = .ok (.areturn, 1) := by decide +kernel
theorem dX9_newHorse_46 : decode cX9_newHorse 46 = .ok (.new 9, 3) := by decide +kernel
theorem dX9_newHorse_49 : decode cX9_newHorse 49 = .ok (.dup, 1) := by decide +kernel
theorem dX9_newHorse_50 : decode cX9_newHorse 50 = .ok (.iload_n 1, 1) := by decide +kernel
theorem dX9_newHorse_51 : decode cX9_newHorse 51 = .ok (.invokespecial 162, 3) := by decide +kernel
theorem dX9_newHorse_54 : decode cX9_newHorse 54 = .ok (.areturn, 1) := by decide +kernel
theorem dX9_holdsSomething_0 : decode cX9_holdsSomething 0 = .ok (.iload_n 1, 1) := by decide +kernel
theorem dX9_holdsSomething_1 : decode cX9_holdsSomething 1 = .ok (.tableswitch 95 0 4 #[35, 50, 65, 75, 85], 35) := by decide +kernel
theorem dX9_holdsSomething_36 : decode cX9_holdsSomething 36 = .ok (.aload_n 0, 1) := by decide +kernel
theorem dX9_holdsSomething_37 : decode cX9_holdsSomething 37 = .ok (.getfield 11, 3) := by decide +kernel
theorem dX9_holdsSomething_40 : decode cX9_holdsSomething 40 = .ok (.iload_n 2, 1) := by decide +kernel
theorem dX9_holdsSomething_41 : decode cX9_holdsSomething 41 = .ok (.aaload, 1) := by decide +kernel
theorem dX9_holdsSomething_42 : decode cX9_holdsSomething 42 = .ok (.ifnull 7, 3) := by decide +kernel
theorem dX9_holdsSomething_45 : decode cX9_holdsSomething 45 = .ok (.iconst 1, 1) := by decide +kernel
theorem dX9_holdsSomething_46 : decode cX9_holdsSomething 46 = .ok (.goto 4, 3) := by decide +kernel
theorem dX9_holdsSomething_49 : decode cX9_holdsSomething 49 = .ok (.iconst 0, 1) := by decide +kernel
theorem dX9_holdsSomething_50 : decode cX9_holdsSomething 50 = .ok (.ireturn, 1) := by decide +kernel
theorem dX9_holdsSomething_51 : decode cX9_holdsSomething 51 = .ok (.aload_n 0, 1) := by decide +kernel
theorem dX9_holdsSomething_52 : decode cX9_holdsSomething 52 = .ok (.getfield 17, 3) := by decide +kernel
theorem dX9_holdsSomething_55 : decode cX9_holdsSomething 55 = .ok (.iload_n 2, 1) := by decide +kernel
theorem dX9_holdsSomething_56 : decode cX9_holdsSomething 56 = .ok (.aaload, 1) := by decide +kernel
theorem dX9_holdsSomething_57 : decode cX9_holdsSomething 57 = .ok (.ifnull 7, 3) := by decide +kernel
theorem dX9_holdsSomething_60 : decode cX9_holdsSomething 60 = .ok (.iconst 1, 1) := by decide +kernel
theorem dX9_holdsSomething_61 : decode cX9_holdsSomething 61 = .ok (.goto 4, 3) := by decide +kernel
theorem dX9_holdsSomething_64 : decode cX9_holdsSomething 64 = .ok (.iconst 0, 1) := by decide +kernel
theorem dX9_holdsSomething_65 : decode cX9_holdsSomething 65 = .ok (.ireturn, 1) := by decide +kernel
theorem dX9_holdsSomething_66 : decode cX9_holdsSomething 66 = .ok (.aload_n 0, 1) := by decide +kernel
theorem dX9_holdsSomething_67 : decode cX9_holdsSomething 67 = .ok (.getfield 23, 3) := by decide +kernel
theorem dX9_holdsSomething_70 : decode cX9_holdsSomething 70 = .ok (.iload_n 2, 1) := by decide +kernel
theorem dX9_holdsSomething_71 : decode cX9_holdsSomething 71 = .ok (.aaload, 1) := by decide +kernel
theorem dX9_holdsSomething_72 : decode cX9_holdsSomething 72 = .ok (.getfield 163, 3) := by decide +kernel
theorem dX9_holdsSomething_75 : decode cX9_holdsSomething 75 = .ok (.ireturn, 1) := by decide +kernel
theorem dX9_holdsSomething_76 : decode cX9_holdsSomething 76 = .ok (.aload_n 0, 1) := by decide +kernel
theorem dX9_holdsSomething_77 : decode cX9_holdsSomething 77 = .ok (.getfield 29, 3) := by decide +kernel
theorem dX9_holdsSomething_80 : decode cX9_holdsSomething 80 = .ok (.iload_n 2, 1) := by decide +kernel
theorem dX9_holdsSomething_81 : decode cX9_holdsSomething 81 = .ok (.aaload, 1) := by decide +kernel
theorem dX9_holdsSomething_82 : decode cX9_holdsSomething 82 = .ok (.getfield 164, 3) := by decide +kernel
theorem dX9_holdsSomething_85 : decode cX9_holdsSomething 85 = .ok (.ireturn, 1) := by decide +kernel
theorem dX9_holdsSomething_86 : decode cX9_holdsSomething 86 = .ok (.aload_n 0, 1) := by decide +kernel
theorem dX9_holdsSomething_87 : decode cX9_holdsSomething 87 = .ok (.getfield 35, 3) := by decide +kernel
theorem dX9_holdsSomething_90 : decode cX9_holdsSomething 90 = .ok (.iload_n 2, 1) := by decide +kernel
theorem dX9_holdsSomething_91 : decode cX9_holdsSomething 91 = .ok (.aaload, 1) := by decide +kernel
theorem dX9_holdsSomething_92 : decode cX9_holdsSomething 92 = .ok (.getfield 99, 3) := by decide +kernel
theorem dX9_holdsSomething_95 : decode cX9_holdsSomething 95 = .ok (.ireturn, 1) := by decide +kernel
theorem dX9_holdsSomething_96 : decode cX9_holdsSomething 96 = .ok (.aload_n 0, 1) := by decide +kernel
theorem dX9_holdsSomething_97 : decode cX9_holdsSomething 97 = .ok (.getfield 41, 3) := by decide +kernel
theorem dX9_holdsSomething_100 : decode cX9_holdsSomething 100 = .ok (.iload_n 2, 1) := by decide +kernel
theorem dX9_holdsSomething_101 : decode cX9_holdsSomething 101 = .ok (.aaload, 1) := by decide +kernel
theorem dX9_holdsSomething_102 : decode cX9_holdsSomething 102 = .ok (.ifnull 7, 3) := by decide +kernel
theorem dX9_holdsSomething_105 : decode cX9_holdsSomething 105 = .ok (.iconst 1, 1) := by decide +kernel
theorem dX9_holdsSomething_106 : decode cX9_holdsSomething 106 = .ok (.goto 4, 3) := by decide +kernel
theorem dX9_holdsSomething_109 : decode cX9_holdsSomething 109 = .ok (.iconst 0, 1) := by decide +kernel
theorem dX9_holdsSomething_110 : decode cX9_holdsSomething 110 = .ok (.ireturn, 1) := by decide +kernel
theorem dX9_takeAway_0 : decode cX9_takeAway 0 = .ok (.iload_n 1, 1) := by decide +kernel
theorem dX9_takeAway_1 : decode cX9_takeAway 1 = .ok (.tableswitch 94 0 4 #[35, 45, 55, 68, 81], 35) := by decide +kernel
theorem dX9_takeAway_36 : decode cX9_takeAway 36 = .ok (.aload_n 0, 1) := by decide +kernel
theorem dX9_takeAway_37 : decode cX9_takeAway 37 = .ok (.getfield 11, 3) := by decide +kernel
theorem dX9_takeAway_40 : decode cX9_takeAway 40 = .ok (.iload_n 2, 1) := by decide +kernel
theorem dX9_takeAway_41 : decode cX9_takeAway 41 = .ok (.aconst_null, 1) := by decide +kernel
theorem dX9_takeAway_42 : decode cX9_takeAway 42 = .ok (.aastore, 1) := by decide +kernel
theorem dX9_takeAway_43 : decode cX9_takeAway 43 = .ok (.goto 59, 3) := by decide +kernel
theorem dX9_takeAway_46 : decode cX9_takeAway 46 = .ok (.aload_n 0, 1) := by decide +kernel
theorem dX9_takeAway_47 : decode cX9_takeAway 47 = .ok (.getfield 17, 3) := by decide +kernel
theorem dX9_takeAway_50 : decode cX9_takeAway 50 = .ok (.iload_n 2, 1) := by decide +kernel
theorem dX9_takeAway_51 : decode cX9_takeAway 51 = .ok (.aconst_null, 1) := by decide +kernel
theorem dX9_takeAway_52 : decode cX9_takeAway 52 = .ok (.aastore, 1) := by decide +kernel
theorem dX9_takeAway_53 : decode cX9_takeAway 53 = .ok (.goto 49, 3) := by decide +kernel
theorem dX9_takeAway_56 : decode cX9_takeAway 56 = .ok (.aload_n 0, 1) := by decide +kernel
theorem dX9_takeAway_57 : decode cX9_takeAway 57 = .ok (.getfield 23, 3) := by decide +kernel
theorem dX9_takeAway_60 : decode cX9_takeAway 60 = .ok (.iload_n 2, 1) := by decide +kernel
theorem dX9_takeAway_61 : decode cX9_takeAway 61 = .ok (.aaload, 1) := by decide +kernel
theorem dX9_takeAway_62 : decode cX9_takeAway 62 = .ok (.iconst 0, 1) := by decide +kernel
theorem dX9_takeAway_63 : decode cX9_takeAway 63 = .ok (.putfield 163, 3) := by decide +kernel
theorem dX9_takeAway_66 : decode cX9_takeAway 66 = .ok (.goto 36, 3) := by decide +kernel
theorem dX9_takeAway_69 : decode cX9_takeAway 69 = .ok (.aload_n 0, 1) := by decide +kernel
theorem dX9_takeAway_70 : decode cX9_takeAway 70 = .ok (.getfield 29, 3) := by decide +kernel
theorem dX9_takeAway_73 : decode cX9_takeAway 73 = .ok (.iload_n 2, 1) := by decide +kernel
theorem dX9_takeAway_74 : decode cX9_takeAway 74 = .ok (.aaload, 1) := by decide +kernel
theorem dX9_takeAway_75 : decode cX9_takeAway 75 = .ok (.iconst 0, 1) := by decide +kernel
theorem dX9_takeAway_76 : decode cX9_takeAway 76 = .ok (.putfield 164, 3) := by decide +kernel
theorem dX9_takeAway_79 : decode cX9_takeAway 79 = .ok (.goto 23, 3) := by decide +kernel
theorem dX9_takeAway_82 : decode cX9_takeAway 82 = .ok (.aload_n 0, 1) := by decide +kernel
theorem dX9_takeAway_83 : decode cX9_takeAway 83 = .ok (.getfield 35, 3) := by decide +kernel
theorem dX9_takeAway_86 : decode cX9_takeAway 86 = .ok (.iload_n 2, 1) := by decide +kernel
theorem dX9_takeAway_87 : decode cX9_takeAway 87 = .ok (.aaload, 1) := by decide +kernel
theorem dX9_takeAway_88 : decode cX9_takeAway 88 = .ok (.iconst 0, 1) := by decide +kernel
theorem dX9_takeAway_89 : decode cX9_takeAway 89 = .ok (.putfield 99, 3) := by decide +kernel
theorem dX9_takeAway_92 : decode cX9_takeAway 92 = .ok (.goto 10, 3) := by decide +kernel
theorem dX9_takeAway_95 : decode cX9_takeAway 95 = .ok (.aload_n 0, 1) := by decide +kernel
theorem dX9_takeAway_96 : decode cX9_takeAway 96 = .ok (.getfield 41, 3) := by decide +kernel
theorem dX9_takeAway_99 : decode cX9_takeAway 99 = .ok (.iload_n 2, 1) := by decide +kernel
theorem dX9_takeAway_100 : decode cX9_takeAway 100 = .ok (.aconst_null, 1) := by decide +kernel
theorem dX9_takeAway_101 : decode cX9_takeAway 101 = .ok (.aastore, 1) := by decide +kernel
theorem dX9_takeAway_102 : decode cX9_takeAway 102 = .ok (.return_, 1) := by decide +kernel
theorem dX9_putDown_0 : decode cX9_putDown 0 = .ok (.aload_n 0, 1) := by decide +kernel
theorem dX9_putDown_1 : decode cX9_putDown 1 = .ok (.getfield 127, 3) := by decide +kernel
theorem dX9_putDown_4 : decode cX9_putDown 4 = .ok (.bipush 40, 2) := by decide +kernel
theorem dX9_putDown_6 : decode cX9_putDown 6 = .ok (.if_icmp .ge 23, 3) := by decide +kernel
theorem dX9_putDown_9 : decode cX9_putDown 9 = .ok (.aload_n 0, 1) := by decide +kernel
theorem dX9_putDown_10 : decode cX9_putDown 10 = .ok (.getfield 50, 3) := by decide +kernel
theorem dX9_putDown_13 : decode cX9_putDown 13 = .ok (.aload_n 0, 1) := by decide +kernel
theorem dX9_putDown_14 : decode cX9_putDown 14 = .ok (.getfield 127, 3) := by decide +kernel
theorem dX9_putDown_17 : decode cX9_putDown 17 = .ok (.iload_n 1, 1) := by decide +kernel
theorem dX9_putDown_18 : decode cX9_putDown 18 = .ok (.iastore, 1) := by decide +kernel
theorem dX9_putDown_19 : decode cX9_putDown 19 = .ok (.aload_n 0, 1) := by decide +kernel
theorem dX9_putDown_20 : decode cX9_putDown 20 = .ok (.getfield 54, 3) := by decide +kernel
theorem dX9_putDown_23 : decode cX9_putDown 23 = .ok (.aload_n 0, 1) := by decide +kernel
theorem dX9_putDown_24 : decode cX9_putDown 24 = .ok (.getfield 127, 3) := by decide +kernel
theorem dX9_putDown_27 : decode cX9_putDown 27 = .ok (.iload_n 2, 1) := by decide +kernel
theorem dX9_putDown_28 : decode cX9_putDown 28 = .ok (.iastore, 1) := by decide +kernel
theorem dX9_putDown_29 : decode cX9_putDown 29 = .ok (.aload_n 0, 1) := by decide +kernel
theorem dX9_putDown_30 : decode cX9_putDown 30 = .ok (.dup, 1) := by decide +kernel
theorem dX9_putDown_31 : decode cX9_putDown 31 = .ok (.getfield 127, 3) := by decide +kernel
theorem dX9_putDown_34 : decode cX9_putDown 34 = .ok (.iconst 1, 1) := by decide +kernel
theorem dX9_putDown_35 : decode cX9_putDown 35 = .ok (.iadd, 1) := by decide +kernel
theorem dX9_putDown_36 : decode cX9_putDown 36 = .ok (.putfield 127, 3) := by decide +kernel
theorem dX9_putDown_39 : decode cX9_putDown 39 = .ok (.return_, 1) := by decide +kernel
set_option maxRecDepth 20000 in
theorem ggX9_perform_X9_faultOf : GoodIn wsX9_perform wsX9_faultOf := goodIn_r _ [6, 7, 8, 9, 5, 10, 11, 12, 13, 14, 15, 16, 17, 18, 19, 20, 21, 22, 23, 24, 25, 26, 27, 28, 29, 30, 31, 32, 33, 34, 35, 36, 37, 38, 39, 40, 41, 42, 43, 44, 45, 46, 47, 48, 49, 50, 51, 52, 53, 54, 55, 56, 57, 58, 59, 60, 61, 62, 63, 64, 65, 66, 67, 68, 69, 70, 71, 72, 73, 74, 75, 76, 77, 78, 79, 80, 81, 82, 83, 84, 85, 86, 87, 88, 89, 90, 91, 92, 93, 94, 95, 96, 97, 98, 99, 100, 101, 102, 103, 104, 105, 106, 107, 108, 109, 110, 111, 112, 113, 114, 115, 116, 117, 118, 119, 120, 121, 122, 123, 124, 125, 126, 127, 128, 129, 130, 131, 132, 133, 134, 135, 136, 137, 138, 139, 140, 141, 142, 143, 144, 145, 146, 147, 148, 149, 150, 151, 152, 153, 154, 155, 156, 157, 158, 159, 160, 161, 162, 163, 164, 165, 166, 167, 168, 169, 170, 171, 172, 173, 174, 175, 176, 177, 178, 179, 180, 181, 182, 183, 184, 185, 186, 187, 188, 189, 190, 191, 192, 193, 194, 195, 196, 197, 198, 199, 200, 201, 202, 203, 204, 205, 206, 207, 208, 209, 210, 211, 212, 213, 214, 215, 216, 217, 218, 219, 220, 221, 222, 223, 224, 225, 226, 227, 228, 229, 230, 231, 232, 233, 234, 235, 236, 237, 238, 239, 240, 241, 242, 243, 244, 245, 246, 247, 248, 265, 266, 267, 268, 269, 270, 271, 272, 273, 274, 275, 276, 277, 278, 279, 249, 250, 251, 252, 253, 254, 255, 256, 257, 258, 259, 260, 261, 262, 263, 264, 280, 281, 282, 283, 284, 285, 286, 287, 288, 289, 290, 291, 292, 293, 294] (by decide +kernel) (by decide +kernel)
set_option maxRecDepth 20000 in
theorem gX9_perform_X9_faultOf : GoodIn wsX9_perform (wsV RX9 165 RX9 yX9_faultOf wsX9_faultOf) := goodIn_app (goodIn_of _ (by decide +kernel)) ggX9_perform_X9_faultOf
theorem dX9_perform_0 : decode cX9_perform 0 = .ok (.aload_n 0, 1) := by decide +kernel
theorem dX9_perform_1 : decode cX9_perform 1 = .ok (.iload_n 1, 1) := by decide +kernel
theorem dX9_perform_2 : decode cX9_perform 2 = .ok (.iload_n 2, 1) := by decide +kernel
theorem dX9_perform_3 : decode cX9_perform 3 = .ok (.iload_n 3, 1) := by decide +kernel
theorem dX9_perform_4 : decode cX9_perform 4 = .ok (.iload 4, 2) := by decide +kernel
theorem dX9_perform_6 : decode cX9_perform 6 = .ok (.invokevirtual 165, 3) := by decide +kernel
theorem dX9_perform_9 : decode cX9_perform 9 = .ok (.istore 5, 2) := by decide +kernel
theorem dX9_perform_11 : decode cX9_perform 11 = .ok (.aload_n 0, 1) := by decide +kernel
theorem dX9_perform_12 : decode cX9_perform 12 = .ok (.getfield 57, 3) := by decide +kernel
theorem dX9_perform_15 : decode cX9_perform 15 = .ok (.iload 5, 2) := by decide +kernel
theorem dX9_perform_17 : decode cX9_perform 17 = .ok (.dup2, 1) := by decide +kernel
theorem dX9_perform_18 : decode cX9_perform 18 = .ok (.iaload, 1) := by decide +kernel
theorem dX9_perform_19 : decode cX9_perform 19 = .ok (.iconst 1, 1) := by decide +kernel
theorem dX9_perform_20 : decode cX9_perform 20 = .ok (.iadd, 1) := by decide +kernel
theorem dX9_perform_21 : decode cX9_perform 21 = .ok (.iastore, 1) := by decide +kernel
theorem dX9_perform_22 : decode cX9_perform 22 = .ok (.iload 5, 2) := by decide +kernel
theorem dX9_perform_24 : decode cX9_perform 24 = .ok (.ireturn, 1) := by decide +kernel
set_option maxRecDepth 20000 in
theorem ggX9_faultOf_X9_feedHorse : GoodIn wsX9_faultOf wsX9_feedHorse := goodIn_r _ [5, 6, 7, 8, 9, 4, 10, 11, 12, 13, 14, 15, 16, 17, 18, 19, 20, 244, 245, 246, 247, 248, 249, 250, 251, 252, 253, 254, 255, 256, 257, 258, 259, 260, 261, 262, 263, 264, 265, 266, 267, 268, 269, 270, 271, 272, 273, 274] (by decide +kernel) (by decide +kernel)
set_option maxRecDepth 20000 in
theorem gX9_faultOf_X9_feedHorse : GoodIn wsX9_faultOf (wsV RX9 168 RX9 yX9_feedHorse wsX9_feedHorse) := goodIn_app (goodIn_of _ (by decide +kernel)) ggX9_faultOf_X9_feedHorse
set_option maxRecDepth 20000 in
theorem ggX9_faultOf_X9_askStrength : GoodIn wsX9_faultOf wsX9_askStrength := goodIn_r _ [24, 25, 7, 8, 9, 4, 10, 11, 12, 13, 14, 15, 16, 17, 18, 19, 20, 244, 245, 246, 247, 248, 249, 250, 251, 252, 253, 254, 255, 256, 257, 258, 259, 260, 261, 262, 263, 264, 265, 266, 267, 268, 269, 270, 271, 272, 273, 274] (by decide +kernel) (by decide +kernel)
set_option maxRecDepth 20000 in
theorem gX9_faultOf_X9_askStrength : GoodIn wsX9_faultOf (wsV RX9 171 RX9 yX9_askStrength wsX9_askStrength) := goodIn_app (goodIn_of _ (by decide +kernel)) ggX9_faultOf_X9_askStrength
set_option maxRecDepth 20000 in
theorem ggX9_faultOf_X9_coverHorse : GoodIn wsX9_faultOf wsX9_coverHorse := goodIn_r _ [29, 30, 7, 8, 9, 4, 10, 11, 12, 13, 14, 15, 16, 17, 18, 19, 20, 244, 245, 246, 247, 248, 249, 250, 251, 252, 253, 254, 255, 256, 257, 258, 259, 260, 261, 262, 263, 264, 265, 266, 267, 268, 269, 270, 271, 272, 273, 274] (by decide +kernel) (by decide +kernel)
set_option maxRecDepth 20000 in
theorem gX9_faultOf_X9_coverHorse : GoodIn wsX9_faultOf (wsV RX9 175 RX9 yX9_coverHorse wsX9_coverHorse) := goodIn_app (goodIn_of _ (by decide +kernel)) ggX9_faultOf_X9_coverHorse
set_option maxRecDepth 20000 in
theorem ggX9_faultOf_X9_groomHorse : GoodIn wsX9_faultOf wsX9_groomHorse := goodIn_r _ [34, 7, 8, 9, 4, 10, 11, 12, 13, 14, 15, 35, 36, 37, 38, 39, 40, 41, 42, 43, 44, 45, 46, 47, 48, 49, 50, 51, 52, 53, 54, 55, 56, 57, 58, 16, 17, 18, 19, 20, 259, 260, 261, 262, 263, 264, 265, 266, 267, 268, 269, 270, 271, 272, 273, 274, 244, 245, 246, 247, 248, 249, 250, 251, 252, 253, 254, 255, 256, 257, 258] (by decide +kernel) (by decide +kernel)
set_option maxRecDepth 20000 in
theorem gX9_faultOf_X9_groomHorse : GoodIn wsX9_faultOf (wsV RX9 178 RX9 yX9_groomHorse wsX9_groomHorse) := goodIn_app (goodIn_of _ (by decide +kernel)) ggX9_faultOf_X9_groomHorse
set_option maxRecDepth 20000 in
theorem ggX9_faultOf_X9_workInShed : GoodIn wsX9_faultOf wsX9_workInShed := goodIn_r _ [62, 63, 64, 65, 4, 66, 67, 12, 13, 14, 15, 68, 69, 70, 71, 40, 72, 73, 74, 75, 76, 48, 77, 78, 79, 80, 52, 81, 82, 83, 84, 85, 58, 86, 87, 88, 89, 90, 91, 16, 17, 18, 19, 20, 259, 260, 261, 262, 263, 264, 265, 266, 267, 268, 269, 270, 271, 272, 273, 274, 244, 245, 246, 247, 248, 249, 250, 251, 252, 253, 254, 255, 256, 257, 258, 275, 276] (by decide +kernel) (by decide +kernel)
set_option maxRecDepth 20000 in
theorem gX9_faultOf_X9_workInShed : GoodIn wsX9_faultOf (wsV RX9 181 RX9 yX9_workInShed wsX9_workInShed) := goodIn_app (goodIn_of _ (by decide +kernel)) ggX9_faultOf_X9_workInShed
set_option maxRecDepth 20000 in
theorem ggX9_faultOf_X9_askStrengthInShed : GoodIn wsX9_faultOf wsX9_askStrengthInShed := goodIn_r _ [95, 96, 25, 63, 64, 65, 4, 66, 67, 12, 13, 14, 15, 16, 17, 18, 19, 20, 244, 245, 246, 247, 248, 249, 250, 251, 252, 253, 254, 255, 256, 257, 258, 259, 260, 261, 262, 263, 264, 265, 266, 267, 268, 269, 270, 271, 272, 273, 274] (by decide +kernel) (by decide +kernel)
set_option maxRecDepth 20000 in
theorem gX9_faultOf_X9_askStrengthInShed : GoodIn wsX9_faultOf (wsV RX9 184 RX9 yX9_askStrengthInShed wsX9_askStrengthInShed) := goodIn_app (goodIn_of _ (by decide +kernel)) ggX9_faultOf_X9_askStrengthInShed
set_option maxRecDepth 20000 in
theorem ggX9_faultOf_X9_askRugOfHunter : GoodIn wsX9_faultOf wsX9_askRugOfHunter := goodIn_r _ [100, 101, 30, 7, 8, 9, 4, 10, 11, 12, 13, 14, 15, 16, 17, 18, 19, 20, 244, 245, 246, 247, 248, 249, 250, 251, 252, 253, 254, 255, 256, 257, 258, 259, 260, 261, 262, 263, 264, 265, 266, 267, 268, 269, 270, 271, 272, 273, 274] (by decide +kernel) (by decide +kernel)
set_option maxRecDepth 20000 in
theorem gX9_faultOf_X9_askRugOfHunter : GoodIn wsX9_faultOf (wsV RX9 187 RX9 yX9_askRugOfHunter wsX9_askRugOfHunter) := goodIn_app (goodIn_of _ (by decide +kernel)) ggX9_faultOf_X9_askRugOfHunter
set_option maxRecDepth 20000 in
theorem ggX9_faultOf_X9_formTeam : GoodIn wsX9_faultOf wsX9_formTeam := goodIn_r _ [105, 106, 107, 108, 109, 110, 111, 112, 4, 113, 114, 12, 13, 14, 15, 115, 116, 117, 118, 119, 120, 121, 122, 123, 16, 17, 18, 19, 20, 259, 260, 261, 262, 263, 264, 265, 266, 267, 268, 269, 270, 271, 272, 273, 274, 277, 278, 279, 280] (by decide +kernel) (by decide +kernel)
set_option maxRecDepth 20000 in
theorem gX9_faultOf_X9_formTeam : GoodIn wsX9_faultOf (wsV RX9 190 RX9 yX9_formTeam wsX9_formTeam) := goodIn_app (goodIn_of _ (by decide +kernel)) ggX9_faultOf_X9_formTeam
set_option maxRecDepth 20000 in
theorem ggX9_faultOf_X9_putInTeam : GoodIn wsX9_faultOf wsX9_putInTeam := goodIn_r _ [127, 128, 129, 130, 110, 111, 112, 4, 113, 114, 12, 13, 14, 15, 131, 132, 133, 7, 8, 9, 10, 11, 134, 135, 136, 118, 137, 121, 138, 139, 140, 141, 142, 40, 143, 144, 145, 146, 147, 48, 148, 149, 52, 150, 16, 17, 18, 19, 20, 277, 278, 279, 280, 259, 260, 261, 262, 263, 264, 265, 266, 267, 268, 269, 270, 271, 272, 273, 274] (by decide +kernel) (by decide +kernel)
set_option maxRecDepth 20000 in
theorem gX9_faultOf_X9_putInTeam : GoodIn wsX9_faultOf (wsV RX9 194 RX9 yX9_putInTeam wsX9_putInTeam) := goodIn_app (goodIn_of _ (by decide +kernel)) ggX9_faultOf_X9_putInTeam
set_option maxRecDepth 20000 in
theorem ggX9_faultOf_X9_takeFromTeam : GoodIn wsX9_faultOf wsX9_takeFromTeam := goodIn_r _ [154, 128, 129, 130, 11, 110, 111, 112, 4, 113, 114, 12, 13, 14, 15, 131, 132, 133, 155, 156, 157, 16, 17, 18, 19, 20, 277, 278, 279, 280, 259, 260, 261, 262, 263, 264, 265, 266, 267, 268, 269, 270, 271, 272, 273, 274] (by decide +kernel) (by decide +kernel)
set_option maxRecDepth 20000 in
theorem gX9_faultOf_X9_takeFromTeam : GoodIn wsX9_faultOf (wsV RX9 197 RX9 yX9_takeFromTeam wsX9_takeFromTeam) := goodIn_app (goodIn_of _ (by decide +kernel)) ggX9_faultOf_X9_takeFromTeam
set_option maxRecDepth 20000 in
theorem ggX9_faultOf_X9_askPlaces : GoodIn wsX9_faultOf wsX9_askPlaces := goodIn_r _ [161, 128, 129, 110, 111, 112, 4, 113, 114, 12, 13, 14, 15, 16, 17, 18, 19, 20, 277, 278, 279, 280, 259, 260, 261, 262, 263, 264, 265, 266, 267, 268, 269, 270, 271, 272, 273, 274] (by decide +kernel) (by decide +kernel)
set_option maxRecDepth 20000 in
theorem gX9_faultOf_X9_askPlaces : GoodIn wsX9_faultOf (wsV RX9 200 RX9 yX9_askPlaces wsX9_askPlaces) := goodIn_app (goodIn_of _ (by decide +kernel)) ggX9_faultOf_X9_askPlaces
set_option maxRecDepth 20000 in
theorem ggX9_faultOf_X9_workTeam : GoodIn wsX9_faultOf wsX9_workTeam := goodIn_r _ [165, 128, 129, 130, 110, 111, 112, 4, 113, 114, 12, 13, 14, 15, 166, 167, 168, 169, 71, 40, 72, 73, 74, 77, 170, 76, 171, 48, 78, 172, 80, 52, 81, 82, 83, 84, 85, 58, 16, 17, 18, 19, 20, 277, 278, 279, 280, 259, 260, 261, 262, 263, 264, 265, 266, 267, 268, 269, 270, 271, 272, 273, 274, 244, 245, 246, 247, 248, 249, 250, 251, 252, 253, 254, 255, 256, 257, 258] (by decide +kernel) (by decide +kernel)
set_option maxRecDepth 20000 in
theorem gX9_faultOf_X9_workTeam : GoodIn wsX9_faultOf (wsV RX9 203 RX9 yX9_workTeam wsX9_workTeam) := goodIn_app (goodIn_of _ (by decide +kernel)) ggX9_faultOf_X9_workTeam
set_option maxRecDepth 20000 in
theorem ggX9_faultOf_X9_openLedger : GoodIn wsX9_faultOf wsX9_openLedger := goodIn_r _ [176, 106, 107, 108, 109, 177, 178, 179, 4, 180, 181, 12, 13, 14, 15, 182, 183, 184, 185, 186, 187, 188, 189, 190, 191, 192, 193, 16, 17, 18, 19, 20, 259, 260, 261, 262, 263, 264, 265, 266, 267, 268, 269, 270, 271, 272, 273, 274, 281, 282, 283] (by decide +kernel) (by decide +kernel)
set_option maxRecDepth 20000 in
theorem gX9_faultOf_X9_openLedger : GoodIn wsX9_faultOf (wsV RX9 206 RX9 yX9_openLedger wsX9_openLedger) := goodIn_app (goodIn_of _ (by decide +kernel)) ggX9_faultOf_X9_openLedger
set_option maxRecDepth 20000 in
theorem ggX9_faultOf_X9_addInLedger : GoodIn wsX9_faultOf wsX9_addInLedger := goodIn_r _ [197, 198, 199, 200, 177, 178, 179, 4, 180, 181, 12, 13, 14, 15, 131, 132, 133, 16, 17, 18, 19, 20, 281, 282, 283, 259, 260, 261, 262, 263, 264, 265, 266, 267, 268, 269, 270, 271, 272, 273, 274] (by decide +kernel) (by decide +kernel)
set_option maxRecDepth 20000 in
theorem gX9_faultOf_X9_addInLedger : GoodIn wsX9_faultOf (wsV RX9 209 RX9 yX9_addInLedger wsX9_addInLedger) := goodIn_app (goodIn_of _ (by decide +kernel)) ggX9_faultOf_X9_addInLedger
set_option maxRecDepth 20000 in
theorem ggX9_faultOf_X9_sumLedger : GoodIn wsX9_faultOf wsX9_sumLedger := goodIn_r _ [204, 198, 177, 178, 179, 4, 180, 181, 12, 13, 14, 15, 205, 206, 207, 185, 208, 188, 189, 16, 17, 18, 19, 20, 281, 282, 283, 259, 260, 261, 262, 263, 264, 265, 266, 267, 268, 269, 270, 271, 272, 273, 274] (by decide +kernel) (by decide +kernel)
set_option maxRecDepth 20000 in
theorem gX9_faultOf_X9_sumLedger : GoodIn wsX9_faultOf (wsV RX9 212 RX9 yX9_sumLedger wsX9_sumLedger) := goodIn_app (goodIn_of _ (by decide +kernel)) ggX9_faultOf_X9_sumLedger
set_option maxRecDepth 20000 in
theorem ggX9_faultOf_X9_setTable : GoodIn wsX9_faultOf wsX9_setTable := goodIn_r _ [212, 106, 107, 108, 109, 213, 214, 215, 4, 216, 217, 12, 13, 14, 15, 218, 219, 220, 221, 222, 223, 224, 225, 226, 227, 228, 191, 192, 193, 16, 17, 18, 19, 20, 259, 260, 261, 262, 263, 264, 265, 266, 267, 268, 269, 270, 271, 272, 273, 274, 284, 285, 286, 287, 288] (by decide +kernel) (by decide +kernel)
set_option maxRecDepth 20000 in
theorem gX9_faultOf_X9_setTable : GoodIn wsX9_faultOf (wsV RX9 215 RX9 yX9_setTable wsX9_setTable) := goodIn_app (goodIn_of _ (by decide +kernel)) ggX9_faultOf_X9_setTable
set_option maxRecDepth 20000 in
theorem ggX9_faultOf_X9_markTable : GoodIn wsX9_faultOf wsX9_markTable := goodIn_r _ [232, 233, 234, 235, 236, 237, 213, 214, 215, 4, 216, 217, 12, 13, 14, 15, 131, 132, 133, 16, 17, 18, 19, 20, 284, 285, 286, 287, 288, 259, 260, 261, 262, 263, 264, 265, 266, 267, 268, 269, 270, 271, 272, 273, 274] (by decide +kernel) (by decide +kernel)
set_option maxRecDepth 20000 in
theorem gX9_faultOf_X9_markTable : GoodIn wsX9_faultOf (wsV RX9 218 RX9 yX9_markTable wsX9_markTable) := goodIn_app (goodIn_of _ (by decide +kernel)) ggX9_faultOf_X9_markTable
set_option maxRecDepth 20000 in
theorem ggX9_faultOf_X9_raiseAlarm : GoodIn wsX9_faultOf wsX9_raiseAlarm := goodIn_r _ [241, 242, 243, 20, 12, 13, 14, 15, 259, 260, 261, 262, 263, 264, 265, 266, 267, 268, 269, 270, 271, 272, 273, 274, 289] (by decide +kernel) (by decide +kernel)
set_option maxRecDepth 20000 in
theorem gX9_faultOf_X9_raiseAlarm : GoodIn wsX9_faultOf (wsV RX9 221 RX9 yX9_raiseAlarm wsX9_raiseAlarm) := goodIn_app (goodIn_of _ (by decide +kernel)) ggX9_faultOf_X9_raiseAlarm
theorem dX9_faultOf_0 : decode cX9_faultOf 0 = .ok (.iload_n 1, 1) := by decide +kernel
theorem dX9_faultOf_1 : decode cX9_faultOf 1 = .ok (.tableswitch 208 0 16 #[83, 90, 96, 103, 109, 116, 122, 128, 137, 146, 155, 161, 168, 175, 184, 190, 199], 83) := by decide +kernel
theorem dX9_faultOf_84 : decode cX9_faultOf 84 = .ok (.aload_n 0, 1) := by decide +kernel
theorem dX9_faultOf_85 : decode cX9_faultOf 85 = .ok (.iload_n 2, 1) := by decide +kernel
theorem dX9_faultOf_86 : decode cX9_faultOf 86 = .ok (.iload_n 3, 1) := by decide +kernel
theorem dX9_faultOf_87 : decode cX9_faultOf 87 = .ok (.invokevirtual 168, 3) := by decide +kernel
theorem dX9_faultOf_90 : decode cX9_faultOf 90 = .ok (.ireturn, 1) := by decide +kernel
theorem dX9_faultOf_91 : decode cX9_faultOf 91 = .ok (.aload_n 0, 1) := by decide +kernel
theorem dX9_faultOf_92 : decode cX9_faultOf 92 = .ok (.iload_n 2, 1) := by decide +kernel
theorem dX9_faultOf_93 : decode cX9_faultOf 93 = .ok (.invokevirtual 171, 3) := by decide +kernel
theorem dX9_faultOf_96 : decode cX9_faultOf 96 = .ok (.ireturn, 1) := by decide +kernel
theorem dX9_faultOf_97 : decode cX9_faultOf 97 = .ok (.aload_n 0, 1) := by decide +kernel
theorem dX9_faultOf_98 : decode cX9_faultOf 98 = .ok (.iload_n 2, 1) := by decide +kernel
theorem dX9_faultOf_99 : decode cX9_faultOf 99 = .ok (.iload_n 3, 1) := by decide +kernel
theorem dX9_faultOf_100 : decode cX9_faultOf 100 = .ok (.invokevirtual 175, 3) := by decide +kernel
theorem dX9_faultOf_103 : decode cX9_faultOf 103 = .ok (.ireturn, 1) := by decide +kernel
theorem dX9_faultOf_104 : decode cX9_faultOf 104 = .ok (.aload_n 0, 1) := by decide +kernel
theorem dX9_faultOf_105 : decode cX9_faultOf 105 = .ok (.iload_n 2, 1) := by decide +kernel
theorem dX9_faultOf_106 : decode cX9_faultOf 106 = .ok (.invokevirtual 178, 3) := by decide +kernel
theorem dX9_faultOf_109 : decode cX9_faultOf 109 = .ok (.ireturn, 1) := by decide +kernel
theorem dX9_faultOf_110 : decode cX9_faultOf 110 = .ok (.aload_n 0, 1) := by decide +kernel
theorem dX9_faultOf_111 : decode cX9_faultOf 111 = .ok (.iload_n 2, 1) := by decide +kernel
theorem dX9_faultOf_112 : decode cX9_faultOf 112 = .ok (.iload_n 3, 1) := by decide +kernel
theorem dX9_faultOf_113 : decode cX9_faultOf 113 = .ok (.invokevirtual 181, 3) := by decide +kernel
theorem dX9_faultOf_116 : decode cX9_faultOf 116 = .ok (.ireturn, 1) := by decide +kernel
theorem dX9_faultOf_117 : decode cX9_faultOf 117 = .ok (.aload_n 0, 1) := by decide +kernel
theorem dX9_faultOf_118 : decode cX9_faultOf 118 = .ok (.iload_n 2, 1) := by decide +kernel
theorem dX9_faultOf_119 : decode cX9_faultOf 119 = .ok (.invokevirtual 184, 3) := by decide +kernel
theorem dX9_faultOf_122 : decode cX9_faultOf 122 = .ok (.ireturn, 1) := by decide +kernel
theorem dX9_faultOf_123 : decode cX9_faultOf 123 = .ok (.aload_n 0, 1) := by decide +kernel
theorem dX9_faultOf_124 : decode cX9_faultOf 124 = .ok (.iload_n 2, 1) := by decide +kernel
theorem dX9_faultOf_125 : decode cX9_faultOf 125 = .ok (.invokevirtual 187, 3) := by decide +kernel
theorem dX9_faultOf_128 : decode cX9_faultOf 128 = .ok (.ireturn, 1) := by decide +kernel
theorem dX9_faultOf_129 : decode cX9_faultOf 129 = .ok (.aload_n 0, 1) := by decide +kernel
theorem dX9_faultOf_130 : decode cX9_faultOf 130 = .ok (.iload_n 2, 1) := by decide +kernel
theorem dX9_faultOf_131 : decode cX9_faultOf 131 = .ok (.iload_n 3, 1) := by decide +kernel
theorem dX9_faultOf_132 : decode cX9_faultOf 132 = .ok (.iload 4, 2) := by decide +kernel
theorem dX9_faultOf_134 : decode cX9_faultOf 134 = .ok (.invokevirtual 190, 3) := by decide +kernel
theorem dX9_faultOf_137 : decode cX9_faultOf 137 = .ok (.ireturn, 1) := by decide +kernel
theorem dX9_faultOf_138 : decode cX9_faultOf 138 = .ok (.aload_n 0, 1) := by decide +kernel
theorem dX9_faultOf_139 : decode cX9_faultOf 139 = .ok (.iload_n 2, 1) := by decide +kernel
theorem dX9_faultOf_140 : decode cX9_faultOf 140 = .ok (.iload_n 3, 1) := by decide +kernel
theorem dX9_faultOf_141 : decode cX9_faultOf 141 = .ok (.iload 4, 2) := by decide +kernel
theorem dX9_faultOf_143 : decode cX9_faultOf 143 = .ok (.invokevirtual 194, 3) := by decide +kernel
theorem dX9_faultOf_146 : decode cX9_faultOf 146 = .ok (.ireturn, 1) := by decide +kernel
theorem dX9_faultOf_147 : decode cX9_faultOf 147 = .ok (.aload_n 0, 1) := by decide +kernel
theorem dX9_faultOf_148 : decode cX9_faultOf 148 = .ok (.iload_n 2, 1) := by decide +kernel
theorem dX9_faultOf_149 : decode cX9_faultOf 149 = .ok (.iload_n 3, 1) := by decide +kernel
theorem dX9_faultOf_150 : decode cX9_faultOf 150 = .ok (.iload 4, 2) := by decide +kernel
theorem dX9_faultOf_152 : decode cX9_faultOf 152 = .ok (.invokevirtual 197, 3) := by decide +kernel
theorem dX9_faultOf_155 : decode cX9_faultOf 155 = .ok (.ireturn, 1) := by decide +kernel
theorem dX9_faultOf_156 : decode cX9_faultOf 156 = .ok (.aload_n 0, 1) := by decide +kernel
theorem dX9_faultOf_157 : decode cX9_faultOf 157 = .ok (.iload_n 2, 1) := by decide +kernel
theorem dX9_faultOf_158 : decode cX9_faultOf 158 = .ok (.invokevirtual 200, 3) := by decide +kernel
theorem dX9_faultOf_161 : decode cX9_faultOf 161 = .ok (.ireturn, 1) := by decide +kernel
theorem dX9_faultOf_162 : decode cX9_faultOf 162 = .ok (.aload_n 0, 1) := by decide +kernel
theorem dX9_faultOf_163 : decode cX9_faultOf 163 = .ok (.iload_n 2, 1) := by decide +kernel
theorem dX9_faultOf_164 : decode cX9_faultOf 164 = .ok (.iload_n 3, 1) := by decide +kernel
theorem dX9_faultOf_165 : decode cX9_faultOf 165 = .ok (.invokevirtual 203, 3) := by decide +kernel
theorem dX9_faultOf_168 : decode cX9_faultOf 168 = .ok (.ireturn, 1) := by decide +kernel
theorem dX9_faultOf_169 : decode cX9_faultOf 169 = .ok (.aload_n 0, 1) := by decide +kernel
theorem dX9_faultOf_170 : decode cX9_faultOf 170 = .ok (.iload_n 2, 1) := by decide +kernel
theorem dX9_faultOf_171 : decode cX9_faultOf 171 = .ok (.iload_n 3, 1) := by decide +kernel
theorem dX9_faultOf_172 : decode cX9_faultOf 172 = .ok (.invokevirtual 206, 3) := by decide +kernel
theorem dX9_faultOf_175 : decode cX9_faultOf 175 = .ok (.ireturn, 1) := by decide +kernel
theorem dX9_faultOf_176 : decode cX9_faultOf 176 = .ok (.aload_n 0, 1) := by decide +kernel
theorem dX9_faultOf_177 : decode cX9_faultOf 177 = .ok (.iload_n 2, 1) := by decide +kernel
theorem dX9_faultOf_178 : decode cX9_faultOf 178 = .ok (.iload_n 3, 1) := by decide +kernel
theorem dX9_faultOf_179 : decode cX9_faultOf 179 = .ok (.iload 4, 2) := by decide +kernel
theorem dX9_faultOf_181 : decode cX9_faultOf 181 = .ok (.invokevirtual 209, 3) := by decide +kernel
theorem dX9_faultOf_184 : decode cX9_faultOf 184 = .ok (.ireturn, 1) := by decide +kernel
theorem dX9_faultOf_185 : decode cX9_faultOf 185 = .ok (.aload_n 0, 1) := by decide +kernel
theorem dX9_faultOf_186 : decode cX9_faultOf 186 = .ok (.iload_n 2, 1) := by decide +kernel
theorem dX9_faultOf_187 : decode cX9_faultOf 187 = .ok (.invokevirtual 212, 3) := by decide +kernel
theorem dX9_faultOf_190 : decode cX9_faultOf 190 = .ok (.ireturn, 1) := by decide +kernel
theorem dX9_faultOf_191 : decode cX9_faultOf 191 = .ok (.aload_n 0, 1) := by decide +kernel
theorem dX9_faultOf_192 : decode cX9_faultOf 192 = .ok (.iload_n 2, 1) := by decide +kernel
theorem dX9_faultOf_193 : decode cX9_faultOf 193 = .ok (.iload_n 3, 1) := by decide +kernel
theorem dX9_faultOf_194 : decode cX9_faultOf 194 = .ok (.iload 4, 2) := by decide +kernel
theorem dX9_faultOf_196 : decode cX9_faultOf 196 = .ok (.invokevirtual 215, 3) := by decide +kernel
theorem dX9_faultOf_199 : decode cX9_faultOf 199 = .ok (.ireturn, 1) := by decide +kernel
theorem dX9_faultOf_200 : decode cX9_faultOf 200 = .ok (.aload_n 0, 1) := by decide +kernel
theorem dX9_faultOf_201 : decode cX9_faultOf 201 = .ok (.iload_n 2, 1) := by decide +kernel
theorem dX9_faultOf_202 : decode cX9_faultOf 202 = .ok (.iload_n 3, 1) := by decide +kernel
theorem dX9_faultOf_203 : decode cX9_faultOf 203 = .ok (.iload 4, 2) := by decide +kernel
theorem dX9_faultOf_205 : decode cX9_faultOf 205 = .ok (.invokevirtual 218, 3) := by decide +kernel
theorem dX9_faultOf_208 : decode cX9_faultOf 208 = .ok (.ireturn, 1) := by decide +kernel
theorem dX9_faultOf_209 : decode cX9_faultOf 209 = .ok (.aload_n 0, 1) := by decide +kernel
theorem dX9_faultOf_210 : decode cX9_faultOf 210 = .ok (.iload_n 2, 1) := by decide +kernel
theorem dX9_faultOf_211 : decode cX9_faultOf 211 = .ok (.invokevirtual 221, 3) := by decide +kernel
theorem dX9_faultOf_214 : decode cX9_faultOf 214 = .ok (.ireturn, 1) := by decide +kernel
theorem dX9_comeTo_0 : decode cX9_comeTo 0 = .ok (.aload_n 0, 1) := by decide +kernel
theorem dX9_comeTo_1 : decode cX9_comeTo 1 = .ok (.iload_n 1, 1) := by decide +kernel
theorem dX9_comeTo_2 : decode cX9_comeTo 2 = .ok (.putfield 118, 3) := by decide +kernel
theorem dX9_comeTo_5 : decode cX9_comeTo 5 = .ok (.iconst 0, 1) := by decide +kernel
theorem dX9_comeTo_6 : decode cX9_comeTo 6 = .ok (.ireturn, 1) := by decide +kernel
set_option maxRecDepth 20000 in
theorem ggX9_horseAt_J9_floorMod_7cf53 : GoodIn wsX9_horseAt wsJ9_floorMod_7cf53 := goodIn_r _ [5] (by decide +kernel) (by decide +kernel)
set_option maxRecDepth 20000 in
theorem gX9_horseAt_J9_floorMod_7cf53 : GoodIn wsX9_horseAt (va_wsS RX9 224 yJ9_floorMod_7cf53 wsJ9_floorMod_7cf53) := goodIn_app (goodIn_of _ (by decide +kernel)) ggX9_horseAt_J9_floorMod_7cf53
theorem dX9_horseAt_0 : decode cX9_horseAt 0 = .ok (.aload_n 0, 1) := by decide +kernel
theorem dX9_horseAt_1 : decode cX9_horseAt 1 = .ok (.getfield 11, 3) := by decide +kernel
theorem dX9_horseAt_4 : decode cX9_horseAt 4 = .ok (.iload_n 1, 1) := by decide +kernel
theorem dX9_horseAt_5 : decode cX9_horseAt 5 = .ok (.bipush 10, 2) := by decide +kernel
theorem dX9_horseAt_7 : decode cX9_horseAt 7 = .ok (.invokestatic 224, 3) := by decide +kernel
theorem dX9_horseAt_10 : decode cX9_horseAt 10 = .ok (.aaload, 1) := by decide +kernel
theorem dX9_horseAt_11 : decode cX9_horseAt 11 = .ok (.areturn, 1) := by decide +kernel
set_option maxRecDepth 20000 in
theorem ggX9_workerAt_J9_floorMod_7cf53 : GoodIn wsX9_workerAt wsJ9_floorMod_7cf53 := goodIn_r _ [5] (by decide +kernel) (by decide +kernel)
set_option maxRecDepth 20000 in
theorem gX9_workerAt_J9_floorMod_7cf53 : GoodIn wsX9_workerAt (va_wsS RX9 224 yJ9_floorMod_7cf53 wsJ9_floorMod_7cf53) := goodIn_app (goodIn_of _ (by decide +kernel)) ggX9_workerAt_J9_floorMod_7cf53
theorem dX9_workerAt_0 : decode cX9_workerAt 0 = .ok (.aload_n 0, 1) := by decide +kernel
theorem dX9_workerAt_1 : decode cX9_workerAt 1 = .ok (.getfield 17, 3) := by decide +kernel
theorem dX9_workerAt_4 : decode cX9_workerAt 4 = .ok (.iload_n 1, 1) := by decide +kernel
theorem dX9_workerAt_5 : decode cX9_workerAt 5 = .ok (.bipush 6, 2) := by decide +kernel
theorem dX9_workerAt_7 : decode cX9_workerAt 7 = .ok (.invokestatic 224, 3) := by decide +kernel
theorem dX9_workerAt_10 : decode cX9_workerAt 10 = .ok (.aaload, 1) := by decide +kernel
theorem dX9_workerAt_11 : decode cX9_workerAt 11 = .ok (.areturn, 1) := by decide +kernel
set_option maxRecDepth 20000 in
theorem ggX9_teamAt_J9_floorMod_7cf53 : GoodIn wsX9_teamAt wsJ9_floorMod_7cf53 := goodIn_r _ [5] (by decide +kernel) (by decide +kernel)
set_option maxRecDepth 20000 in
theorem gX9_teamAt_J9_floorMod_7cf53 : GoodIn wsX9_teamAt (va_wsS RX9 224 yJ9_floorMod_7cf53 wsJ9_floorMod_7cf53) := goodIn_app (goodIn_of _ (by decide +kernel)) ggX9_teamAt_J9_floorMod_7cf53
theorem dX9_teamAt_0 : decode cX9_teamAt 0 = .ok (.aload_n 0, 1) := by decide +kernel
theorem dX9_teamAt_1 : decode cX9_teamAt 1 = .ok (.getfield 23, 3) := by decide +kernel
theorem dX9_teamAt_4 : decode cX9_teamAt 4 = .ok (.iload_n 1, 1) := by decide +kernel
theorem dX9_teamAt_5 : decode cX9_teamAt 5 = .ok (.bipush 6, 2) := by decide +kernel
theorem dX9_teamAt_7 : decode cX9_teamAt 7 = .ok (.invokestatic 224, 3) := by decide +kernel
theorem dX9_teamAt_10 : decode cX9_teamAt 10 = .ok (.aaload, 1) := by decide +kernel
theorem dX9_teamAt_11 : decode cX9_teamAt 11 = .ok (.areturn, 1) := by decide +kernel
set_option maxRecDepth 20000 in
theorem ggX9_ledgerAt_J9_floorMod_7cf53 : GoodIn wsX9_ledgerAt wsJ9_floorMod_7cf53 := goodIn_r _ [5] (by decide +kernel) (by decide +kernel)
set_option maxRecDepth 20000 in
theorem gX9_ledgerAt_J9_floorMod_7cf53 : GoodIn wsX9_ledgerAt (va_wsS RX9 224 yJ9_floorMod_7cf53 wsJ9_floorMod_7cf53) := goodIn_app (goodIn_of _ (by decide +kernel)) ggX9_ledgerAt_J9_floorMod_7cf53
theorem dX9_ledgerAt_0 : decode cX9_ledgerAt 0 = .ok (.aload_n 0, 1) := by decide +kernel
theorem dX9_ledgerAt_1 : decode cX9_ledgerAt 1 = .ok (.getfield 29, 3) := by decide +kernel
theorem dX9_ledgerAt_4 : decode cX9_ledgerAt 4 = .ok (.iload_n 1, 1) := by decide +kernel
theorem dX9_ledgerAt_5 : decode cX9_ledgerAt 5 = .ok (.iconst 4, 1) := by decide +kernel
theorem dX9_ledgerAt_6 : decode cX9_ledgerAt 6 = .ok (.invokestatic 224, 3) := by decide +kernel
theorem dX9_ledgerAt_9 : decode cX9_ledgerAt 9 = .ok (.aaload, 1) := by decide +kernel
theorem dX9_ledgerAt_10 : decode cX9_ledgerAt 10 = .ok (.areturn, 1) := by decide +kernel
set_option maxRecDepth 20000 in
theorem ggX9_tableAt_J9_floorMod_7cf53 : GoodIn wsX9_tableAt wsJ9_floorMod_7cf53 := goodIn_r _ [5] (by decide +kernel) (by decide +kernel)
set_option maxRecDepth 20000 in
theorem gX9_tableAt_J9_floorMod_7cf53 : GoodIn wsX9_tableAt (va_wsS RX9 224 yJ9_floorMod_7cf53 wsJ9_floorMod_7cf53) := goodIn_app (goodIn_of _ (by decide +kernel)) ggX9_tableAt_J9_floorMod_7cf53
theorem dX9_tableAt_0 : decode cX9_tableAt 0 = .ok (.aload_n 0, 1) := by decide +kernel
theorem dX9_tableAt_1 : decode cX9_tableAt 1 = .ok (.getfield 35, 3) := by decide +kernel
theorem dX9_tableAt_4 : decode cX9_tableAt 4 = .ok (.iload_n 1, 1) := by decide +kernel
theorem dX9_tableAt_5 : decode cX9_tableAt 5 = .ok (.iconst 4, 1) := by decide +kernel
theorem dX9_tableAt_6 : decode cX9_tableAt 6 = .ok (.invokestatic 224, 3) := by decide +kernel
theorem dX9_tableAt_9 : decode cX9_tableAt 9 = .ok (.aaload, 1) := by decide +kernel
theorem dX9_tableAt_10 : decode cX9_tableAt 10 = .ok (.areturn, 1) := by decide +kernel
set_option maxRecDepth 20000 in
theorem ggX9_feedHorse_X9_horseAt : GoodIn wsX9_feedHorse wsX9_horseAt := goodIn_r _ [6, 7, 8, 9, 10, 11, 32, 33, 34, 35, 36, 37, 38, 39, 40, 41, 42, 43, 44, 45, 46, 47] (by decide +kernel) (by decide +kernel)
set_option maxRecDepth 20000 in
theorem gX9_feedHorse_X9_horseAt : GoodIn wsX9_feedHorse (wsV RX9 227 RX9 yX9_horseAt wsX9_horseAt) := goodIn_app (goodIn_of _ (by decide +kernel)) ggX9_feedHorse_X9_horseAt
set_option maxRecDepth 20000 in
theorem ggX9_feedHorse_X9_comeTo : GoodIn wsX9_feedHorse wsX9_comeTo := goodIn_r _ [15, 16, 32, 33, 34, 35, 36, 37, 38, 39, 40, 41, 42, 43, 44, 45, 46, 47] (by decide +kernel) (by decide +kernel)
set_option maxRecDepth 20000 in
theorem gX9_feedHorse_X9_comeTo : GoodIn wsX9_feedHorse (wsV RX9 231 RX9 yX9_comeTo wsX9_comeTo) := goodIn_app (goodIn_of _ (by decide +kernel)) ggX9_feedHorse_X9_comeTo
theorem dX9_feedHorse_0 : decode cX9_feedHorse 0 = .ok (.aload_n 0, 1) := by decide +kernel
theorem dX9_feedHorse_1 : decode cX9_feedHorse 1 = .ok (.iload_n 1, 1) := by decide +kernel
theorem dX9_feedHorse_2 : decode cX9_feedHorse 2 = .ok (.invokevirtual 227, 3) := by decide +kernel
theorem dX9_feedHorse_5 : decode cX9_feedHorse 5 = .ok (.astore_n 3, 1) := by decide +kernel
theorem dX9_feedHorse_6 : decode cX9_feedHorse 6 = .ok (.aload_n 3, 1) := by decide +kernel
theorem dX9_feedHorse_7 : decode cX9_feedHorse 7 = .ok (.ifnonnull 5, 3) := by decide +kernel
theorem dX9_feedHorse_10 : decode cX9_feedHorse 10 = .ok (.iconst 1, 1) := by decide +kernel
theorem dX9_feedHorse_11 : decode cX9_feedHorse 11 = .ok (.ireturn, 1) := by decide +kernel
theorem dX9_feedHorse_12 : decode cX9_feedHorse 12 = .ok (.aload_n 3, 1) := by decide +kernel
theorem dX9_feedHorse_13 : decode cX9_feedHorse 13 = .ok (.dup, 1) := by decide +kernel
theorem dX9_feedHorse_14 : decode cX9_feedHorse 14 = .ok (.getfield 143, 3) := by decide +kernel
theorem dX9_feedHorse_17 : decode cX9_feedHorse 17 = .ok (.iload_n 2, 1) := by decide +kernel
theorem dX9_feedHorse_18 : decode cX9_feedHorse 18 = .ok (.iadd, 1) := by decide +kernel
theorem dX9_feedHorse_19 : decode cX9_feedHorse 19 = .ok (.putfield 143, 3) := by decide +kernel
theorem dX9_feedHorse_22 : decode cX9_feedHorse 22 = .ok (.aload_n 0, 1) := by decide +kernel
theorem dX9_feedHorse_23 : decode cX9_feedHorse 23 = .ok (.aload_n 3, 1) := by decide +kernel
theorem dX9_feedHorse_24 : decode cX9_feedHorse 24 = .ok (.getfield 143, 3) := by decide +kernel
theorem dX9_feedHorse_27 : decode cX9_feedHorse 27 = .ok (.invokevirtual 231, 3) := by decide +kernel
theorem dX9_feedHorse_30 : decode cX9_feedHorse 30 = .ok (.ireturn, 1) := by decide +kernel
set_option maxRecDepth 20000 in
theorem ggX9_askStrength_X9_horseAt : GoodIn wsX9_askStrength wsX9_horseAt := goodIn_r _ [6, 7, 8, 9, 10, 11, 32, 33, 34, 35, 36, 37, 38, 39, 40, 41, 42, 43, 44, 45, 46, 47] (by decide +kernel) (by decide +kernel)
set_option maxRecDepth 20000 in
theorem gX9_askStrength_X9_horseAt : GoodIn wsX9_askStrength (wsV RX9 227 RX9 yX9_horseAt wsX9_horseAt) := goodIn_app (goodIn_of _ (by decide +kernel)) ggX9_askStrength_X9_horseAt
set_option maxRecDepth 20000 in
theorem ggX9_askStrength_X9_comeTo : GoodIn wsX9_askStrength wsX9_comeTo := goodIn_r _ [15, 16, 32, 33, 34, 35, 36, 37, 38, 39, 40, 41, 42, 43, 44, 45, 46, 47] (by decide +kernel) (by decide +kernel)
set_option maxRecDepth 20000 in
theorem gX9_askStrength_X9_comeTo : GoodIn wsX9_askStrength (wsV RX9 231 RX9 yX9_comeTo wsX9_comeTo) := goodIn_app (goodIn_of _ (by decide +kernel)) ggX9_askStrength_X9_comeTo
theorem dX9_askStrength_0 : decode cX9_askStrength 0 = .ok (.aload_n 0, 1) := by decide +kernel
theorem dX9_askStrength_1 : decode cX9_askStrength 1 = .ok (.iload_n 1, 1) := by decide +kernel
theorem dX9_askStrength_2 : decode cX9_askStrength 2 = .ok (.invokevirtual 227, 3) := by decide +kernel
theorem dX9_askStrength_5 : decode cX9_askStrength 5 = .ok (.astore_n 2, 1) := by decide +kernel
theorem dX9_askStrength_6 : decode cX9_askStrength 6 = .ok (.aload_n 2, 1) := by decide +kernel
theorem dX9_askStrength_7 : decode cX9_askStrength 7 = .ok (.ifnonnull 7, 3) := by decide +kernel
theorem dX9_askStrength_10 : decode cX9_askStrength 10 = .ok (.iconst 1, 1) := by decide +kernel
theorem dX9_askStrength_11 : decode cX9_askStrength 11 = .ok (.goto 11, 3) := by decide +kernel
theorem dX9_askStrength_14 : decode cX9_askStrength 14 = .ok (.aload_n 0, 1) := by decide +kernel
theorem dX9_askStrength_15 : decode cX9_askStrength 15 = .ok (.aload_n 2, 1) := by decide +kernel
theorem dX9_askStrength_16 : decode cX9_askStrength 16 = .ok (.getfield 140, 3) := by decide +kernel
theorem dX9_askStrength_19 : decode cX9_askStrength 19 = .ok (.invokevirtual 231, 3) := by decide +kernel
theorem dX9_askStrength_22 : decode cX9_askStrength 22 = .ok (.ireturn, 1) := by decide +kernel
set_option maxRecDepth 20000 in
theorem ggX9_coverHorse_X9_horseAt : GoodIn wsX9_coverHorse wsX9_horseAt := goodIn_r _ [6, 7, 8, 9, 10, 11, 32, 33, 34, 35, 36, 37, 38, 39, 40, 41, 42, 43, 44, 45, 46, 47] (by decide +kernel) (by decide +kernel)
set_option maxRecDepth 20000 in
theorem gX9_coverHorse_X9_horseAt : GoodIn wsX9_coverHorse (wsV RX9 227 RX9 yX9_horseAt wsX9_horseAt) := goodIn_app (goodIn_of _ (by decide +kernel)) ggX9_coverHorse_X9_horseAt
set_option maxRecDepth 20000 in
theorem ggX9_coverHorse_X9_comeTo : GoodIn wsX9_coverHorse wsX9_comeTo := goodIn_r _ [15, 16, 32, 33, 34, 35, 36, 37, 38, 39, 40, 41, 42, 43, 44, 45, 46, 47] (by decide +kernel) (by decide +kernel)
set_option maxRecDepth 20000 in
theorem gX9_coverHorse_X9_comeTo : GoodIn wsX9_coverHorse (wsV RX9 231 RX9 yX9_comeTo wsX9_comeTo) := goodIn_app (goodIn_of _ (by decide +kernel)) ggX9_coverHorse_X9_comeTo
theorem dX9_coverHorse_0 : decode cX9_coverHorse 0 = .ok (.aload_n 0, 1) := by decide +kernel
theorem dX9_coverHorse_1 : decode cX9_coverHorse 1 = .ok (.iload_n 1, 1) := by decide +kernel
theorem dX9_coverHorse_2 : decode cX9_coverHorse 2 = .ok (.invokevirtual 227, 3) := by decide +kernel
theorem dX9_coverHorse_5 : decode cX9_coverHorse 5 = .ok (.astore_n 3, 1) := by decide +kernel
theorem dX9_coverHorse_6 : decode cX9_coverHorse 6 = .ok (.aload_n 3, 1) := by decide +kernel
theorem dX9_coverHorse_7 : decode cX9_coverHorse 7 = .ok (.ifnonnull 5, 3) := by decide +kernel
theorem dX9_coverHorse_10 : decode cX9_coverHorse 10 = .ok (.iconst 1, 1) := by decide +kernel
theorem dX9_coverHorse_11 : decode cX9_coverHorse 11 = .ok (.ireturn, 1) := by decide +kernel
theorem dX9_coverHorse_12 : decode cX9_coverHorse 12 = .ok (.aload_n 3, 1) := by decide +kernel
theorem dX9_coverHorse_13 : decode cX9_coverHorse 13 = .ok (.iload_n 2, 1) := by decide +kernel
theorem dX9_coverHorse_14 : decode cX9_coverHorse 14 = .ok (.putfield 146, 3) := by decide +kernel
theorem dX9_coverHorse_17 : decode cX9_coverHorse 17 = .ok (.aload_n 0, 1) := by decide +kernel
theorem dX9_coverHorse_18 : decode cX9_coverHorse 18 = .ok (.iconst 0, 1) := by decide +kernel
theorem dX9_coverHorse_19 : decode cX9_coverHorse 19 = .ok (.invokevirtual 231, 3) := by decide +kernel
theorem dX9_coverHorse_22 : decode cX9_coverHorse 22 = .ok (.ireturn, 1) := by decide +kernel
set_option maxRecDepth 20000 in
theorem ggX9_groomHorse_X9_horseAt : GoodIn wsX9_groomHorse wsX9_horseAt := goodIn_r _ [5, 6, 7, 8, 9, 10, 40, 41, 42, 43, 44, 45, 46, 47, 48, 49, 50, 51, 52, 53, 54, 55] (by decide +kernel) (by decide +kernel)
set_option maxRecDepth 20000 in
theorem gX9_groomHorse_X9_horseAt : GoodIn wsX9_groomHorse (wsV RX9 227 RX9 yX9_horseAt wsX9_horseAt) := goodIn_app (goodIn_of _ (by decide +kernel)) ggX9_groomHorse_X9_horseAt
set_option maxRecDepth 20000 in
theorem ggX9_groomHorse_X1_groom : GoodIn wsX9_groomHorse wsX1_groom := goodIn_r _ [17, 18, 19, 56, 57, 58, 59, 60, 61, 62, 63, 64, 65, 66, 67, 68, 69, 70] (by decide +kernel) (by decide +kernel)
set_option maxRecDepth 20000 in
theorem gX9_groomHorse_X1_groom_u234X1 : GoodIn wsX9_groomHorse (va_wsO RX9 234 RX1 "RidingYard$Horse" ⟨"RidingYard$Horse", "groom", "()I"⟩ yX1_groom wsX1_groom) := goodIn_app (goodIn_of _ (by decide +kernel)) ggX9_groomHorse_X1_groom
set_option maxRecDepth 20000 in
theorem ggX9_groomHorse_X2_groom : GoodIn wsX9_groomHorse wsX2_groom := goodIn_r _ [20, 25, 56, 57, 58, 59, 60, 61, 62, 63, 64, 65, 66, 67, 68, 69, 70] (by decide +kernel) (by decide +kernel)
set_option maxRecDepth 20000 in
theorem gX9_groomHorse_X2_groom : GoodIn wsX9_groomHorse (wsV RX9 234 RX2 yX2_groom wsX2_groom) := goodIn_app (goodIn_of _ (by decide +kernel)) ggX9_groomHorse_X2_groom
set_option maxRecDepth 20000 in
theorem ggX9_groomHorse_X3_groom : GoodIn wsX9_groomHorse wsX3_groom := goodIn_r _ [29, 30, 31, 32, 33, 34, 15, 16, 17, 18, 19, 56, 57, 58, 59, 60, 61, 62, 63, 64, 65, 66, 67, 68, 69, 70] (by decide +kernel) (by decide +kernel)
set_option maxRecDepth 20000 in
theorem gX9_groomHorse_X3_groom_u234X3 : GoodIn wsX9_groomHorse (va_wsO RX9 234 RX3 "RidingYard$Horse" ⟨"RidingYard$Horse", "groom", "()I"⟩ yX3_groom wsX3_groom) := goodIn_app (goodIn_of _ (by decide +kernel)) ggX9_groomHorse_X3_groom
set_option maxRecDepth 20000 in
theorem ggX9_groomHorse_X9_comeTo : GoodIn wsX9_groomHorse wsX9_comeTo := goodIn_r _ [38, 39, 40, 41, 42, 43, 44, 45, 46, 47, 48, 49, 50, 51, 52, 53, 54, 55] (by decide +kernel) (by decide +kernel)
set_option maxRecDepth 20000 in
theorem gX9_groomHorse_X9_comeTo : GoodIn wsX9_groomHorse (wsV RX9 231 RX9 yX9_comeTo wsX9_comeTo) := goodIn_app (goodIn_of _ (by decide +kernel)) ggX9_groomHorse_X9_comeTo
theorem dX9_groomHorse_0 : decode cX9_groomHorse 0 = .ok (.aload_n 0, 1) := by decide +kernel
theorem dX9_groomHorse_1 : decode cX9_groomHorse 1 = .ok (.iload_n 1, 1) := by decide +kernel
theorem dX9_groomHorse_2 : decode cX9_groomHorse 2 = .ok (.invokevirtual 227, 3) := by decide +kernel
theorem dX9_groomHorse_5 : decode cX9_groomHorse 5 = .ok (.astore_n 2, 1) := by decide +kernel
theorem dX9_groomHorse_6 : decode cX9_groomHorse 6 = .ok (.aload_n 2, 1) := by decide +kernel
theorem dX9_groomHorse_7 : decode cX9_groomHorse 7 = .ok (.ifnonnull 7, 3) := by decide +kernel
theorem dX9_groomHorse_10 : decode cX9_groomHorse 10 = .ok (.iconst 1, 1) := by decide +kernel
theorem dX9_groomHorse_11 : decode cX9_groomHorse 11 = .ok (.goto 11, 3) := by decide +kernel
theorem dX9_groomHorse_14 : decode cX9_groomHorse 14 = .ok (.aload_n 0, 1) := by decide +kernel
theorem dX9_groomHorse_15 : decode cX9_groomHorse 15 = .ok (.aload_n 2, 1) := by decide +kernel
theorem dX9_groomHorse_16 : decode cX9_groomHorse 16 = .ok (.invokevirtual 234, 3) := by decide +kernel
theorem dX9_groomHorse_19 : decode cX9_groomHorse 19 = .ok (.invokevirtual 231, 3) := by decide +kernel
theorem dX9_groomHorse_22 : decode cX9_groomHorse 22 = .ok (.ireturn, 1) := by decide +kernel
set_option maxRecDepth 20000 in
theorem ggX9_workInShed_X9_workerAt : GoodIn wsX9_workInShed wsX9_workerAt := goodIn_r _ [5, 6, 7, 8, 9, 10, 44, 45, 46, 47, 48, 49, 50, 51, 52, 53, 54, 55, 56, 57, 58, 59] (by decide +kernel) (by decide +kernel)
set_option maxRecDepth 20000 in
theorem gX9_workInShed_X9_workerAt : GoodIn wsX9_workInShed (wsV RX9 237 RX9 yX9_workerAt wsX9_workerAt) := goodIn_app (goodIn_of _ (by decide +kernel)) ggX9_workInShed_X9_workerAt
set_option maxRecDepth 20000 in
theorem ggX9_workInShed_X1_workFor : GoodIn wsX9_workInShed wsX1_workFor := goodIn_r _ [16, 17, 18, 60, 61, 62, 63, 64, 65, 66, 67, 68, 69, 70, 71, 72, 73, 74] (by decide +kernel) (by decide +kernel)
set_option maxRecDepth 20000 in
theorem gX9_workInShed_X1_workFor_u241X1 : GoodIn wsX9_workInShed (va_wsU RX9 241 RX1 "RidingYard$Worker" ⟨"RidingYard$Worker", "workFor", "(I)I"⟩ yX1_workFor wsX1_workFor) := goodIn_app (goodIn_of _ (by decide +kernel)) ggX9_workInShed_X1_workFor
set_option maxRecDepth 20000 in
theorem ggX9_workInShed_X2_workFor : GoodIn wsX9_workInShed wsX2_workFor := goodIn_r _ [22, 23, 60, 61, 62, 63, 64, 65, 66, 67, 68, 69, 70, 71, 72, 73, 74] (by decide +kernel) (by decide +kernel)
set_option maxRecDepth 20000 in
theorem gX9_workInShed_X2_workFor_u241X2 : GoodIn wsX9_workInShed (va_wsU RX9 241 RX2 "RidingYard$Worker" ⟨"RidingYard$Worker", "workFor", "(I)I"⟩ yX2_workFor wsX2_workFor) := goodIn_app (goodIn_of _ (by decide +kernel)) ggX9_workInShed_X2_workFor
set_option maxRecDepth 20000 in
theorem ggX9_workInShed_X3_workFor : GoodIn wsX9_workInShed wsX3_workFor := goodIn_r _ [27, 28, 29, 30, 31, 32, 14, 15, 16, 17, 18, 60, 61, 62, 63, 64, 65, 66, 67, 68, 69, 70, 71, 72, 73, 74] (by decide +kernel) (by decide +kernel)
set_option maxRecDepth 20000 in
theorem gX9_workInShed_X3_workFor_u241X3 : GoodIn wsX9_workInShed (va_wsU RX9 241 RX3 "RidingYard$Worker" ⟨"RidingYard$Worker", "workFor", "(I)I"⟩ yX3_workFor wsX3_workFor) := goodIn_app (goodIn_of _ (by decide +kernel)) ggX9_workInShed_X3_workFor
set_option maxRecDepth 20000 in
theorem ggX9_workInShed_X7_workFor : GoodIn wsX9_workInShed wsX7_workFor := goodIn_r _ [36, 37, 38, 75, 76] (by decide +kernel) (by decide +kernel)
set_option maxRecDepth 20000 in
theorem gX9_workInShed_X7_workFor_u241X7 : GoodIn wsX9_workInShed (va_wsU RX9 241 RX7 "RidingYard$Worker" ⟨"RidingYard$Worker", "workFor", "(I)I"⟩ yX7_workFor wsX7_workFor) := goodIn_app (goodIn_of _ (by decide +kernel)) ggX9_workInShed_X7_workFor
set_option maxRecDepth 20000 in
theorem ggX9_workInShed_X9_comeTo : GoodIn wsX9_workInShed wsX9_comeTo := goodIn_r _ [42, 43, 44, 45, 46, 47, 48, 49, 50, 51, 52, 53, 54, 55, 56, 57, 58, 59] (by decide +kernel) (by decide +kernel)
set_option maxRecDepth 20000 in
theorem gX9_workInShed_X9_comeTo : GoodIn wsX9_workInShed (wsV RX9 231 RX9 yX9_comeTo wsX9_comeTo) := goodIn_app (goodIn_of _ (by decide +kernel)) ggX9_workInShed_X9_comeTo
theorem dX9_workInShed_0 : decode cX9_workInShed 0 = .ok (.aload_n 0, 1) := by decide +kernel
theorem dX9_workInShed_1 : decode cX9_workInShed 1 = .ok (.iload_n 1, 1) := by decide +kernel
theorem dX9_workInShed_2 : decode cX9_workInShed 2 = .ok (.invokevirtual 237, 3) := by decide +kernel
theorem dX9_workInShed_5 : decode cX9_workInShed 5 = .ok (.astore_n 3, 1) := by decide +kernel
theorem dX9_workInShed_6 : decode cX9_workInShed 6 = .ok (.aload_n 3, 1) := by decide +kernel
theorem dX9_workInShed_7 : decode cX9_workInShed 7 = .ok (.ifnonnull 7, 3) := by decide +kernel
theorem dX9_workInShed_10 : decode cX9_workInShed 10 = .ok (.iconst 1, 1) := by decide +kernel
theorem dX9_workInShed_11 : decode cX9_workInShed 11 = .ok (.goto 12, 3) := by decide +kernel
theorem dX9_workInShed_14 : decode cX9_workInShed 14 = .ok (.aload_n 0, 1) := by decide +kernel
theorem dX9_workInShed_15 : decode cX9_workInShed 15 = .ok (.aload_n 3, 1) := by decide +kernel
theorem dX9_workInShed_16 : decode cX9_workInShed 16 = .ok (.iload_n 2, 1) := by decide +kernel
theorem dX9_workInShed_17 : decode cX9_workInShed 17 = .ok (.invokevirtual 241, 3) := by decide +kernel
theorem dX9_workInShed_20 : decode cX9_workInShed 20 = .ok (.invokevirtual 231, 3) := by decide +kernel
theorem dX9_workInShed_23 : decode cX9_workInShed 23 = .ok (.ireturn, 1) := by decide +kernel
set_option maxRecDepth 20000 in
theorem ggX9_askStrengthInShed_X9_workerAt : GoodIn wsX9_askStrengthInShed wsX9_workerAt := goodIn_r _ [7, 8, 9, 10, 11, 12, 33, 34, 35, 36, 37, 38, 39, 40, 41, 42, 43, 44, 45, 46, 47, 48] (by decide +kernel) (by decide +kernel)
set_option maxRecDepth 20000 in
theorem gX9_askStrengthInShed_X9_workerAt : GoodIn wsX9_askStrengthInShed (wsV RX9 237 RX9 yX9_workerAt wsX9_workerAt) := goodIn_app (goodIn_of _ (by decide +kernel)) ggX9_askStrengthInShed_X9_workerAt
set_option maxRecDepth 20000 in
theorem ggX9_askStrengthInShed_X9_comeTo : GoodIn wsX9_askStrengthInShed wsX9_comeTo := goodIn_r _ [16, 17, 33, 34, 35, 36, 37, 38, 39, 40, 41, 42, 43, 44, 45, 46, 47, 48] (by decide +kernel) (by decide +kernel)
set_option maxRecDepth 20000 in
theorem gX9_askStrengthInShed_X9_comeTo : GoodIn wsX9_askStrengthInShed (wsV RX9 231 RX9 yX9_comeTo wsX9_comeTo) := goodIn_app (goodIn_of _ (by decide +kernel)) ggX9_askStrengthInShed_X9_comeTo
theorem dX9_askStrengthInShed_0 : decode cX9_askStrengthInShed 0 = .ok (.aload_n 0, 1) := by decide +kernel
theorem dX9_askStrengthInShed_1 : decode cX9_askStrengthInShed 1 = .ok (.iload_n 1, 1) := by decide +kernel
theorem dX9_askStrengthInShed_2 : decode cX9_askStrengthInShed 2 = .ok (.invokevirtual 237, 3) := by decide +kernel
theorem dX9_askStrengthInShed_5 : decode cX9_askStrengthInShed 5 = .ok (.astore_n 2, 1) := by decide +kernel
theorem dX9_askStrengthInShed_6 : decode cX9_askStrengthInShed 6 = .ok (.aload_n 2, 1) := by decide +kernel
theorem dX9_askStrengthInShed_7 : decode cX9_askStrengthInShed 7 = .ok (.ifnonnull 5, 3) := by decide +kernel
theorem dX9_askStrengthInShed_10 : decode cX9_askStrengthInShed 10 = .ok (.iconst 1, 1) := by decide +kernel
theorem dX9_askStrengthInShed_11 : decode cX9_askStrengthInShed 11 = .ok (.ireturn, 1) := by decide +kernel
theorem dX9_askStrengthInShed_12 : decode cX9_askStrengthInShed 12 = .ok (.aload_n 2, 1) := by decide +kernel
theorem dX9_askStrengthInShed_13 : decode cX9_askStrengthInShed 13 = .ok (.instanceof 9, 3) := by decide +kernel
theorem dX9_askStrengthInShed_16 : decode cX9_askStrengthInShed 16 = .ok (.ifCond .eq 19, 3) := by decide +kernel
theorem dX9_askStrengthInShed_19 : decode cX9_askStrengthInShed 19 = .ok (.aload_n 2, 1) := by decide +kernel
theorem dX9_askStrengthInShed_20 : decode cX9_askStrengthInShed 20 = .ok (.checkcast 9, 3) := by decide +kernel
theorem dX9_askStrengthInShed_23 : decode cX9_askStrengthInShed 23 = .ok (.astore_n 3, 1) := by decide +kernel
theorem dX9_askStrengthInShed_24 : decode cX9_askStrengthInShed 24 = .ok (.aload_n 0, 1) := by decide +kernel
theorem dX9_askStrengthInShed_25 : decode cX9_askStrengthInShed 25 = .ok (.aload_n 3, 1) := by decide +kernel
theorem dX9_askStrengthInShed_26 : decode cX9_askStrengthInShed 26 = .ok (.getfield 140, 3) := by decide +kernel
theorem dX9_askStrengthInShed_29 : decode cX9_askStrengthInShed 29 = .ok (.invokevirtual 231, 3) := by decide +kernel
theorem dX9_askStrengthInShed_32 : decode cX9_askStrengthInShed 32 = .ok (.goto 4, 3) := by decide +kernel
theorem dX9_askStrengthInShed_35 : decode cX9_askStrengthInShed 35 = .ok (.iconst 3, 1) := by decide +kernel
theorem dX9_askStrengthInShed_36 : decode cX9_askStrengthInShed 36 = .ok (.ireturn, 1) := by decide +kernel
set_option maxRecDepth 20000 in
theorem ggX9_askRugOfHunter_X9_horseAt : GoodIn wsX9_askRugOfHunter wsX9_horseAt := goodIn_r _ [7, 8, 9, 10, 11, 12, 33, 34, 35, 36, 37, 38, 39, 40, 41, 42, 43, 44, 45, 46, 47, 48] (by decide +kernel) (by decide +kernel)
set_option maxRecDepth 20000 in
theorem gX9_askRugOfHunter_X9_horseAt : GoodIn wsX9_askRugOfHunter (wsV RX9 227 RX9 yX9_horseAt wsX9_horseAt) := goodIn_app (goodIn_of _ (by decide +kernel)) ggX9_askRugOfHunter_X9_horseAt
set_option maxRecDepth 20000 in
theorem ggX9_askRugOfHunter_X9_comeTo : GoodIn wsX9_askRugOfHunter wsX9_comeTo := goodIn_r _ [16, 17, 33, 34, 35, 36, 37, 38, 39, 40, 41, 42, 43, 44, 45, 46, 47, 48] (by decide +kernel) (by decide +kernel)
set_option maxRecDepth 20000 in
theorem gX9_askRugOfHunter_X9_comeTo : GoodIn wsX9_askRugOfHunter (wsV RX9 231 RX9 yX9_comeTo wsX9_comeTo) := goodIn_app (goodIn_of _ (by decide +kernel)) ggX9_askRugOfHunter_X9_comeTo
theorem dX9_askRugOfHunter_0 : decode cX9_askRugOfHunter 0 = .ok (.aload_n 0, 1) := by decide +kernel
theorem dX9_askRugOfHunter_1 : decode cX9_askRugOfHunter 1 = .ok (.iload_n 1, 1) := by decide +kernel
theorem dX9_askRugOfHunter_2 : decode cX9_askRugOfHunter 2 = .ok (.invokevirtual 227, 3) := by decide +kernel
theorem dX9_askRugOfHunter_5 : decode cX9_askRugOfHunter 5 = .ok (.astore_n 2, 1) := by decide +kernel
theorem dX9_askRugOfHunter_6 : decode cX9_askRugOfHunter 6 = .ok (.aload_n 2, 1) := by decide +kernel
theorem dX9_askRugOfHunter_7 : decode cX9_askRugOfHunter 7 = .ok (.ifnonnull 5, 3) := by decide +kernel
theorem dX9_askRugOfHunter_10 : decode cX9_askRugOfHunter 10 = .ok (.iconst 1, 1) := by decide +kernel
theorem dX9_askRugOfHunter_11 : decode cX9_askRugOfHunter 11 = .ok (.ireturn, 1) := by decide +kernel
theorem dX9_askRugOfHunter_12 : decode cX9_askRugOfHunter 12 = .ok (.aload_n 2, 1) := by decide +kernel
theorem dX9_askRugOfHunter_13 : decode cX9_askRugOfHunter 13 = .ok (.instanceof 159, 3) := by decide +kernel
theorem dX9_askRugOfHunter_16 : decode cX9_askRugOfHunter 16 = .ok (.ifCond .eq 14, 3) := by decide +kernel
theorem dX9_askRugOfHunter_19 : decode cX9_askRugOfHunter 19 = .ok (.aload_n 0, 1) := by decide +kernel
theorem dX9_askRugOfHunter_20 : decode cX9_askRugOfHunter 20 = .ok (.aload_n 2, 1) := by decide +kernel
theorem dX9_askRugOfHunter_21 : decode cX9_askRugOfHunter 21 = .ok (.getfield 146, 3) := by decide +kernel
theorem dX9_askRugOfHunter_24 : decode cX9_askRugOfHunter 24 = .ok (.invokevirtual 231, 3) := by decide +kernel
theorem dX9_askRugOfHunter_27 : decode cX9_askRugOfHunter 27 = .ok (.goto 4, 3) := by decide +kernel
theorem dX9_askRugOfHunter_30 : decode cX9_askRugOfHunter 30 = .ok (.iconst 3, 1) := by decide +kernel
theorem dX9_askRugOfHunter_31 : decode cX9_askRugOfHunter 31 = .ok (.ireturn, 1) := by decide +kernel
set_option maxRecDepth 20000 in
theorem ggX9_formTeam_X9_teamAt : GoodIn wsX9_formTeam wsX9_teamAt := goodIn_r _ [9, 10, 11, 12, 13, 14, 29, 30, 31, 32, 33, 34, 35, 36, 37, 38, 39, 40, 41, 42, 43, 44] (by decide +kernel) (by decide +kernel)
set_option maxRecDepth 20000 in
theorem gX9_formTeam_X9_teamAt : GoodIn wsX9_formTeam (wsV RX9 244 RX9 yX9_teamAt wsX9_teamAt) := goodIn_app (goodIn_of _ (by decide +kernel)) ggX9_formTeam_X9_teamAt
set_option maxRecDepth 20000 in
theorem ggX9_formTeam_J9_floorMod_7cf53 : GoodIn wsX9_formTeam wsJ9_floorMod_7cf53 := goodIn_r _ [14] (by decide +kernel) (by decide +kernel)
set_option maxRecDepth 20000 in
theorem gX9_formTeam_J9_floorMod_7cf53 : GoodIn wsX9_formTeam (va_wsS RX9 224 yJ9_floorMod_7cf53 wsJ9_floorMod_7cf53) := goodIn_app (goodIn_of _ (by decide +kernel)) ggX9_formTeam_J9_floorMod_7cf53
set_option maxRecDepth 20000 in
theorem ggX9_formTeam_X6_form : GoodIn wsX9_formTeam wsX6_form := goodIn_r _ [19, 20, 21, 22, 23, 45, 46, 47, 48] (by decide +kernel) (by decide +kernel)
set_option maxRecDepth 20000 in
theorem gX9_formTeam_X6_form : GoodIn wsX9_formTeam (wsV RX9 248 RX6 yX6_form wsX6_form) := goodIn_app (goodIn_of _ (by decide +kernel)) ggX9_formTeam_X6_form
set_option maxRecDepth 20000 in
theorem ggX9_formTeam_X9_comeTo : GoodIn wsX9_formTeam wsX9_comeTo := goodIn_r _ [27, 28, 29, 30, 31, 32, 33, 34, 35, 36, 37, 38, 39, 40, 41, 42, 43, 44] (by decide +kernel) (by decide +kernel)
set_option maxRecDepth 20000 in
theorem gX9_formTeam_X9_comeTo : GoodIn wsX9_formTeam (wsV RX9 231 RX9 yX9_comeTo wsX9_comeTo) := goodIn_app (goodIn_of _ (by decide +kernel)) ggX9_formTeam_X9_comeTo
theorem dX9_formTeam_0 : decode cX9_formTeam 0 = .ok (.iload_n 3, 1) := by decide +kernel
theorem dX9_formTeam_1 : decode cX9_formTeam 1 = .ok (.ifCond .ge 5, 3) := by decide +kernel
theorem dX9_formTeam_4 : decode cX9_formTeam 4 = .ok (.iconst 2, 1) := by decide +kernel
theorem dX9_formTeam_5 : decode cX9_formTeam 5 = .ok (.ireturn, 1) := by decide +kernel
theorem dX9_formTeam_6 : decode cX9_formTeam 6 = .ok (.iload_n 3, 1) := by decide +kernel
theorem dX9_formTeam_7 : decode cX9_formTeam 7 = .ok (.bipush 8, 2) := by decide +kernel
theorem dX9_formTeam_9 : decode cX9_formTeam 9 = .ok (.invokestatic 130, 3) := by decide +kernel
theorem dX9_formTeam_12 : decode cX9_formTeam 12 = .ok (.istore 4, 2) := by decide +kernel
theorem dX9_formTeam_14 : decode cX9_formTeam 14 = .ok (.aload_n 0, 1) := by decide +kernel
theorem dX9_formTeam_15 : decode cX9_formTeam 15 = .ok (.iload_n 1, 1) := by decide +kernel
theorem dX9_formTeam_16 : decode cX9_formTeam 16 = .ok (.invokevirtual 244, 3) := by decide +kernel
theorem dX9_formTeam_19 : decode cX9_formTeam 19 = .ok (.iload_n 2, 1) := by decide +kernel
theorem dX9_formTeam_20 : decode cX9_formTeam 20 = .ok (.iconst 3, 1) := by decide +kernel
theorem dX9_formTeam_21 : decode cX9_formTeam 21 = .ok (.invokestatic 224, 3) := by decide +kernel
theorem dX9_formTeam_24 : decode cX9_formTeam 24 = .ok (.iload 4, 2) := by decide +kernel
theorem dX9_formTeam_26 : decode cX9_formTeam 26 = .ok (.invokevirtual 248, 3) := by decide +kernel
theorem dX9_formTeam_29 : decode cX9_formTeam 29 = .ok (.aload_n 0, 1) := by decide +kernel
theorem dX9_formTeam_30 : decode cX9_formTeam 30 = .ok (.iload 4, 2) := by decide +kernel
theorem dX9_formTeam_32 : decode cX9_formTeam 32 = .ok (.invokevirtual 231, 3) := by decide +kernel
theorem dX9_formTeam_35 : decode cX9_formTeam 35 = .ok (.ireturn, 1) := by decide +kernel
set_option maxRecDepth 20000 in
theorem ggX9_putInTeam_X9_teamAt : GoodIn wsX9_putInTeam wsX9_teamAt := goodIn_r _ [8, 9, 10, 11, 12, 13, 53, 54, 55, 56, 57, 58, 59, 60, 61, 62, 63, 64, 65, 66, 67, 68] (by decide +kernel) (by decide +kernel)
set_option maxRecDepth 20000 in
theorem gX9_putInTeam_X9_teamAt : GoodIn wsX9_putInTeam (wsV RX9 244 RX9 yX9_teamAt wsX9_teamAt) := goodIn_app (goodIn_of _ (by decide +kernel)) ggX9_putInTeam_X9_teamAt
set_option maxRecDepth 20000 in
theorem ggX9_putInTeam_X9_within : GoodIn wsX9_putInTeam wsX9_within := goodIn_r _ [16] (by decide +kernel) (by decide +kernel)
set_option maxRecDepth 20000 in
theorem gX9_putInTeam_X9_within : GoodIn wsX9_putInTeam (va_wsS RX9 63 yX9_within wsX9_within) := goodIn_app (goodIn_of _ (by decide +kernel)) ggX9_putInTeam_X9_within
set_option maxRecDepth 20000 in
theorem ggX9_putInTeam_X9_horseAt : GoodIn wsX9_putInTeam wsX9_horseAt := goodIn_r _ [20, 21, 10, 11, 12, 13, 53, 54, 55, 56, 57, 58, 59, 60, 61, 62, 63, 64, 65, 66, 67, 68] (by decide +kernel) (by decide +kernel)
set_option maxRecDepth 20000 in
theorem gX9_putInTeam_X9_horseAt : GoodIn wsX9_putInTeam (wsV RX9 227 RX9 yX9_horseAt wsX9_horseAt) := goodIn_app (goodIn_of _ (by decide +kernel)) ggX9_putInTeam_X9_horseAt
set_option maxRecDepth 20000 in
theorem ggX9_putInTeam_X6_isFor : GoodIn wsX9_putInTeam wsX6_isFor := goodIn_r _ [26, 27, 28, 29, 30, 31, 32, 33, 34, 35, 36, 37, 38, 39, 40, 41, 42, 43, 49, 50, 51, 52] (by decide +kernel) (by decide +kernel)
set_option maxRecDepth 20000 in
theorem gX9_putInTeam_X6_isFor : GoodIn wsX9_putInTeam (wsV RX9 254 RX6 yX6_isFor wsX6_isFor) := goodIn_app (goodIn_of _ (by decide +kernel)) ggX9_putInTeam_X6_isFor
set_option maxRecDepth 20000 in
theorem ggX9_putInTeam_X9_comeTo : GoodIn wsX9_putInTeam wsX9_comeTo := goodIn_r _ [47, 48, 53, 54, 55, 56, 57, 58, 59, 60, 61, 62, 63, 64, 65, 66, 67, 68] (by decide +kernel) (by decide +kernel)
set_option maxRecDepth 20000 in
theorem gX9_putInTeam_X9_comeTo : GoodIn wsX9_putInTeam (wsV RX9 231 RX9 yX9_comeTo wsX9_comeTo) := goodIn_app (goodIn_of _ (by decide +kernel)) ggX9_putInTeam_X9_comeTo
theorem dX9_putInTeam_0 : decode cX9_putInTeam 0 = .ok (.aload_n 0, 1) := by decide +kernel
theorem dX9_putInTeam_1 : decode cX9_putInTeam 1 = .ok (.iload_n 1, 1) := by decide +kernel
theorem dX9_putInTeam_2 : decode cX9_putInTeam 2 = .ok (.invokevirtual 244, 3) := by decide +kernel
theorem dX9_putInTeam_5 : decode cX9_putInTeam 5 = .ok (.astore 4, 2) := by decide +kernel
theorem dX9_putInTeam_7 : decode cX9_putInTeam 7 = .ok (.aload 4, 2) := by decide +kernel
theorem dX9_putInTeam_9 : decode cX9_putInTeam 9 = .ok (.getfield 163, 3) := by decide +kernel
theorem dX9_putInTeam_12 : decode cX9_putInTeam 12 = .ok (.ifCond .ne 5, 3) := by decide +kernel
theorem dX9_putInTeam_15 : decode cX9_putInTeam 15 = .ok (.iconst 1, 1) := by decide +kernel
theorem dX9_putInTeam_16 : decode cX9_putInTeam 16 = .ok (.ireturn, 1) := by decide +kernel
theorem dX9_putInTeam_17 : decode cX9_putInTeam 17 = .ok (.iload_n 2, 1) := by decide +kernel
theorem dX9_putInTeam_18 : decode cX9_putInTeam 18 = .ok (.aload 4, 2) := by decide +kernel
theorem dX9_putInTeam_20 : decode cX9_putInTeam 20 = .ok (.getfield 251, 3) := by decide +kernel
theorem dX9_putInTeam_23 : decode cX9_putInTeam 23 = .ok (.invokestatic 63, 3) := by decide +kernel
theorem dX9_putInTeam_26 : decode cX9_putInTeam 26 = .ok (.ifCond .ne 5, 3) := by decide +kernel
theorem dX9_putInTeam_29 : decode cX9_putInTeam 29 = .ok (.iconst 5, 1) := by decide +kernel
theorem dX9_putInTeam_30 : decode cX9_putInTeam 30 = .ok (.ireturn, 1) := by decide +kernel
theorem dX9_putInTeam_31 : decode cX9_putInTeam 31 = .ok (.aload_n 0, 1) := by decide +kernel
theorem dX9_putInTeam_32 : decode cX9_putInTeam 32 = .ok (.iload_n 3, 1) := by decide +kernel
theorem dX9_putInTeam_33 : decode cX9_putInTeam 33 = .ok (.invokevirtual 227, 3) := by decide +kernel
theorem dX9_putInTeam_36 : decode cX9_putInTeam 36 = .ok (.astore 5, 2) := by decide +kernel
theorem dX9_putInTeam_38 : decode cX9_putInTeam 38 = .ok (.aload 4, 2) := by decide +kernel
theorem dX9_putInTeam_40 : decode cX9_putInTeam 40 = .ok (.aload 5, 2) := by decide +kernel
theorem dX9_putInTeam_42 : decode cX9_putInTeam 42 = .ok (.invokevirtual 254, 3) := by decide +kernel
theorem dX9_putInTeam_45 : decode cX9_putInTeam 45 = .ok (.ifCond .ne 5, 3) := by decide +kernel
theorem dX9_putInTeam_48 : decode cX9_putInTeam 48 = .ok (.iconst 4, 1) := by decide +kernel
theorem dX9_putInTeam_49 : decode cX9_putInTeam 49 = .ok (.ireturn, 1) := by decide +kernel
theorem dX9_putInTeam_50 : decode cX9_putInTeam 50 = .ok (.aload 4, 2) := by decide +kernel
theorem dX9_putInTeam_52 : decode cX9_putInTeam 52 = .ok (.getfield 258, 3) := by decide +kernel
theorem dX9_putInTeam_55 : decode cX9_putInTeam 55 = .ok (.iload_n 2, 1) := by decide +kernel
theorem dX9_putInTeam_56 : decode cX9_putInTeam 56 = .ok (.aload 5, 2) := by decide +kernel
theorem dX9_putInTeam_58 : decode cX9_putInTeam 58 = .ok (.aastore, 1) := by decide +kernel
theorem dX9_putInTeam_59 : decode cX9_putInTeam 59 = .ok (.aload_n 0, 1) := by decide +kernel
theorem dX9_putInTeam_60 : decode cX9_putInTeam 60 = .ok (.iconst 1, 1) := by decide +kernel
theorem dX9_putInTeam_61 : decode cX9_putInTeam 61 = .ok (.invokevirtual 231, 3) := by decide +kernel
theorem dX9_putInTeam_64 : decode cX9_putInTeam 64 = .ok (.ireturn, 1) := by decide +kernel
set_option maxRecDepth 20000 in
theorem ggX9_takeFromTeam_X9_teamAt : GoodIn wsX9_takeFromTeam wsX9_teamAt := goodIn_r _ [9, 10, 11, 12, 13, 14, 30, 31, 32, 33, 34, 35, 36, 37, 38, 39, 40, 41, 42, 43, 44, 45] (by decide +kernel) (by decide +kernel)
set_option maxRecDepth 20000 in
theorem gX9_takeFromTeam_X9_teamAt : GoodIn wsX9_takeFromTeam (wsV RX9 244 RX9 yX9_teamAt wsX9_teamAt) := goodIn_app (goodIn_of _ (by decide +kernel)) ggX9_takeFromTeam_X9_teamAt
set_option maxRecDepth 20000 in
theorem ggX9_takeFromTeam_X9_within : GoodIn wsX9_takeFromTeam wsX9_within := goodIn_r _ [17] (by decide +kernel) (by decide +kernel)
set_option maxRecDepth 20000 in
theorem gX9_takeFromTeam_X9_within : GoodIn wsX9_takeFromTeam (va_wsS RX9 63 yX9_within wsX9_within) := goodIn_app (goodIn_of _ (by decide +kernel)) ggX9_takeFromTeam_X9_within
set_option maxRecDepth 20000 in
theorem ggX9_takeFromTeam_J9_floorMod_7cf53 : GoodIn wsX9_takeFromTeam wsJ9_floorMod_7cf53 := goodIn_r _ [14] (by decide +kernel) (by decide +kernel)
set_option maxRecDepth 20000 in
theorem gX9_takeFromTeam_J9_floorMod_7cf53 : GoodIn wsX9_takeFromTeam (va_wsS RX9 224 yJ9_floorMod_7cf53 wsJ9_floorMod_7cf53) := goodIn_app (goodIn_of _ (by decide +kernel)) ggX9_takeFromTeam_J9_floorMod_7cf53
set_option maxRecDepth 20000 in
theorem ggX9_takeFromTeam_X9_oneIf : GoodIn wsX9_takeFromTeam wsX9_oneIf := goodIn_r _ [20] (by decide +kernel) (by decide +kernel)
set_option maxRecDepth 20000 in
theorem gX9_takeFromTeam_X9_oneIf : GoodIn wsX9_takeFromTeam (va_wsS RX9 85 yX9_oneIf wsX9_oneIf) := goodIn_app (goodIn_of _ (by decide +kernel)) ggX9_takeFromTeam_X9_oneIf
set_option maxRecDepth 20000 in
theorem ggX9_takeFromTeam_X9_comeTo : GoodIn wsX9_takeFromTeam wsX9_comeTo := goodIn_r _ [24, 25, 30, 31, 32, 33, 34, 35, 36, 37, 38, 39, 40, 41, 42, 43, 44, 45] (by decide +kernel) (by decide +kernel)
set_option maxRecDepth 20000 in
theorem gX9_takeFromTeam_X9_comeTo : GoodIn wsX9_takeFromTeam (wsV RX9 231 RX9 yX9_comeTo wsX9_comeTo) := goodIn_app (goodIn_of _ (by decide +kernel)) ggX9_takeFromTeam_X9_comeTo
theorem dX9_takeFromTeam_0 : decode cX9_takeFromTeam 0 = .ok (.aload_n 0, 1) := by decide +kernel
theorem dX9_takeFromTeam_1 : decode cX9_takeFromTeam 1 = .ok (.iload_n 1, 1) := by decide +kernel
theorem dX9_takeFromTeam_2 : decode cX9_takeFromTeam 2 = .ok (.invokevirtual 244, 3) := by decide +kernel
theorem dX9_takeFromTeam_5 : decode cX9_takeFromTeam 5 = .ok (.astore 4, 2) := by decide +kernel
theorem dX9_takeFromTeam_7 : decode cX9_takeFromTeam 7 = .ok (.aload 4, 2) := by decide +kernel
theorem dX9_takeFromTeam_9 : decode cX9_takeFromTeam 9 = .ok (.getfield 163, 3) := by decide +kernel
theorem dX9_takeFromTeam_12 : decode cX9_takeFromTeam 12 = .ok (.ifCond .ne 5, 3) := by decide +kernel
theorem dX9_takeFromTeam_15 : decode cX9_takeFromTeam 15 = .ok (.iconst 1, 1) := by decide +kernel
theorem dX9_takeFromTeam_16 : decode cX9_takeFromTeam 16 = .ok (.ireturn, 1) := by decide +kernel
theorem dX9_takeFromTeam_17 : decode cX9_takeFromTeam 17 = .ok (.iload_n 2, 1) := by decide +kernel
theorem dX9_takeFromTeam_18 : decode cX9_takeFromTeam 18 = .ok (.aload 4, 2) := by decide +kernel
theorem dX9_takeFromTeam_20 : decode cX9_takeFromTeam 20 = .ok (.getfield 251, 3) := by decide +kernel
theorem dX9_takeFromTeam_23 : decode cX9_takeFromTeam 23 = .ok (.invokestatic 63, 3) := by decide +kernel
theorem dX9_takeFromTeam_26 : decode cX9_takeFromTeam 26 = .ok (.ifCond .ne 5, 3) := by decide +kernel
theorem dX9_takeFromTeam_29 : decode cX9_takeFromTeam 29 = .ok (.iconst 5, 1) := by decide +kernel
theorem dX9_takeFromTeam_30 : decode cX9_takeFromTeam 30 = .ok (.ireturn, 1) := by decide +kernel
theorem dX9_takeFromTeam_31 : decode cX9_takeFromTeam 31 = .ok (.aload 4, 2) := by decide +kernel
theorem dX9_takeFromTeam_33 : decode cX9_takeFromTeam 33 = .ok (.getfield 258, 3) := by decide +kernel
theorem dX9_takeFromTeam_36 : decode cX9_takeFromTeam 36 = .ok (.iload_n 2, 1) := by decide +kernel
theorem dX9_takeFromTeam_37 : decode cX9_takeFromTeam 37 = .ok (.aaload, 1) := by decide +kernel
theorem dX9_takeFromTeam_38 : decode cX9_takeFromTeam 38 = .ok (.astore 5, 2) := by decide +kernel
theorem dX9_takeFromTeam_40 : decode cX9_takeFromTeam 40 = .ok (.aload_n 0, 1) := by decide +kernel
theorem dX9_takeFromTeam_41 : decode cX9_takeFromTeam 41 = .ok (.getfield 11, 3) := by decide +kernel
theorem dX9_takeFromTeam_44 : decode cX9_takeFromTeam 44 = .ok (.iload_n 3, 1) := by decide +kernel
theorem dX9_takeFromTeam_45 : decode cX9_takeFromTeam 45 = .ok (.bipush 10, 2) := by decide +kernel
theorem dX9_takeFromTeam_47 : decode cX9_takeFromTeam 47 = .ok (.invokestatic 224, 3) := by decide +kernel
theorem dX9_takeFromTeam_50 : decode cX9_takeFromTeam 50 = .ok (.aload 5, 2) := by decide +kernel
theorem dX9_takeFromTeam_52 : decode cX9_takeFromTeam 52 = .ok (.aastore, 1) := by decide +kernel
theorem dX9_takeFromTeam_53 : decode cX9_takeFromTeam 53 = .ok (.aload_n 0, 1) := by decide +kernel
theorem dX9_takeFromTeam_54 : decode cX9_takeFromTeam 54 = .ok (.aload 5, 2) := by decide +kernel
theorem dX9_takeFromTeam_56 : decode cX9_takeFromTeam 56 = .ok (.ifnull 7, 3) := by decide +kernel
theorem dX9_takeFromTeam_59 : decode cX9_takeFromTeam 59 = .ok (.iconst 1, 1) := by decide +kernel
theorem dX9_takeFromTeam_60 : decode cX9_takeFromTeam 60 = .ok (.goto 4, 3) := by decide +kernel
theorem dX9_takeFromTeam_63 : decode cX9_takeFromTeam 63 = .ok (.iconst 0, 1) := by decide +kernel
theorem dX9_takeFromTeam_64 : decode cX9_takeFromTeam 64 = .ok (.invokestatic 85, 3) := by decide +kernel
theorem dX9_takeFromTeam_67 : decode cX9_takeFromTeam 67 = .ok (.invokevirtual 231, 3) := by decide +kernel
theorem dX9_takeFromTeam_70 : decode cX9_takeFromTeam 70 = .ok (.ireturn, 1) := by decide +kernel
set_option maxRecDepth 20000 in
theorem ggX9_askPlaces_X9_teamAt : GoodIn wsX9_askPlaces wsX9_teamAt := goodIn_r _ [7, 8, 9, 10, 11, 12, 22, 23, 24, 25, 26, 27, 28, 29, 30, 31, 32, 33, 34, 35, 36, 37] (by decide +kernel) (by decide +kernel)
set_option maxRecDepth 20000 in
theorem gX9_askPlaces_X9_teamAt : GoodIn wsX9_askPlaces (wsV RX9 244 RX9 yX9_teamAt wsX9_teamAt) := goodIn_app (goodIn_of _ (by decide +kernel)) ggX9_askPlaces_X9_teamAt
set_option maxRecDepth 20000 in
theorem ggX9_askPlaces_X9_comeTo : GoodIn wsX9_askPlaces wsX9_comeTo := goodIn_r _ [16, 17, 22, 23, 24, 25, 26, 27, 28, 29, 30, 31, 32, 33, 34, 35, 36, 37] (by decide +kernel) (by decide +kernel)
set_option maxRecDepth 20000 in
theorem gX9_askPlaces_X9_comeTo : GoodIn wsX9_askPlaces (wsV RX9 231 RX9 yX9_comeTo wsX9_comeTo) := goodIn_app (goodIn_of _ (by decide +kernel)) ggX9_askPlaces_X9_comeTo
theorem dX9_askPlaces_0 : decode cX9_askPlaces 0 = .ok (.aload_n 0, 1) := by decide +kernel
theorem dX9_askPlaces_1 : decode cX9_askPlaces 1 = .ok (.iload_n 1, 1) := by decide +kernel
theorem dX9_askPlaces_2 : decode cX9_askPlaces 2 = .ok (.invokevirtual 244, 3) := by decide +kernel
theorem dX9_askPlaces_5 : decode cX9_askPlaces 5 = .ok (.astore_n 2, 1) := by decide +kernel
theorem dX9_askPlaces_6 : decode cX9_askPlaces 6 = .ok (.aload_n 2, 1) := by decide +kernel
theorem dX9_askPlaces_7 : decode cX9_askPlaces 7 = .ok (.getfield 163, 3) := by decide +kernel
theorem dX9_askPlaces_10 : decode cX9_askPlaces 10 = .ok (.ifCond .eq 14, 3) := by decide +kernel
theorem dX9_askPlaces_13 : decode cX9_askPlaces 13 = .ok (.aload_n 0, 1) := by decide +kernel
theorem dX9_askPlaces_14 : decode cX9_askPlaces 14 = .ok (.aload_n 2, 1) := by decide +kernel
theorem dX9_askPlaces_15 : decode cX9_askPlaces 15 = .ok (.getfield 251, 3) := by decide +kernel
theorem dX9_askPlaces_18 : decode cX9_askPlaces 18 = .ok (.invokevirtual 231, 3) := by decide +kernel
theorem dX9_askPlaces_21 : decode cX9_askPlaces 21 = .ok (.goto 4, 3) := by decide +kernel
theorem dX9_askPlaces_24 : decode cX9_askPlaces 24 = .ok (.iconst 1, 1) := by decide +kernel
theorem dX9_askPlaces_25 : decode cX9_askPlaces 25 = .ok (.ireturn, 1) := by decide +kernel
set_option maxRecDepth 20000 in
theorem ggX9_workTeam_X9_teamAt : GoodIn wsX9_workTeam wsX9_teamAt := goodIn_r _ [8, 9, 10, 11, 12, 13, 47, 48, 49, 50, 51, 52, 53, 54, 55, 56, 57, 58, 59, 60, 61, 62] (by decide +kernel) (by decide +kernel)
set_option maxRecDepth 20000 in
theorem gX9_workTeam_X9_teamAt : GoodIn wsX9_workTeam (wsV RX9 244 RX9 yX9_teamAt wsX9_teamAt) := goodIn_app (goodIn_of _ (by decide +kernel)) ggX9_workTeam_X9_teamAt
set_option maxRecDepth 20000 in
theorem ggX9_workTeam_X1_workFor : GoodIn wsX9_workTeam wsX1_workFor := goodIn_r _ [20, 21, 22, 63, 64, 65, 66, 67, 68, 69, 70, 71, 72, 73, 74, 75, 76, 77] (by decide +kernel) (by decide +kernel)
set_option maxRecDepth 20000 in
theorem gX9_workTeam_X1_workFor_u261X1 : GoodIn wsX9_workTeam (va_wsO RX9 261 RX1 "RidingYard$Horse" ⟨"RidingYard$Horse", "workFor", "(I)I"⟩ yX1_workFor wsX1_workFor) := goodIn_app (goodIn_of _ (by decide +kernel)) ggX9_workTeam_X1_workFor
set_option maxRecDepth 20000 in
theorem ggX9_workTeam_X2_workFor : GoodIn wsX9_workTeam wsX2_workFor := goodIn_r _ [23, 28, 63, 64, 65, 66, 67, 68, 69, 70, 71, 72, 73, 74, 75, 76, 77] (by decide +kernel) (by decide +kernel)
set_option maxRecDepth 20000 in
theorem gX9_workTeam_X2_workFor : GoodIn wsX9_workTeam (wsV RX9 261 RX2 yX2_workFor wsX2_workFor) := goodIn_app (goodIn_of _ (by decide +kernel)) ggX9_workTeam_X2_workFor
set_option maxRecDepth 20000 in
theorem ggX9_workTeam_X3_workFor : GoodIn wsX9_workTeam wsX3_workFor := goodIn_r _ [32, 33, 34, 35, 36, 37, 18, 19, 20, 21, 22, 63, 64, 65, 66, 67, 68, 69, 70, 71, 72, 73, 74, 75, 76, 77] (by decide +kernel) (by decide +kernel)
set_option maxRecDepth 20000 in
theorem gX9_workTeam_X3_workFor_u261X3 : GoodIn wsX9_workTeam (va_wsO RX9 261 RX3 "RidingYard$Horse" ⟨"RidingYard$Horse", "workFor", "(I)I"⟩ yX3_workFor wsX3_workFor) := goodIn_app (goodIn_of _ (by decide +kernel)) ggX9_workTeam_X3_workFor
set_option maxRecDepth 20000 in
theorem ggX9_workTeam_X9_comeTo : GoodIn wsX9_workTeam wsX9_comeTo := goodIn_r _ [41, 42, 47, 48, 49, 50, 51, 52, 53, 54, 55, 56, 57, 58, 59, 60, 61, 62] (by decide +kernel) (by decide +kernel)
set_option maxRecDepth 20000 in
theorem gX9_workTeam_X9_comeTo : GoodIn wsX9_workTeam (wsV RX9 231 RX9 yX9_comeTo wsX9_comeTo) := goodIn_app (goodIn_of _ (by decide +kernel)) ggX9_workTeam_X9_comeTo
theorem dX9_workTeam_0 : decode cX9_workTeam 0 = .ok (.aload_n 0, 1) := by decide +kernel
theorem dX9_workTeam_1 : decode cX9_workTeam 1 = .ok (.iload_n 1, 1) := by decide +kernel
theorem dX9_workTeam_2 : decode cX9_workTeam 2 = .ok (.invokevirtual 244, 3) := by decide +kernel
theorem dX9_workTeam_5 : decode cX9_workTeam 5 = .ok (.astore_n 3, 1) := by decide +kernel
theorem dX9_workTeam_6 : decode cX9_workTeam 6 = .ok (.aload_n 3, 1) := by decide +kernel
theorem dX9_workTeam_7 : decode cX9_workTeam 7 = .ok (.getfield 163, 3) := by decide +kernel
theorem dX9_workTeam_10 : decode cX9_workTeam 10 = .ok (.ifCond .ne 5, 3) := by decide +kernel
theorem dX9_workTeam_13 : decode cX9_workTeam 13 = .ok (.iconst 1, 1) := by decide +kernel
theorem dX9_workTeam_14 : decode cX9_workTeam 14 = .ok (.ireturn, 1) := by decide +kernel
theorem dX9_workTeam_15 : decode cX9_workTeam 15 = .ok (.iconst 0, 1) := by decide +kernel
theorem dX9_workTeam_16 : decode cX9_workTeam 16 = .ok (.istore 4, 2) := by decide +kernel
theorem dX9_workTeam_18 : decode cX9_workTeam 18 = .ok (.iconst 0, 1) := by decide +kernel
theorem dX9_workTeam_19 : decode cX9_workTeam 19 = .ok (.istore 5, 2) := by decide +kernel
theorem dX9_workTeam_21 : decode cX9_workTeam 21 = .ok (.iload 5, 2) := by decide +kernel
end
section
theorem dX9_workTeam_23 : decode cX9_workTeam 23 = .ok (.aload_n 3, 1) := by decide +kernel
theorem dX9_workTeam_24 : decode cX9_workTeam 24 = .ok (.getfield 251, 3) := by decide +kernel
theorem dX9_workTeam_27 : decode cX9_workTeam 27 = .ok (.if_icmp .ge 33, 3) := by decide +kernel
theorem dX9_workTeam_30 : decode cX9_workTeam 30 = .ok (.aload_n 3, 1) := by decide +kernel
theorem dX9_workTeam_31 : decode cX9_workTeam 31 = .ok (.getfield 258, 3) := by decide +kernel
theorem dX9_workTeam_34 : decode cX9_workTeam 34 = .ok (.iload 5, 2) := by decide +kernel
theorem dX9_workTeam_36 : decode cX9_workTeam 36 = .ok (.aaload, 1) := by decide +kernel
theorem dX9_workTeam_37 : decode cX9_workTeam 37 = .ok (.astore 6, 2) := by decide +kernel
theorem dX9_workTeam_39 : decode cX9_workTeam 39 = .ok (.aload 6, 2) := by decide +kernel
theorem dX9_workTeam_41 : decode cX9_workTeam 41 = .ok (.ifnonnull 5, 3) := by decide +kernel
theorem dX9_workTeam_44 : decode cX9_workTeam 44 = .ok (.iconst 1, 1) := by decide +kernel
theorem dX9_workTeam_45 : decode cX9_workTeam 45 = .ok (.ireturn, 1) := by decide +kernel
theorem dX9_workTeam_46 : decode cX9_workTeam 46 = .ok (.aload 6, 2) := by decide +kernel
theorem dX9_workTeam_48 : decode cX9_workTeam 48 = .ok (.iload_n 2, 1) := by decide +kernel
theorem dX9_workTeam_49 : decode cX9_workTeam 49 = .ok (.invokevirtual 261, 3) := by decide +kernel
theorem dX9_workTeam_52 : decode cX9_workTeam 52 = .ok (.istore 4, 2) := by decide +kernel
theorem dX9_workTeam_54 : decode cX9_workTeam 54 = .ok (.iinc 5 1, 3) := by decide +kernel
theorem dX9_workTeam_57 : decode cX9_workTeam 57 = .ok (.goto (-36), 3) := by decide +kernel
theorem dX9_workTeam_60 : decode cX9_workTeam 60 = .ok (.aload_n 0, 1) := by decide +kernel
theorem dX9_workTeam_61 : decode cX9_workTeam 61 = .ok (.iload 4, 2) := by decide +kernel
theorem dX9_workTeam_63 : decode cX9_workTeam 63 = .ok (.invokevirtual 231, 3) := by decide +kernel
theorem dX9_workTeam_66 : decode cX9_workTeam 66 = .ok (.ireturn, 1) := by decide +kernel
set_option maxRecDepth 20000 in
theorem ggX9_openLedger_X9_ledgerAt : GoodIn wsX9_openLedger wsX9_ledgerAt := goodIn_r _ [9, 10, 11, 12, 13, 14, 32, 33, 34, 35, 36, 37, 38, 39, 40, 41, 42, 43, 44, 45, 46, 47] (by decide +kernel) (by decide +kernel)
set_option maxRecDepth 20000 in
theorem gX9_openLedger_X9_ledgerAt : GoodIn wsX9_openLedger (wsV RX9 262 RX9 yX9_ledgerAt wsX9_ledgerAt) := goodIn_app (goodIn_of _ (by decide +kernel)) ggX9_openLedger_X9_ledgerAt
set_option maxRecDepth 20000 in
theorem ggX9_openLedger_X4_open : GoodIn wsX9_openLedger wsX4_open := goodIn_r _ [19, 20, 21, 22, 23, 24, 25, 26, 48, 49, 50] (by decide +kernel) (by decide +kernel)
set_option maxRecDepth 20000 in
theorem gX9_openLedger_X4_open : GoodIn wsX9_openLedger (wsV RX9 266 RX4 yX4_open wsX4_open) := goodIn_app (goodIn_of _ (by decide +kernel)) ggX9_openLedger_X4_open
set_option maxRecDepth 20000 in
theorem ggX9_openLedger_X9_comeTo : GoodIn wsX9_openLedger wsX9_comeTo := goodIn_r _ [30, 31, 32, 33, 34, 35, 36, 37, 38, 39, 40, 41, 42, 43, 44, 45, 46, 47] (by decide +kernel) (by decide +kernel)
set_option maxRecDepth 20000 in
theorem gX9_openLedger_X9_comeTo : GoodIn wsX9_openLedger (wsV RX9 231 RX9 yX9_comeTo wsX9_comeTo) := goodIn_app (goodIn_of _ (by decide +kernel)) ggX9_openLedger_X9_comeTo
theorem dX9_openLedger_0 : decode cX9_openLedger 0 = .ok (.iload_n 2, 1) := by decide +kernel
theorem dX9_openLedger_1 : decode cX9_openLedger 1 = .ok (.ifCond .ge 5, 3) := by decide +kernel
theorem dX9_openLedger_4 : decode cX9_openLedger 4 = .ok (.iconst 2, 1) := by decide +kernel
theorem dX9_openLedger_5 : decode cX9_openLedger 5 = .ok (.ireturn, 1) := by decide +kernel
theorem dX9_openLedger_6 : decode cX9_openLedger 6 = .ok (.iload_n 2, 1) := by decide +kernel
theorem dX9_openLedger_7 : decode cX9_openLedger 7 = .ok (.bipush 12, 2) := by decide +kernel
theorem dX9_openLedger_9 : decode cX9_openLedger 9 = .ok (.invokestatic 130, 3) := by decide +kernel
theorem dX9_openLedger_12 : decode cX9_openLedger 12 = .ok (.istore_n 3, 1) := by decide +kernel
theorem dX9_openLedger_13 : decode cX9_openLedger 13 = .ok (.aload_n 0, 1) := by decide +kernel
theorem dX9_openLedger_14 : decode cX9_openLedger 14 = .ok (.iload_n 1, 1) := by decide +kernel
theorem dX9_openLedger_15 : decode cX9_openLedger 15 = .ok (.invokevirtual 262, 3) := by decide +kernel
theorem dX9_openLedger_18 : decode cX9_openLedger 18 = .ok (.iload_n 3, 1) := by decide +kernel
theorem dX9_openLedger_19 : decode cX9_openLedger 19 = .ok (.invokevirtual 266, 3) := by decide +kernel
theorem dX9_openLedger_22 : decode cX9_openLedger 22 = .ok (.aload_n 0, 1) := by decide +kernel
theorem dX9_openLedger_23 : decode cX9_openLedger 23 = .ok (.iload_n 3, 1) := by decide +kernel
theorem dX9_openLedger_24 : decode cX9_openLedger 24 = .ok (.invokevirtual 231, 3) := by decide +kernel
theorem dX9_openLedger_27 : decode cX9_openLedger 27 = .ok (.ireturn, 1) := by decide +kernel
set_option maxRecDepth 20000 in
theorem ggX9_addInLedger_X9_ledgerAt : GoodIn wsX9_addInLedger wsX9_ledgerAt := goodIn_r _ [8, 9, 10, 11, 12, 13, 25, 26, 27, 28, 29, 30, 31, 32, 33, 34, 35, 36, 37, 38, 39, 40] (by decide +kernel) (by decide +kernel)
set_option maxRecDepth 20000 in
theorem gX9_addInLedger_X9_ledgerAt : GoodIn wsX9_addInLedger (wsV RX9 262 RX9 yX9_ledgerAt wsX9_ledgerAt) := goodIn_app (goodIn_of _ (by decide +kernel)) ggX9_addInLedger_X9_ledgerAt
set_option maxRecDepth 20000 in
theorem ggX9_addInLedger_X9_within : GoodIn wsX9_addInLedger wsX9_within := goodIn_r _ [16] (by decide +kernel) (by decide +kernel)
set_option maxRecDepth 20000 in
theorem gX9_addInLedger_X9_within : GoodIn wsX9_addInLedger (va_wsS RX9 63 yX9_within wsX9_within) := goodIn_app (goodIn_of _ (by decide +kernel)) ggX9_addInLedger_X9_within
set_option maxRecDepth 20000 in
theorem ggX9_addInLedger_X9_comeTo : GoodIn wsX9_addInLedger wsX9_comeTo := goodIn_r _ [20, 21, 25, 26, 27, 28, 29, 30, 31, 32, 33, 34, 35, 36, 37, 38, 39, 40] (by decide +kernel) (by decide +kernel)
set_option maxRecDepth 20000 in
theorem gX9_addInLedger_X9_comeTo : GoodIn wsX9_addInLedger (wsV RX9 231 RX9 yX9_comeTo wsX9_comeTo) := goodIn_app (goodIn_of _ (by decide +kernel)) ggX9_addInLedger_X9_comeTo
theorem dX9_addInLedger_0 : decode cX9_addInLedger 0 = .ok (.aload_n 0, 1) := by decide +kernel
theorem dX9_addInLedger_1 : decode cX9_addInLedger 1 = .ok (.iload_n 1, 1) := by decide +kernel
theorem dX9_addInLedger_2 : decode cX9_addInLedger 2 = .ok (.invokevirtual 262, 3) := by decide +kernel
theorem dX9_addInLedger_5 : decode cX9_addInLedger 5 = .ok (.astore 4, 2) := by decide +kernel
theorem dX9_addInLedger_7 : decode cX9_addInLedger 7 = .ok (.aload 4, 2) := by decide +kernel
theorem dX9_addInLedger_9 : decode cX9_addInLedger 9 = .ok (.getfield 164, 3) := by decide +kernel
theorem dX9_addInLedger_12 : decode cX9_addInLedger 12 = .ok (.ifCond .ne 5, 3) := by decide +kernel
theorem dX9_addInLedger_15 : decode cX9_addInLedger 15 = .ok (.iconst 1, 1) := by decide +kernel
theorem dX9_addInLedger_16 : decode cX9_addInLedger 16 = .ok (.ireturn, 1) := by decide +kernel
theorem dX9_addInLedger_17 : decode cX9_addInLedger 17 = .ok (.iload_n 2, 1) := by decide +kernel
theorem dX9_addInLedger_18 : decode cX9_addInLedger 18 = .ok (.aload 4, 2) := by decide +kernel
theorem dX9_addInLedger_20 : decode cX9_addInLedger 20 = .ok (.getfield 269, 3) := by decide +kernel
theorem dX9_addInLedger_23 : decode cX9_addInLedger 23 = .ok (.invokestatic 63, 3) := by decide +kernel
theorem dX9_addInLedger_26 : decode cX9_addInLedger 26 = .ok (.ifCond .ne 5, 3) := by decide +kernel
theorem dX9_addInLedger_29 : decode cX9_addInLedger 29 = .ok (.iconst 5, 1) := by decide +kernel
theorem dX9_addInLedger_30 : decode cX9_addInLedger 30 = .ok (.ireturn, 1) := by decide +kernel
theorem dX9_addInLedger_31 : decode cX9_addInLedger 31 = .ok (.aload 4, 2) := by decide +kernel
theorem dX9_addInLedger_33 : decode cX9_addInLedger 33 = .ok (.getfield 270, 3) := by decide +kernel
theorem dX9_addInLedger_36 : decode cX9_addInLedger 36 = .ok (.iload_n 2, 1) := by decide +kernel
theorem dX9_addInLedger_37 : decode cX9_addInLedger 37 = .ok (.dup2, 1) := by decide +kernel
theorem dX9_addInLedger_38 : decode cX9_addInLedger 38 = .ok (.iaload, 1) := by decide +kernel
theorem dX9_addInLedger_39 : decode cX9_addInLedger 39 = .ok (.iload_n 3, 1) := by decide +kernel
theorem dX9_addInLedger_40 : decode cX9_addInLedger 40 = .ok (.iadd, 1) := by decide +kernel
theorem dX9_addInLedger_41 : decode cX9_addInLedger 41 = .ok (.iastore, 1) := by decide +kernel
theorem dX9_addInLedger_42 : decode cX9_addInLedger 42 = .ok (.aload_n 0, 1) := by decide +kernel
theorem dX9_addInLedger_43 : decode cX9_addInLedger 43 = .ok (.aload 4, 2) := by decide +kernel
theorem dX9_addInLedger_45 : decode cX9_addInLedger 45 = .ok (.getfield 270, 3) := by decide +kernel
theorem dX9_addInLedger_48 : decode cX9_addInLedger 48 = .ok (.iload_n 2, 1) := by decide +kernel
theorem dX9_addInLedger_49 : decode cX9_addInLedger 49 = .ok (.iaload, 1) := by decide +kernel
theorem dX9_addInLedger_50 : decode cX9_addInLedger 50 = .ok (.invokevirtual 231, 3) := by decide +kernel
theorem dX9_addInLedger_53 : decode cX9_addInLedger 53 = .ok (.ireturn, 1) := by decide +kernel
set_option maxRecDepth 20000 in
theorem ggX9_sumLedger_X9_ledgerAt : GoodIn wsX9_sumLedger wsX9_ledgerAt := goodIn_r _ [6, 7, 8, 9, 10, 11, 27, 28, 29, 30, 31, 32, 33, 34, 35, 36, 37, 38, 39, 40, 41, 42] (by decide +kernel) (by decide +kernel)
set_option maxRecDepth 20000 in
theorem gX9_sumLedger_X9_ledgerAt : GoodIn wsX9_sumLedger (wsV RX9 262 RX9 yX9_ledgerAt wsX9_ledgerAt) := goodIn_app (goodIn_of _ (by decide +kernel)) ggX9_sumLedger_X9_ledgerAt
set_option maxRecDepth 20000 in
theorem ggX9_sumLedger_X4_sum : GoodIn wsX9_sumLedger wsX4_sum := goodIn_r _ [16, 17, 18, 24, 25, 26] (by decide +kernel) (by decide +kernel)
set_option maxRecDepth 20000 in
theorem gX9_sumLedger_X4_sum : GoodIn wsX9_sumLedger (wsV RX9 273 RX4 yX4_sum wsX4_sum) := goodIn_app (goodIn_of _ (by decide +kernel)) ggX9_sumLedger_X4_sum
set_option maxRecDepth 20000 in
theorem ggX9_sumLedger_X9_comeTo : GoodIn wsX9_sumLedger wsX9_comeTo := goodIn_r _ [22, 23, 27, 28, 29, 30, 31, 32, 33, 34, 35, 36, 37, 38, 39, 40, 41, 42] (by decide +kernel) (by decide +kernel)
set_option maxRecDepth 20000 in
theorem gX9_sumLedger_X9_comeTo : GoodIn wsX9_sumLedger (wsV RX9 231 RX9 yX9_comeTo wsX9_comeTo) := goodIn_app (goodIn_of _ (by decide +kernel)) ggX9_sumLedger_X9_comeTo
theorem dX9_sumLedger_0 : decode cX9_sumLedger 0 = .ok (.aload_n 0, 1) := by decide +kernel
theorem dX9_sumLedger_1 : decode cX9_sumLedger 1 = .ok (.iload_n 1, 1) := by decide +kernel
theorem dX9_sumLedger_2 : decode cX9_sumLedger 2 = .ok (.invokevirtual 262, 3) := by decide +kernel
theorem dX9_sumLedger_5 : decode cX9_sumLedger 5 = .ok (.astore_n 2, 1) := by decide +kernel
theorem dX9_sumLedger_6 : decode cX9_sumLedger 6 = .ok (.aload_n 2, 1) := by decide +kernel
theorem dX9_sumLedger_7 : decode cX9_sumLedger 7 = .ok (.getfield 164, 3) := by decide +kernel
theorem dX9_sumLedger_10 : decode cX9_sumLedger 10 = .ok (.ifCond .eq 14, 3) := by decide +kernel
theorem dX9_sumLedger_13 : decode cX9_sumLedger 13 = .ok (.aload_n 0, 1) := by decide +kernel
theorem dX9_sumLedger_14 : decode cX9_sumLedger 14 = .ok (.aload_n 2, 1) := by decide +kernel
theorem dX9_sumLedger_15 : decode cX9_sumLedger 15 = .ok (.invokevirtual 273, 3) := by decide +kernel
theorem dX9_sumLedger_18 : decode cX9_sumLedger 18 = .ok (.invokevirtual 231, 3) := by decide +kernel
theorem dX9_sumLedger_21 : decode cX9_sumLedger 21 = .ok (.goto 4, 3) := by decide +kernel
theorem dX9_sumLedger_24 : decode cX9_sumLedger 24 = .ok (.iconst 1, 1) := by decide +kernel
theorem dX9_sumLedger_25 : decode cX9_sumLedger 25 = .ok (.ireturn, 1) := by decide +kernel
set_option maxRecDepth 20000 in
theorem ggX9_setTable_X9_tableAt : GoodIn wsX9_setTable wsX9_tableAt := goodIn_r _ [9, 10, 11, 12, 13, 14, 34, 35, 36, 37, 38, 39, 40, 41, 42, 43, 44, 45, 46, 47, 48, 49] (by decide +kernel) (by decide +kernel)
set_option maxRecDepth 20000 in
theorem gX9_setTable_X9_tableAt : GoodIn wsX9_setTable (wsV RX9 276 RX9 yX9_tableAt wsX9_tableAt) := goodIn_app (goodIn_of _ (by decide +kernel)) ggX9_setTable_X9_tableAt
set_option maxRecDepth 20000 in
theorem ggX9_setTable_X5_set : GoodIn wsX9_setTable wsX5_set := goodIn_r _ [19, 20, 21, 22, 23, 24, 25, 26, 27, 28, 50, 51, 52, 53, 54] (by decide +kernel) (by decide +kernel)
set_option maxRecDepth 20000 in
theorem gX9_setTable_X5_set : GoodIn wsX9_setTable (wsV RX9 280 RX5 yX5_set wsX5_set) := goodIn_app (goodIn_of _ (by decide +kernel)) ggX9_setTable_X5_set
set_option maxRecDepth 20000 in
theorem ggX9_setTable_X9_comeTo : GoodIn wsX9_setTable wsX9_comeTo := goodIn_r _ [32, 33, 34, 35, 36, 37, 38, 39, 40, 41, 42, 43, 44, 45, 46, 47, 48, 49] (by decide +kernel) (by decide +kernel)
set_option maxRecDepth 20000 in
theorem gX9_setTable_X9_comeTo : GoodIn wsX9_setTable (wsV RX9 231 RX9 yX9_comeTo wsX9_comeTo) := goodIn_app (goodIn_of _ (by decide +kernel)) ggX9_setTable_X9_comeTo
theorem dX9_setTable_0 : decode cX9_setTable 0 = .ok (.iload_n 2, 1) := by decide +kernel
theorem dX9_setTable_1 : decode cX9_setTable 1 = .ok (.ifCond .lt 7, 3) := by decide +kernel
theorem dX9_setTable_4 : decode cX9_setTable 4 = .ok (.iload_n 3, 1) := by decide +kernel
theorem dX9_setTable_5 : decode cX9_setTable 5 = .ok (.ifCond .ge 5, 3) := by decide +kernel
theorem dX9_setTable_8 : decode cX9_setTable 8 = .ok (.iconst 2, 1) := by decide +kernel
theorem dX9_setTable_9 : decode cX9_setTable 9 = .ok (.ireturn, 1) := by decide +kernel
theorem dX9_setTable_10 : decode cX9_setTable 10 = .ok (.aload_n 0, 1) := by decide +kernel
theorem dX9_setTable_11 : decode cX9_setTable 11 = .ok (.iload_n 1, 1) := by decide +kernel
theorem dX9_setTable_12 : decode cX9_setTable 12 = .ok (.invokevirtual 276, 3) := by decide +kernel
theorem dX9_setTable_15 : decode cX9_setTable 15 = .ok (.iload_n 2, 1) := by decide +kernel
theorem dX9_setTable_16 : decode cX9_setTable 16 = .ok (.bipush 6, 2) := by decide +kernel
theorem dX9_setTable_18 : decode cX9_setTable 18 = .ok (.invokestatic 130, 3) := by decide +kernel
theorem dX9_setTable_21 : decode cX9_setTable 21 = .ok (.iload_n 3, 1) := by decide +kernel
theorem dX9_setTable_22 : decode cX9_setTable 22 = .ok (.bipush 6, 2) := by decide +kernel
theorem dX9_setTable_24 : decode cX9_setTable 24 = .ok (.invokestatic 130, 3) := by decide +kernel
theorem dX9_setTable_27 : decode cX9_setTable 27 = .ok (.invokevirtual 280, 3) := by decide +kernel
theorem dX9_setTable_30 : decode cX9_setTable 30 = .ok (.aload_n 0, 1) := by decide +kernel
theorem dX9_setTable_31 : decode cX9_setTable 31 = .ok (.iconst 1, 1) := by decide +kernel
theorem dX9_setTable_32 : decode cX9_setTable 32 = .ok (.invokevirtual 231, 3) := by decide +kernel
theorem dX9_setTable_35 : decode cX9_setTable 35 = .ok (.ireturn, 1) := by decide +kernel
set_option maxRecDepth 20000 in
theorem ggX9_markTable_X9_tableAt : GoodIn wsX9_markTable wsX9_tableAt := goodIn_r _ [10, 11, 12, 13, 14, 15, 29, 30, 31, 32, 33, 34, 35, 36, 37, 38, 39, 40, 41, 42, 43, 44] (by decide +kernel) (by decide +kernel)
set_option maxRecDepth 20000 in
theorem gX9_markTable_X9_tableAt : GoodIn wsX9_markTable (wsV RX9 276 RX9 yX9_tableAt wsX9_tableAt) := goodIn_app (goodIn_of _ (by decide +kernel)) ggX9_markTable_X9_tableAt
set_option maxRecDepth 20000 in
theorem ggX9_markTable_X9_within : GoodIn wsX9_markTable wsX9_within := goodIn_r _ [18] (by decide +kernel) (by decide +kernel)
set_option maxRecDepth 20000 in
theorem gX9_markTable_X9_within : GoodIn wsX9_markTable (va_wsS RX9 63 yX9_within wsX9_within) := goodIn_app (goodIn_of _ (by decide +kernel)) ggX9_markTable_X9_within
set_option maxRecDepth 20000 in
theorem ggX9_markTable_X9_comeTo : GoodIn wsX9_markTable wsX9_comeTo := goodIn_r _ [22, 23, 29, 30, 31, 32, 33, 34, 35, 36, 37, 38, 39, 40, 41, 42, 43, 44] (by decide +kernel) (by decide +kernel)
set_option maxRecDepth 20000 in
theorem gX9_markTable_X9_comeTo : GoodIn wsX9_markTable (wsV RX9 231 RX9 yX9_comeTo wsX9_comeTo) := goodIn_app (goodIn_of _ (by decide +kernel)) ggX9_markTable_X9_comeTo
theorem dX9_markTable_0 : decode cX9_markTable 0 = .ok (.aload_n 0, 1) := by decide +kernel
theorem dX9_markTable_1 : decode cX9_markTable 1 = .ok (.iload_n 1, 1) := by decide +kernel
theorem dX9_markTable_2 : decode cX9_markTable 2 = .ok (.invokevirtual 276, 3) := by decide +kernel
theorem dX9_markTable_5 : decode cX9_markTable 5 = .ok (.astore 4, 2) := by decide +kernel
theorem dX9_markTable_7 : decode cX9_markTable 7 = .ok (.aload 4, 2) := by decide +kernel
theorem dX9_markTable_9 : decode cX9_markTable 9 = .ok (.getfield 99, 3) := by decide +kernel
theorem dX9_markTable_12 : decode cX9_markTable 12 = .ok (.ifCond .ne 5, 3) := by decide +kernel
theorem dX9_markTable_15 : decode cX9_markTable 15 = .ok (.iconst 1, 1) := by decide +kernel
theorem dX9_markTable_16 : decode cX9_markTable 16 = .ok (.ireturn, 1) := by decide +kernel
theorem dX9_markTable_17 : decode cX9_markTable 17 = .ok (.iload_n 2, 1) := by decide +kernel
theorem dX9_markTable_18 : decode cX9_markTable 18 = .ok (.aload 4, 2) := by decide +kernel
theorem dX9_markTable_20 : decode cX9_markTable 20 = .ok (.getfield 103, 3) := by decide +kernel
theorem dX9_markTable_23 : decode cX9_markTable 23 = .ok (.invokestatic 63, 3) := by decide +kernel
theorem dX9_markTable_26 : decode cX9_markTable 26 = .ok (.ifCond .ne 5, 3) := by decide +kernel
theorem dX9_markTable_29 : decode cX9_markTable 29 = .ok (.iconst 5, 1) := by decide +kernel
theorem dX9_markTable_30 : decode cX9_markTable 30 = .ok (.ireturn, 1) := by decide +kernel
theorem dX9_markTable_31 : decode cX9_markTable 31 = .ok (.aload 4, 2) := by decide +kernel
theorem dX9_markTable_33 : decode cX9_markTable 33 = .ok (.getfield 106, 3) := by decide +kernel
theorem dX9_markTable_36 : decode cX9_markTable 36 = .ok (.iload_n 2, 1) := by decide +kernel
theorem dX9_markTable_37 : decode cX9_markTable 37 = .ok (.baload, 1) := by decide +kernel
theorem dX9_markTable_38 : decode cX9_markTable 38 = .ok (.ifCond .ne 5, 3) := by decide +kernel
theorem dX9_markTable_41 : decode cX9_markTable 41 = .ok (.iconst 1, 1) := by decide +kernel
theorem dX9_markTable_42 : decode cX9_markTable 42 = .ok (.ireturn, 1) := by decide +kernel
theorem dX9_markTable_43 : decode cX9_markTable 43 = .ok (.iload_n 3, 1) := by decide +kernel
theorem dX9_markTable_44 : decode cX9_markTable 44 = .ok (.aload 4, 2) := by decide +kernel
theorem dX9_markTable_46 : decode cX9_markTable 46 = .ok (.getfield 283, 3) := by decide +kernel
theorem dX9_markTable_49 : decode cX9_markTable 49 = .ok (.invokestatic 63, 3) := by decide +kernel
theorem dX9_markTable_52 : decode cX9_markTable 52 = .ok (.ifCond .ne 5, 3) := by decide +kernel
theorem dX9_markTable_55 : decode cX9_markTable 55 = .ok (.iconst 5, 1) := by decide +kernel
theorem dX9_markTable_56 : decode cX9_markTable 56 = .ok (.ireturn, 1) := by decide +kernel
theorem dX9_markTable_57 : decode cX9_markTable 57 = .ok (.aload 4, 2) := by decide +kernel
theorem dX9_markTable_59 : decode cX9_markTable 59 = .ok (.getfield 286, 3) := by decide +kernel
theorem dX9_markTable_62 : decode cX9_markTable 62 = .ok (.iload_n 2, 1) := by decide +kernel
theorem dX9_markTable_63 : decode cX9_markTable 63 = .ok (.aaload, 1) := by decide +kernel
theorem dX9_markTable_64 : decode cX9_markTable 64 = .ok (.iload_n 3, 1) := by decide +kernel
theorem dX9_markTable_65 : decode cX9_markTable 65 = .ok (.dup2, 1) := by decide +kernel
theorem dX9_markTable_66 : decode cX9_markTable 66 = .ok (.iaload, 1) := by decide +kernel
theorem dX9_markTable_67 : decode cX9_markTable 67 = .ok (.iconst 1, 1) := by decide +kernel
theorem dX9_markTable_68 : decode cX9_markTable 68 = .ok (.iadd, 1) := by decide +kernel
theorem dX9_markTable_69 : decode cX9_markTable 69 = .ok (.iastore, 1) := by decide +kernel
theorem dX9_markTable_70 : decode cX9_markTable 70 = .ok (.aload_n 0, 1) := by decide +kernel
theorem dX9_markTable_71 : decode cX9_markTable 71 = .ok (.aload 4, 2) := by decide +kernel
theorem dX9_markTable_73 : decode cX9_markTable 73 = .ok (.getfield 286, 3) := by decide +kernel
theorem dX9_markTable_76 : decode cX9_markTable 76 = .ok (.iload_n 2, 1) := by decide +kernel
theorem dX9_markTable_77 : decode cX9_markTable 77 = .ok (.aaload, 1) := by decide +kernel
theorem dX9_markTable_78 : decode cX9_markTable 78 = .ok (.iload_n 3, 1) := by decide +kernel
theorem dX9_markTable_79 : decode cX9_markTable 79 = .ok (.iaload, 1) := by decide +kernel
theorem dX9_markTable_80 : decode cX9_markTable 80 = .ok (.invokevirtual 231, 3) := by decide +kernel
theorem dX9_markTable_83 : decode cX9_markTable 83 = .ok (.ireturn, 1) := by decide +kernel
set_option maxRecDepth 20000 in
theorem ggX9_raiseAlarm_J9_floorMod_7cf53 : GoodIn wsX9_raiseAlarm wsJ9_floorMod_7cf53 := goodIn_r _ [7] (by decide +kernel) (by decide +kernel)
set_option maxRecDepth 20000 in
theorem gX9_raiseAlarm_J9_floorMod_7cf53 : GoodIn wsX9_raiseAlarm (va_wsS RX9 224 yJ9_floorMod_7cf53 wsJ9_floorMod_7cf53) := goodIn_app (goodIn_of _ (by decide +kernel)) ggX9_raiseAlarm_J9_floorMod_7cf53
theorem dX9_raiseAlarm_0 : decode cX9_raiseAlarm 0 = .ok (.aload_n 0, 1) := by decide +kernel
theorem dX9_raiseAlarm_1 : decode cX9_raiseAlarm 1 = .ok (.getfield 41, 3) := by decide +kernel
theorem dX9_raiseAlarm_4 : decode cX9_raiseAlarm 4 = .ok (.iload_n 1, 1) := by decide +kernel
theorem dX9_raiseAlarm_5 : decode cX9_raiseAlarm 5 = .ok (.bipush 6, 2) := by decide +kernel
theorem dX9_raiseAlarm_7 : decode cX9_raiseAlarm 7 = .ok (.invokestatic 224, 3) := by decide +kernel
theorem dX9_raiseAlarm_10 : decode cX9_raiseAlarm 10 = .ok (.aaload, 1) := by decide +kernel
theorem dX9_raiseAlarm_11 : decode cX9_raiseAlarm 11 = .ok (.astore_n 2, 1) := by decide +kernel
theorem dX9_raiseAlarm_12 : decode cX9_raiseAlarm 12 = .ok (.aload_n 2, 1) := by decide +kernel
theorem dX9_raiseAlarm_13 : decode cX9_raiseAlarm 13 = .ok (.ifnonnull 5, 3) := by decide +kernel
theorem dX9_raiseAlarm_16 : decode cX9_raiseAlarm 16 = .ok (.iconst 1, 1) := by decide +kernel
theorem dX9_raiseAlarm_17 : decode cX9_raiseAlarm 17 = .ok (.ireturn, 1) := by decide +kernel
theorem dX9_raiseAlarm_18 : decode cX9_raiseAlarm 18 = .ok (.aload_n 0, 1) := by decide +kernel
theorem dX9_raiseAlarm_19 : decode cX9_raiseAlarm 19 = .ok (.aload_n 2, 1) := by decide +kernel
theorem dX9_raiseAlarm_20 : decode cX9_raiseAlarm 20 = .ok (.getfield 289, 3) := by decide +kernel
theorem dX9_raiseAlarm_23 : decode cX9_raiseAlarm 23 = .ok (.putfield 118, 3) := by decide +kernel
theorem dX9_raiseAlarm_26 : decode cX9_raiseAlarm 26 = .ok (.bipush 6, 2) := by decide +kernel
theorem dX9_raiseAlarm_28 : decode cX9_raiseAlarm 28 = .ok (.ireturn, 1) := by decide +kernel
theorem dX10_init_0 : decode cX10_init 0 = .ok (.aload_n 0, 1) := by decide +kernel
theorem dX10_init_1 : decode cX10_init 1 = .ok (.invokespecial 1, 3) := by decide +kernel
theorem dX10_init_4 : decode cX10_init 4 = .ok (.aload_n 0, 1) := by decide +kernel
theorem dX10_init_5 : decode cX10_init 5 = .ok (.bipush 60, 2) := by decide +kernel
theorem dX10_init_7 : decode cX10_init 7 = .ok (.newarray .int, 2) := by decide +kernel
theorem dX10_init_9 : decode cX10_init 9 = .ok (.putfield 7, 3) := by decide +kernel
theorem dX10_init_12 : decode cX10_init 12 = .ok (.aload_n 0, 1) := by decide +kernel
theorem dX10_init_13 : decode cX10_init 13 = .ok (.bipush 60, 2) := by decide +kernel
theorem dX10_init_15 : decode cX10_init 15 = .ok (.newarray .int, 2) := by decide +kernel
theorem dX10_init_17 : decode cX10_init 17 = .ok (.putfield 13, 3) := by decide +kernel
theorem dX10_init_20 : decode cX10_init 20 = .ok (.aload_n 0, 1) := by decide +kernel
theorem dX10_init_21 : decode cX10_init 21 = .ok (.bipush 60, 2) := by decide +kernel
theorem dX10_init_23 : decode cX10_init 23 = .ok (.newarray .int, 2) := by decide +kernel
theorem dX10_init_25 : decode cX10_init 25 = .ok (.putfield 16, 3) := by decide +kernel
theorem dX10_init_28 : decode cX10_init 28 = .ok (.aload_n 0, 1) := by decide +kernel
theorem dX10_init_29 : decode cX10_init 29 = .ok (.bipush 60, 2) := by decide +kernel
theorem dX10_init_31 : decode cX10_init 31 = .ok (.newarray .int, 2) := by decide +kernel
theorem dX10_init_33 : decode cX10_init 33 = .ok (.putfield 19, 3) := by decide +kernel
theorem dX10_init_36 : decode cX10_init 36 = .ok (.aload_n 0, 1) := by decide +kernel
theorem dX10_init_37 : decode cX10_init 37 = .ok (.bipush 60, 2) := by decide +kernel
theorem dX10_init_39 : decode cX10_init 39 = .ok (.newarray .int, 2) := by decide +kernel
theorem dX10_init_41 : decode cX10_init 41 = .ok (.putfield 22, 3) := by decide +kernel
theorem dX10_init_44 : decode cX10_init 44 = .ok (.aload_n 0, 1) := by decide +kernel
theorem dX10_init_45 : decode cX10_init 45 = .ok (.bipush 60, 2) := by decide +kernel
theorem dX10_init_47 : decode cX10_init 47 = .ok (.newarray .int, 2) := by decide +kernel
theorem dX10_init_49 : decode cX10_init 49 = .ok (.putfield 25, 3) := by decide +kernel
theorem dX10_init_52 : decode cX10_init 52 = .ok (.aload_n 0, 1) := by decide +kernel
theorem dX10_init_53 : decode cX10_init 53 = .ok (.bipush 60, 2) := by decide +kernel
theorem dX10_init_55 : decode cX10_init 55 = .ok (.newarray .int, 2) := by decide +kernel
theorem dX10_init_57 : decode cX10_init 57 = .ok (.putfield 28, 3) := by decide +kernel
theorem dX10_init_60 : decode cX10_init 60 = .ok (.aload_n 0, 1) := by decide +kernel
theorem dX10_init_61 : decode cX10_init 61 = .ok (.bipush 60, 2) := by decide +kernel
theorem dX10_init_63 : decode cX10_init 63 = .ok (.newarray .int, 2) := by decide +kernel
theorem dX10_init_65 : decode cX10_init 65 = .ok (.putfield 31, 3) := by decide +kernel
theorem dX10_init_68 : decode cX10_init 68 = .ok (.aload_n 0, 1) := by decide +kernel
theorem dX10_init_69 : decode cX10_init 69 = .ok (.bipush 10, 2) := by decide +kernel
theorem dX10_init_71 : decode cX10_init 71 = .ok (.newarray .int, 2) := by decide +kernel
theorem dX10_init_73 : decode cX10_init 73 = .ok (.putfield 34, 3) := by decide +kernel
theorem dX10_init_76 : decode cX10_init 76 = .ok (.aload_n 0, 1) := by decide +kernel
theorem dX10_init_77 : decode cX10_init 77 = .ok (.bipush 6, 2) := by decide +kernel
theorem dX10_init_79 : decode cX10_init 79 = .ok (.newarray .int, 2) := by decide +kernel
theorem dX10_init_81 : decode cX10_init 81 = .ok (.putfield 37, 3) := by decide +kernel
theorem dX10_init_84 : decode cX10_init 84 = .ok (.aload_n 0, 1) := by decide +kernel
theorem dX10_init_85 : decode cX10_init 85 = .ok (.bipush 6, 2) := by decide +kernel
theorem dX10_init_87 : decode cX10_init 87 = .ok (.newarray .int, 2) := by decide +kernel
theorem dX10_init_89 : decode cX10_init 89 = .ok (.putfield 40, 3) := by decide +kernel
theorem dX10_init_92 : decode cX10_init 92 = .ok (.aload_n 0, 1) := by decide +kernel
theorem dX10_init_93 : decode cX10_init 93 = .ok (.bipush 6, 2) := by decide +kernel
theorem dX10_init_95 : decode cX10_init 95 = .ok (.newarray .int, 2) := by decide +kernel
theorem dX10_init_97 : decode cX10_init 97 = .ok (.putfield 43, 3) := by decide +kernel
theorem dX10_init_100 : decode cX10_init 100 = .ok (.aload_n 0, 1) := by decide +kernel
theorem dX10_init_101 : decode cX10_init 101 = .ok (.bipush 48, 2) := by decide +kernel
theorem dX10_init_103 : decode cX10_init 103 = .ok (.newarray .int, 2) := by decide +kernel
theorem dX10_init_105 : decode cX10_init 105 = .ok (.putfield 46, 3) := by decide +kernel
theorem dX10_init_108 : decode cX10_init 108 = .ok (.aload_n 0, 1) := by decide +kernel
theorem dX10_init_109 : decode cX10_init 109 = .ok (.iconst 4, 1) := by decide +kernel
theorem dX10_init_110 : decode cX10_init 110 = .ok (.newarray .int, 2) := by decide +kernel
theorem dX10_init_112 : decode cX10_init 112 = .ok (.putfield 49, 3) := by decide +kernel
theorem dX10_init_115 : decode cX10_init 115 = .ok (.aload_n 0, 1) := by decide +kernel
theorem dX10_init_116 : decode cX10_init 116 = .ok (.bipush 48, 2) := by decide +kernel
theorem dX10_init_118 : decode cX10_init 118 = .ok (.newarray .int, 2) := by decide +kernel
theorem dX10_init_120 : decode cX10_init 120 = .ok (.putfield 52, 3) := by decide +kernel
theorem dX10_init_123 : decode cX10_init 123 = .ok (.aload_n 0, 1) := by decide +kernel
theorem dX10_init_124 : decode cX10_init 124 = .ok (.iconst 4, 1) := by decide +kernel
theorem dX10_init_125 : decode cX10_init 125 = .ok (.newarray .int, 2) := by decide +kernel
theorem dX10_init_127 : decode cX10_init 127 = .ok (.putfield 55, 3) := by decide +kernel
theorem dX10_init_130 : decode cX10_init 130 = .ok (.aload_n 0, 1) := by decide +kernel
theorem dX10_init_131 : decode cX10_init 131 = .ok (.iconst 4, 1) := by decide +kernel
theorem dX10_init_132 : decode cX10_init 132 = .ok (.newarray .int, 2) := by decide +kernel
theorem dX10_init_134 : decode cX10_init 134 = .ok (.putfield 58, 3) := by decide +kernel
theorem dX10_init_137 : decode cX10_init 137 = .ok (.aload_n 0, 1) := by decide +kernel
theorem dX10_init_138 : decode cX10_init 138 = .ok (.bipush 24, 2) := by decide +kernel
theorem dX10_init_140 : decode cX10_init 140 = .ok (.newarray .boolean, 2) := by decide +kernel
theorem dX10_init_142 : decode cX10_init 142 = .ok (.putfield 61, 3) := by decide +kernel
theorem dX10_init_145 : decode cX10_init 145 = .ok (.aload_n 0, 1) := by decide +kernel
theorem dX10_init_146 : decode cX10_init 146 = .ok (.sipush 144, 3) := by decide +kernel
theorem dX10_init_149 : decode cX10_init 149 = .ok (.newarray .int, 2) := by decide +kernel
theorem dX10_init_151 : decode cX10_init 151 = .ok (.putfield 65, 3) := by decide +kernel
theorem dX10_init_154 : decode cX10_init 154 = .ok (.aload_n 0, 1) := by decide +kernel
theorem dX10_init_155 : decode cX10_init 155 = .ok (.bipush 6, 2) := by decide +kernel
theorem dX10_init_157 : decode cX10_init 157 = .ok (.newarray .boolean, 2) := by decide +kernel
theorem dX10_init_159 : decode cX10_init 159 = .ok (.putfield 68, 3) := by decide +kernel
theorem dX10_init_162 : decode cX10_init 162 = .ok (.aload_n 0, 1) := by decide +kernel
theorem dX10_init_163 : decode cX10_init 163 = .ok (.bipush 6, 2) := by decide +kernel
theorem dX10_init_165 : decode cX10_init 165 = .ok (.newarray .int, 2) := by decide +kernel
theorem dX10_init_167 : decode cX10_init 167 = .ok (.putfield 71, 3) := by decide +kernel
theorem dX10_init_170 : decode cX10_init 170 = .ok (.aload_n 0, 1) := by decide +kernel
theorem dX10_init_171 : decode cX10_init 171 = .ok (.bipush 20, 2) := by decide +kernel
theorem dX10_init_173 : decode cX10_init 173 = .ok (.newarray .int, 2) := by decide +kernel
theorem dX10_init_175 : decode cX10_init 175 = .ok (.putfield 74, 3) := by decide +kernel
theorem dX10_init_178 : decode cX10_init 178 = .ok (.aload_n 0, 1) := by decide +kernel
theorem dX10_init_179 : decode cX10_init 179 = .ok (.bipush 20, 2) := by decide +kernel
theorem dX10_init_181 : decode cX10_init 181 = .ok (.newarray .int, 2) := by decide +kernel
theorem dX10_init_183 : decode cX10_init 183 = .ok (.putfield 77, 3) := by decide +kernel
theorem dX10_init_186 : decode cX10_init 186 = .ok (.aload_n 0, 1) := by decide +kernel
theorem dX10_init_187 : decode cX10_init 187 = .ok (.bipush 20, 2) := by decide +kernel
theorem dX10_init_189 : decode cX10_init 189 = .ok (.newarray .int, 2) := by decide +kernel
theorem dX10_init_191 : decode cX10_init 191 = .ok (.putfield 80, 3) := by decide +kernel
theorem dX10_init_194 : decode cX10_init 194 = .ok (.aload_n 0, 1) := by decide +kernel
theorem dX10_init_195 : decode cX10_init 195 = .ok (.bipush 20, 2) := by decide +kernel
theorem dX10_init_197 : decode cX10_init 197 = .ok (.newarray .int, 2) := by decide +kernel
theorem dX10_init_199 : decode cX10_init 199 = .ok (.putfield 83, 3) := by decide +kernel
theorem dX10_init_202 : decode cX10_init 202 = .ok (.aload_n 0, 1) := by decide +kernel
theorem dX10_init_203 : decode cX10_init 203 = .ok (.bipush 40, 2) := by decide +kernel
theorem dX10_init_205 : decode cX10_init 205 = .ok (.newarray .int, 2) := by decide +kernel
theorem dX10_init_207 : decode cX10_init 207 = .ok (.putfield 86, 3) := by decide +kernel
theorem dX10_init_210 : decode cX10_init 210 = .ok (.aload_n 0, 1) := by decide +kernel
theorem dX10_init_211 : decode cX10_init 211 = .ok (.bipush 40, 2) := by decide +kernel
theorem dX10_init_213 : decode cX10_init 213 = .ok (.newarray .int, 2) := by decide +kernel
theorem dX10_init_215 : decode cX10_init 215 = .ok (.putfield 89, 3) := by decide +kernel
theorem dX10_init_218 : decode cX10_init 218 = .ok (.aload_n 0, 1) := by decide +kernel
theorem dX10_init_219 : decode cX10_init 219 = .ok (.bipush 7, 2) := by decide +kernel
theorem dX10_init_221 : decode cX10_init 221 = .ok (.newarray .int, 2) := by decide +kernel
theorem dX10_init_223 : decode cX10_init 223 = .ok (.putfield 92, 3) := by decide +kernel
theorem dX10_init_226 : decode cX10_init 226 = .ok (.iconst 0, 1) := by decide +kernel
theorem dX10_init_227 : decode cX10_init 227 = .ok (.istore_n 1, 1) := by decide +kernel
theorem dX10_init_228 : decode cX10_init 228 = .ok (.iload_n 1, 1) := by decide +kernel
theorem dX10_init_229 : decode cX10_init 229 = .ok (.bipush 10, 2) := by decide +kernel
theorem dX10_init_231 : decode cX10_init 231 = .ok (.if_icmp .ge 16, 3) := by decide +kernel
theorem dX10_init_234 : decode cX10_init 234 = .ok (.aload_n 0, 1) := by decide +kernel
theorem dX10_init_235 : decode cX10_init 235 = .ok (.getfield 34, 3) := by decide +kernel
theorem dX10_init_238 : decode cX10_init 238 = .ok (.iload_n 1, 1) := by decide +kernel
theorem dX10_init_239 : decode cX10_init 239 = .ok (.iconst (-1), 1) := by decide +kernel
theorem dX10_init_240 : decode cX10_init 240 = .ok (.iastore, 1) := by decide +kernel
theorem dX10_init_241 : decode cX10_init 241 = .ok (.iinc 1 1, 3) := by decide +kernel
theorem dX10_init_244 : decode cX10_init 244 = .ok (.goto (-16), 3) := by decide +kernel
theorem dX10_init_247 : decode cX10_init 247 = .ok (.iconst 0, 1) := by decide +kernel
theorem dX10_init_248 : decode cX10_init 248 = .ok (.istore_n 1, 1) := by decide +kernel
theorem dX10_init_249 : decode cX10_init 249 = .ok (.iload_n 1, 1) := by decide +kernel
theorem dX10_init_250 : decode cX10_init 250 = .ok (.bipush 6, 2) := by decide +kernel
theorem dX10_init_252 : decode cX10_init 252 = .ok (.if_icmp .ge 23, 3) := by decide +kernel
theorem dX10_init_255 : decode cX10_init 255 = .ok (.aload_n 0, 1) := by decide +kernel
theorem dX10_init_256 : decode cX10_init 256 = .ok (.getfield 37, 3) := by decide +kernel
theorem dX10_init_259 : decode cX10_init 259 = .ok (.iload_n 1, 1) := by decide +kernel
theorem dX10_init_260 : decode cX10_init 260 = .ok (.iconst (-1), 1) := by decide +kernel
theorem dX10_init_261 : decode cX10_init 261 = .ok (.iastore, 1) := by decide +kernel
theorem dX10_init_262 : decode cX10_init 262 = .ok (.aload_n 0, 1) := by decide +kernel
theorem dX10_init_263 : decode cX10_init 263 = .ok (.getfield 40, 3) := by decide +kernel
theorem dX10_init_266 : decode cX10_init 266 = .ok (.iload_n 1, 1) := by decide +kernel
theorem dX10_init_267 : decode cX10_init 267 = .ok (.iconst (-1), 1) := by decide +kernel
theorem dX10_init_268 : decode cX10_init 268 = .ok (.iastore, 1) := by decide +kernel
theorem dX10_init_269 : decode cX10_init 269 = .ok (.iinc 1 1, 3) := by decide +kernel
theorem dX10_init_272 : decode cX10_init 272 = .ok (.goto (-23), 3) := by decide +kernel
theorem dX10_init_275 : decode cX10_init 275 = .ok (.iconst 0, 1) := by decide +kernel
theorem dX10_init_276 : decode cX10_init 276 = .ok (.istore_n 1, 1) := by decide +kernel
theorem dX10_init_277 : decode cX10_init 277 = .ok (.iload_n 1, 1) := by decide +kernel
theorem dX10_init_278 : decode cX10_init 278 = .ok (.iconst 4, 1) := by decide +kernel
theorem dX10_init_279 : decode cX10_init 279 = .ok (.if_icmp .ge 23, 3) := by decide +kernel
theorem dX10_init_282 : decode cX10_init 282 = .ok (.aload_n 0, 1) := by decide +kernel
theorem dX10_init_283 : decode cX10_init 283 = .ok (.getfield 49, 3) := by decide +kernel
theorem dX10_init_286 : decode cX10_init 286 = .ok (.iload_n 1, 1) := by decide +kernel
theorem dX10_init_287 : decode cX10_init 287 = .ok (.iconst (-1), 1) := by decide +kernel
theorem dX10_init_288 : decode cX10_init 288 = .ok (.iastore, 1) := by decide +kernel
theorem dX10_init_289 : decode cX10_init 289 = .ok (.aload_n 0, 1) := by decide +kernel
theorem dX10_init_290 : decode cX10_init 290 = .ok (.getfield 55, 3) := by decide +kernel
theorem dX10_init_293 : decode cX10_init 293 = .ok (.iload_n 1, 1) := by decide +kernel
theorem dX10_init_294 : decode cX10_init 294 = .ok (.iconst (-1), 1) := by decide +kernel
theorem dX10_init_295 : decode cX10_init 295 = .ok (.iastore, 1) := by decide +kernel
theorem dX10_init_296 : decode cX10_init 296 = .ok (.iinc 1 1, 3) := by decide +kernel
theorem dX10_init_299 : decode cX10_init 299 = .ok (.goto (-22), 3) := by decide +kernel
theorem dX10_init_302 : decode cX10_init 302 = .ok (.return_, 1) := by decide +kernel
theorem dX10_in_0 : decode cX10_in 0 = .ok (.iload_n 0, 1) := by decide +kernel
theorem dX10_in_1 : decode cX10_in 1 = .ok (.iload_n 1, 1) := by decide +kernel
theorem dX10_in_2 : decode cX10_in 2 = .ok (.if_icmp .lt 12, 3) := by decide +kernel
theorem dX10_in_5 : decode cX10_in 5 = .ok (.iload_n 0, 1) := by decide +kernel
theorem dX10_in_6 : decode cX10_in 6 = .ok (.iload_n 2, 1) := by decide +kernel
theorem dX10_in_7 : decode cX10_in 7 = .ok (.if_icmp .gt 7, 3) := by decide +kernel
theorem dX10_in_10 : decode cX10_in 10 = .ok (.iconst 1, 1) := by decide +kernel
theorem dX10_in_11 : decode cX10_in 11 = .ok (.goto 4, 3) := by decide +kernel
theorem dX10_in_14 : decode cX10_in 14 = .ok (.iconst 0, 1) := by decide +kernel
theorem dX10_in_15 : decode cX10_in 15 = .ok (.ireturn, 1) := by decide +kernel
theorem dX10_modulo_0 : decode cX10_modulo 0 = .ok (.iload_n 0, 1) := by decide +kernel
theorem dX10_modulo_1 : decode cX10_modulo 1 = .ok (.iload_n 1, 1) := by decide +kernel
theorem dX10_modulo_2 : decode cX10_modulo 2 = .ok (.irem, 1) := by decide +kernel
theorem dX10_modulo_3 : decode cX10_modulo 3 = .ok (.iload_n 1, 1) := by decide +kernel
theorem dX10_modulo_4 : decode cX10_modulo 4 = .ok (.iadd, 1) := by decide +kernel
theorem dX10_modulo_5 : decode cX10_modulo 5 = .ok (.iload_n 1, 1) := by decide +kernel
theorem dX10_modulo_6 : decode cX10_modulo 6 = .ok (.irem, 1) := by decide +kernel
theorem dX10_modulo_7 : decode cX10_modulo 7 = .ok (.ireturn, 1) := by decide +kernel
theorem dX10_least_0 : decode cX10_least 0 = .ok (.iload_n 0, 1) := by decide +kernel
theorem dX10_least_1 : decode cX10_least 1 = .ok (.iload_n 1, 1) := by decide +kernel
theorem dX10_least_2 : decode cX10_least 2 = .ok (.if_icmp .ge 7, 3) := by decide +kernel
theorem dX10_least_5 : decode cX10_least 5 = .ok (.iload_n 0, 1) := by decide +kernel
theorem dX10_least_6 : decode cX10_least 6 = .ok (.goto 4, 3) := by decide +kernel
theorem dX10_least_9 : decode cX10_least 9 = .ok (.iload_n 1, 1) := by decide +kernel
theorem dX10_least_10 : decode cX10_least 10 = .ok (.ireturn, 1) := by decide +kernel
set_option maxRecDepth 20000 in
theorem ggX10_horse_X10_in : GoodIn wsX10_horse wsX10_in := goodIn_r _ [10] (by decide +kernel) (by decide +kernel)
set_option maxRecDepth 20000 in
theorem gX10_horse_X10_in : GoodIn wsX10_horse (va_wsS RX10 95 yX10_in wsX10_in) := goodIn_app (goodIn_of _ (by decide +kernel)) ggX10_horse_X10_in
theorem dX10_horse_0 : decode cX10_horse 0 = .ok (.iload_n 1, 1) := by decide +kernel
theorem dX10_horse_1 : decode cX10_horse 1 = .ok (.iconst 0, 1) := by decide +kernel
theorem dX10_horse_2 : decode cX10_horse 2 = .ok (.bipush 9, 2) := by decide +kernel
theorem dX10_horse_4 : decode cX10_horse 4 = .ok (.invokestatic 95, 3) := by decide +kernel
theorem dX10_horse_7 : decode cX10_horse 7 = .ok (.ifCond .eq 12, 3) := by decide +kernel
theorem dX10_horse_10 : decode cX10_horse 10 = .ok (.iload_n 2, 1) := by decide +kernel
theorem dX10_horse_11 : decode cX10_horse 11 = .ok (.iconst 0, 1) := by decide +kernel
theorem dX10_horse_12 : decode cX10_horse 12 = .ok (.iconst 2, 1) := by decide +kernel
theorem dX10_horse_13 : decode cX10_horse 13 = .ok (.invokestatic 95, 3) := by decide +kernel
theorem dX10_horse_16 : decode cX10_horse 16 = .ok (.ifCond .ne 6, 3) := by decide +kernel
theorem dX10_horse_19 : decode cX10_horse 19 = .ok (.ldc 99, 2) := by decide +kernel
theorem dX10_horse_21 : decode cX10_horse 21 = .ok (.ireturn, 1) := by decide +kernel
theorem dX10_horse_22 : decode cX10_horse 22 = .ok (.aload_n 0, 1) := by decide +kernel
theorem dX10_horse_23 : decode cX10_horse 23 = .ok (.getfield 100, 3) := by decide +kernel
theorem dX10_horse_26 : decode cX10_horse 26 = .ok (.bipush 60, 2) := by decide +kernel
theorem dX10_horse_28 : decode cX10_horse 28 = .ok (.if_icmp .ne 6, 3) := by decide +kernel
theorem dX10_horse_31 : decode cX10_horse 31 = .ok (.ldc 104, 2) := by decide +kernel
theorem dX10_horse_33 : decode cX10_horse 33 = .ok (.ireturn, 1) := by decide +kernel
theorem dX10_horse_34 : decode cX10_horse 34 = .ok (.aload_n 0, 1) := by decide +kernel
theorem dX10_horse_35 : decode cX10_horse 35 = .ok (.getfield 7, 3) := by decide +kernel
theorem dX10_horse_38 : decode cX10_horse 38 = .ok (.aload_n 0, 1) := by decide +kernel
theorem dX10_horse_39 : decode cX10_horse 39 = .ok (.getfield 100, 3) := by decide +kernel
theorem dX10_horse_42 : decode cX10_horse 42 = .ok (.iload_n 2, 1) := by decide +kernel
theorem dX10_horse_43 : decode cX10_horse 43 = .ok (.iastore, 1) := by decide +kernel
theorem dX10_horse_44 : decode cX10_horse 44 = .ok (.aload_n 0, 1) := by decide +kernel
theorem dX10_horse_45 : decode cX10_horse 45 = .ok (.getfield 13, 3) := by decide +kernel
theorem dX10_horse_48 : decode cX10_horse 48 = .ok (.aload_n 0, 1) := by decide +kernel
theorem dX10_horse_49 : decode cX10_horse 49 = .ok (.getfield 100, 3) := by decide +kernel
theorem dX10_horse_52 : decode cX10_horse 52 = .ok (.iload_n 3, 1) := by decide +kernel
theorem dX10_horse_53 : decode cX10_horse 53 = .ok (.iastore, 1) := by decide +kernel
theorem dX10_horse_54 : decode cX10_horse 54 = .ok (.aload_n 0, 1) := by decide +kernel
theorem dX10_horse_55 : decode cX10_horse 55 = .ok (.getfield 34, 3) := by decide +kernel
theorem dX10_horse_58 : decode cX10_horse 58 = .ok (.iload_n 1, 1) := by decide +kernel
theorem dX10_horse_59 : decode cX10_horse 59 = .ok (.aload_n 0, 1) := by decide +kernel
theorem dX10_horse_60 : decode cX10_horse 60 = .ok (.getfield 100, 3) := by decide +kernel
theorem dX10_horse_63 : decode cX10_horse 63 = .ok (.iastore, 1) := by decide +kernel
theorem dX10_horse_64 : decode cX10_horse 64 = .ok (.aload_n 0, 1) := by decide +kernel
theorem dX10_horse_65 : decode cX10_horse 65 = .ok (.dup, 1) := by decide +kernel
theorem dX10_horse_66 : decode cX10_horse 66 = .ok (.getfield 100, 3) := by decide +kernel
theorem dX10_horse_69 : decode cX10_horse 69 = .ok (.iconst 1, 1) := by decide +kernel
theorem dX10_horse_70 : decode cX10_horse 70 = .ok (.iadd, 1) := by decide +kernel
theorem dX10_horse_71 : decode cX10_horse 71 = .ok (.putfield 100, 3) := by decide +kernel
theorem dX10_horse_74 : decode cX10_horse 74 = .ok (.aload_n 0, 1) := by decide +kernel
theorem dX10_horse_75 : decode cX10_horse 75 = .ok (.getfield 100, 3) := by decide +kernel
theorem dX10_horse_78 : decode cX10_horse 78 = .ok (.iconst 1, 1) := by decide +kernel
theorem dX10_horse_79 : decode cX10_horse 79 = .ok (.isub, 1) := by decide +kernel
theorem dX10_horse_80 : decode cX10_horse 80 = .ok (.ireturn, 1) := by decide +kernel
set_option maxRecDepth 20000 in
theorem ggX10_wagon_X10_in : GoodIn wsX10_wagon wsX10_in := goodIn_r _ [9] (by decide +kernel) (by decide +kernel)
set_option maxRecDepth 20000 in
theorem gX10_wagon_X10_in : GoodIn wsX10_wagon (va_wsS RX10 95 yX10_in wsX10_in) := goodIn_app (goodIn_of _ (by decide +kernel)) ggX10_wagon_X10_in
theorem dX10_wagon_0 : decode cX10_wagon 0 = .ok (.iload_n 1, 1) := by decide +kernel
theorem dX10_wagon_1 : decode cX10_wagon 1 = .ok (.iconst 0, 1) := by decide +kernel
theorem dX10_wagon_2 : decode cX10_wagon 2 = .ok (.iconst 5, 1) := by decide +kernel
theorem dX10_wagon_3 : decode cX10_wagon 3 = .ok (.invokestatic 95, 3) := by decide +kernel
theorem dX10_wagon_6 : decode cX10_wagon 6 = .ok (.ifCond .ne 6, 3) := by decide +kernel
theorem dX10_wagon_9 : decode cX10_wagon 9 = .ok (.ldc 99, 2) := by decide +kernel
theorem dX10_wagon_11 : decode cX10_wagon 11 = .ok (.ireturn, 1) := by decide +kernel
theorem dX10_wagon_12 : decode cX10_wagon 12 = .ok (.aload_n 0, 1) := by decide +kernel
theorem dX10_wagon_13 : decode cX10_wagon 13 = .ok (.getfield 105, 3) := by decide +kernel
theorem dX10_wagon_16 : decode cX10_wagon 16 = .ok (.bipush 60, 2) := by decide +kernel
theorem dX10_wagon_18 : decode cX10_wagon 18 = .ok (.if_icmp .ne 6, 3) := by decide +kernel
theorem dX10_wagon_21 : decode cX10_wagon 21 = .ok (.ldc 104, 2) := by decide +kernel
theorem dX10_wagon_23 : decode cX10_wagon 23 = .ok (.ireturn, 1) := by decide +kernel
theorem dX10_wagon_24 : decode cX10_wagon 24 = .ok (.aload_n 0, 1) := by decide +kernel
theorem dX10_wagon_25 : decode cX10_wagon 25 = .ok (.getfield 28, 3) := by decide +kernel
theorem dX10_wagon_28 : decode cX10_wagon 28 = .ok (.aload_n 0, 1) := by decide +kernel
theorem dX10_wagon_29 : decode cX10_wagon 29 = .ok (.getfield 105, 3) := by decide +kernel
theorem dX10_wagon_32 : decode cX10_wagon 32 = .ok (.iload_n 2, 1) := by decide +kernel
theorem dX10_wagon_33 : decode cX10_wagon 33 = .ok (.iastore, 1) := by decide +kernel
theorem dX10_wagon_34 : decode cX10_wagon 34 = .ok (.aload_n 0, 1) := by decide +kernel
theorem dX10_wagon_35 : decode cX10_wagon 35 = .ok (.getfield 37, 3) := by decide +kernel
theorem dX10_wagon_38 : decode cX10_wagon 38 = .ok (.iload_n 1, 1) := by decide +kernel
theorem dX10_wagon_39 : decode cX10_wagon 39 = .ok (.bipush 100, 2) := by decide +kernel
theorem dX10_wagon_41 : decode cX10_wagon 41 = .ok (.aload_n 0, 1) := by decide +kernel
theorem dX10_wagon_42 : decode cX10_wagon 42 = .ok (.getfield 105, 3) := by decide +kernel
theorem dX10_wagon_45 : decode cX10_wagon 45 = .ok (.iadd, 1) := by decide +kernel
theorem dX10_wagon_46 : decode cX10_wagon 46 = .ok (.iastore, 1) := by decide +kernel
theorem dX10_wagon_47 : decode cX10_wagon 47 = .ok (.aload_n 0, 1) := by decide +kernel
theorem dX10_wagon_48 : decode cX10_wagon 48 = .ok (.dup, 1) := by decide +kernel
theorem dX10_wagon_49 : decode cX10_wagon 49 = .ok (.getfield 105, 3) := by decide +kernel
theorem dX10_wagon_52 : decode cX10_wagon 52 = .ok (.iconst 1, 1) := by decide +kernel
theorem dX10_wagon_53 : decode cX10_wagon 53 = .ok (.iadd, 1) := by decide +kernel
theorem dX10_wagon_54 : decode cX10_wagon 54 = .ok (.putfield 105, 3) := by decide +kernel
theorem dX10_wagon_57 : decode cX10_wagon 57 = .ok (.aload_n 0, 1) := by decide +kernel
theorem dX10_wagon_58 : decode cX10_wagon 58 = .ok (.getfield 105, 3) := by decide +kernel
theorem dX10_wagon_61 : decode cX10_wagon 61 = .ok (.iconst 1, 1) := by decide +kernel
theorem dX10_wagon_62 : decode cX10_wagon 62 = .ok (.isub, 1) := by decide +kernel
theorem dX10_wagon_63 : decode cX10_wagon 63 = .ok (.ireturn, 1) := by decide +kernel
set_option maxRecDepth 20000 in
theorem ggX10_lead_X10_in : GoodIn wsX10_lead wsX10_in := goodIn_r _ [7] (by decide +kernel) (by decide +kernel)
set_option maxRecDepth 20000 in
theorem gX10_lead_X10_in : GoodIn wsX10_lead (va_wsS RX10 95 yX10_in wsX10_in) := goodIn_app (goodIn_of _ (by decide +kernel)) ggX10_lead_X10_in
theorem dX10_lead_0 : decode cX10_lead 0 = .ok (.iload_n 1, 1) := by decide +kernel
theorem dX10_lead_1 : decode cX10_lead 1 = .ok (.iconst 0, 1) := by decide +kernel
theorem dX10_lead_2 : decode cX10_lead 2 = .ok (.bipush 9, 2) := by decide +kernel
theorem dX10_lead_4 : decode cX10_lead 4 = .ok (.invokestatic 95, 3) := by decide +kernel
theorem dX10_lead_7 : decode cX10_lead 7 = .ok (.ifCond .eq 12, 3) := by decide +kernel
theorem dX10_lead_10 : decode cX10_lead 10 = .ok (.iload_n 2, 1) := by decide +kernel
theorem dX10_lead_11 : decode cX10_lead 11 = .ok (.iconst 0, 1) := by decide +kernel
theorem dX10_lead_12 : decode cX10_lead 12 = .ok (.iconst 5, 1) := by decide +kernel
theorem dX10_lead_13 : decode cX10_lead 13 = .ok (.invokestatic 95, 3) := by decide +kernel
theorem dX10_lead_16 : decode cX10_lead 16 = .ok (.ifCond .ne 6, 3) := by decide +kernel
theorem dX10_lead_19 : decode cX10_lead 19 = .ok (.ldc 99, 2) := by decide +kernel
theorem dX10_lead_21 : decode cX10_lead 21 = .ok (.ireturn, 1) := by decide +kernel
theorem dX10_lead_22 : decode cX10_lead 22 = .ok (.aload_n 0, 1) := by decide +kernel
theorem dX10_lead_23 : decode cX10_lead 23 = .ok (.getfield 37, 3) := by decide +kernel
theorem dX10_lead_26 : decode cX10_lead 26 = .ok (.iload_n 2, 1) := by decide +kernel
theorem dX10_lead_27 : decode cX10_lead 27 = .ok (.aload_n 0, 1) := by decide +kernel
theorem dX10_lead_28 : decode cX10_lead 28 = .ok (.getfield 34, 3) := by decide +kernel
theorem dX10_lead_31 : decode cX10_lead 31 = .ok (.iload_n 1, 1) := by decide +kernel
theorem dX10_lead_32 : decode cX10_lead 32 = .ok (.iaload, 1) := by decide +kernel
theorem dX10_lead_33 : decode cX10_lead 33 = .ok (.iastore, 1) := by decide +kernel
theorem dX10_lead_34 : decode cX10_lead 34 = .ok (.aload_n 0, 1) := by decide +kernel
theorem dX10_lead_35 : decode cX10_lead 35 = .ok (.getfield 37, 3) := by decide +kernel
theorem dX10_lead_38 : decode cX10_lead 38 = .ok (.iload_n 2, 1) := by decide +kernel
theorem dX10_lead_39 : decode cX10_lead 39 = .ok (.iaload, 1) := by decide +kernel
theorem dX10_lead_40 : decode cX10_lead 40 = .ok (.ifCond .lt 7, 3) := by decide +kernel
theorem dX10_lead_43 : decode cX10_lead 43 = .ok (.iconst 1, 1) := by decide +kernel
theorem dX10_lead_44 : decode cX10_lead 44 = .ok (.goto 4, 3) := by decide +kernel
theorem dX10_lead_47 : decode cX10_lead 47 = .ok (.iconst 0, 1) := by decide +kernel
theorem dX10_lead_48 : decode cX10_lead 48 = .ok (.ireturn, 1) := by decide +kernel
theorem dX10_holds_0 : decode cX10_holds 0 = .ok (.iload_n 1, 1) := by decide +kernel
theorem dX10_holds_1 : decode cX10_holds 1 = .ok (.tableswitch 110 0 4 #[35, 50, 65, 80, 95], 35) := by decide +kernel
theorem dX10_holds_36 : decode cX10_holds 36 = .ok (.aload_n 0, 1) := by decide +kernel
theorem dX10_holds_37 : decode cX10_holds 37 = .ok (.getfield 34, 3) := by decide +kernel
theorem dX10_holds_40 : decode cX10_holds 40 = .ok (.iload_n 2, 1) := by decide +kernel
theorem dX10_holds_41 : decode cX10_holds 41 = .ok (.iaload, 1) := by decide +kernel
theorem dX10_holds_42 : decode cX10_holds 42 = .ok (.ifCond .lt 7, 3) := by decide +kernel
theorem dX10_holds_45 : decode cX10_holds 45 = .ok (.iconst 1, 1) := by decide +kernel
theorem dX10_holds_46 : decode cX10_holds 46 = .ok (.goto 4, 3) := by decide +kernel
theorem dX10_holds_49 : decode cX10_holds 49 = .ok (.iconst 0, 1) := by decide +kernel
theorem dX10_holds_50 : decode cX10_holds 50 = .ok (.ireturn, 1) := by decide +kernel
theorem dX10_holds_51 : decode cX10_holds 51 = .ok (.aload_n 0, 1) := by decide +kernel
theorem dX10_holds_52 : decode cX10_holds 52 = .ok (.getfield 37, 3) := by decide +kernel
theorem dX10_holds_55 : decode cX10_holds 55 = .ok (.iload_n 2, 1) := by decide +kernel
theorem dX10_holds_56 : decode cX10_holds 56 = .ok (.iaload, 1) := by decide +kernel
theorem dX10_holds_57 : decode cX10_holds 57 = .ok (.ifCond .lt 7, 3) := by decide +kernel
theorem dX10_holds_60 : decode cX10_holds 60 = .ok (.iconst 1, 1) := by decide +kernel
theorem dX10_holds_61 : decode cX10_holds 61 = .ok (.goto 4, 3) := by decide +kernel
theorem dX10_holds_64 : decode cX10_holds 64 = .ok (.iconst 0, 1) := by decide +kernel
theorem dX10_holds_65 : decode cX10_holds 65 = .ok (.ireturn, 1) := by decide +kernel
theorem dX10_holds_66 : decode cX10_holds 66 = .ok (.aload_n 0, 1) := by decide +kernel
theorem dX10_holds_67 : decode cX10_holds 67 = .ok (.getfield 40, 3) := by decide +kernel
theorem dX10_holds_70 : decode cX10_holds 70 = .ok (.iload_n 2, 1) := by decide +kernel
theorem dX10_holds_71 : decode cX10_holds 71 = .ok (.iaload, 1) := by decide +kernel
theorem dX10_holds_72 : decode cX10_holds 72 = .ok (.ifCond .lt 7, 3) := by decide +kernel
theorem dX10_holds_75 : decode cX10_holds 75 = .ok (.iconst 1, 1) := by decide +kernel
theorem dX10_holds_76 : decode cX10_holds 76 = .ok (.goto 4, 3) := by decide +kernel
theorem dX10_holds_79 : decode cX10_holds 79 = .ok (.iconst 0, 1) := by decide +kernel
theorem dX10_holds_80 : decode cX10_holds 80 = .ok (.ireturn, 1) := by decide +kernel
theorem dX10_holds_81 : decode cX10_holds 81 = .ok (.aload_n 0, 1) := by decide +kernel
theorem dX10_holds_82 : decode cX10_holds 82 = .ok (.getfield 49, 3) := by decide +kernel
theorem dX10_holds_85 : decode cX10_holds 85 = .ok (.iload_n 2, 1) := by decide +kernel
theorem dX10_holds_86 : decode cX10_holds 86 = .ok (.iaload, 1) := by decide +kernel
theorem dX10_holds_87 : decode cX10_holds 87 = .ok (.ifCond .lt 7, 3) := by decide +kernel
theorem dX10_holds_90 : decode cX10_holds 90 = .ok (.iconst 1, 1) := by decide +kernel
theorem dX10_holds_91 : decode cX10_holds 91 = .ok (.goto 4, 3) := by decide +kernel
theorem dX10_holds_94 : decode cX10_holds 94 = .ok (.iconst 0, 1) := by decide +kernel
theorem dX10_holds_95 : decode cX10_holds 95 = .ok (.ireturn, 1) := by decide +kernel
theorem dX10_holds_96 : decode cX10_holds 96 = .ok (.aload_n 0, 1) := by decide +kernel
theorem dX10_holds_97 : decode cX10_holds 97 = .ok (.getfield 55, 3) := by decide +kernel
theorem dX10_holds_100 : decode cX10_holds 100 = .ok (.iload_n 2, 1) := by decide +kernel
theorem dX10_holds_101 : decode cX10_holds 101 = .ok (.iaload, 1) := by decide +kernel
theorem dX10_holds_102 : decode cX10_holds 102 = .ok (.ifCond .lt 7, 3) := by decide +kernel
theorem dX10_holds_105 : decode cX10_holds 105 = .ok (.iconst 1, 1) := by decide +kernel
theorem dX10_holds_106 : decode cX10_holds 106 = .ok (.goto 4, 3) := by decide +kernel
theorem dX10_holds_109 : decode cX10_holds 109 = .ok (.iconst 0, 1) := by decide +kernel
theorem dX10_holds_110 : decode cX10_holds 110 = .ok (.ireturn, 1) := by decide +kernel
theorem dX10_holds_111 : decode cX10_holds 111 = .ok (.aload_n 0, 1) := by decide +kernel
theorem dX10_holds_112 : decode cX10_holds 112 = .ok (.getfield 68, 3) := by decide +kernel
theorem dX10_holds_115 : decode cX10_holds 115 = .ok (.iload_n 2, 1) := by decide +kernel
theorem dX10_holds_116 : decode cX10_holds 116 = .ok (.baload, 1) := by decide +kernel
theorem dX10_holds_117 : decode cX10_holds 117 = .ok (.ireturn, 1) := by decide +kernel
set_option maxRecDepth 20000 in
theorem ggX10_empty_X10_in : GoodIn wsX10_empty wsX10_in := goodIn_r _ [11] (by decide +kernel) (by decide +kernel)
set_option maxRecDepth 20000 in
theorem gX10_empty_X10_in : GoodIn wsX10_empty (va_wsS RX10 95 yX10_in wsX10_in) := goodIn_app (goodIn_of _ (by decide +kernel)) ggX10_empty_X10_in
set_option maxRecDepth 20000 in
theorem ggX10_empty_X10_holds : GoodIn wsX10_empty wsX10_holds := goodIn_r _ [15, 2, 3, 4, 5, 6, 7, 16, 17, 18, 19, 20, 21, 22, 23, 24, 25, 26, 27, 28, 29, 30, 31, 32, 33, 34, 35, 36, 37, 38, 39, 40, 41, 42, 43, 44, 45, 46, 47, 48, 49, 50] (by decide +kernel) (by decide +kernel)
set_option maxRecDepth 20000 in
theorem gX10_empty_X10_holds : GoodIn wsX10_empty (wsV RX10 108 RX10 yX10_holds wsX10_holds) := goodIn_app (goodIn_of _ (by decide +kernel)) ggX10_empty_X10_holds
theorem dX10_empty_0 : decode cX10_empty 0 = .ok (.iload_n 1, 1) := by decide +kernel
theorem dX10_empty_1 : decode cX10_empty 1 = .ok (.iconst 0, 1) := by decide +kernel
theorem dX10_empty_2 : decode cX10_empty 2 = .ok (.iconst 5, 1) := by decide +kernel
theorem dX10_empty_3 : decode cX10_empty 3 = .ok (.invokestatic 95, 3) := by decide +kernel
theorem dX10_empty_6 : decode cX10_empty 6 = .ok (.ifCond .eq 35, 3) := by decide +kernel
theorem dX10_empty_9 : decode cX10_empty 9 = .ok (.iload_n 2, 1) := by decide +kernel
theorem dX10_empty_10 : decode cX10_empty 10 = .ok (.iconst 0, 1) := by decide +kernel
theorem dX10_empty_11 : decode cX10_empty 11 = .ok (.iload_n 1, 1) := by decide +kernel
theorem dX10_empty_12 : decode cX10_empty 12 = .ok (.ifCond .ne 8, 3) := by decide +kernel
theorem dX10_empty_15 : decode cX10_empty 15 = .ok (.bipush 9, 2) := by decide +kernel
theorem dX10_empty_17 : decode cX10_empty 17 = .ok (.goto 18, 3) := by decide +kernel
theorem dX10_empty_20 : decode cX10_empty 20 = .ok (.iload_n 1, 1) := by decide +kernel
theorem dX10_empty_21 : decode cX10_empty 21 = .ok (.iconst 3, 1) := by decide +kernel
theorem dX10_empty_22 : decode cX10_empty 22 = .ok (.if_icmp .eq 8, 3) := by decide +kernel
theorem dX10_empty_25 : decode cX10_empty 25 = .ok (.iload_n 1, 1) := by decide +kernel
theorem dX10_empty_26 : decode cX10_empty 26 = .ok (.iconst 4, 1) := by decide +kernel
theorem dX10_empty_27 : decode cX10_empty 27 = .ok (.if_icmp .ne 7, 3) := by decide +kernel
theorem dX10_empty_30 : decode cX10_empty 30 = .ok (.iconst 3, 1) := by decide +kernel
theorem dX10_empty_31 : decode cX10_empty 31 = .ok (.goto 4, 3) := by decide +kernel
theorem dX10_empty_34 : decode cX10_empty 34 = .ok (.iconst 5, 1) := by decide +kernel
theorem dX10_empty_35 : decode cX10_empty 35 = .ok (.invokestatic 95, 3) := by decide +kernel
theorem dX10_empty_38 : decode cX10_empty 38 = .ok (.ifCond .ne 6, 3) := by decide +kernel
theorem dX10_empty_41 : decode cX10_empty 41 = .ok (.ldc 99, 2) := by decide +kernel
theorem dX10_empty_43 : decode cX10_empty 43 = .ok (.ireturn, 1) := by decide +kernel
theorem dX10_empty_44 : decode cX10_empty 44 = .ok (.aload_n 0, 1) := by decide +kernel
theorem dX10_empty_45 : decode cX10_empty 45 = .ok (.iload_n 1, 1) := by decide +kernel
theorem dX10_empty_46 : decode cX10_empty 46 = .ok (.iload_n 2, 1) := by decide +kernel
theorem dX10_empty_47 : decode cX10_empty 47 = .ok (.invokevirtual 108, 3) := by decide +kernel
theorem dX10_empty_50 : decode cX10_empty 50 = .ok (.ifCond .eq 7, 3) := by decide +kernel
theorem dX10_empty_53 : decode cX10_empty 53 = .ok (.iconst 1, 1) := by decide +kernel
theorem dX10_empty_54 : decode cX10_empty 54 = .ok (.goto 4, 3) := by decide +kernel
theorem dX10_empty_57 : decode cX10_empty 57 = .ok (.iconst 0, 1) := by decide +kernel
theorem dX10_empty_58 : decode cX10_empty 58 = .ok (.istore_n 3, 1) := by decide +kernel
theorem dX10_empty_59 : decode cX10_empty 59 = .ok (.iload_n 1, 1) := by decide +kernel
theorem dX10_empty_60 : decode cX10_empty 60 = .ok (.tableswitch 86 0 4 #[36, 46, 56, 66, 76], 36) := by decide +kernel
theorem dX10_empty_96 : decode cX10_empty 96 = .ok (.aload_n 0, 1) := by decide +kernel
theorem dX10_empty_97 : decode cX10_empty 97 = .ok (.getfield 34, 3) := by decide +kernel
theorem dX10_empty_100 : decode cX10_empty 100 = .ok (.iload_n 2, 1) := by decide +kernel
theorem dX10_empty_101 : decode cX10_empty 101 = .ok (.iconst (-1), 1) := by decide +kernel
theorem dX10_empty_102 : decode cX10_empty 102 = .ok (.iastore, 1) := by decide +kernel
theorem dX10_empty_103 : decode cX10_empty 103 = .ok (.goto 50, 3) := by decide +kernel
theorem dX10_empty_106 : decode cX10_empty 106 = .ok (.aload_n 0, 1) := by decide +kernel
theorem dX10_empty_107 : decode cX10_empty 107 = .ok (.getfield 37, 3) := by decide +kernel
theorem dX10_empty_110 : decode cX10_empty 110 = .ok (.iload_n 2, 1) := by decide +kernel
theorem dX10_empty_111 : decode cX10_empty 111 = .ok (.iconst (-1), 1) := by decide +kernel
theorem dX10_empty_112 : decode cX10_empty 112 = .ok (.iastore, 1) := by decide +kernel
theorem dX10_empty_113 : decode cX10_empty 113 = .ok (.goto 40, 3) := by decide +kernel
theorem dX10_empty_116 : decode cX10_empty 116 = .ok (.aload_n 0, 1) := by decide +kernel
theorem dX10_empty_117 : decode cX10_empty 117 = .ok (.getfield 40, 3) := by decide +kernel
theorem dX10_empty_120 : decode cX10_empty 120 = .ok (.iload_n 2, 1) := by decide +kernel
theorem dX10_empty_121 : decode cX10_empty 121 = .ok (.iconst (-1), 1) := by decide +kernel
theorem dX10_empty_122 : decode cX10_empty 122 = .ok (.iastore, 1) := by decide +kernel
theorem dX10_empty_123 : decode cX10_empty 123 = .ok (.goto 30, 3) := by decide +kernel
theorem dX10_empty_126 : decode cX10_empty 126 = .ok (.aload_n 0, 1) := by decide +kernel
theorem dX10_empty_127 : decode cX10_empty 127 = .ok (.getfield 49, 3) := by decide +kernel
theorem dX10_empty_130 : decode cX10_empty 130 = .ok (.iload_n 2, 1) := by decide +kernel
theorem dX10_empty_131 : decode cX10_empty 131 = .ok (.iconst (-1), 1) := by decide +kernel
theorem dX10_empty_132 : decode cX10_empty 132 = .ok (.iastore, 1) := by decide +kernel
theorem dX10_empty_133 : decode cX10_empty 133 = .ok (.goto 20, 3) := by decide +kernel
theorem dX10_empty_136 : decode cX10_empty 136 = .ok (.aload_n 0, 1) := by decide +kernel
theorem dX10_empty_137 : decode cX10_empty 137 = .ok (.getfield 55, 3) := by decide +kernel
theorem dX10_empty_140 : decode cX10_empty 140 = .ok (.iload_n 2, 1) := by decide +kernel
theorem dX10_empty_141 : decode cX10_empty 141 = .ok (.iconst (-1), 1) := by decide +kernel
theorem dX10_empty_142 : decode cX10_empty 142 = .ok (.iastore, 1) := by decide +kernel
theorem dX10_empty_143 : decode cX10_empty 143 = .ok (.goto 10, 3) := by decide +kernel
theorem dX10_empty_146 : decode cX10_empty 146 = .ok (.aload_n 0, 1) := by decide +kernel
theorem dX10_empty_147 : decode cX10_empty 147 = .ok (.getfield 68, 3) := by decide +kernel
theorem dX10_empty_150 : decode cX10_empty 150 = .ok (.iload_n 2, 1) := by decide +kernel
theorem dX10_empty_151 : decode cX10_empty 151 = .ok (.iconst 0, 1) := by decide +kernel
theorem dX10_empty_152 : decode cX10_empty 152 = .ok (.bastore, 1) := by decide +kernel
theorem dX10_empty_153 : decode cX10_empty 153 = .ok (.iload_n 3, 1) := by decide +kernel
theorem dX10_empty_154 : decode cX10_empty 154 = .ok (.ireturn, 1) := by decide +kernel
set_option maxRecDepth 20000 in
theorem ggX10_tear_X10_in : GoodIn wsX10_tear wsX10_in := goodIn_r _ [7] (by decide +kernel) (by decide +kernel)
set_option maxRecDepth 20000 in
theorem gX10_tear_X10_in : GoodIn wsX10_tear (va_wsS RX10 95 yX10_in wsX10_in) := goodIn_app (goodIn_of _ (by decide +kernel)) ggX10_tear_X10_in
theorem dX10_tear_0 : decode cX10_tear 0 = .ok (.iload_n 1, 1) := by decide +kernel
theorem dX10_tear_1 : decode cX10_tear 1 = .ok (.iconst 0, 1) := by decide +kernel
theorem dX10_tear_2 : decode cX10_tear 2 = .ok (.iconst 3, 1) := by decide +kernel
theorem dX10_tear_3 : decode cX10_tear 3 = .ok (.invokestatic 95, 3) := by decide +kernel
theorem dX10_tear_6 : decode cX10_tear 6 = .ok (.ifCond .eq 19, 3) := by decide +kernel
theorem dX10_tear_9 : decode cX10_tear 9 = .ok (.iload_n 2, 1) := by decide +kernel
theorem dX10_tear_10 : decode cX10_tear 10 = .ok (.iconst 0, 1) := by decide +kernel
theorem dX10_tear_11 : decode cX10_tear 11 = .ok (.aload_n 0, 1) := by decide +kernel
theorem dX10_tear_12 : decode cX10_tear 12 = .ok (.getfield 55, 3) := by decide +kernel
theorem dX10_tear_15 : decode cX10_tear 15 = .ok (.iload_n 1, 1) := by decide +kernel
theorem dX10_tear_16 : decode cX10_tear 16 = .ok (.iaload, 1) := by decide +kernel
theorem dX10_tear_17 : decode cX10_tear 17 = .ok (.iconst 1, 1) := by decide +kernel
theorem dX10_tear_18 : decode cX10_tear 18 = .ok (.isub, 1) := by decide +kernel
theorem dX10_tear_19 : decode cX10_tear 19 = .ok (.invokestatic 95, 3) := by decide +kernel
theorem dX10_tear_22 : decode cX10_tear 22 = .ok (.ifCond .ne 6, 3) := by decide +kernel
theorem dX10_tear_25 : decode cX10_tear 25 = .ok (.ldc 99, 2) := by decide +kernel
theorem dX10_tear_27 : decode cX10_tear 27 = .ok (.ireturn, 1) := by decide +kernel
theorem dX10_tear_28 : decode cX10_tear 28 = .ok (.aload_n 0, 1) := by decide +kernel
theorem dX10_tear_29 : decode cX10_tear 29 = .ok (.getfield 61, 3) := by decide +kernel
theorem dX10_tear_32 : decode cX10_tear 32 = .ok (.bipush 6, 2) := by decide +kernel
theorem dX10_tear_34 : decode cX10_tear 34 = .ok (.iload_n 1, 1) := by decide +kernel
theorem dX10_tear_35 : decode cX10_tear 35 = .ok (.imul, 1) := by decide +kernel
theorem dX10_tear_36 : decode cX10_tear 36 = .ok (.iload_n 2, 1) := by decide +kernel
theorem dX10_tear_37 : decode cX10_tear 37 = .ok (.iadd, 1) := by decide +kernel
theorem dX10_tear_38 : decode cX10_tear 38 = .ok (.baload, 1) := by decide +kernel
theorem dX10_tear_39 : decode cX10_tear 39 = .ok (.ifCond .eq 7, 3) := by decide +kernel
theorem dX10_tear_42 : decode cX10_tear 42 = .ok (.iconst 1, 1) := by decide +kernel
theorem dX10_tear_43 : decode cX10_tear 43 = .ok (.goto 4, 3) := by decide +kernel
theorem dX10_tear_46 : decode cX10_tear 46 = .ok (.iconst 0, 1) := by decide +kernel
theorem dX10_tear_47 : decode cX10_tear 47 = .ok (.istore_n 3, 1) := by decide +kernel
theorem dX10_tear_48 : decode cX10_tear 48 = .ok (.aload_n 0, 1) := by decide +kernel
theorem dX10_tear_49 : decode cX10_tear 49 = .ok (.getfield 61, 3) := by decide +kernel
theorem dX10_tear_52 : decode cX10_tear 52 = .ok (.bipush 6, 2) := by decide +kernel
theorem dX10_tear_54 : decode cX10_tear 54 = .ok (.iload_n 1, 1) := by decide +kernel
theorem dX10_tear_55 : decode cX10_tear 55 = .ok (.imul, 1) := by decide +kernel
theorem dX10_tear_56 : decode cX10_tear 56 = .ok (.iload_n 2, 1) := by decide +kernel
theorem dX10_tear_57 : decode cX10_tear 57 = .ok (.iadd, 1) := by decide +kernel
theorem dX10_tear_58 : decode cX10_tear 58 = .ok (.iconst 0, 1) := by decide +kernel
theorem dX10_tear_59 : decode cX10_tear 59 = .ok (.bastore, 1) := by decide +kernel
theorem dX10_tear_60 : decode cX10_tear 60 = .ok (.iload_n 3, 1) := by decide +kernel
theorem dX10_tear_61 : decode cX10_tear 61 = .ok (.ireturn, 1) := by decide +kernel
set_option maxRecDepth 20000 in
theorem ggX10_hang_X10_in : GoodIn wsX10_hang wsX10_in := goodIn_r _ [9] (by decide +kernel) (by decide +kernel)
set_option maxRecDepth 20000 in
theorem gX10_hang_X10_in : GoodIn wsX10_hang (va_wsS RX10 95 yX10_in wsX10_in) := goodIn_app (goodIn_of _ (by decide +kernel)) ggX10_hang_X10_in
theorem dX10_hang_0 : decode cX10_hang 0 = .ok (.iload_n 1, 1) := by decide +kernel
theorem dX10_hang_1 : decode cX10_hang 1 = .ok (.iconst 0, 1) := by decide +kernel
theorem dX10_hang_2 : decode cX10_hang 2 = .ok (.iconst 5, 1) := by decide +kernel
theorem dX10_hang_3 : decode cX10_hang 3 = .ok (.invokestatic 95, 3) := by decide +kernel
theorem dX10_hang_6 : decode cX10_hang 6 = .ok (.ifCond .ne 6, 3) := by decide +kernel
theorem dX10_hang_9 : decode cX10_hang 9 = .ok (.ldc 99, 2) := by decide +kernel
theorem dX10_hang_11 : decode cX10_hang 11 = .ok (.ireturn, 1) := by decide +kernel
theorem dX10_hang_12 : decode cX10_hang 12 = .ok (.aload_n 0, 1) := by decide +kernel
theorem dX10_hang_13 : decode cX10_hang 13 = .ok (.getfield 112, 3) := by decide +kernel
theorem dX10_hang_16 : decode cX10_hang 16 = .ok (.bipush 60, 2) := by decide +kernel
theorem dX10_hang_18 : decode cX10_hang 18 = .ok (.if_icmp .ne 6, 3) := by decide +kernel
theorem dX10_hang_21 : decode cX10_hang 21 = .ok (.ldc 104, 2) := by decide +kernel
theorem dX10_hang_23 : decode cX10_hang 23 = .ok (.ireturn, 1) := by decide +kernel
theorem dX10_hang_24 : decode cX10_hang 24 = .ok (.aload_n 0, 1) := by decide +kernel
theorem dX10_hang_25 : decode cX10_hang 25 = .ok (.dup, 1) := by decide +kernel
theorem dX10_hang_26 : decode cX10_hang 26 = .ok (.getfield 112, 3) := by decide +kernel
theorem dX10_hang_29 : decode cX10_hang 29 = .ok (.iconst 1, 1) := by decide +kernel
theorem dX10_hang_30 : decode cX10_hang 30 = .ok (.iadd, 1) := by decide +kernel
theorem dX10_hang_31 : decode cX10_hang 31 = .ok (.putfield 112, 3) := by decide +kernel
theorem dX10_hang_34 : decode cX10_hang 34 = .ok (.aload_n 0, 1) := by decide +kernel
theorem dX10_hang_35 : decode cX10_hang 35 = .ok (.getfield 68, 3) := by decide +kernel
theorem dX10_hang_38 : decode cX10_hang 38 = .ok (.iload_n 1, 1) := by decide +kernel
theorem dX10_hang_39 : decode cX10_hang 39 = .ok (.iconst 1, 1) := by decide +kernel
theorem dX10_hang_40 : decode cX10_hang 40 = .ok (.bastore, 1) := by decide +kernel
theorem dX10_hang_41 : decode cX10_hang 41 = .ok (.aload_n 0, 1) := by decide +kernel
theorem dX10_hang_42 : decode cX10_hang 42 = .ok (.getfield 71, 3) := by decide +kernel
theorem dX10_hang_45 : decode cX10_hang 45 = .ok (.iload_n 1, 1) := by decide +kernel
theorem dX10_hang_46 : decode cX10_hang 46 = .ok (.iload_n 2, 1) := by decide +kernel
theorem dX10_hang_47 : decode cX10_hang 47 = .ok (.iastore, 1) := by decide +kernel
theorem dX10_hang_48 : decode cX10_hang 48 = .ok (.iconst 1, 1) := by decide +kernel
theorem dX10_hang_49 : decode cX10_hang 49 = .ok (.ireturn, 1) := by decide +kernel
theorem dX10_come_0 : decode cX10_come 0 = .ok (.aload_n 0, 1) := by decide +kernel
theorem dX10_come_1 : decode cX10_come 1 = .ok (.iload_n 1, 1) := by decide +kernel
theorem dX10_come_2 : decode cX10_come 2 = .ok (.putfield 115, 3) := by decide +kernel
theorem dX10_come_5 : decode cX10_come 5 = .ok (.iconst 0, 1) := by decide +kernel
theorem dX10_come_6 : decode cX10_come 6 = .ok (.ireturn, 1) := by decide +kernel
theorem dX10_groom_0 : decode cX10_groom 0 = .ok (.aload_n 0, 1) := by decide +kernel
theorem dX10_groom_1 : decode cX10_groom 1 = .ok (.getfield 22, 3) := by decide +kernel
theorem dX10_groom_4 : decode cX10_groom 4 = .ok (.iload_n 1, 1) := by decide +kernel
theorem dX10_groom_5 : decode cX10_groom 5 = .ok (.dup2, 1) := by decide +kernel
theorem dX10_groom_6 : decode cX10_groom 6 = .ok (.iaload, 1) := by decide +kernel
theorem dX10_groom_7 : decode cX10_groom 7 = .ok (.aload_n 0, 1) := by decide +kernel
theorem dX10_groom_8 : decode cX10_groom 8 = .ok (.getfield 7, 3) := by decide +kernel
theorem dX10_groom_11 : decode cX10_groom 11 = .ok (.iload_n 1, 1) := by decide +kernel
theorem dX10_groom_12 : decode cX10_groom 12 = .ok (.iaload, 1) := by decide +kernel
theorem dX10_groom_13 : decode cX10_groom 13 = .ok (.ifCond .ne 7, 3) := by decide +kernel
theorem dX10_groom_16 : decode cX10_groom 16 = .ok (.iconst 1, 1) := by decide +kernel
theorem dX10_groom_17 : decode cX10_groom 17 = .ok (.goto 4, 3) := by decide +kernel
theorem dX10_groom_20 : decode cX10_groom 20 = .ok (.iconst 2, 1) := by decide +kernel
theorem dX10_groom_21 : decode cX10_groom 21 = .ok (.iadd, 1) := by decide +kernel
theorem dX10_groom_22 : decode cX10_groom 22 = .ok (.iastore, 1) := by decide +kernel
theorem dX10_groom_23 : decode cX10_groom 23 = .ok (.aload_n 0, 1) := by decide +kernel
theorem dX10_groom_24 : decode cX10_groom 24 = .ok (.getfield 19, 3) := by decide +kernel
theorem dX10_groom_27 : decode cX10_groom 27 = .ok (.iload_n 1, 1) := by decide +kernel
theorem dX10_groom_28 : decode cX10_groom 28 = .ok (.aload_n 0, 1) := by decide +kernel
theorem dX10_groom_29 : decode cX10_groom 29 = .ok (.getfield 7, 3) := by decide +kernel
theorem dX10_groom_32 : decode cX10_groom 32 = .ok (.iload_n 1, 1) := by decide +kernel
theorem dX10_groom_33 : decode cX10_groom 33 = .ok (.iaload, 1) := by decide +kernel
theorem dX10_groom_34 : decode cX10_groom 34 = .ok (.iconst 2, 1) := by decide +kernel
theorem dX10_groom_35 : decode cX10_groom 35 = .ok (.if_icmp .ne 7, 3) := by decide +kernel
theorem dX10_groom_38 : decode cX10_groom 38 = .ok (.iconst 0, 1) := by decide +kernel
theorem dX10_groom_39 : decode cX10_groom 39 = .ok (.goto 9, 3) := by decide +kernel
theorem dX10_groom_42 : decode cX10_groom 42 = .ok (.aload_n 0, 1) := by decide +kernel
theorem dX10_groom_43 : decode cX10_groom 43 = .ok (.getfield 19, 3) := by decide +kernel
theorem dX10_groom_46 : decode cX10_groom 46 = .ok (.iload_n 1, 1) := by decide +kernel
theorem dX10_groom_47 : decode cX10_groom 47 = .ok (.iaload, 1) := by decide +kernel
theorem dX10_groom_48 : decode cX10_groom 48 = .ok (.iastore, 1) := by decide +kernel
theorem dX10_groom_49 : decode cX10_groom 49 = .ok (.aload_n 0, 1) := by decide +kernel
theorem dX10_groom_50 : decode cX10_groom 50 = .ok (.getfield 22, 3) := by decide +kernel
theorem dX10_groom_53 : decode cX10_groom 53 = .ok (.iload_n 1, 1) := by decide +kernel
theorem dX10_groom_54 : decode cX10_groom 54 = .ok (.iaload, 1) := by decide +kernel
theorem dX10_groom_55 : decode cX10_groom 55 = .ok (.ireturn, 1) := by decide +kernel
theorem dX10_work_0 : decode cX10_work 0 = .ok (.iload_n 1, 1) := by decide +kernel
theorem dX10_work_1 : decode cX10_work 1 = .ok (.bipush 100, 2) := by decide +kernel
theorem dX10_work_3 : decode cX10_work 3 = .ok (.if_icmp .lt 32, 3) := by decide +kernel
theorem dX10_work_6 : decode cX10_work 6 = .ok (.iload_n 1, 1) := by decide +kernel
theorem dX10_work_7 : decode cX10_work 7 = .ok (.bipush 100, 2) := by decide +kernel
theorem dX10_work_9 : decode cX10_work 9 = .ok (.isub, 1) := by decide +kernel
theorem dX10_work_10 : decode cX10_work 10 = .ok (.istore_n 3, 1) := by decide +kernel
theorem dX10_work_11 : decode cX10_work 11 = .ok (.aload_n 0, 1) := by decide +kernel
theorem dX10_work_12 : decode cX10_work 12 = .ok (.getfield 31, 3) := by decide +kernel
theorem dX10_work_15 : decode cX10_work 15 = .ok (.iload_n 3, 1) := by decide +kernel
theorem dX10_work_16 : decode cX10_work 16 = .ok (.dup2, 1) := by decide +kernel
theorem dX10_work_17 : decode cX10_work 17 = .ok (.iaload, 1) := by decide +kernel
theorem dX10_work_18 : decode cX10_work 18 = .ok (.iload_n 2, 1) := by decide +kernel
theorem dX10_work_19 : decode cX10_work 19 = .ok (.aload_n 0, 1) := by decide +kernel
theorem dX10_work_20 : decode cX10_work 20 = .ok (.getfield 28, 3) := by decide +kernel
theorem dX10_work_23 : decode cX10_work 23 = .ok (.iload_n 3, 1) := by decide +kernel
theorem dX10_work_24 : decode cX10_work 24 = .ok (.iaload, 1) := by decide +kernel
theorem dX10_work_25 : decode cX10_work 25 = .ok (.imul, 1) := by decide +kernel
theorem dX10_work_26 : decode cX10_work 26 = .ok (.iadd, 1) := by decide +kernel
theorem dX10_work_27 : decode cX10_work 27 = .ok (.iastore, 1) := by decide +kernel
theorem dX10_work_28 : decode cX10_work 28 = .ok (.aload_n 0, 1) := by decide +kernel
theorem dX10_work_29 : decode cX10_work 29 = .ok (.getfield 31, 3) := by decide +kernel
theorem dX10_work_32 : decode cX10_work 32 = .ok (.iload_n 3, 1) := by decide +kernel
theorem dX10_work_33 : decode cX10_work 33 = .ok (.iaload, 1) := by decide +kernel
theorem dX10_work_34 : decode cX10_work 34 = .ok (.ireturn, 1) := by decide +kernel
theorem dX10_work_35 : decode cX10_work 35 = .ok (.aload_n 0, 1) := by decide +kernel
theorem dX10_work_36 : decode cX10_work 36 = .ok (.getfield 25, 3) := by decide +kernel
theorem dX10_work_39 : decode cX10_work 39 = .ok (.iload_n 1, 1) := by decide +kernel
theorem dX10_work_40 : decode cX10_work 40 = .ok (.dup2, 1) := by decide +kernel
theorem dX10_work_41 : decode cX10_work 41 = .ok (.iaload, 1) := by decide +kernel
theorem dX10_work_42 : decode cX10_work 42 = .ok (.aload_n 0, 1) := by decide +kernel
theorem dX10_work_43 : decode cX10_work 43 = .ok (.getfield 7, 3) := by decide +kernel
theorem dX10_work_46 : decode cX10_work 46 = .ok (.iload_n 1, 1) := by decide +kernel
theorem dX10_work_47 : decode cX10_work 47 = .ok (.iaload, 1) := by decide +kernel
theorem dX10_work_48 : decode cX10_work 48 = .ok (.ifCond .ne 7, 3) := by decide +kernel
theorem dX10_work_51 : decode cX10_work 51 = .ok (.iload_n 2, 1) := by decide +kernel
theorem dX10_work_52 : decode cX10_work 52 = .ok (.goto 24, 3) := by decide +kernel
theorem dX10_work_55 : decode cX10_work 55 = .ok (.aload_n 0, 1) := by decide +kernel
theorem dX10_work_56 : decode cX10_work 56 = .ok (.getfield 7, 3) := by decide +kernel
theorem dX10_work_59 : decode cX10_work 59 = .ok (.iload_n 1, 1) := by decide +kernel
theorem dX10_work_60 : decode cX10_work 60 = .ok (.iaload, 1) := by decide +kernel
theorem dX10_work_61 : decode cX10_work 61 = .ok (.iconst 1, 1) := by decide +kernel
theorem dX10_work_62 : decode cX10_work 62 = .ok (.if_icmp .ne 9, 3) := by decide +kernel
theorem dX10_work_65 : decode cX10_work 65 = .ok (.iconst 2, 1) := by decide +kernel
theorem dX10_work_66 : decode cX10_work 66 = .ok (.iload_n 2, 1) := by decide +kernel
theorem dX10_work_67 : decode cX10_work 67 = .ok (.imul, 1) := by decide +kernel
theorem dX10_work_68 : decode cX10_work 68 = .ok (.goto 8, 3) := by decide +kernel
theorem dX10_work_71 : decode cX10_work 71 = .ok (.iconst 2, 1) := by decide +kernel
theorem dX10_work_72 : decode cX10_work 72 = .ok (.iload_n 2, 1) := by decide +kernel
theorem dX10_work_73 : decode cX10_work 73 = .ok (.imul, 1) := by decide +kernel
theorem dX10_work_74 : decode cX10_work 74 = .ok (.iconst 1, 1) := by decide +kernel
theorem dX10_work_75 : decode cX10_work 75 = .ok (.iadd, 1) := by decide +kernel
theorem dX10_work_76 : decode cX10_work 76 = .ok (.iadd, 1) := by decide +kernel
theorem dX10_work_77 : decode cX10_work 77 = .ok (.iastore, 1) := by decide +kernel
theorem dX10_work_78 : decode cX10_work 78 = .ok (.aload_n 0, 1) := by decide +kernel
theorem dX10_work_79 : decode cX10_work 79 = .ok (.getfield 25, 3) := by decide +kernel
theorem dX10_work_82 : decode cX10_work 82 = .ok (.iload_n 1, 1) := by decide +kernel
theorem dX10_work_83 : decode cX10_work 83 = .ok (.iaload, 1) := by decide +kernel
theorem dX10_work_84 : decode cX10_work 84 = .ok (.ireturn, 1) := by decide +kernel
set_option maxRecDepth 20000 in
theorem ggX10_does_X10_modulo : GoodIn wsX10_does wsX10_modulo := goodIn_r _ [9] (by decide +kernel) (by decide +kernel)
set_option maxRecDepth 20000 in
theorem gX10_does_X10_modulo : GoodIn wsX10_does (va_wsS RX10 118 yX10_modulo wsX10_modulo) := goodIn_app (goodIn_of _ (by decide +kernel)) ggX10_does_X10_modulo
set_option maxRecDepth 20000 in
theorem ggX10_does_X10_ofStall : GoodIn wsX10_does wsX10_ofStall := goodIn_r _ [13, 14, 15, 3, 16, 17, 18, 19, 8, 20, 21, 22, 23, 24, 25, 26, 69, 70, 71, 72, 73, 74, 75, 76, 77, 78, 79, 80, 81, 82, 83, 84, 85, 86, 87, 88, 89, 90, 91, 92, 93, 94, 95, 96, 97, 98, 99, 100, 101, 102, 103] (by decide +kernel) (by decide +kernel)
set_option maxRecDepth 20000 in
theorem gX10_does_X10_ofStall : GoodIn wsX10_does (wsV RX10 122 RX10 yX10_ofStall wsX10_ofStall) := goodIn_app (goodIn_of _ (by decide +kernel)) ggX10_does_X10_ofStall
set_option maxRecDepth 20000 in
theorem ggX10_does_X10_work : GoodIn wsX10_does wsX10_work := goodIn_r _ [30, 31, 32, 33, 14, 69, 70, 71, 72, 73, 74, 75, 76, 77, 78, 79, 80, 81, 82, 83, 84, 85, 86, 87, 88, 89, 90, 91, 92, 93, 94, 95, 96, 97, 98, 99, 100, 101, 102, 103] (by decide +kernel) (by decide +kernel)
set_option maxRecDepth 20000 in
theorem gX10_does_X10_work : GoodIn wsX10_does (wsV RX10 126 RX10 yX10_work wsX10_work) := goodIn_app (goodIn_of _ (by decide +kernel)) ggX10_does_X10_work
set_option maxRecDepth 20000 in
theorem ggX10_does_X10_come : GoodIn wsX10_does wsX10_come := goodIn_r _ [20, 21, 69, 70, 71, 72, 73, 74, 75, 76, 77, 78, 79, 80, 81, 82, 83, 84, 85, 86, 87, 88, 89, 90, 91, 92, 93, 94, 95, 96, 97, 98, 99, 100, 101, 102, 103] (by decide +kernel) (by decide +kernel)
set_option maxRecDepth 20000 in
theorem gX10_does_X10_come : GoodIn wsX10_does (wsV RX10 129 RX10 yX10_come wsX10_come) := goodIn_app (goodIn_of _ (by decide +kernel)) ggX10_does_X10_come
set_option maxRecDepth 20000 in
theorem ggX10_does_X10_ofTeam : GoodIn wsX10_does wsX10_ofTeam := goodIn_r _ [37, 38, 39, 40, 1, 41, 42, 8, 43, 6, 7, 9, 17, 18, 19, 20, 21, 44, 45, 46, 47, 27, 28, 29, 30, 31, 32, 33, 14, 48, 49, 50, 51, 52, 53, 54, 69, 70, 71, 72, 73, 74, 75, 76, 77, 78, 79, 80, 81, 82, 83, 84, 85, 86, 87, 88, 89, 90, 91, 92, 93, 94, 95, 96, 97, 98, 99, 100, 101, 102, 103] (by decide +kernel) (by decide +kernel)
set_option maxRecDepth 20000 in
theorem gX10_does_X10_ofTeam : GoodIn wsX10_does (wsV RX10 133 RX10 yX10_ofTeam wsX10_ofTeam) := goodIn_app (goodIn_of _ (by decide +kernel)) ggX10_does_X10_ofTeam
set_option maxRecDepth 20000 in
theorem ggX10_does_X10_ofLedger : GoodIn wsX10_does wsX10_ofLedger := goodIn_r _ [58, 59, 60, 41, 42, 8, 43, 17, 18, 19, 20, 21, 48, 49, 50, 69, 70, 71, 72, 73, 74, 75, 76, 77, 78, 79, 80, 81, 82, 83, 84, 85, 86, 87, 88, 89, 90, 91, 92, 93, 94, 95, 96, 97, 98, 99, 100, 101, 102, 103] (by decide +kernel) (by decide +kernel)
set_option maxRecDepth 20000 in
theorem gX10_does_X10_ofLedger : GoodIn wsX10_does (wsV RX10 137 RX10 yX10_ofLedger wsX10_ofLedger) := goodIn_app (goodIn_of _ (by decide +kernel)) ggX10_does_X10_ofLedger
set_option maxRecDepth 20000 in
theorem ggX10_does_X10_ofTable : GoodIn wsX10_does wsX10_ofTable := goodIn_r _ [64, 65, 66, 67, 68, 41, 42, 8, 43, 17, 18, 19, 20, 21, 48, 49, 50, 69, 70, 71, 72, 73, 74, 75, 76, 77, 78, 79, 80, 81, 82, 83, 84, 85, 86, 87, 88, 89, 90, 91, 92, 93, 94, 95, 96, 97, 98, 99, 100, 101, 102, 103] (by decide +kernel) (by decide +kernel)
set_option maxRecDepth 20000 in
theorem gX10_does_X10_ofTable : GoodIn wsX10_does (wsV RX10 140 RX10 yX10_ofTable wsX10_ofTable) := goodIn_app (goodIn_of _ (by decide +kernel)) ggX10_does_X10_ofTable
theorem dX10_does_0 : decode cX10_does 0 = .ok (.iload_n 1, 1) := by decide +kernel
theorem dX10_does_1 : decode cX10_does 1 = .ok (.iconst 4, 1) := by decide +kernel
theorem dX10_does_2 : decode cX10_does 2 = .ok (.if_icmp .lt 9, 3) := by decide +kernel
theorem dX10_does_5 : decode cX10_does 5 = .ok (.iload_n 1, 1) := by decide +kernel
theorem dX10_does_6 : decode cX10_does 6 = .ok (.bipush 6, 2) := by decide +kernel
theorem dX10_does_8 : decode cX10_does 8 = .ok (.if_icmp .ne 21, 3) := by decide +kernel
theorem dX10_does_11 : decode cX10_does 11 = .ok (.aload_n 0, 1) := by decide +kernel
theorem dX10_does_12 : decode cX10_does 12 = .ok (.iload_n 1, 1) := by decide +kernel
theorem dX10_does_13 : decode cX10_does 13 = .ok (.aload_n 0, 1) := by decide +kernel
theorem dX10_does_14 : decode cX10_does 14 = .ok (.getfield 34, 3) := by decide +kernel
theorem dX10_does_17 : decode cX10_does 17 = .ok (.iload_n 2, 1) := by decide +kernel
theorem dX10_does_18 : decode cX10_does 18 = .ok (.bipush 10, 2) := by decide +kernel
theorem dX10_does_20 : decode cX10_does 20 = .ok (.invokestatic 118, 3) := by decide +kernel
theorem dX10_does_23 : decode cX10_does 23 = .ok (.iaload, 1) := by decide +kernel
theorem dX10_does_24 : decode cX10_does 24 = .ok (.iload_n 3, 1) := by decide +kernel
theorem dX10_does_25 : decode cX10_does 25 = .ok (.invokevirtual 122, 3) := by decide +kernel
theorem dX10_does_28 : decode cX10_does 28 = .ok (.ireturn, 1) := by decide +kernel
theorem dX10_does_29 : decode cX10_does 29 = .ok (.iload_n 1, 1) := by decide +kernel
theorem dX10_does_30 : decode cX10_does 30 = .ok (.bipush 6, 2) := by decide +kernel
theorem dX10_does_32 : decode cX10_does 32 = .ok (.if_icmp .ge 66, 3) := by decide +kernel
theorem dX10_does_35 : decode cX10_does 35 = .ok (.aload_n 0, 1) := by decide +kernel
theorem dX10_does_36 : decode cX10_does 36 = .ok (.getfield 37, 3) := by decide +kernel
theorem dX10_does_39 : decode cX10_does 39 = .ok (.iload_n 2, 1) := by decide +kernel
theorem dX10_does_40 : decode cX10_does 40 = .ok (.bipush 6, 2) := by decide +kernel
theorem dX10_does_42 : decode cX10_does 42 = .ok (.invokestatic 118, 3) := by decide +kernel
theorem dX10_does_45 : decode cX10_does 45 = .ok (.iaload, 1) := by decide +kernel
theorem dX10_does_46 : decode cX10_does 46 = .ok (.istore 5, 2) := by decide +kernel
theorem dX10_does_48 : decode cX10_does 48 = .ok (.iload_n 1, 1) := by decide +kernel
theorem dX10_does_49 : decode cX10_does 49 = .ok (.iconst 5, 1) := by decide +kernel
theorem dX10_does_50 : decode cX10_does 50 = .ok (.if_icmp .ne 12, 3) := by decide +kernel
theorem dX10_does_53 : decode cX10_does 53 = .ok (.iload 5, 2) := by decide +kernel
theorem dX10_does_55 : decode cX10_does 55 = .ok (.bipush 100, 2) := by decide +kernel
theorem dX10_does_57 : decode cX10_does 57 = .ok (.if_icmp .lt 5, 3) := by decide +kernel
theorem dX10_does_60 : decode cX10_does 60 = .ok (.iconst 3, 1) := by decide +kernel
theorem dX10_does_61 : decode cX10_does 61 = .ok (.ireturn, 1) := by decide +kernel
theorem dX10_does_62 : decode cX10_does 62 = .ok (.iload 5, 2) := by decide +kernel
theorem dX10_does_64 : decode cX10_does 64 = .ok (.ifCond .ge 7, 3) := by decide +kernel
theorem dX10_does_67 : decode cX10_does 67 = .ok (.iconst 1, 1) := by decide +kernel
theorem dX10_does_68 : decode cX10_does 68 = .ok (.goto 29, 3) := by decide +kernel
theorem dX10_does_71 : decode cX10_does 71 = .ok (.aload_n 0, 1) := by decide +kernel
theorem dX10_does_72 : decode cX10_does 72 = .ok (.iload_n 1, 1) := by decide +kernel
theorem dX10_does_73 : decode cX10_does 73 = .ok (.iconst 4, 1) := by decide +kernel
theorem dX10_does_74 : decode cX10_does 74 = .ok (.if_icmp .ne 13, 3) := by decide +kernel
theorem dX10_does_77 : decode cX10_does 77 = .ok (.aload_n 0, 1) := by decide +kernel
theorem dX10_does_78 : decode cX10_does 78 = .ok (.iload 5, 2) := by decide +kernel
theorem dX10_does_80 : decode cX10_does 80 = .ok (.iload_n 3, 1) := by decide +kernel
theorem dX10_does_81 : decode cX10_does 81 = .ok (.invokevirtual 126, 3) := by decide +kernel
theorem dX10_does_84 : decode cX10_does 84 = .ok (.goto 10, 3) := by decide +kernel
theorem dX10_does_87 : decode cX10_does 87 = .ok (.aload_n 0, 1) := by decide +kernel
theorem dX10_does_88 : decode cX10_does 88 = .ok (.getfield 13, 3) := by decide +kernel
theorem dX10_does_91 : decode cX10_does 91 = .ok (.iload 5, 2) := by decide +kernel
theorem dX10_does_93 : decode cX10_does 93 = .ok (.iaload, 1) := by decide +kernel
theorem dX10_does_94 : decode cX10_does 94 = .ok (.invokevirtual 129, 3) := by decide +kernel
theorem dX10_does_97 : decode cX10_does 97 = .ok (.ireturn, 1) := by decide +kernel
theorem dX10_does_98 : decode cX10_does 98 = .ok (.iload_n 1, 1) := by decide +kernel
theorem dX10_does_99 : decode cX10_does 99 = .ok (.bipush 12, 2) := by decide +kernel
theorem dX10_does_101 : decode cX10_does 101 = .ok (.if_icmp .ge 18, 3) := by decide +kernel
theorem dX10_does_104 : decode cX10_does 104 = .ok (.aload_n 0, 1) := by decide +kernel
theorem dX10_does_105 : decode cX10_does 105 = .ok (.iload_n 1, 1) := by decide +kernel
theorem dX10_does_106 : decode cX10_does 106 = .ok (.iload_n 2, 1) := by decide +kernel
theorem dX10_does_107 : decode cX10_does 107 = .ok (.bipush 6, 2) := by decide +kernel
theorem dX10_does_109 : decode cX10_does 109 = .ok (.invokestatic 118, 3) := by decide +kernel
theorem dX10_does_112 : decode cX10_does 112 = .ok (.iload_n 3, 1) := by decide +kernel
theorem dX10_does_113 : decode cX10_does 113 = .ok (.iload 4, 2) := by decide +kernel
theorem dX10_does_115 : decode cX10_does 115 = .ok (.invokevirtual 133, 3) := by decide +kernel
theorem dX10_does_118 : decode cX10_does 118 = .ok (.ireturn, 1) := by decide +kernel
theorem dX10_does_119 : decode cX10_does 119 = .ok (.iload_n 1, 1) := by decide +kernel
theorem dX10_does_120 : decode cX10_does 120 = .ok (.bipush 15, 2) := by decide +kernel
theorem dX10_does_122 : decode cX10_does 122 = .ok (.if_icmp .ge 17, 3) := by decide +kernel
theorem dX10_does_125 : decode cX10_does 125 = .ok (.aload_n 0, 1) := by decide +kernel
theorem dX10_does_126 : decode cX10_does 126 = .ok (.iload_n 1, 1) := by decide +kernel
theorem dX10_does_127 : decode cX10_does 127 = .ok (.iload_n 2, 1) := by decide +kernel
theorem dX10_does_128 : decode cX10_does 128 = .ok (.iconst 4, 1) := by decide +kernel
theorem dX10_does_129 : decode cX10_does 129 = .ok (.invokestatic 118, 3) := by decide +kernel
theorem dX10_does_132 : decode cX10_does 132 = .ok (.iload_n 3, 1) := by decide +kernel
theorem dX10_does_133 : decode cX10_does 133 = .ok (.iload 4, 2) := by decide +kernel
theorem dX10_does_135 : decode cX10_does 135 = .ok (.invokevirtual 137, 3) := by decide +kernel
theorem dX10_does_138 : decode cX10_does 138 = .ok (.ireturn, 1) := by decide +kernel
theorem dX10_does_139 : decode cX10_does 139 = .ok (.iload_n 1, 1) := by decide +kernel
theorem dX10_does_140 : decode cX10_does 140 = .ok (.bipush 17, 2) := by decide +kernel
theorem dX10_does_142 : decode cX10_does 142 = .ok (.if_icmp .ge 17, 3) := by decide +kernel
theorem dX10_does_145 : decode cX10_does 145 = .ok (.aload_n 0, 1) := by decide +kernel
theorem dX10_does_146 : decode cX10_does 146 = .ok (.iload_n 1, 1) := by decide +kernel
theorem dX10_does_147 : decode cX10_does 147 = .ok (.iload_n 2, 1) := by decide +kernel
theorem dX10_does_148 : decode cX10_does 148 = .ok (.iconst 4, 1) := by decide +kernel
theorem dX10_does_149 : decode cX10_does 149 = .ok (.invokestatic 118, 3) := by decide +kernel
theorem dX10_does_152 : decode cX10_does 152 = .ok (.iload_n 3, 1) := by decide +kernel
theorem dX10_does_153 : decode cX10_does 153 = .ok (.iload 4, 2) := by decide +kernel
theorem dX10_does_155 : decode cX10_does 155 = .ok (.invokevirtual 140, 3) := by decide +kernel
theorem dX10_does_158 : decode cX10_does 158 = .ok (.ireturn, 1) := by decide +kernel
theorem dX10_does_159 : decode cX10_does 159 = .ok (.iload_n 2, 1) := by decide +kernel
theorem dX10_does_160 : decode cX10_does 160 = .ok (.bipush 6, 2) := by decide +kernel
theorem dX10_does_162 : decode cX10_does 162 = .ok (.invokestatic 118, 3) := by decide +kernel
theorem dX10_does_165 : decode cX10_does 165 = .ok (.istore 5, 2) := by decide +kernel
theorem dX10_does_167 : decode cX10_does 167 = .ok (.aload_n 0, 1) := by decide +kernel
theorem dX10_does_168 : decode cX10_does 168 = .ok (.getfield 68, 3) := by decide +kernel
theorem dX10_does_171 : decode cX10_does 171 = .ok (.iload 5, 2) := by decide +kernel
theorem dX10_does_173 : decode cX10_does 173 = .ok (.baload, 1) := by decide +kernel
theorem dX10_does_174 : decode cX10_does 174 = .ok (.ifCond .ne 5, 3) := by decide +kernel
theorem dX10_does_177 : decode cX10_does 177 = .ok (.iconst 1, 1) := by decide +kernel
theorem dX10_does_178 : decode cX10_does 178 = .ok (.ireturn, 1) := by decide +kernel
theorem dX10_does_179 : decode cX10_does 179 = .ok (.aload_n 0, 1) := by decide +kernel
theorem dX10_does_180 : decode cX10_does 180 = .ok (.aload_n 0, 1) := by decide +kernel
theorem dX10_does_181 : decode cX10_does 181 = .ok (.getfield 71, 3) := by decide +kernel
theorem dX10_does_184 : decode cX10_does 184 = .ok (.iload 5, 2) := by decide +kernel
theorem dX10_does_186 : decode cX10_does 186 = .ok (.iaload, 1) := by decide +kernel
theorem dX10_does_187 : decode cX10_does 187 = .ok (.invokevirtual 129, 3) := by decide +kernel
theorem dX10_does_190 : decode cX10_does 190 = .ok (.pop, 1) := by decide +kernel
theorem dX10_does_191 : decode cX10_does 191 = .ok (.bipush 6, 2) := by decide +kernel
theorem dX10_does_193 : decode cX10_does 193 = .ok (.ireturn, 1) := by decide +kernel
set_option maxRecDepth 20000 in
theorem ggX10_ofStall_X10_come : GoodIn wsX10_ofStall wsX10_come := goodIn_r _ [9, 10, 16, 17, 18, 19, 20, 21, 22, 23, 24, 25, 26, 27, 28, 29, 30, 31, 32, 33, 34, 35, 36, 37, 38, 39, 40, 41, 42, 43, 44, 45, 46, 47, 48, 49, 50] (by decide +kernel) (by decide +kernel)
set_option maxRecDepth 20000 in
theorem gX10_ofStall_X10_come : GoodIn wsX10_ofStall (wsV RX10 129 RX10 yX10_come wsX10_come) := goodIn_app (goodIn_of _ (by decide +kernel)) ggX10_ofStall_X10_come
set_option maxRecDepth 20000 in
theorem ggX10_ofStall_X10_groom : GoodIn wsX10_ofStall wsX10_groom := goodIn_r _ [14, 15, 1, 4, 16, 17, 18, 19, 20, 21, 22, 23, 24, 25, 26, 27, 28, 29, 30, 31, 32, 33, 34, 35, 36, 37, 38, 39, 40, 41, 42, 43, 44, 45, 46, 47, 48, 49, 50] (by decide +kernel) (by decide +kernel)
set_option maxRecDepth 20000 in
theorem gX10_ofStall_X10_groom : GoodIn wsX10_ofStall (wsV RX10 143 RX10 yX10_groom wsX10_groom) := goodIn_app (goodIn_of _ (by decide +kernel)) ggX10_ofStall_X10_groom
theorem dX10_ofStall_0 : decode cX10_ofStall 0 = .ok (.iload_n 1, 1) := by decide +kernel
theorem dX10_ofStall_1 : decode cX10_ofStall 1 = .ok (.bipush 6, 2) := by decide +kernel
theorem dX10_ofStall_3 : decode cX10_ofStall 3 = .ok (.if_icmp .ne 19, 3) := by decide +kernel
theorem dX10_ofStall_6 : decode cX10_ofStall 6 = .ok (.iload_n 2, 1) := by decide +kernel
theorem dX10_ofStall_7 : decode cX10_ofStall 7 = .ok (.ifCond .lt 15, 3) := by decide +kernel
theorem dX10_ofStall_10 : decode cX10_ofStall 10 = .ok (.aload_n 0, 1) := by decide +kernel
theorem dX10_ofStall_11 : decode cX10_ofStall 11 = .ok (.getfield 7, 3) := by decide +kernel
theorem dX10_ofStall_14 : decode cX10_ofStall 14 = .ok (.iload_n 2, 1) := by decide +kernel
theorem dX10_ofStall_15 : decode cX10_ofStall 15 = .ok (.iaload, 1) := by decide +kernel
theorem dX10_ofStall_16 : decode cX10_ofStall 16 = .ok (.iconst 2, 1) := by decide +kernel
theorem dX10_ofStall_17 : decode cX10_ofStall 17 = .ok (.if_icmp .eq 5, 3) := by decide +kernel
theorem dX10_ofStall_20 : decode cX10_ofStall 20 = .ok (.iconst 3, 1) := by decide +kernel
theorem dX10_ofStall_21 : decode cX10_ofStall 21 = .ok (.ireturn, 1) := by decide +kernel
theorem dX10_ofStall_22 : decode cX10_ofStall 22 = .ok (.iload_n 2, 1) := by decide +kernel
theorem dX10_ofStall_23 : decode cX10_ofStall 23 = .ok (.ifCond .ge 5, 3) := by decide +kernel
theorem dX10_ofStall_26 : decode cX10_ofStall 26 = .ok (.iconst 1, 1) := by decide +kernel
theorem dX10_ofStall_27 : decode cX10_ofStall 27 = .ok (.ireturn, 1) := by decide +kernel
theorem dX10_ofStall_28 : decode cX10_ofStall 28 = .ok (.iload_n 1, 1) := by decide +kernel
theorem dX10_ofStall_29 : decode cX10_ofStall 29 = .ok (.tableswitch 86 0 3 #[31, 52, 63, 76], 31) := by decide +kernel
theorem dX10_ofStall_60 : decode cX10_ofStall 60 = .ok (.aload_n 0, 1) := by decide +kernel
theorem dX10_ofStall_61 : decode cX10_ofStall 61 = .ok (.getfield 16, 3) := by decide +kernel
theorem dX10_ofStall_64 : decode cX10_ofStall 64 = .ok (.iload_n 2, 1) := by decide +kernel
theorem dX10_ofStall_65 : decode cX10_ofStall 65 = .ok (.dup2, 1) := by decide +kernel
theorem dX10_ofStall_66 : decode cX10_ofStall 66 = .ok (.iaload, 1) := by decide +kernel
theorem dX10_ofStall_67 : decode cX10_ofStall 67 = .ok (.iload_n 3, 1) := by decide +kernel
theorem dX10_ofStall_68 : decode cX10_ofStall 68 = .ok (.iadd, 1) := by decide +kernel
theorem dX10_ofStall_69 : decode cX10_ofStall 69 = .ok (.iastore, 1) := by decide +kernel
theorem dX10_ofStall_70 : decode cX10_ofStall 70 = .ok (.aload_n 0, 1) := by decide +kernel
theorem dX10_ofStall_71 : decode cX10_ofStall 71 = .ok (.aload_n 0, 1) := by decide +kernel
theorem dX10_ofStall_72 : decode cX10_ofStall 72 = .ok (.getfield 16, 3) := by decide +kernel
theorem dX10_ofStall_75 : decode cX10_ofStall 75 = .ok (.iload_n 2, 1) := by decide +kernel
theorem dX10_ofStall_76 : decode cX10_ofStall 76 = .ok (.iaload, 1) := by decide +kernel
theorem dX10_ofStall_77 : decode cX10_ofStall 77 = .ok (.invokevirtual 129, 3) := by decide +kernel
theorem dX10_ofStall_80 : decode cX10_ofStall 80 = .ok (.ireturn, 1) := by decide +kernel
theorem dX10_ofStall_81 : decode cX10_ofStall 81 = .ok (.aload_n 0, 1) := by decide +kernel
theorem dX10_ofStall_82 : decode cX10_ofStall 82 = .ok (.aload_n 0, 1) := by decide +kernel
theorem dX10_ofStall_83 : decode cX10_ofStall 83 = .ok (.getfield 13, 3) := by decide +kernel
theorem dX10_ofStall_86 : decode cX10_ofStall 86 = .ok (.iload_n 2, 1) := by decide +kernel
theorem dX10_ofStall_87 : decode cX10_ofStall 87 = .ok (.iaload, 1) := by decide +kernel
theorem dX10_ofStall_88 : decode cX10_ofStall 88 = .ok (.invokevirtual 129, 3) := by decide +kernel
theorem dX10_ofStall_91 : decode cX10_ofStall 91 = .ok (.ireturn, 1) := by decide +kernel
theorem dX10_ofStall_92 : decode cX10_ofStall 92 = .ok (.aload_n 0, 1) := by decide +kernel
theorem dX10_ofStall_93 : decode cX10_ofStall 93 = .ok (.getfield 19, 3) := by decide +kernel
theorem dX10_ofStall_96 : decode cX10_ofStall 96 = .ok (.iload_n 2, 1) := by decide +kernel
theorem dX10_ofStall_97 : decode cX10_ofStall 97 = .ok (.iload_n 3, 1) := by decide +kernel
theorem dX10_ofStall_98 : decode cX10_ofStall 98 = .ok (.iastore, 1) := by decide +kernel
theorem dX10_ofStall_99 : decode cX10_ofStall 99 = .ok (.aload_n 0, 1) := by decide +kernel
theorem dX10_ofStall_100 : decode cX10_ofStall 100 = .ok (.iconst 0, 1) := by decide +kernel
theorem dX10_ofStall_101 : decode cX10_ofStall 101 = .ok (.invokevirtual 129, 3) := by decide +kernel
theorem dX10_ofStall_104 : decode cX10_ofStall 104 = .ok (.ireturn, 1) := by decide +kernel
theorem dX10_ofStall_105 : decode cX10_ofStall 105 = .ok (.aload_n 0, 1) := by decide +kernel
theorem dX10_ofStall_106 : decode cX10_ofStall 106 = .ok (.aload_n 0, 1) := by decide +kernel
theorem dX10_ofStall_107 : decode cX10_ofStall 107 = .ok (.iload_n 2, 1) := by decide +kernel
theorem dX10_ofStall_108 : decode cX10_ofStall 108 = .ok (.invokevirtual 143, 3) := by decide +kernel
theorem dX10_ofStall_111 : decode cX10_ofStall 111 = .ok (.invokevirtual 129, 3) := by decide +kernel
theorem dX10_ofStall_114 : decode cX10_ofStall 114 = .ok (.ireturn, 1) := by decide +kernel
theorem dX10_ofStall_115 : decode cX10_ofStall 115 = .ok (.aload_n 0, 1) := by decide +kernel
theorem dX10_ofStall_116 : decode cX10_ofStall 116 = .ok (.aload_n 0, 1) := by decide +kernel
theorem dX10_ofStall_117 : decode cX10_ofStall 117 = .ok (.getfield 19, 3) := by decide +kernel
theorem dX10_ofStall_120 : decode cX10_ofStall 120 = .ok (.iload_n 2, 1) := by decide +kernel
theorem dX10_ofStall_121 : decode cX10_ofStall 121 = .ok (.iaload, 1) := by decide +kernel
theorem dX10_ofStall_122 : decode cX10_ofStall 122 = .ok (.invokevirtual 129, 3) := by decide +kernel
theorem dX10_ofStall_125 : decode cX10_ofStall 125 = .ok (.ireturn, 1) := by decide +kernel
theorem dX10_isFor_0 : decode cX10_isFor 0 = .ok (.iload_n 2, 1) := by decide +kernel
theorem dX10_isFor_1 : decode cX10_isFor 1 = .ok (.ifCond .lt 18, 3) := by decide +kernel
theorem dX10_isFor_4 : decode cX10_isFor 4 = .ok (.aload_n 0, 1) := by decide +kernel
theorem dX10_isFor_5 : decode cX10_isFor 5 = .ok (.getfield 7, 3) := by decide +kernel
theorem dX10_isFor_8 : decode cX10_isFor 8 = .ok (.iload_n 2, 1) := by decide +kernel
theorem dX10_isFor_9 : decode cX10_isFor 9 = .ok (.iaload, 1) := by decide +kernel
theorem dX10_isFor_10 : decode cX10_isFor 10 = .ok (.aload_n 0, 1) := by decide +kernel
theorem dX10_isFor_11 : decode cX10_isFor 11 = .ok (.getfield 43, 3) := by decide +kernel
theorem dX10_isFor_14 : decode cX10_isFor 14 = .ok (.iload_n 1, 1) := by decide +kernel
theorem dX10_isFor_15 : decode cX10_isFor 15 = .ok (.iaload, 1) := by decide +kernel
theorem dX10_isFor_16 : decode cX10_isFor 16 = .ok (.if_icmp .lt 7, 3) := by decide +kernel
theorem dX10_isFor_19 : decode cX10_isFor 19 = .ok (.iconst 1, 1) := by decide +kernel
theorem dX10_isFor_20 : decode cX10_isFor 20 = .ok (.goto 4, 3) := by decide +kernel
theorem dX10_isFor_23 : decode cX10_isFor 23 = .ok (.iconst 0, 1) := by decide +kernel
theorem dX10_isFor_24 : decode cX10_isFor 24 = .ok (.ireturn, 1) := by decide +kernel
set_option maxRecDepth 20000 in
theorem ggX10_ofTeam_X10_least : GoodIn wsX10_ofTeam wsX10_least := goodIn_r _ [8] (by decide +kernel) (by decide +kernel)
set_option maxRecDepth 20000 in
theorem gX10_ofTeam_X10_least : GoodIn wsX10_ofTeam (va_wsS RX10 146 yX10_least wsX10_least) := goodIn_app (goodIn_of _ (by decide +kernel)) ggX10_ofTeam_X10_least
set_option maxRecDepth 20000 in
theorem ggX10_ofTeam_X10_modulo : GoodIn wsX10_ofTeam wsX10_modulo := goodIn_r _ [11] (by decide +kernel) (by decide +kernel)
set_option maxRecDepth 20000 in
theorem gX10_ofTeam_X10_modulo : GoodIn wsX10_ofTeam (va_wsS RX10 118 yX10_modulo wsX10_modulo) := goodIn_app (goodIn_of _ (by decide +kernel)) ggX10_ofTeam_X10_modulo
set_option maxRecDepth 20000 in
theorem ggX10_ofTeam_X10_come : GoodIn wsX10_ofTeam wsX10_come := goodIn_r _ [15, 16, 36, 37, 38, 39, 40, 41, 42, 43, 44, 45, 46, 47, 48, 49, 50, 51, 52, 53, 54, 55, 56, 57, 58, 59, 60, 61, 62, 63, 64, 65, 66, 67, 68, 69, 70] (by decide +kernel) (by decide +kernel)
set_option maxRecDepth 20000 in
theorem gX10_ofTeam_X10_come : GoodIn wsX10_ofTeam (wsV RX10 129 RX10 yX10_come wsX10_come) := goodIn_app (goodIn_of _ (by decide +kernel)) ggX10_ofTeam_X10_come
set_option maxRecDepth 20000 in
theorem ggX10_ofTeam_X10_worksAll : GoodIn wsX10_ofTeam wsX10_worksAll := goodIn_r _ [20, 1, 3, 21, 22, 23, 7, 24, 25, 26, 27, 28, 12, 13, 14, 15, 16, 36, 37, 38, 39, 40, 41, 42, 43, 44, 45, 46, 47, 48, 49, 50, 51, 52, 53, 54, 55, 56, 57, 58, 59, 60, 61, 62, 63, 64, 65, 66, 67, 68, 69, 70] (by decide +kernel) (by decide +kernel)
set_option maxRecDepth 20000 in
theorem gX10_ofTeam_X10_worksAll : GoodIn wsX10_ofTeam (wsV RX10 149 RX10 yX10_worksAll wsX10_worksAll) := goodIn_app (goodIn_of _ (by decide +kernel)) ggX10_ofTeam_X10_worksAll
set_option maxRecDepth 20000 in
theorem ggX10_ofTeam_X10_in : GoodIn wsX10_ofTeam wsX10_in := goodIn_r _ [31] (by decide +kernel) (by decide +kernel)
set_option maxRecDepth 20000 in
theorem gX10_ofTeam_X10_in : GoodIn wsX10_ofTeam (va_wsS RX10 95 yX10_in wsX10_in) := goodIn_app (goodIn_of _ (by decide +kernel)) ggX10_ofTeam_X10_in
set_option maxRecDepth 20000 in
theorem ggX10_ofTeam_X10_isFor : GoodIn wsX10_ofTeam wsX10_isFor := goodIn_r _ [35, 28, 2, 36, 37, 38, 39, 40, 41, 42, 43, 44, 45, 46, 47, 48, 49, 50, 51, 52, 53, 54, 55, 56, 57, 58, 59, 60, 61, 62, 63, 64, 65, 66, 67, 68, 69, 70] (by decide +kernel) (by decide +kernel)
set_option maxRecDepth 20000 in
theorem gX10_ofTeam_X10_isFor : GoodIn wsX10_ofTeam (wsV RX10 152 RX10 yX10_isFor wsX10_isFor) := goodIn_app (goodIn_of _ (by decide +kernel)) ggX10_ofTeam_X10_isFor
theorem dX10_ofTeam_0 : decode cX10_ofTeam 0 = .ok (.iload_n 1, 1) := by decide +kernel
theorem dX10_ofTeam_1 : decode cX10_ofTeam 1 = .ok (.bipush 7, 2) := by decide +kernel
theorem dX10_ofTeam_3 : decode cX10_ofTeam 3 = .ok (.if_icmp .ne 74, 3) := by decide +kernel
theorem dX10_ofTeam_6 : decode cX10_ofTeam 6 = .ok (.iload 4, 2) := by decide +kernel
theorem dX10_ofTeam_8 : decode cX10_ofTeam 8 = .ok (.ifCond .ge 5, 3) := by decide +kernel
theorem dX10_ofTeam_11 : decode cX10_ofTeam 11 = .ok (.iconst 2, 1) := by decide +kernel
theorem dX10_ofTeam_12 : decode cX10_ofTeam 12 = .ok (.ireturn, 1) := by decide +kernel
theorem dX10_ofTeam_13 : decode cX10_ofTeam 13 = .ok (.aload_n 0, 1) := by decide +kernel
theorem dX10_ofTeam_14 : decode cX10_ofTeam 14 = .ok (.getfield 40, 3) := by decide +kernel
theorem dX10_ofTeam_17 : decode cX10_ofTeam 17 = .ok (.iload_n 2, 1) := by decide +kernel
theorem dX10_ofTeam_18 : decode cX10_ofTeam 18 = .ok (.iload 4, 2) := by decide +kernel
theorem dX10_ofTeam_20 : decode cX10_ofTeam 20 = .ok (.bipush 8, 2) := by decide +kernel
theorem dX10_ofTeam_22 : decode cX10_ofTeam 22 = .ok (.invokestatic 146, 3) := by decide +kernel
theorem dX10_ofTeam_25 : decode cX10_ofTeam 25 = .ok (.iastore, 1) := by decide +kernel
theorem dX10_ofTeam_26 : decode cX10_ofTeam 26 = .ok (.aload_n 0, 1) := by decide +kernel
theorem dX10_ofTeam_27 : decode cX10_ofTeam 27 = .ok (.getfield 43, 3) := by decide +kernel
theorem dX10_ofTeam_30 : decode cX10_ofTeam 30 = .ok (.iload_n 2, 1) := by decide +kernel
theorem dX10_ofTeam_31 : decode cX10_ofTeam 31 = .ok (.iload_n 3, 1) := by decide +kernel
theorem dX10_ofTeam_32 : decode cX10_ofTeam 32 = .ok (.iconst 3, 1) := by decide +kernel
theorem dX10_ofTeam_33 : decode cX10_ofTeam 33 = .ok (.invokestatic 118, 3) := by decide +kernel
theorem dX10_ofTeam_36 : decode cX10_ofTeam 36 = .ok (.iastore, 1) := by decide +kernel
theorem dX10_ofTeam_37 : decode cX10_ofTeam 37 = .ok (.iconst 0, 1) := by decide +kernel
theorem dX10_ofTeam_38 : decode cX10_ofTeam 38 = .ok (.istore 5, 2) := by decide +kernel
theorem dX10_ofTeam_40 : decode cX10_ofTeam 40 = .ok (.iload 5, 2) := by decide +kernel
theorem dX10_ofTeam_42 : decode cX10_ofTeam 42 = .ok (.bipush 8, 2) := by decide +kernel
theorem dX10_ofTeam_44 : decode cX10_ofTeam 44 = .ok (.if_icmp .ge 22, 3) := by decide +kernel
theorem dX10_ofTeam_47 : decode cX10_ofTeam 47 = .ok (.aload_n 0, 1) := by decide +kernel
theorem dX10_ofTeam_48 : decode cX10_ofTeam 48 = .ok (.getfield 46, 3) := by decide +kernel
theorem dX10_ofTeam_51 : decode cX10_ofTeam 51 = .ok (.bipush 8, 2) := by decide +kernel
theorem dX10_ofTeam_53 : decode cX10_ofTeam 53 = .ok (.iload_n 2, 1) := by decide +kernel
theorem dX10_ofTeam_54 : decode cX10_ofTeam 54 = .ok (.imul, 1) := by decide +kernel
theorem dX10_ofTeam_55 : decode cX10_ofTeam 55 = .ok (.iload 5, 2) := by decide +kernel
theorem dX10_ofTeam_57 : decode cX10_ofTeam 57 = .ok (.iadd, 1) := by decide +kernel
theorem dX10_ofTeam_58 : decode cX10_ofTeam 58 = .ok (.iconst (-1), 1) := by decide +kernel
theorem dX10_ofTeam_59 : decode cX10_ofTeam 59 = .ok (.iastore, 1) := by decide +kernel
theorem dX10_ofTeam_60 : decode cX10_ofTeam 60 = .ok (.iinc 5 1, 3) := by decide +kernel
theorem dX10_ofTeam_63 : decode cX10_ofTeam 63 = .ok (.goto (-23), 3) := by decide +kernel
theorem dX10_ofTeam_66 : decode cX10_ofTeam 66 = .ok (.aload_n 0, 1) := by decide +kernel
theorem dX10_ofTeam_67 : decode cX10_ofTeam 67 = .ok (.aload_n 0, 1) := by decide +kernel
theorem dX10_ofTeam_68 : decode cX10_ofTeam 68 = .ok (.getfield 40, 3) := by decide +kernel
theorem dX10_ofTeam_71 : decode cX10_ofTeam 71 = .ok (.iload_n 2, 1) := by decide +kernel
theorem dX10_ofTeam_72 : decode cX10_ofTeam 72 = .ok (.iaload, 1) := by decide +kernel
theorem dX10_ofTeam_73 : decode cX10_ofTeam 73 = .ok (.invokevirtual 129, 3) := by decide +kernel
theorem dX10_ofTeam_76 : decode cX10_ofTeam 76 = .ok (.ireturn, 1) := by decide +kernel
theorem dX10_ofTeam_77 : decode cX10_ofTeam 77 = .ok (.aload_n 0, 1) := by decide +kernel
theorem dX10_ofTeam_78 : decode cX10_ofTeam 78 = .ok (.getfield 40, 3) := by decide +kernel
theorem dX10_ofTeam_81 : decode cX10_ofTeam 81 = .ok (.iload_n 2, 1) := by decide +kernel
theorem dX10_ofTeam_82 : decode cX10_ofTeam 82 = .ok (.iaload, 1) := by decide +kernel
theorem dX10_ofTeam_83 : decode cX10_ofTeam 83 = .ok (.ifCond .ge 5, 3) := by decide +kernel
theorem dX10_ofTeam_86 : decode cX10_ofTeam 86 = .ok (.iconst 1, 1) := by decide +kernel
theorem dX10_ofTeam_87 : decode cX10_ofTeam 87 = .ok (.ireturn, 1) := by decide +kernel
theorem dX10_ofTeam_88 : decode cX10_ofTeam 88 = .ok (.iload_n 1, 1) := by decide +kernel
theorem dX10_ofTeam_89 : decode cX10_ofTeam 89 = .ok (.bipush 10, 2) := by decide +kernel
theorem dX10_ofTeam_91 : decode cX10_ofTeam 91 = .ok (.if_icmp .ne 14, 3) := by decide +kernel
theorem dX10_ofTeam_94 : decode cX10_ofTeam 94 = .ok (.aload_n 0, 1) := by decide +kernel
theorem dX10_ofTeam_95 : decode cX10_ofTeam 95 = .ok (.aload_n 0, 1) := by decide +kernel
theorem dX10_ofTeam_96 : decode cX10_ofTeam 96 = .ok (.getfield 40, 3) := by decide +kernel
theorem dX10_ofTeam_99 : decode cX10_ofTeam 99 = .ok (.iload_n 2, 1) := by decide +kernel
theorem dX10_ofTeam_100 : decode cX10_ofTeam 100 = .ok (.iaload, 1) := by decide +kernel
theorem dX10_ofTeam_101 : decode cX10_ofTeam 101 = .ok (.invokevirtual 129, 3) := by decide +kernel
theorem dX10_ofTeam_104 : decode cX10_ofTeam 104 = .ok (.ireturn, 1) := by decide +kernel
theorem dX10_ofTeam_105 : decode cX10_ofTeam 105 = .ok (.iload_n 1, 1) := by decide +kernel
theorem dX10_ofTeam_106 : decode cX10_ofTeam 106 = .ok (.bipush 11, 2) := by decide +kernel
theorem dX10_ofTeam_108 : decode cX10_ofTeam 108 = .ok (.if_icmp .ne 10, 3) := by decide +kernel
theorem dX10_ofTeam_111 : decode cX10_ofTeam 111 = .ok (.aload_n 0, 1) := by decide +kernel
theorem dX10_ofTeam_112 : decode cX10_ofTeam 112 = .ok (.iload_n 2, 1) := by decide +kernel
theorem dX10_ofTeam_113 : decode cX10_ofTeam 113 = .ok (.iload_n 3, 1) := by decide +kernel
theorem dX10_ofTeam_114 : decode cX10_ofTeam 114 = .ok (.invokevirtual 149, 3) := by decide +kernel
theorem dX10_ofTeam_117 : decode cX10_ofTeam 117 = .ok (.ireturn, 1) := by decide +kernel
theorem dX10_ofTeam_118 : decode cX10_ofTeam 118 = .ok (.iload_n 3, 1) := by decide +kernel
theorem dX10_ofTeam_119 : decode cX10_ofTeam 119 = .ok (.iconst 0, 1) := by decide +kernel
theorem dX10_ofTeam_120 : decode cX10_ofTeam 120 = .ok (.aload_n 0, 1) := by decide +kernel
theorem dX10_ofTeam_121 : decode cX10_ofTeam 121 = .ok (.getfield 40, 3) := by decide +kernel
theorem dX10_ofTeam_124 : decode cX10_ofTeam 124 = .ok (.iload_n 2, 1) := by decide +kernel
theorem dX10_ofTeam_125 : decode cX10_ofTeam 125 = .ok (.iaload, 1) := by decide +kernel
theorem dX10_ofTeam_126 : decode cX10_ofTeam 126 = .ok (.iconst 1, 1) := by decide +kernel
theorem dX10_ofTeam_127 : decode cX10_ofTeam 127 = .ok (.isub, 1) := by decide +kernel
theorem dX10_ofTeam_128 : decode cX10_ofTeam 128 = .ok (.invokestatic 95, 3) := by decide +kernel
theorem dX10_ofTeam_131 : decode cX10_ofTeam 131 = .ok (.ifCond .ne 5, 3) := by decide +kernel
theorem dX10_ofTeam_134 : decode cX10_ofTeam 134 = .ok (.iconst 5, 1) := by decide +kernel
theorem dX10_ofTeam_135 : decode cX10_ofTeam 135 = .ok (.ireturn, 1) := by decide +kernel
theorem dX10_ofTeam_136 : decode cX10_ofTeam 136 = .ok (.iload 4, 2) := by decide +kernel
theorem dX10_ofTeam_138 : decode cX10_ofTeam 138 = .ok (.bipush 10, 2) := by decide +kernel
theorem dX10_ofTeam_140 : decode cX10_ofTeam 140 = .ok (.invokestatic 118, 3) := by decide +kernel
theorem dX10_ofTeam_143 : decode cX10_ofTeam 143 = .ok (.istore 5, 2) := by decide +kernel
theorem dX10_ofTeam_145 : decode cX10_ofTeam 145 = .ok (.iload_n 1, 1) := by decide +kernel
theorem dX10_ofTeam_146 : decode cX10_ofTeam 146 = .ok (.bipush 9, 2) := by decide +kernel
theorem dX10_ofTeam_148 : decode cX10_ofTeam 148 = .ok (.if_icmp .ne 41, 3) := by decide +kernel
theorem dX10_ofTeam_151 : decode cX10_ofTeam 151 = .ok (.aload_n 0, 1) := by decide +kernel
theorem dX10_ofTeam_152 : decode cX10_ofTeam 152 = .ok (.getfield 34, 3) := by decide +kernel
theorem dX10_ofTeam_155 : decode cX10_ofTeam 155 = .ok (.iload 5, 2) := by decide +kernel
theorem dX10_ofTeam_157 : decode cX10_ofTeam 157 = .ok (.aload_n 0, 1) := by decide +kernel
theorem dX10_ofTeam_158 : decode cX10_ofTeam 158 = .ok (.getfield 46, 3) := by decide +kernel
theorem dX10_ofTeam_161 : decode cX10_ofTeam 161 = .ok (.bipush 8, 2) := by decide +kernel
theorem dX10_ofTeam_163 : decode cX10_ofTeam 163 = .ok (.iload_n 2, 1) := by decide +kernel
theorem dX10_ofTeam_164 : decode cX10_ofTeam 164 = .ok (.imul, 1) := by decide +kernel
theorem dX10_ofTeam_165 : decode cX10_ofTeam 165 = .ok (.iload_n 3, 1) := by decide +kernel
theorem dX10_ofTeam_166 : decode cX10_ofTeam 166 = .ok (.iadd, 1) := by decide +kernel
theorem dX10_ofTeam_167 : decode cX10_ofTeam 167 = .ok (.iaload, 1) := by decide +kernel
theorem dX10_ofTeam_168 : decode cX10_ofTeam 168 = .ok (.iastore, 1) := by decide +kernel
theorem dX10_ofTeam_169 : decode cX10_ofTeam 169 = .ok (.aload_n 0, 1) := by decide +kernel
theorem dX10_ofTeam_170 : decode cX10_ofTeam 170 = .ok (.aload_n 0, 1) := by decide +kernel
theorem dX10_ofTeam_171 : decode cX10_ofTeam 171 = .ok (.getfield 34, 3) := by decide +kernel
theorem dX10_ofTeam_174 : decode cX10_ofTeam 174 = .ok (.iload 5, 2) := by decide +kernel
theorem dX10_ofTeam_176 : decode cX10_ofTeam 176 = .ok (.iaload, 1) := by decide +kernel
theorem dX10_ofTeam_177 : decode cX10_ofTeam 177 = .ok (.ifCond .lt 7, 3) := by decide +kernel
theorem dX10_ofTeam_180 : decode cX10_ofTeam 180 = .ok (.iconst 1, 1) := by decide +kernel
theorem dX10_ofTeam_181 : decode cX10_ofTeam 181 = .ok (.goto 4, 3) := by decide +kernel
theorem dX10_ofTeam_184 : decode cX10_ofTeam 184 = .ok (.iconst 0, 1) := by decide +kernel
theorem dX10_ofTeam_185 : decode cX10_ofTeam 185 = .ok (.invokevirtual 129, 3) := by decide +kernel
theorem dX10_ofTeam_188 : decode cX10_ofTeam 188 = .ok (.ireturn, 1) := by decide +kernel
theorem dX10_ofTeam_189 : decode cX10_ofTeam 189 = .ok (.aload_n 0, 1) := by decide +kernel
theorem dX10_ofTeam_190 : decode cX10_ofTeam 190 = .ok (.iload_n 2, 1) := by decide +kernel
theorem dX10_ofTeam_191 : decode cX10_ofTeam 191 = .ok (.aload_n 0, 1) := by decide +kernel
theorem dX10_ofTeam_192 : decode cX10_ofTeam 192 = .ok (.getfield 34, 3) := by decide +kernel
theorem dX10_ofTeam_195 : decode cX10_ofTeam 195 = .ok (.iload 5, 2) := by decide +kernel
theorem dX10_ofTeam_197 : decode cX10_ofTeam 197 = .ok (.iaload, 1) := by decide +kernel
theorem dX10_ofTeam_198 : decode cX10_ofTeam 198 = .ok (.invokevirtual 152, 3) := by decide +kernel
theorem dX10_ofTeam_201 : decode cX10_ofTeam 201 = .ok (.ifCond .ne 5, 3) := by decide +kernel
theorem dX10_ofTeam_204 : decode cX10_ofTeam 204 = .ok (.iconst 4, 1) := by decide +kernel
theorem dX10_ofTeam_205 : decode cX10_ofTeam 205 = .ok (.ireturn, 1) := by decide +kernel
theorem dX10_ofTeam_206 : decode cX10_ofTeam 206 = .ok (.aload_n 0, 1) := by decide +kernel
theorem dX10_ofTeam_207 : decode cX10_ofTeam 207 = .ok (.getfield 46, 3) := by decide +kernel
theorem dX10_ofTeam_210 : decode cX10_ofTeam 210 = .ok (.bipush 8, 2) := by decide +kernel
theorem dX10_ofTeam_212 : decode cX10_ofTeam 212 = .ok (.iload_n 2, 1) := by decide +kernel
theorem dX10_ofTeam_213 : decode cX10_ofTeam 213 = .ok (.imul, 1) := by decide +kernel
theorem dX10_ofTeam_214 : decode cX10_ofTeam 214 = .ok (.iload_n 3, 1) := by decide +kernel
theorem dX10_ofTeam_215 : decode cX10_ofTeam 215 = .ok (.iadd, 1) := by decide +kernel
theorem dX10_ofTeam_216 : decode cX10_ofTeam 216 = .ok (.aload_n 0, 1) := by decide +kernel
theorem dX10_ofTeam_217 : decode cX10_ofTeam 217 = .ok (.getfield 34, 3) := by decide +kernel
theorem dX10_ofTeam_220 : decode cX10_ofTeam 220 = .ok (.iload 5, 2) := by decide +kernel
theorem dX10_ofTeam_222 : decode cX10_ofTeam 222 = .ok (.iaload, 1) := by decide +kernel
theorem dX10_ofTeam_223 : decode cX10_ofTeam 223 = .ok (.iastore, 1) := by decide +kernel
theorem dX10_ofTeam_224 : decode cX10_ofTeam 224 = .ok (.aload_n 0, 1) := by decide +kernel
theorem dX10_ofTeam_225 : decode cX10_ofTeam 225 = .ok (.iconst 1, 1) := by decide +kernel
theorem dX10_ofTeam_226 : decode cX10_ofTeam 226 = .ok (.invokevirtual 129, 3) := by decide +kernel
theorem dX10_ofTeam_229 : decode cX10_ofTeam 229 = .ok (.ireturn, 1) := by decide +kernel
set_option maxRecDepth 20000 in
theorem ggX10_worksAll_X10_work : GoodIn wsX10_worksAll wsX10_work := goodIn_r _ [7, 8, 9, 10, 11, 17, 18, 19, 20, 21, 22, 23, 24, 25, 26, 27, 28, 29, 30, 31, 32, 33, 34, 35, 36, 37, 38, 39, 40, 41, 42, 43, 44, 45, 46, 47, 48, 49, 50, 51] (by decide +kernel) (by decide +kernel)
set_option maxRecDepth 20000 in
theorem gX10_worksAll_X10_work : GoodIn wsX10_worksAll (wsV RX10 126 RX10 yX10_work wsX10_work) := goodIn_app (goodIn_of _ (by decide +kernel)) ggX10_worksAll_X10_work
set_option maxRecDepth 20000 in
theorem ggX10_worksAll_X10_come : GoodIn wsX10_worksAll wsX10_come := goodIn_r _ [15, 16, 17, 18, 19, 20, 21, 22, 23, 24, 25, 26, 27, 28, 29, 30, 31, 32, 33, 34, 35, 36, 37, 38, 39, 40, 41, 42, 43, 44, 45, 46, 47, 48, 49, 50, 51] (by decide +kernel) (by decide +kernel)
set_option maxRecDepth 20000 in
theorem gX10_worksAll_X10_come : GoodIn wsX10_worksAll (wsV RX10 129 RX10 yX10_come wsX10_come) := goodIn_app (goodIn_of _ (by decide +kernel)) ggX10_worksAll_X10_come
theorem dX10_worksAll_0 : decode cX10_worksAll 0 = .ok (.iconst 0, 1) := by decide +kernel
theorem dX10_worksAll_1 : decode cX10_worksAll 1 = .ok (.istore_n 3, 1) := by decide +kernel
theorem dX10_worksAll_2 : decode cX10_worksAll 2 = .ok (.iconst 0, 1) := by decide +kernel
theorem dX10_worksAll_3 : decode cX10_worksAll 3 = .ok (.istore 4, 2) := by decide +kernel
theorem dX10_worksAll_5 : decode cX10_worksAll 5 = .ok (.iload 4, 2) := by decide +kernel
theorem dX10_worksAll_7 : decode cX10_worksAll 7 = .ok (.aload_n 0, 1) := by decide +kernel
theorem dX10_worksAll_8 : decode cX10_worksAll 8 = .ok (.getfield 40, 3) := by decide +kernel
theorem dX10_worksAll_11 : decode cX10_worksAll 11 = .ok (.iload_n 1, 1) := by decide +kernel
theorem dX10_worksAll_12 : decode cX10_worksAll 12 = .ok (.iaload, 1) := by decide +kernel
theorem dX10_worksAll_13 : decode cX10_worksAll 13 = .ok (.if_icmp .ge 38, 3) := by decide +kernel
theorem dX10_worksAll_16 : decode cX10_worksAll 16 = .ok (.aload_n 0, 1) := by decide +kernel
theorem dX10_worksAll_17 : decode cX10_worksAll 17 = .ok (.getfield 46, 3) := by decide +kernel
theorem dX10_worksAll_20 : decode cX10_worksAll 20 = .ok (.bipush 8, 2) := by decide +kernel
theorem dX10_worksAll_22 : decode cX10_worksAll 22 = .ok (.iload_n 1, 1) := by decide +kernel
theorem dX10_worksAll_23 : decode cX10_worksAll 23 = .ok (.imul, 1) := by decide +kernel
theorem dX10_worksAll_24 : decode cX10_worksAll 24 = .ok (.iload 4, 2) := by decide +kernel
theorem dX10_worksAll_26 : decode cX10_worksAll 26 = .ok (.iadd, 1) := by decide +kernel
theorem dX10_worksAll_27 : decode cX10_worksAll 27 = .ok (.iaload, 1) := by decide +kernel
theorem dX10_worksAll_28 : decode cX10_worksAll 28 = .ok (.istore 5, 2) := by decide +kernel
theorem dX10_worksAll_30 : decode cX10_worksAll 30 = .ok (.iload 5, 2) := by decide +kernel
theorem dX10_worksAll_32 : decode cX10_worksAll 32 = .ok (.ifCond .ge 5, 3) := by decide +kernel
theorem dX10_worksAll_35 : decode cX10_worksAll 35 = .ok (.iconst 1, 1) := by decide +kernel
theorem dX10_worksAll_36 : decode cX10_worksAll 36 = .ok (.ireturn, 1) := by decide +kernel
theorem dX10_worksAll_37 : decode cX10_worksAll 37 = .ok (.aload_n 0, 1) := by decide +kernel
theorem dX10_worksAll_38 : decode cX10_worksAll 38 = .ok (.iload 5, 2) := by decide +kernel
theorem dX10_worksAll_40 : decode cX10_worksAll 40 = .ok (.iload_n 2, 1) := by decide +kernel
theorem dX10_worksAll_41 : decode cX10_worksAll 41 = .ok (.invokevirtual 126, 3) := by decide +kernel
theorem dX10_worksAll_44 : decode cX10_worksAll 44 = .ok (.istore_n 3, 1) := by decide +kernel
theorem dX10_worksAll_45 : decode cX10_worksAll 45 = .ok (.iinc 4 1, 3) := by decide +kernel
theorem dX10_worksAll_48 : decode cX10_worksAll 48 = .ok (.goto (-43), 3) := by decide +kernel
theorem dX10_worksAll_51 : decode cX10_worksAll 51 = .ok (.aload_n 0, 1) := by decide +kernel
theorem dX10_worksAll_52 : decode cX10_worksAll 52 = .ok (.iload_n 3, 1) := by decide +kernel
theorem dX10_worksAll_53 : decode cX10_worksAll 53 = .ok (.invokevirtual 129, 3) := by decide +kernel
theorem dX10_worksAll_56 : decode cX10_worksAll 56 = .ok (.ireturn, 1) := by decide +kernel
set_option maxRecDepth 20000 in
theorem ggX10_ofLedger_X10_least : GoodIn wsX10_ofLedger wsX10_least := goodIn_r _ [6] (by decide +kernel) (by decide +kernel)
set_option maxRecDepth 20000 in
theorem gX10_ofLedger_X10_least : GoodIn wsX10_ofLedger (va_wsS RX10 146 yX10_least wsX10_least) := goodIn_app (goodIn_of _ (by decide +kernel)) ggX10_ofLedger_X10_least
set_option maxRecDepth 20000 in
theorem ggX10_ofLedger_X10_come : GoodIn wsX10_ofLedger wsX10_come := goodIn_r _ [10, 11, 15, 16, 17, 18, 19, 20, 21, 22, 23, 24, 25, 26, 27, 28, 29, 30, 31, 32, 33, 34, 35, 36, 37, 38, 39, 40, 41, 42, 43, 44, 45, 46, 47, 48, 49] (by decide +kernel) (by decide +kernel)
set_option maxRecDepth 20000 in
theorem gX10_ofLedger_X10_come : GoodIn wsX10_ofLedger (wsV RX10 129 RX10 yX10_come wsX10_come) := goodIn_app (goodIn_of _ (by decide +kernel)) ggX10_ofLedger_X10_come
set_option maxRecDepth 20000 in
theorem ggX10_ofLedger_X10_in : GoodIn wsX10_ofLedger wsX10_in := goodIn_r _ [14] (by decide +kernel) (by decide +kernel)
set_option maxRecDepth 20000 in
theorem gX10_ofLedger_X10_in : GoodIn wsX10_ofLedger (va_wsS RX10 95 yX10_in wsX10_in) := goodIn_app (goodIn_of _ (by decide +kernel)) ggX10_ofLedger_X10_in
theorem dX10_ofLedger_0 : decode cX10_ofLedger 0 = .ok (.iload_n 1, 1) := by decide +kernel
theorem dX10_ofLedger_1 : decode cX10_ofLedger 1 = .ok (.bipush 12, 2) := by decide +kernel
theorem dX10_ofLedger_3 : decode cX10_ofLedger 3 = .ok (.if_icmp .ne 61, 3) := by decide +kernel
theorem dX10_ofLedger_6 : decode cX10_ofLedger 6 = .ok (.iload_n 3, 1) := by decide +kernel
theorem dX10_ofLedger_7 : decode cX10_ofLedger 7 = .ok (.ifCond .ge 5, 3) := by decide +kernel
theorem dX10_ofLedger_10 : decode cX10_ofLedger 10 = .ok (.iconst 2, 1) := by decide +kernel
theorem dX10_ofLedger_11 : decode cX10_ofLedger 11 = .ok (.ireturn, 1) := by decide +kernel
theorem dX10_ofLedger_12 : decode cX10_ofLedger 12 = .ok (.aload_n 0, 1) := by decide +kernel
theorem dX10_ofLedger_13 : decode cX10_ofLedger 13 = .ok (.getfield 49, 3) := by decide +kernel
theorem dX10_ofLedger_16 : decode cX10_ofLedger 16 = .ok (.iload_n 2, 1) := by decide +kernel
theorem dX10_ofLedger_17 : decode cX10_ofLedger 17 = .ok (.iload_n 3, 1) := by decide +kernel
theorem dX10_ofLedger_18 : decode cX10_ofLedger 18 = .ok (.bipush 12, 2) := by decide +kernel
theorem dX10_ofLedger_20 : decode cX10_ofLedger 20 = .ok (.invokestatic 146, 3) := by decide +kernel
theorem dX10_ofLedger_23 : decode cX10_ofLedger 23 = .ok (.iastore, 1) := by decide +kernel
theorem dX10_ofLedger_24 : decode cX10_ofLedger 24 = .ok (.iconst 0, 1) := by decide +kernel
theorem dX10_ofLedger_25 : decode cX10_ofLedger 25 = .ok (.istore 5, 2) := by decide +kernel
theorem dX10_ofLedger_27 : decode cX10_ofLedger 27 = .ok (.iload 5, 2) := by decide +kernel
theorem dX10_ofLedger_29 : decode cX10_ofLedger 29 = .ok (.bipush 12, 2) := by decide +kernel
theorem dX10_ofLedger_31 : decode cX10_ofLedger 31 = .ok (.if_icmp .ge 22, 3) := by decide +kernel
theorem dX10_ofLedger_34 : decode cX10_ofLedger 34 = .ok (.aload_n 0, 1) := by decide +kernel
theorem dX10_ofLedger_35 : decode cX10_ofLedger 35 = .ok (.getfield 52, 3) := by decide +kernel
theorem dX10_ofLedger_38 : decode cX10_ofLedger 38 = .ok (.bipush 12, 2) := by decide +kernel
theorem dX10_ofLedger_40 : decode cX10_ofLedger 40 = .ok (.iload_n 2, 1) := by decide +kernel
theorem dX10_ofLedger_41 : decode cX10_ofLedger 41 = .ok (.imul, 1) := by decide +kernel
theorem dX10_ofLedger_42 : decode cX10_ofLedger 42 = .ok (.iload 5, 2) := by decide +kernel
theorem dX10_ofLedger_44 : decode cX10_ofLedger 44 = .ok (.iadd, 1) := by decide +kernel
theorem dX10_ofLedger_45 : decode cX10_ofLedger 45 = .ok (.iconst 0, 1) := by decide +kernel
theorem dX10_ofLedger_46 : decode cX10_ofLedger 46 = .ok (.iastore, 1) := by decide +kernel
theorem dX10_ofLedger_47 : decode cX10_ofLedger 47 = .ok (.iinc 5 1, 3) := by decide +kernel
theorem dX10_ofLedger_50 : decode cX10_ofLedger 50 = .ok (.goto (-23), 3) := by decide +kernel
theorem dX10_ofLedger_53 : decode cX10_ofLedger 53 = .ok (.aload_n 0, 1) := by decide +kernel
theorem dX10_ofLedger_54 : decode cX10_ofLedger 54 = .ok (.aload_n 0, 1) := by decide +kernel
theorem dX10_ofLedger_55 : decode cX10_ofLedger 55 = .ok (.getfield 49, 3) := by decide +kernel
theorem dX10_ofLedger_58 : decode cX10_ofLedger 58 = .ok (.iload_n 2, 1) := by decide +kernel
theorem dX10_ofLedger_59 : decode cX10_ofLedger 59 = .ok (.iaload, 1) := by decide +kernel
theorem dX10_ofLedger_60 : decode cX10_ofLedger 60 = .ok (.invokevirtual 129, 3) := by decide +kernel
theorem dX10_ofLedger_63 : decode cX10_ofLedger 63 = .ok (.ireturn, 1) := by decide +kernel
theorem dX10_ofLedger_64 : decode cX10_ofLedger 64 = .ok (.aload_n 0, 1) := by decide +kernel
theorem dX10_ofLedger_65 : decode cX10_ofLedger 65 = .ok (.getfield 49, 3) := by decide +kernel
theorem dX10_ofLedger_68 : decode cX10_ofLedger 68 = .ok (.iload_n 2, 1) := by decide +kernel
theorem dX10_ofLedger_69 : decode cX10_ofLedger 69 = .ok (.iaload, 1) := by decide +kernel
theorem dX10_ofLedger_70 : decode cX10_ofLedger 70 = .ok (.ifCond .ge 5, 3) := by decide +kernel
theorem dX10_ofLedger_73 : decode cX10_ofLedger 73 = .ok (.iconst 1, 1) := by decide +kernel
theorem dX10_ofLedger_74 : decode cX10_ofLedger 74 = .ok (.ireturn, 1) := by decide +kernel
theorem dX10_ofLedger_75 : decode cX10_ofLedger 75 = .ok (.iload_n 1, 1) := by decide +kernel
theorem dX10_ofLedger_76 : decode cX10_ofLedger 76 = .ok (.bipush 13, 2) := by decide +kernel
theorem dX10_ofLedger_78 : decode cX10_ofLedger 78 = .ok (.if_icmp .ne 53, 3) := by decide +kernel
theorem dX10_ofLedger_81 : decode cX10_ofLedger 81 = .ok (.iload_n 3, 1) := by decide +kernel
theorem dX10_ofLedger_82 : decode cX10_ofLedger 82 = .ok (.iconst 0, 1) := by decide +kernel
theorem dX10_ofLedger_83 : decode cX10_ofLedger 83 = .ok (.aload_n 0, 1) := by decide +kernel
theorem dX10_ofLedger_84 : decode cX10_ofLedger 84 = .ok (.getfield 49, 3) := by decide +kernel
theorem dX10_ofLedger_87 : decode cX10_ofLedger 87 = .ok (.iload_n 2, 1) := by decide +kernel
theorem dX10_ofLedger_88 : decode cX10_ofLedger 88 = .ok (.iaload, 1) := by decide +kernel
theorem dX10_ofLedger_89 : decode cX10_ofLedger 89 = .ok (.iconst 1, 1) := by decide +kernel
theorem dX10_ofLedger_90 : decode cX10_ofLedger 90 = .ok (.isub, 1) := by decide +kernel
theorem dX10_ofLedger_91 : decode cX10_ofLedger 91 = .ok (.invokestatic 95, 3) := by decide +kernel
theorem dX10_ofLedger_94 : decode cX10_ofLedger 94 = .ok (.ifCond .ne 5, 3) := by decide +kernel
theorem dX10_ofLedger_97 : decode cX10_ofLedger 97 = .ok (.iconst 5, 1) := by decide +kernel
theorem dX10_ofLedger_98 : decode cX10_ofLedger 98 = .ok (.ireturn, 1) := by decide +kernel
theorem dX10_ofLedger_99 : decode cX10_ofLedger 99 = .ok (.aload_n 0, 1) := by decide +kernel
theorem dX10_ofLedger_100 : decode cX10_ofLedger 100 = .ok (.getfield 52, 3) := by decide +kernel
theorem dX10_ofLedger_103 : decode cX10_ofLedger 103 = .ok (.bipush 12, 2) := by decide +kernel
theorem dX10_ofLedger_105 : decode cX10_ofLedger 105 = .ok (.iload_n 2, 1) := by decide +kernel
theorem dX10_ofLedger_106 : decode cX10_ofLedger 106 = .ok (.imul, 1) := by decide +kernel
theorem dX10_ofLedger_107 : decode cX10_ofLedger 107 = .ok (.iload_n 3, 1) := by decide +kernel
theorem dX10_ofLedger_108 : decode cX10_ofLedger 108 = .ok (.iadd, 1) := by decide +kernel
theorem dX10_ofLedger_109 : decode cX10_ofLedger 109 = .ok (.dup2, 1) := by decide +kernel
theorem dX10_ofLedger_110 : decode cX10_ofLedger 110 = .ok (.iaload, 1) := by decide +kernel
theorem dX10_ofLedger_111 : decode cX10_ofLedger 111 = .ok (.iload 4, 2) := by decide +kernel
theorem dX10_ofLedger_113 : decode cX10_ofLedger 113 = .ok (.iadd, 1) := by decide +kernel
theorem dX10_ofLedger_114 : decode cX10_ofLedger 114 = .ok (.iastore, 1) := by decide +kernel
theorem dX10_ofLedger_115 : decode cX10_ofLedger 115 = .ok (.aload_n 0, 1) := by decide +kernel
theorem dX10_ofLedger_116 : decode cX10_ofLedger 116 = .ok (.aload_n 0, 1) := by decide +kernel
theorem dX10_ofLedger_117 : decode cX10_ofLedger 117 = .ok (.getfield 52, 3) := by decide +kernel
theorem dX10_ofLedger_120 : decode cX10_ofLedger 120 = .ok (.bipush 12, 2) := by decide +kernel
theorem dX10_ofLedger_122 : decode cX10_ofLedger 122 = .ok (.iload_n 2, 1) := by decide +kernel
theorem dX10_ofLedger_123 : decode cX10_ofLedger 123 = .ok (.imul, 1) := by decide +kernel
theorem dX10_ofLedger_124 : decode cX10_ofLedger 124 = .ok (.iload_n 3, 1) := by decide +kernel
theorem dX10_ofLedger_125 : decode cX10_ofLedger 125 = .ok (.iadd, 1) := by decide +kernel
theorem dX10_ofLedger_126 : decode cX10_ofLedger 126 = .ok (.iaload, 1) := by decide +kernel
theorem dX10_ofLedger_127 : decode cX10_ofLedger 127 = .ok (.invokevirtual 129, 3) := by decide +kernel
theorem dX10_ofLedger_130 : decode cX10_ofLedger 130 = .ok (.ireturn, 1) := by decide +kernel
theorem dX10_ofLedger_131 : decode cX10_ofLedger 131 = .ok (.iconst 0, 1) := by decide +kernel
theorem dX10_ofLedger_132 : decode cX10_ofLedger 132 = .ok (.istore 5, 2) := by decide +kernel
theorem dX10_ofLedger_134 : decode cX10_ofLedger 134 = .ok (.iconst 0, 1) := by decide +kernel
theorem dX10_ofLedger_135 : decode cX10_ofLedger 135 = .ok (.istore 6, 2) := by decide +kernel
theorem dX10_ofLedger_137 : decode cX10_ofLedger 137 = .ok (.iload 6, 2) := by decide +kernel
theorem dX10_ofLedger_139 : decode cX10_ofLedger 139 = .ok (.aload_n 0, 1) := by decide +kernel
theorem dX10_ofLedger_140 : decode cX10_ofLedger 140 = .ok (.getfield 49, 3) := by decide +kernel
theorem dX10_ofLedger_143 : decode cX10_ofLedger 143 = .ok (.iload_n 2, 1) := by decide +kernel
theorem dX10_ofLedger_144 : decode cX10_ofLedger 144 = .ok (.iaload, 1) := by decide +kernel
theorem dX10_ofLedger_145 : decode cX10_ofLedger 145 = .ok (.if_icmp .ge 26, 3) := by decide +kernel
theorem dX10_ofLedger_148 : decode cX10_ofLedger 148 = .ok (.iload 5, 2) := by decide +kernel
theorem dX10_ofLedger_150 : decode cX10_ofLedger 150 = .ok (.aload_n 0, 1) := by decide +kernel
theorem dX10_ofLedger_151 : decode cX10_ofLedger 151 = .ok (.getfield 52, 3) := by decide +kernel
theorem dX10_ofLedger_154 : decode cX10_ofLedger 154 = .ok (.bipush 12, 2) := by decide +kernel
theorem dX10_ofLedger_156 : decode cX10_ofLedger 156 = .ok (.iload_n 2, 1) := by decide +kernel
theorem dX10_ofLedger_157 : decode cX10_ofLedger 157 = .ok (.imul, 1) := by decide +kernel
theorem dX10_ofLedger_158 : decode cX10_ofLedger 158 = .ok (.iload 6, 2) := by decide +kernel
theorem dX10_ofLedger_160 : decode cX10_ofLedger 160 = .ok (.iadd, 1) := by decide +kernel
theorem dX10_ofLedger_161 : decode cX10_ofLedger 161 = .ok (.iaload, 1) := by decide +kernel
theorem dX10_ofLedger_162 : decode cX10_ofLedger 162 = .ok (.iadd, 1) := by decide +kernel
theorem dX10_ofLedger_163 : decode cX10_ofLedger 163 = .ok (.istore 5, 2) := by decide +kernel
theorem dX10_ofLedger_165 : decode cX10_ofLedger 165 = .ok (.iinc 6 1, 3) := by decide +kernel
theorem dX10_ofLedger_168 : decode cX10_ofLedger 168 = .ok (.goto (-31), 3) := by decide +kernel
theorem dX10_ofLedger_171 : decode cX10_ofLedger 171 = .ok (.aload_n 0, 1) := by decide +kernel
theorem dX10_ofLedger_172 : decode cX10_ofLedger 172 = .ok (.iload 5, 2) := by decide +kernel
theorem dX10_ofLedger_174 : decode cX10_ofLedger 174 = .ok (.invokevirtual 129, 3) := by decide +kernel
theorem dX10_ofLedger_177 : decode cX10_ofLedger 177 = .ok (.ireturn, 1) := by decide +kernel
set_option maxRecDepth 20000 in
theorem ggX10_ofTable_X10_least : GoodIn wsX10_ofTable wsX10_least := goodIn_r _ [8] (by decide +kernel) (by decide +kernel)
set_option maxRecDepth 20000 in
theorem gX10_ofTable_X10_least : GoodIn wsX10_ofTable (va_wsS RX10 146 yX10_least wsX10_least) := goodIn_app (goodIn_of _ (by decide +kernel)) ggX10_ofTable_X10_least
set_option maxRecDepth 20000 in
theorem ggX10_ofTable_X10_come : GoodIn wsX10_ofTable wsX10_come := goodIn_r _ [12, 13, 17, 18, 19, 20, 21, 22, 23, 24, 25, 26, 27, 28, 29, 30, 31, 32, 33, 34, 35, 36, 37, 38, 39, 40, 41, 42, 43, 44, 45, 46, 47, 48, 49, 50, 51] (by decide +kernel) (by decide +kernel)
set_option maxRecDepth 20000 in
theorem gX10_ofTable_X10_come : GoodIn wsX10_ofTable (wsV RX10 129 RX10 yX10_come wsX10_come) := goodIn_app (goodIn_of _ (by decide +kernel)) ggX10_ofTable_X10_come
set_option maxRecDepth 20000 in
theorem ggX10_ofTable_X10_in : GoodIn wsX10_ofTable wsX10_in := goodIn_r _ [16] (by decide +kernel) (by decide +kernel)
set_option maxRecDepth 20000 in
theorem gX10_ofTable_X10_in : GoodIn wsX10_ofTable (va_wsS RX10 95 yX10_in wsX10_in) := goodIn_app (goodIn_of _ (by decide +kernel)) ggX10_ofTable_X10_in
theorem dX10_ofTable_0 : decode cX10_ofTable 0 = .ok (.iload_n 1, 1) := by decide +kernel
theorem dX10_ofTable_1 : decode cX10_ofTable 1 = .ok (.bipush 15, 2) := by decide +kernel
theorem dX10_ofTable_3 : decode cX10_ofTable 3 = .ok (.if_icmp .ne 103, 3) := by decide +kernel
theorem dX10_ofTable_6 : decode cX10_ofTable 6 = .ok (.iload_n 3, 1) := by decide +kernel
theorem dX10_ofTable_7 : decode cX10_ofTable 7 = .ok (.ifCond .lt 8, 3) := by decide +kernel
theorem dX10_ofTable_10 : decode cX10_ofTable 10 = .ok (.iload 4, 2) := by decide +kernel
theorem dX10_ofTable_12 : decode cX10_ofTable 12 = .ok (.ifCond .ge 5, 3) := by decide +kernel
theorem dX10_ofTable_15 : decode cX10_ofTable 15 = .ok (.iconst 2, 1) := by decide +kernel
theorem dX10_ofTable_16 : decode cX10_ofTable 16 = .ok (.ireturn, 1) := by decide +kernel
theorem dX10_ofTable_17 : decode cX10_ofTable 17 = .ok (.aload_n 0, 1) := by decide +kernel
theorem dX10_ofTable_18 : decode cX10_ofTable 18 = .ok (.getfield 55, 3) := by decide +kernel
theorem dX10_ofTable_21 : decode cX10_ofTable 21 = .ok (.iload_n 2, 1) := by decide +kernel
theorem dX10_ofTable_22 : decode cX10_ofTable 22 = .ok (.iload_n 3, 1) := by decide +kernel
theorem dX10_ofTable_23 : decode cX10_ofTable 23 = .ok (.bipush 6, 2) := by decide +kernel
theorem dX10_ofTable_25 : decode cX10_ofTable 25 = .ok (.invokestatic 146, 3) := by decide +kernel
theorem dX10_ofTable_28 : decode cX10_ofTable 28 = .ok (.iastore, 1) := by decide +kernel
theorem dX10_ofTable_29 : decode cX10_ofTable 29 = .ok (.aload_n 0, 1) := by decide +kernel
theorem dX10_ofTable_30 : decode cX10_ofTable 30 = .ok (.getfield 58, 3) := by decide +kernel
theorem dX10_ofTable_33 : decode cX10_ofTable 33 = .ok (.iload_n 2, 1) := by decide +kernel
theorem dX10_ofTable_34 : decode cX10_ofTable 34 = .ok (.iload 4, 2) := by decide +kernel
theorem dX10_ofTable_36 : decode cX10_ofTable 36 = .ok (.bipush 6, 2) := by decide +kernel
theorem dX10_ofTable_38 : decode cX10_ofTable 38 = .ok (.invokestatic 146, 3) := by decide +kernel
theorem dX10_ofTable_41 : decode cX10_ofTable 41 = .ok (.iastore, 1) := by decide +kernel
theorem dX10_ofTable_42 : decode cX10_ofTable 42 = .ok (.iconst 0, 1) := by decide +kernel
theorem dX10_ofTable_43 : decode cX10_ofTable 43 = .ok (.istore 5, 2) := by decide +kernel
theorem dX10_ofTable_45 : decode cX10_ofTable 45 = .ok (.iload 5, 2) := by decide +kernel
theorem dX10_ofTable_47 : decode cX10_ofTable 47 = .ok (.bipush 6, 2) := by decide +kernel
theorem dX10_ofTable_49 : decode cX10_ofTable 49 = .ok (.if_icmp .ge 22, 3) := by decide +kernel
theorem dX10_ofTable_52 : decode cX10_ofTable 52 = .ok (.aload_n 0, 1) := by decide +kernel
theorem dX10_ofTable_53 : decode cX10_ofTable 53 = .ok (.getfield 61, 3) := by decide +kernel
theorem dX10_ofTable_56 : decode cX10_ofTable 56 = .ok (.bipush 6, 2) := by decide +kernel
theorem dX10_ofTable_58 : decode cX10_ofTable 58 = .ok (.iload_n 2, 1) := by decide +kernel
theorem dX10_ofTable_59 : decode cX10_ofTable 59 = .ok (.imul, 1) := by decide +kernel
theorem dX10_ofTable_60 : decode cX10_ofTable 60 = .ok (.iload 5, 2) := by decide +kernel
theorem dX10_ofTable_62 : decode cX10_ofTable 62 = .ok (.iadd, 1) := by decide +kernel
theorem dX10_ofTable_63 : decode cX10_ofTable 63 = .ok (.iconst 1, 1) := by decide +kernel
theorem dX10_ofTable_64 : decode cX10_ofTable 64 = .ok (.bastore, 1) := by decide +kernel
theorem dX10_ofTable_65 : decode cX10_ofTable 65 = .ok (.iinc 5 1, 3) := by decide +kernel
theorem dX10_ofTable_68 : decode cX10_ofTable 68 = .ok (.goto (-23), 3) := by decide +kernel
theorem dX10_ofTable_71 : decode cX10_ofTable 71 = .ok (.iconst 0, 1) := by decide +kernel
theorem dX10_ofTable_72 : decode cX10_ofTable 72 = .ok (.istore 5, 2) := by decide +kernel
theorem dX10_ofTable_74 : decode cX10_ofTable 74 = .ok (.iload 5, 2) := by decide +kernel
theorem dX10_ofTable_76 : decode cX10_ofTable 76 = .ok (.bipush 36, 2) := by decide +kernel
theorem dX10_ofTable_78 : decode cX10_ofTable 78 = .ok (.if_icmp .ge 22, 3) := by decide +kernel
theorem dX10_ofTable_81 : decode cX10_ofTable 81 = .ok (.aload_n 0, 1) := by decide +kernel
theorem dX10_ofTable_82 : decode cX10_ofTable 82 = .ok (.getfield 65, 3) := by decide +kernel
theorem dX10_ofTable_85 : decode cX10_ofTable 85 = .ok (.bipush 36, 2) := by decide +kernel
theorem dX10_ofTable_87 : decode cX10_ofTable 87 = .ok (.iload_n 2, 1) := by decide +kernel
theorem dX10_ofTable_88 : decode cX10_ofTable 88 = .ok (.imul, 1) := by decide +kernel
theorem dX10_ofTable_89 : decode cX10_ofTable 89 = .ok (.iload 5, 2) := by decide +kernel
theorem dX10_ofTable_91 : decode cX10_ofTable 91 = .ok (.iadd, 1) := by decide +kernel
theorem dX10_ofTable_92 : decode cX10_ofTable 92 = .ok (.iconst 0, 1) := by decide +kernel
theorem dX10_ofTable_93 : decode cX10_ofTable 93 = .ok (.iastore, 1) := by decide +kernel
theorem dX10_ofTable_94 : decode cX10_ofTable 94 = .ok (.iinc 5 1, 3) := by decide +kernel
theorem dX10_ofTable_97 : decode cX10_ofTable 97 = .ok (.goto (-23), 3) := by decide +kernel
theorem dX10_ofTable_100 : decode cX10_ofTable 100 = .ok (.aload_n 0, 1) := by decide +kernel
theorem dX10_ofTable_101 : decode cX10_ofTable 101 = .ok (.iconst 1, 1) := by decide +kernel
theorem dX10_ofTable_102 : decode cX10_ofTable 102 = .ok (.invokevirtual 129, 3) := by decide +kernel
theorem dX10_ofTable_105 : decode cX10_ofTable 105 = .ok (.ireturn, 1) := by decide +kernel
theorem dX10_ofTable_106 : decode cX10_ofTable 106 = .ok (.aload_n 0, 1) := by decide +kernel
theorem dX10_ofTable_107 : decode cX10_ofTable 107 = .ok (.getfield 55, 3) := by decide +kernel
theorem dX10_ofTable_110 : decode cX10_ofTable 110 = .ok (.iload_n 2, 1) := by decide +kernel
theorem dX10_ofTable_111 : decode cX10_ofTable 111 = .ok (.iaload, 1) := by decide +kernel
theorem dX10_ofTable_112 : decode cX10_ofTable 112 = .ok (.ifCond .ge 5, 3) := by decide +kernel
theorem dX10_ofTable_115 : decode cX10_ofTable 115 = .ok (.iconst 1, 1) := by decide +kernel
theorem dX10_ofTable_116 : decode cX10_ofTable 116 = .ok (.ireturn, 1) := by decide +kernel
theorem dX10_ofTable_117 : decode cX10_ofTable 117 = .ok (.iload_n 3, 1) := by decide +kernel
theorem dX10_ofTable_118 : decode cX10_ofTable 118 = .ok (.iconst 0, 1) := by decide +kernel
theorem dX10_ofTable_119 : decode cX10_ofTable 119 = .ok (.aload_n 0, 1) := by decide +kernel
theorem dX10_ofTable_120 : decode cX10_ofTable 120 = .ok (.getfield 55, 3) := by decide +kernel
theorem dX10_ofTable_123 : decode cX10_ofTable 123 = .ok (.iload_n 2, 1) := by decide +kernel
theorem dX10_ofTable_124 : decode cX10_ofTable 124 = .ok (.iaload, 1) := by decide +kernel
theorem dX10_ofTable_125 : decode cX10_ofTable 125 = .ok (.iconst 1, 1) := by decide +kernel
theorem dX10_ofTable_126 : decode cX10_ofTable 126 = .ok (.isub, 1) := by decide +kernel
theorem dX10_ofTable_127 : decode cX10_ofTable 127 = .ok (.invokestatic 95, 3) := by decide +kernel
theorem dX10_ofTable_130 : decode cX10_ofTable 130 = .ok (.ifCond .ne 5, 3) := by decide +kernel
theorem dX10_ofTable_133 : decode cX10_ofTable 133 = .ok (.iconst 5, 1) := by decide +kernel
theorem dX10_ofTable_134 : decode cX10_ofTable 134 = .ok (.ireturn, 1) := by decide +kernel
theorem dX10_ofTable_135 : decode cX10_ofTable 135 = .ok (.aload_n 0, 1) := by decide +kernel
theorem dX10_ofTable_136 : decode cX10_ofTable 136 = .ok (.getfield 61, 3) := by decide +kernel
theorem dX10_ofTable_139 : decode cX10_ofTable 139 = .ok (.bipush 6, 2) := by decide +kernel
theorem dX10_ofTable_141 : decode cX10_ofTable 141 = .ok (.iload_n 2, 1) := by decide +kernel
theorem dX10_ofTable_142 : decode cX10_ofTable 142 = .ok (.imul, 1) := by decide +kernel
theorem dX10_ofTable_143 : decode cX10_ofTable 143 = .ok (.iload_n 3, 1) := by decide +kernel
theorem dX10_ofTable_144 : decode cX10_ofTable 144 = .ok (.iadd, 1) := by decide +kernel
theorem dX10_ofTable_145 : decode cX10_ofTable 145 = .ok (.baload, 1) := by decide +kernel
theorem dX10_ofTable_146 : decode cX10_ofTable 146 = .ok (.ifCond .ne 5, 3) := by decide +kernel
theorem dX10_ofTable_149 : decode cX10_ofTable 149 = .ok (.iconst 1, 1) := by decide +kernel
theorem dX10_ofTable_150 : decode cX10_ofTable 150 = .ok (.ireturn, 1) := by decide +kernel
theorem dX10_ofTable_151 : decode cX10_ofTable 151 = .ok (.iload 4, 2) := by decide +kernel
theorem dX10_ofTable_153 : decode cX10_ofTable 153 = .ok (.iconst 0, 1) := by decide +kernel
theorem dX10_ofTable_154 : decode cX10_ofTable 154 = .ok (.aload_n 0, 1) := by decide +kernel
theorem dX10_ofTable_155 : decode cX10_ofTable 155 = .ok (.getfield 58, 3) := by decide +kernel
theorem dX10_ofTable_158 : decode cX10_ofTable 158 = .ok (.iload_n 2, 1) := by decide +kernel
theorem dX10_ofTable_159 : decode cX10_ofTable 159 = .ok (.iaload, 1) := by decide +kernel
theorem dX10_ofTable_160 : decode cX10_ofTable 160 = .ok (.iconst 1, 1) := by decide +kernel
theorem dX10_ofTable_161 : decode cX10_ofTable 161 = .ok (.isub, 1) := by decide +kernel
theorem dX10_ofTable_162 : decode cX10_ofTable 162 = .ok (.invokestatic 95, 3) := by decide +kernel
theorem dX10_ofTable_165 : decode cX10_ofTable 165 = .ok (.ifCond .ne 5, 3) := by decide +kernel
theorem dX10_ofTable_168 : decode cX10_ofTable 168 = .ok (.iconst 5, 1) := by decide +kernel
theorem dX10_ofTable_169 : decode cX10_ofTable 169 = .ok (.ireturn, 1) := by decide +kernel
theorem dX10_ofTable_170 : decode cX10_ofTable 170 = .ok (.bipush 36, 2) := by decide +kernel
theorem dX10_ofTable_172 : decode cX10_ofTable 172 = .ok (.iload_n 2, 1) := by decide +kernel
theorem dX10_ofTable_173 : decode cX10_ofTable 173 = .ok (.imul, 1) := by decide +kernel
theorem dX10_ofTable_174 : decode cX10_ofTable 174 = .ok (.bipush 6, 2) := by decide +kernel
theorem dX10_ofTable_176 : decode cX10_ofTable 176 = .ok (.iload_n 3, 1) := by decide +kernel
theorem dX10_ofTable_177 : decode cX10_ofTable 177 = .ok (.imul, 1) := by decide +kernel
theorem dX10_ofTable_178 : decode cX10_ofTable 178 = .ok (.iadd, 1) := by decide +kernel
theorem dX10_ofTable_179 : decode cX10_ofTable 179 = .ok (.iload 4, 2) := by decide +kernel
theorem dX10_ofTable_181 : decode cX10_ofTable 181 = .ok (.iadd, 1) := by decide +kernel
theorem dX10_ofTable_182 : decode cX10_ofTable 182 = .ok (.istore 5, 2) := by decide +kernel
theorem dX10_ofTable_184 : decode cX10_ofTable 184 = .ok (.aload_n 0, 1) := by decide +kernel
theorem dX10_ofTable_185 : decode cX10_ofTable 185 = .ok (.getfield 65, 3) := by decide +kernel
theorem dX10_ofTable_188 : decode cX10_ofTable 188 = .ok (.iload 5, 2) := by decide +kernel
theorem dX10_ofTable_190 : decode cX10_ofTable 190 = .ok (.dup2, 1) := by decide +kernel
theorem dX10_ofTable_191 : decode cX10_ofTable 191 = .ok (.iaload, 1) := by decide +kernel
theorem dX10_ofTable_192 : decode cX10_ofTable 192 = .ok (.iconst 1, 1) := by decide +kernel
theorem dX10_ofTable_193 : decode cX10_ofTable 193 = .ok (.iadd, 1) := by decide +kernel
theorem dX10_ofTable_194 : decode cX10_ofTable 194 = .ok (.iastore, 1) := by decide +kernel
theorem dX10_ofTable_195 : decode cX10_ofTable 195 = .ok (.aload_n 0, 1) := by decide +kernel
theorem dX10_ofTable_196 : decode cX10_ofTable 196 = .ok (.aload_n 0, 1) := by decide +kernel
theorem dX10_ofTable_197 : decode cX10_ofTable 197 = .ok (.getfield 65, 3) := by decide +kernel
theorem dX10_ofTable_200 : decode cX10_ofTable 200 = .ok (.iload 5, 2) := by decide +kernel
theorem dX10_ofTable_202 : decode cX10_ofTable 202 = .ok (.iaload, 1) := by decide +kernel
theorem dX10_ofTable_203 : decode cX10_ofTable 203 = .ok (.invokevirtual 129, 3) := by decide +kernel
theorem dX10_ofTable_206 : decode cX10_ofTable 206 = .ok (.ireturn, 1) := by decide +kernel
set_option maxRecDepth 20000 in
theorem ggX10_attempt_X10_does : GoodIn wsX10_attempt wsX10_does := goodIn_r _ [8, 9, 10, 11, 12, 13, 14, 15, 7, 16, 17, 18, 19, 20, 21, 22, 23, 24, 25, 26, 27, 1, 28, 29, 30, 31, 32, 33, 34, 35, 36, 37, 38, 39, 40, 41, 42, 43, 44, 45, 46, 47, 48, 49, 50, 51, 52, 53, 54, 55, 56, 57, 58, 59, 60, 61, 62, 63, 64, 65, 66, 67, 68, 69, 70, 71, 72, 73, 74, 75, 76, 77, 78, 79, 80, 81, 82, 83, 84, 85, 86, 87, 88, 89, 90, 91, 92, 93, 94, 95, 96, 97, 98, 99, 100, 101, 102, 103, 104, 105, 106, 107, 108, 109] (by decide +kernel) (by decide +kernel)
set_option maxRecDepth 20000 in
theorem gX10_attempt_X10_does : GoodIn wsX10_attempt (wsV RX10 155 RX10 yX10_does wsX10_does) := goodIn_app (goodIn_of _ (by decide +kernel)) ggX10_attempt_X10_does
theorem dX10_attempt_0 : decode cX10_attempt 0 = .ok (.aload_n 0, 1) := by decide +kernel
theorem dX10_attempt_1 : decode cX10_attempt 1 = .ok (.iload_n 1, 1) := by decide +kernel
theorem dX10_attempt_2 : decode cX10_attempt 2 = .ok (.iload_n 2, 1) := by decide +kernel
theorem dX10_attempt_3 : decode cX10_attempt 3 = .ok (.iload_n 3, 1) := by decide +kernel
theorem dX10_attempt_4 : decode cX10_attempt 4 = .ok (.iload 4, 2) := by decide +kernel
theorem dX10_attempt_6 : decode cX10_attempt 6 = .ok (.invokevirtual 155, 3) := by decide +kernel
theorem dX10_attempt_9 : decode cX10_attempt 9 = .ok (.istore 5, 2) := by decide +kernel
theorem dX10_attempt_11 : decode cX10_attempt 11 = .ok (.aload_n 0, 1) := by decide +kernel
theorem dX10_attempt_12 : decode cX10_attempt 12 = .ok (.iload 5, 2) := by decide +kernel
theorem dX10_attempt_14 : decode cX10_attempt 14 = .ok (.ifCond .eq 10, 3) := by decide +kernel
theorem dX10_attempt_17 : decode cX10_attempt 17 = .ok (.iload 5, 2) := by decide +kernel
theorem dX10_attempt_19 : decode cX10_attempt 19 = .ok (.bipush 6, 2) := by decide +kernel
theorem dX10_attempt_21 : decode cX10_attempt 21 = .ok (.if_icmp .ne 10, 3) := by decide +kernel
theorem dX10_attempt_24 : decode cX10_attempt 24 = .ok (.aload_n 0, 1) := by decide +kernel
theorem dX10_attempt_25 : decode cX10_attempt 25 = .ok (.getfield 115, 3) := by decide +kernel
theorem dX10_attempt_28 : decode cX10_attempt 28 = .ok (.goto 7, 3) := by decide +kernel
theorem dX10_attempt_31 : decode cX10_attempt 31 = .ok (.aload_n 0, 1) := by decide +kernel
theorem dX10_attempt_32 : decode cX10_attempt 32 = .ok (.getfield 158, 3) := by decide +kernel
theorem dX10_attempt_35 : decode cX10_attempt 35 = .ok (.putfield 158, 3) := by decide +kernel
theorem dX10_attempt_38 : decode cX10_attempt 38 = .ok (.aload_n 0, 1) := by decide +kernel
theorem dX10_attempt_39 : decode cX10_attempt 39 = .ok (.getfield 92, 3) := by decide +kernel
theorem dX10_attempt_42 : decode cX10_attempt 42 = .ok (.iload 5, 2) := by decide +kernel
theorem dX10_attempt_44 : decode cX10_attempt 44 = .ok (.dup2, 1) := by decide +kernel
theorem dX10_attempt_45 : decode cX10_attempt 45 = .ok (.iaload, 1) := by decide +kernel
theorem dX10_attempt_46 : decode cX10_attempt 46 = .ok (.iconst 1, 1) := by decide +kernel
theorem dX10_attempt_47 : decode cX10_attempt 47 = .ok (.iadd, 1) := by decide +kernel
theorem dX10_attempt_48 : decode cX10_attempt 48 = .ok (.iastore, 1) := by decide +kernel
theorem dX10_attempt_49 : decode cX10_attempt 49 = .ok (.iload 5, 2) := by decide +kernel
theorem dX10_attempt_51 : decode cX10_attempt 51 = .ok (.ireturn, 1) := by decide +kernel
set_option maxRecDepth 20000 in
theorem ggX10_act_X10_in : GoodIn wsX10_act wsX10_in := goodIn_r _ [5] (by decide +kernel) (by decide +kernel)
set_option maxRecDepth 20000 in
theorem gX10_act_X10_in : GoodIn wsX10_act (va_wsS RX10 95 yX10_in wsX10_in) := goodIn_app (goodIn_of _ (by decide +kernel)) ggX10_act_X10_in
set_option maxRecDepth 20000 in
theorem ggX10_act_X10_attempt : GoodIn wsX10_act wsX10_attempt := goodIn_r _ [9, 10, 11, 12, 13, 14, 15, 4, 16, 17, 18, 19, 20, 21, 22, 23, 24, 25, 26, 27, 28, 29, 30, 31, 32, 33, 34, 35, 36, 37, 38, 39, 40, 41, 42, 43, 44, 45, 46, 47, 48, 49, 50, 51, 52, 53, 54, 55, 56, 57, 58, 59, 60, 61, 2, 3, 5, 62, 63, 64, 65, 66, 67, 68, 69, 70, 71, 72, 73, 74, 75, 76, 77, 78, 79, 80, 81, 82, 83, 84, 85, 86, 87, 88, 89, 90, 91, 92, 93, 94, 95, 96, 97, 98, 99, 100, 101, 102, 103, 104, 105, 106, 107, 108, 109, 110, 111, 112, 113, 114] (by decide +kernel) (by decide +kernel)
set_option maxRecDepth 20000 in
theorem gX10_act_X10_attempt : GoodIn wsX10_act (wsV RX10 161 RX10 yX10_attempt wsX10_attempt) := goodIn_app (goodIn_of _ (by decide +kernel)) ggX10_act_X10_attempt
theorem dX10_act_0 : decode cX10_act 0 = .ok (.iload_n 1, 1) := by decide +kernel
theorem dX10_act_1 : decode cX10_act 1 = .ok (.iconst 0, 1) := by decide +kernel
theorem dX10_act_2 : decode cX10_act 2 = .ok (.bipush 17, 2) := by decide +kernel
theorem dX10_act_4 : decode cX10_act 4 = .ok (.invokestatic 95, 3) := by decide +kernel
theorem dX10_act_7 : decode cX10_act 7 = .ok (.ifCond .ne 6, 3) := by decide +kernel
theorem dX10_act_10 : decode cX10_act 10 = .ok (.ldc 99, 2) := by decide +kernel
theorem dX10_act_12 : decode cX10_act 12 = .ok (.ireturn, 1) := by decide +kernel
theorem dX10_act_13 : decode cX10_act 13 = .ok (.aload_n 0, 1) := by decide +kernel
theorem dX10_act_14 : decode cX10_act 14 = .ok (.iload_n 1, 1) := by decide +kernel
theorem dX10_act_15 : decode cX10_act 15 = .ok (.iload_n 2, 1) := by decide +kernel
theorem dX10_act_16 : decode cX10_act 16 = .ok (.iload_n 3, 1) := by decide +kernel
theorem dX10_act_17 : decode cX10_act 17 = .ok (.iload 4, 2) := by decide +kernel
theorem dX10_act_19 : decode cX10_act 19 = .ok (.invokevirtual 161, 3) := by decide +kernel
theorem dX10_act_22 : decode cX10_act 22 = .ok (.istore 5, 2) := by decide +kernel
theorem dX10_act_24 : decode cX10_act 24 = .ok (.iload 5, 2) := by decide +kernel
theorem dX10_act_26 : decode cX10_act 26 = .ok (.ifCond .ne 7, 3) := by decide +kernel
theorem dX10_act_29 : decode cX10_act 29 = .ok (.iconst 1, 1) := by decide +kernel
theorem dX10_act_30 : decode cX10_act 30 = .ok (.goto 8, 3) := by decide +kernel
theorem dX10_act_33 : decode cX10_act 33 = .ok (.bipush (-10), 2) := by decide +kernel
theorem dX10_act_35 : decode cX10_act 35 = .ok (.iload 5, 2) := by decide +kernel
theorem dX10_act_37 : decode cX10_act 37 = .ok (.isub, 1) := by decide +kernel
theorem dX10_act_38 : decode cX10_act 38 = .ok (.ireturn, 1) := by decide +kernel
theorem dX10_came_0 : decode cX10_came 0 = .ok (.aload_n 0, 1) := by decide +kernel
theorem dX10_came_1 : decode cX10_came 1 = .ok (.getfield 158, 3) := by decide +kernel
theorem dX10_came_4 : decode cX10_came 4 = .ok (.ireturn, 1) := by decide +kernel
set_option maxRecDepth 20000 in
theorem ggX10_task_X10_in : GoodIn wsX10_task wsX10_in := goodIn_r _ [11] (by decide +kernel) (by decide +kernel)
set_option maxRecDepth 20000 in
theorem gX10_task_X10_in : GoodIn wsX10_task (va_wsS RX10 95 yX10_in wsX10_in) := goodIn_app (goodIn_of _ (by decide +kernel)) ggX10_task_X10_in
theorem dX10_task_0 : decode cX10_task 0 = .ok (.iload_n 1, 1) := by decide +kernel
theorem dX10_task_1 : decode cX10_task 1 = .ok (.iconst 0, 1) := by decide +kernel
theorem dX10_task_2 : decode cX10_task 2 = .ok (.bipush 17, 2) := by decide +kernel
theorem dX10_task_4 : decode cX10_task 4 = .ok (.invokestatic 95, 3) := by decide +kernel
theorem dX10_task_7 : decode cX10_task 7 = .ok (.ifCond .ne 6, 3) := by decide +kernel
theorem dX10_task_10 : decode cX10_task 10 = .ok (.ldc 99, 2) := by decide +kernel
theorem dX10_task_12 : decode cX10_task 12 = .ok (.ireturn, 1) := by decide +kernel
theorem dX10_task_13 : decode cX10_task 13 = .ok (.aload_n 0, 1) := by decide +kernel
theorem dX10_task_14 : decode cX10_task 14 = .ok (.getfield 164, 3) := by decide +kernel
theorem dX10_task_17 : decode cX10_task 17 = .ok (.bipush 20, 2) := by decide +kernel
theorem dX10_task_19 : decode cX10_task 19 = .ok (.if_icmp .ne 6, 3) := by decide +kernel
theorem dX10_task_22 : decode cX10_task 22 = .ok (.ldc 104, 2) := by decide +kernel
theorem dX10_task_24 : decode cX10_task 24 = .ok (.ireturn, 1) := by decide +kernel
theorem dX10_task_25 : decode cX10_task 25 = .ok (.aload_n 0, 1) := by decide +kernel
theorem dX10_task_26 : decode cX10_task 26 = .ok (.getfield 74, 3) := by decide +kernel
theorem dX10_task_29 : decode cX10_task 29 = .ok (.aload_n 0, 1) := by decide +kernel
theorem dX10_task_30 : decode cX10_task 30 = .ok (.getfield 164, 3) := by decide +kernel
theorem dX10_task_33 : decode cX10_task 33 = .ok (.iload_n 1, 1) := by decide +kernel
theorem dX10_task_34 : decode cX10_task 34 = .ok (.iastore, 1) := by decide +kernel
theorem dX10_task_35 : decode cX10_task 35 = .ok (.aload_n 0, 1) := by decide +kernel
theorem dX10_task_36 : decode cX10_task 36 = .ok (.getfield 77, 3) := by decide +kernel
theorem dX10_task_39 : decode cX10_task 39 = .ok (.aload_n 0, 1) := by decide +kernel
theorem dX10_task_40 : decode cX10_task 40 = .ok (.getfield 164, 3) := by decide +kernel
theorem dX10_task_43 : decode cX10_task 43 = .ok (.iload_n 2, 1) := by decide +kernel
theorem dX10_task_44 : decode cX10_task 44 = .ok (.iastore, 1) := by decide +kernel
theorem dX10_task_45 : decode cX10_task 45 = .ok (.aload_n 0, 1) := by decide +kernel
theorem dX10_task_46 : decode cX10_task 46 = .ok (.getfield 80, 3) := by decide +kernel
theorem dX10_task_49 : decode cX10_task 49 = .ok (.aload_n 0, 1) := by decide +kernel
theorem dX10_task_50 : decode cX10_task 50 = .ok (.getfield 164, 3) := by decide +kernel
theorem dX10_task_53 : decode cX10_task 53 = .ok (.iload_n 3, 1) := by decide +kernel
theorem dX10_task_54 : decode cX10_task 54 = .ok (.iastore, 1) := by decide +kernel
theorem dX10_task_55 : decode cX10_task 55 = .ok (.aload_n 0, 1) := by decide +kernel
theorem dX10_task_56 : decode cX10_task 56 = .ok (.getfield 83, 3) := by decide +kernel
theorem dX10_task_59 : decode cX10_task 59 = .ok (.aload_n 0, 1) := by decide +kernel
theorem dX10_task_60 : decode cX10_task 60 = .ok (.getfield 164, 3) := by decide +kernel
theorem dX10_task_63 : decode cX10_task 63 = .ok (.iload 4, 2) := by decide +kernel
theorem dX10_task_65 : decode cX10_task 65 = .ok (.iastore, 1) := by decide +kernel
theorem dX10_task_66 : decode cX10_task 66 = .ok (.aload_n 0, 1) := by decide +kernel
theorem dX10_task_67 : decode cX10_task 67 = .ok (.dup, 1) := by decide +kernel
theorem dX10_task_68 : decode cX10_task 68 = .ok (.getfield 164, 3) := by decide +kernel
theorem dX10_task_71 : decode cX10_task 71 = .ok (.iconst 1, 1) := by decide +kernel
theorem dX10_task_72 : decode cX10_task 72 = .ok (.iadd, 1) := by decide +kernel
theorem dX10_task_73 : decode cX10_task 73 = .ok (.putfield 164, 3) := by decide +kernel
theorem dX10_task_76 : decode cX10_task 76 = .ok (.aload_n 0, 1) := by decide +kernel
theorem dX10_task_77 : decode cX10_task 77 = .ok (.getfield 164, 3) := by decide +kernel
theorem dX10_task_80 : decode cX10_task 80 = .ok (.ireturn, 1) := by decide +kernel
theorem dX10_clear_0 : decode cX10_clear 0 = .ok (.aload_n 0, 1) := by decide +kernel
theorem dX10_clear_1 : decode cX10_clear 1 = .ok (.getfield 164, 3) := by decide +kernel
theorem dX10_clear_4 : decode cX10_clear 4 = .ok (.istore_n 1, 1) := by decide +kernel
theorem dX10_clear_5 : decode cX10_clear 5 = .ok (.aload_n 0, 1) := by decide +kernel
theorem dX10_clear_6 : decode cX10_clear 6 = .ok (.iconst 0, 1) := by decide +kernel
theorem dX10_clear_7 : decode cX10_clear 7 = .ok (.putfield 164, 3) := by decide +kernel
theorem dX10_clear_10 : decode cX10_clear 10 = .ok (.iload_n 1, 1) := by decide +kernel
theorem dX10_clear_11 : decode cX10_clear 11 = .ok (.ireturn, 1) := by decide +kernel
set_option maxRecDepth 20000 in
theorem ggX10_day_X10_attempt : GoodIn wsX10_day wsX10_attempt := goodIn_r _ [13, 14, 15, 16, 17, 18, 19, 12, 20, 21, 22, 23, 24, 25, 26, 27, 28, 29, 30, 31, 32, 33, 34, 35, 36, 37, 38, 39, 40, 41, 42, 43, 44, 45, 46, 47, 48, 49, 50, 51, 52, 53, 54, 55, 56, 57, 58, 59, 60, 61, 62, 63, 64, 65, 66, 67, 68, 69, 70, 71, 72, 73, 74, 75, 76, 77, 78, 79, 80, 81, 82, 83, 84, 85, 86, 87, 88, 89, 90, 91, 92, 93, 94, 95, 96, 97, 98, 99, 100, 101, 102, 103, 104, 105, 106, 107, 108, 109, 110, 111, 112, 113, 114, 115, 116, 117, 118, 119, 120, 121] (by decide +kernel) (by decide +kernel)
set_option maxRecDepth 20000 in
theorem gX10_day_X10_attempt : GoodIn wsX10_day (wsV RX10 161 RX10 yX10_attempt wsX10_attempt) := goodIn_app (goodIn_of _ (by decide +kernel)) ggX10_day_X10_attempt
theorem dX10_day_0 : decode cX10_day 0 = .ok (.iconst 0, 1) := by decide +kernel
theorem dX10_day_1 : decode cX10_day 1 = .ok (.istore_n 1, 1) := by decide +kernel
theorem dX10_day_2 : decode cX10_day 2 = .ok (.iconst 0, 1) := by decide +kernel
theorem dX10_day_3 : decode cX10_day 3 = .ok (.istore_n 2, 1) := by decide +kernel
theorem dX10_day_4 : decode cX10_day 4 = .ok (.iconst 0, 1) := by decide +kernel
theorem dX10_day_5 : decode cX10_day 5 = .ok (.istore_n 3, 1) := by decide +kernel
theorem dX10_day_6 : decode cX10_day 6 = .ok (.iload_n 3, 1) := by decide +kernel
theorem dX10_day_7 : decode cX10_day 7 = .ok (.aload_n 0, 1) := by decide +kernel
theorem dX10_day_8 : decode cX10_day 8 = .ok (.getfield 164, 3) := by decide +kernel
theorem dX10_day_11 : decode cX10_day 11 = .ok (.if_icmp .ge 105, 3) := by decide +kernel
theorem dX10_day_14 : decode cX10_day 14 = .ok (.aload_n 0, 1) := by decide +kernel
theorem dX10_day_15 : decode cX10_day 15 = .ok (.aload_n 0, 1) := by decide +kernel
theorem dX10_day_16 : decode cX10_day 16 = .ok (.getfield 74, 3) := by decide +kernel
theorem dX10_day_19 : decode cX10_day 19 = .ok (.iload_n 3, 1) := by decide +kernel
theorem dX10_day_20 : decode cX10_day 20 = .ok (.iaload, 1) := by decide +kernel
theorem dX10_day_21 : decode cX10_day 21 = .ok (.aload_n 0, 1) := by decide +kernel
theorem dX10_day_22 : decode cX10_day 22 = .ok (.getfield 77, 3) := by decide +kernel
theorem dX10_day_25 : decode cX10_day 25 = .ok (.iload_n 3, 1) := by decide +kernel
theorem dX10_day_26 : decode cX10_day 26 = .ok (.iaload, 1) := by decide +kernel
theorem dX10_day_27 : decode cX10_day 27 = .ok (.aload_n 0, 1) := by decide +kernel
theorem dX10_day_28 : decode cX10_day 28 = .ok (.getfield 80, 3) := by decide +kernel
theorem dX10_day_31 : decode cX10_day 31 = .ok (.iload_n 3, 1) := by decide +kernel
theorem dX10_day_32 : decode cX10_day 32 = .ok (.iaload, 1) := by decide +kernel
theorem dX10_day_33 : decode cX10_day 33 = .ok (.aload_n 0, 1) := by decide +kernel
theorem dX10_day_34 : decode cX10_day 34 = .ok (.getfield 83, 3) := by decide +kernel
theorem dX10_day_37 : decode cX10_day 37 = .ok (.iload_n 3, 1) := by decide +kernel
theorem dX10_day_38 : decode cX10_day 38 = .ok (.iaload, 1) := by decide +kernel
theorem dX10_day_39 : decode cX10_day 39 = .ok (.invokevirtual 161, 3) := by decide +kernel
theorem dX10_day_42 : decode cX10_day 42 = .ok (.istore 4, 2) := by decide +kernel
theorem dX10_day_44 : decode cX10_day 44 = .ok (.iload 4, 2) := by decide +kernel
theorem dX10_day_46 : decode cX10_day 46 = .ok (.ifCond .ne 9, 3) := by decide +kernel
theorem dX10_day_49 : decode cX10_day 49 = .ok (.iinc 1 1, 3) := by decide +kernel
theorem dX10_day_52 : decode cX10_day 52 = .ok (.goto 46, 3) := by decide +kernel
theorem dX10_day_55 : decode cX10_day 55 = .ok (.aload_n 0, 1) := by decide +kernel
theorem dX10_day_56 : decode cX10_day 56 = .ok (.getfield 167, 3) := by decide +kernel
theorem dX10_day_59 : decode cX10_day 59 = .ok (.bipush 40, 2) := by decide +kernel
theorem dX10_day_61 : decode cX10_day 61 = .ok (.if_icmp .ge 24, 3) := by decide +kernel
theorem dX10_day_64 : decode cX10_day 64 = .ok (.aload_n 0, 1) := by decide +kernel
theorem dX10_day_65 : decode cX10_day 65 = .ok (.getfield 86, 3) := by decide +kernel
theorem dX10_day_68 : decode cX10_day 68 = .ok (.aload_n 0, 1) := by decide +kernel
theorem dX10_day_69 : decode cX10_day 69 = .ok (.getfield 167, 3) := by decide +kernel
theorem dX10_day_72 : decode cX10_day 72 = .ok (.iload_n 3, 1) := by decide +kernel
theorem dX10_day_73 : decode cX10_day 73 = .ok (.iastore, 1) := by decide +kernel
theorem dX10_day_74 : decode cX10_day 74 = .ok (.aload_n 0, 1) := by decide +kernel
theorem dX10_day_75 : decode cX10_day 75 = .ok (.getfield 89, 3) := by decide +kernel
theorem dX10_day_78 : decode cX10_day 78 = .ok (.aload_n 0, 1) := by decide +kernel
theorem dX10_day_79 : decode cX10_day 79 = .ok (.getfield 167, 3) := by decide +kernel
theorem dX10_day_82 : decode cX10_day 82 = .ok (.iload 4, 2) := by decide +kernel
theorem dX10_day_84 : decode cX10_day 84 = .ok (.iastore, 1) := by decide +kernel
theorem dX10_day_85 : decode cX10_day 85 = .ok (.aload_n 0, 1) := by decide +kernel
theorem dX10_day_86 : decode cX10_day 86 = .ok (.dup, 1) := by decide +kernel
theorem dX10_day_87 : decode cX10_day 87 = .ok (.getfield 167, 3) := by decide +kernel
theorem dX10_day_90 : decode cX10_day 90 = .ok (.iconst 1, 1) := by decide +kernel
theorem dX10_day_91 : decode cX10_day 91 = .ok (.iadd, 1) := by decide +kernel
theorem dX10_day_92 : decode cX10_day 92 = .ok (.putfield 167, 3) := by decide +kernel
theorem dX10_day_95 : decode cX10_day 95 = .ok (.iinc 2 1, 3) := by decide +kernel
theorem dX10_day_98 : decode cX10_day 98 = .ok (.iload 4, 2) := by decide +kernel
theorem dX10_day_100 : decode cX10_day 100 = .ok (.bipush 6, 2) := by decide +kernel
theorem dX10_day_102 : decode cX10_day 102 = .ok (.if_icmp .ne 8, 3) := by decide +kernel
theorem dX10_day_105 : decode cX10_day 105 = .ok (.bipush (-10), 2) := by decide +kernel
theorem dX10_day_107 : decode cX10_day 107 = .ok (.iload_n 2, 1) := by decide +kernel
theorem dX10_day_108 : decode cX10_day 108 = .ok (.isub, 1) := by decide +kernel
theorem dX10_day_109 : decode cX10_day 109 = .ok (.ireturn, 1) := by decide +kernel
theorem dX10_day_110 : decode cX10_day 110 = .ok (.iinc 3 1, 3) := by decide +kernel
theorem dX10_day_113 : decode cX10_day 113 = .ok (.goto (-107), 3) := by decide +kernel
theorem dX10_day_116 : decode cX10_day 116 = .ok (.iload_n 1, 1) := by decide +kernel
theorem dX10_day_117 : decode cX10_day 117 = .ok (.ireturn, 1) := by decide +kernel
set_option maxRecDepth 20000 in
theorem ggX10_book_X10_least : GoodIn wsX10_book wsX10_least := goodIn_r _ [8] (by decide +kernel) (by decide +kernel)
set_option maxRecDepth 20000 in
theorem gX10_book_X10_least : GoodIn wsX10_book (va_wsS RX10 146 yX10_least wsX10_least) := goodIn_app (goodIn_of _ (by decide +kernel)) ggX10_book_X10_least
set_option maxRecDepth 20000 in
theorem ggX10_book_X10_in : GoodIn wsX10_book wsX10_in := goodIn_r _ [11] (by decide +kernel) (by decide +kernel)
set_option maxRecDepth 20000 in
theorem gX10_book_X10_in : GoodIn wsX10_book (va_wsS RX10 95 yX10_in wsX10_in) := goodIn_app (goodIn_of _ (by decide +kernel)) ggX10_book_X10_in
theorem dX10_book_0 : decode cX10_book 0 = .ok (.iload_n 1, 1) := by decide +kernel
theorem dX10_book_1 : decode cX10_book 1 = .ok (.iconst 0, 1) := by decide +kernel
theorem dX10_book_2 : decode cX10_book 2 = .ok (.aload_n 0, 1) := by decide +kernel
theorem dX10_book_3 : decode cX10_book 3 = .ok (.getfield 167, 3) := by decide +kernel
theorem dX10_book_6 : decode cX10_book 6 = .ok (.bipush 40, 2) := by decide +kernel
theorem dX10_book_8 : decode cX10_book 8 = .ok (.invokestatic 146, 3) := by decide +kernel
theorem dX10_book_11 : decode cX10_book 11 = .ok (.iconst 1, 1) := by decide +kernel
theorem dX10_book_12 : decode cX10_book 12 = .ok (.isub, 1) := by decide +kernel
theorem dX10_book_13 : decode cX10_book 13 = .ok (.invokestatic 95, 3) := by decide +kernel
theorem dX10_book_16 : decode cX10_book 16 = .ok (.ifCond .eq 12, 3) := by decide +kernel
theorem dX10_book_19 : decode cX10_book 19 = .ok (.iload_n 2, 1) := by decide +kernel
theorem dX10_book_20 : decode cX10_book 20 = .ok (.iconst 0, 1) := by decide +kernel
theorem dX10_book_21 : decode cX10_book 21 = .ok (.iconst 1, 1) := by decide +kernel
theorem dX10_book_22 : decode cX10_book 22 = .ok (.invokestatic 95, 3) := by decide +kernel
theorem dX10_book_25 : decode cX10_book 25 = .ok (.ifCond .ne 6, 3) := by decide +kernel
theorem dX10_book_28 : decode cX10_book 28 = .ok (.ldc 99, 2) := by decide +kernel
theorem dX10_book_30 : decode cX10_book 30 = .ok (.ireturn, 1) := by decide +kernel
theorem dX10_book_31 : decode cX10_book 31 = .ok (.iload_n 2, 1) := by decide +kernel
theorem dX10_book_32 : decode cX10_book 32 = .ok (.ifCond .ne 12, 3) := by decide +kernel
theorem dX10_book_35 : decode cX10_book 35 = .ok (.aload_n 0, 1) := by decide +kernel
theorem dX10_book_36 : decode cX10_book 36 = .ok (.getfield 86, 3) := by decide +kernel
theorem dX10_book_39 : decode cX10_book 39 = .ok (.iload_n 1, 1) := by decide +kernel
theorem dX10_book_40 : decode cX10_book 40 = .ok (.iaload, 1) := by decide +kernel
theorem dX10_book_41 : decode cX10_book 41 = .ok (.goto 9, 3) := by decide +kernel
theorem dX10_book_44 : decode cX10_book 44 = .ok (.aload_n 0, 1) := by decide +kernel
theorem dX10_book_45 : decode cX10_book 45 = .ok (.getfield 89, 3) := by decide +kernel
theorem dX10_book_48 : decode cX10_book 48 = .ok (.iload_n 1, 1) := by decide +kernel
theorem dX10_book_49 : decode cX10_book 49 = .ok (.iaload, 1) := by decide +kernel
theorem dX10_book_50 : decode cX10_book 50 = .ok (.ireturn, 1) := by decide +kernel
set_option maxRecDepth 20000 in
theorem ggX10_horseTells_X10_in : GoodIn wsX10_horseTells wsX10_in := goodIn_r _ [12] (by decide +kernel) (by decide +kernel)
set_option maxRecDepth 20000 in
theorem gX10_horseTells_X10_in : GoodIn wsX10_horseTells (va_wsS RX10 95 yX10_in wsX10_in) := goodIn_app (goodIn_of _ (by decide +kernel)) ggX10_horseTells_X10_in
theorem dX10_horseTells_0 : decode cX10_horseTells 0 = .ok (.iload_n 1, 1) := by decide +kernel
theorem dX10_horseTells_1 : decode cX10_horseTells 1 = .ok (.iconst 0, 1) := by decide +kernel
theorem dX10_horseTells_2 : decode cX10_horseTells 2 = .ok (.bipush 9, 2) := by decide +kernel
theorem dX10_horseTells_4 : decode cX10_horseTells 4 = .ok (.invokestatic 95, 3) := by decide +kernel
theorem dX10_horseTells_7 : decode cX10_horseTells 7 = .ok (.ifCond .eq 21, 3) := by decide +kernel
theorem dX10_horseTells_10 : decode cX10_horseTells 10 = .ok (.iload_n 2, 1) := by decide +kernel
theorem dX10_horseTells_11 : decode cX10_horseTells 11 = .ok (.iconst 0, 1) := by decide +kernel
theorem dX10_horseTells_12 : decode cX10_horseTells 12 = .ok (.iconst 5, 1) := by decide +kernel
theorem dX10_horseTells_13 : decode cX10_horseTells 13 = .ok (.invokestatic 95, 3) := by decide +kernel
theorem dX10_horseTells_16 : decode cX10_horseTells 16 = .ok (.ifCond .eq 12, 3) := by decide +kernel
theorem dX10_horseTells_19 : decode cX10_horseTells 19 = .ok (.aload_n 0, 1) := by decide +kernel
theorem dX10_horseTells_20 : decode cX10_horseTells 20 = .ok (.getfield 34, 3) := by decide +kernel
theorem dX10_horseTells_23 : decode cX10_horseTells 23 = .ok (.iload_n 1, 1) := by decide +kernel
theorem dX10_horseTells_24 : decode cX10_horseTells 24 = .ok (.iaload, 1) := by decide +kernel
theorem dX10_horseTells_25 : decode cX10_horseTells 25 = .ok (.ifCond .ge 6, 3) := by decide +kernel
theorem dX10_horseTells_28 : decode cX10_horseTells 28 = .ok (.ldc 99, 2) := by decide +kernel
theorem dX10_horseTells_30 : decode cX10_horseTells 30 = .ok (.ireturn, 1) := by decide +kernel
theorem dX10_horseTells_31 : decode cX10_horseTells 31 = .ok (.aload_n 0, 1) := by decide +kernel
theorem dX10_horseTells_32 : decode cX10_horseTells 32 = .ok (.getfield 34, 3) := by decide +kernel
theorem dX10_horseTells_35 : decode cX10_horseTells 35 = .ok (.iload_n 1, 1) := by decide +kernel
theorem dX10_horseTells_36 : decode cX10_horseTells 36 = .ok (.iaload, 1) := by decide +kernel
theorem dX10_horseTells_37 : decode cX10_horseTells 37 = .ok (.istore_n 3, 1) := by decide +kernel
theorem dX10_horseTells_38 : decode cX10_horseTells 38 = .ok (.iload_n 2, 1) := by decide +kernel
theorem dX10_horseTells_39 : decode cX10_horseTells 39 = .ok (.tableswitch 68 0 4 #[33, 40, 47, 54, 61], 33) := by decide +kernel
theorem dX10_horseTells_72 : decode cX10_horseTells 72 = .ok (.aload_n 0, 1) := by decide +kernel
theorem dX10_horseTells_73 : decode cX10_horseTells 73 = .ok (.getfield 7, 3) := by decide +kernel
theorem dX10_horseTells_76 : decode cX10_horseTells 76 = .ok (.iload_n 3, 1) := by decide +kernel
theorem dX10_horseTells_77 : decode cX10_horseTells 77 = .ok (.iaload, 1) := by decide +kernel
theorem dX10_horseTells_78 : decode cX10_horseTells 78 = .ok (.ireturn, 1) := by decide +kernel
theorem dX10_horseTells_79 : decode cX10_horseTells 79 = .ok (.aload_n 0, 1) := by decide +kernel
theorem dX10_horseTells_80 : decode cX10_horseTells 80 = .ok (.getfield 13, 3) := by decide +kernel
theorem dX10_horseTells_83 : decode cX10_horseTells 83 = .ok (.iload_n 3, 1) := by decide +kernel
theorem dX10_horseTells_84 : decode cX10_horseTells 84 = .ok (.iaload, 1) := by decide +kernel
theorem dX10_horseTells_85 : decode cX10_horseTells 85 = .ok (.ireturn, 1) := by decide +kernel
theorem dX10_horseTells_86 : decode cX10_horseTells 86 = .ok (.aload_n 0, 1) := by decide +kernel
theorem dX10_horseTells_87 : decode cX10_horseTells 87 = .ok (.getfield 16, 3) := by decide +kernel
theorem dX10_horseTells_90 : decode cX10_horseTells 90 = .ok (.iload_n 3, 1) := by decide +kernel
theorem dX10_horseTells_91 : decode cX10_horseTells 91 = .ok (.iaload, 1) := by decide +kernel
theorem dX10_horseTells_92 : decode cX10_horseTells 92 = .ok (.ireturn, 1) := by decide +kernel
theorem dX10_horseTells_93 : decode cX10_horseTells 93 = .ok (.aload_n 0, 1) := by decide +kernel
theorem dX10_horseTells_94 : decode cX10_horseTells 94 = .ok (.getfield 19, 3) := by decide +kernel
theorem dX10_horseTells_97 : decode cX10_horseTells 97 = .ok (.iload_n 3, 1) := by decide +kernel
theorem dX10_horseTells_98 : decode cX10_horseTells 98 = .ok (.iaload, 1) := by decide +kernel
theorem dX10_horseTells_99 : decode cX10_horseTells 99 = .ok (.ireturn, 1) := by decide +kernel
theorem dX10_horseTells_100 : decode cX10_horseTells 100 = .ok (.aload_n 0, 1) := by decide +kernel
theorem dX10_horseTells_101 : decode cX10_horseTells 101 = .ok (.getfield 22, 3) := by decide +kernel
theorem dX10_horseTells_104 : decode cX10_horseTells 104 = .ok (.iload_n 3, 1) := by decide +kernel
theorem dX10_horseTells_105 : decode cX10_horseTells 105 = .ok (.iaload, 1) := by decide +kernel
theorem dX10_horseTells_106 : decode cX10_horseTells 106 = .ok (.ireturn, 1) := by decide +kernel
theorem dX10_horseTells_107 : decode cX10_horseTells 107 = .ok (.aload_n 0, 1) := by decide +kernel
theorem dX10_horseTells_108 : decode cX10_horseTells 108 = .ok (.getfield 25, 3) := by decide +kernel
theorem dX10_horseTells_111 : decode cX10_horseTells 111 = .ok (.iload_n 3, 1) := by decide +kernel
theorem dX10_horseTells_112 : decode cX10_horseTells 112 = .ok (.iaload, 1) := by decide +kernel
theorem dX10_horseTells_113 : decode cX10_horseTells 113 = .ok (.ireturn, 1) := by decide +kernel
set_option maxRecDepth 20000 in
theorem ggX10_shed_X10_in : GoodIn wsX10_shed wsX10_in := goodIn_r _ [6] (by decide +kernel) (by decide +kernel)
set_option maxRecDepth 20000 in
theorem gX10_shed_X10_in : GoodIn wsX10_shed (va_wsS RX10 95 yX10_in wsX10_in) := goodIn_app (goodIn_of _ (by decide +kernel)) ggX10_shed_X10_in
theorem dX10_shed_0 : decode cX10_shed 0 = .ok (.iload_n 1, 1) := by decide +kernel
theorem dX10_shed_1 : decode cX10_shed 1 = .ok (.iconst 0, 1) := by decide +kernel
theorem dX10_shed_2 : decode cX10_shed 2 = .ok (.iconst 5, 1) := by decide +kernel
theorem dX10_shed_3 : decode cX10_shed 3 = .ok (.invokestatic 95, 3) := by decide +kernel
theorem dX10_shed_6 : decode cX10_shed 6 = .ok (.ifCond .ne 8, 3) := by decide +kernel
theorem dX10_shed_9 : decode cX10_shed 9 = .ok (.ldc 99, 2) := by decide +kernel
theorem dX10_shed_11 : decode cX10_shed 11 = .ok (.goto 32, 3) := by decide +kernel
theorem dX10_shed_14 : decode cX10_shed 14 = .ok (.aload_n 0, 1) := by decide +kernel
theorem dX10_shed_15 : decode cX10_shed 15 = .ok (.getfield 37, 3) := by decide +kernel
theorem dX10_shed_18 : decode cX10_shed 18 = .ok (.iload_n 1, 1) := by decide +kernel
theorem dX10_shed_19 : decode cX10_shed 19 = .ok (.iaload, 1) := by decide +kernel
theorem dX10_shed_20 : decode cX10_shed 20 = .ok (.ifCond .ge 7, 3) := by decide +kernel
theorem dX10_shed_23 : decode cX10_shed 23 = .ok (.iconst 0, 1) := by decide +kernel
theorem dX10_shed_24 : decode cX10_shed 24 = .ok (.goto 19, 3) := by decide +kernel
theorem dX10_shed_27 : decode cX10_shed 27 = .ok (.aload_n 0, 1) := by decide +kernel
theorem dX10_shed_28 : decode cX10_shed 28 = .ok (.getfield 37, 3) := by decide +kernel
theorem dX10_shed_31 : decode cX10_shed 31 = .ok (.iload_n 1, 1) := by decide +kernel
theorem dX10_shed_32 : decode cX10_shed 32 = .ok (.iaload, 1) := by decide +kernel
theorem dX10_shed_33 : decode cX10_shed 33 = .ok (.bipush 100, 2) := by decide +kernel
theorem dX10_shed_35 : decode cX10_shed 35 = .ok (.if_icmp .ge 7, 3) := by decide +kernel
theorem dX10_shed_38 : decode cX10_shed 38 = .ok (.iconst 1, 1) := by decide +kernel
theorem dX10_shed_39 : decode cX10_shed 39 = .ok (.goto 4, 3) := by decide +kernel
theorem dX10_shed_42 : decode cX10_shed 42 = .ok (.iconst 2, 1) := by decide +kernel
theorem dX10_shed_43 : decode cX10_shed 43 = .ok (.ireturn, 1) := by decide +kernel
set_option maxRecDepth 20000 in
theorem ggX10_same_X10_in : GoodIn wsX10_same wsX10_in := goodIn_r _ [6] (by decide +kernel) (by decide +kernel)
set_option maxRecDepth 20000 in
theorem gX10_same_X10_in : GoodIn wsX10_same (va_wsS RX10 95 yX10_in wsX10_in) := goodIn_app (goodIn_of _ (by decide +kernel)) ggX10_same_X10_in
theorem dX10_same_0 : decode cX10_same 0 = .ok (.iload_n 1, 1) := by decide +kernel
theorem dX10_same_1 : decode cX10_same 1 = .ok (.iconst 0, 1) := by decide +kernel
theorem dX10_same_2 : decode cX10_same 2 = .ok (.bipush 9, 2) := by decide +kernel
theorem dX10_same_4 : decode cX10_same 4 = .ok (.invokestatic 95, 3) := by decide +kernel
theorem dX10_same_7 : decode cX10_same 7 = .ok (.ifCond .eq 13, 3) := by decide +kernel
theorem dX10_same_10 : decode cX10_same 10 = .ok (.iload_n 2, 1) := by decide +kernel
theorem dX10_same_11 : decode cX10_same 11 = .ok (.iconst 0, 1) := by decide +kernel
theorem dX10_same_12 : decode cX10_same 12 = .ok (.bipush 9, 2) := by decide +kernel
theorem dX10_same_14 : decode cX10_same 14 = .ok (.invokestatic 95, 3) := by decide +kernel
theorem dX10_same_17 : decode cX10_same 17 = .ok (.ifCond .ne 8, 3) := by decide +kernel
theorem dX10_same_20 : decode cX10_same 20 = .ok (.ldc 99, 2) := by decide +kernel
theorem dX10_same_22 : decode cX10_same 22 = .ok (.goto 23, 3) := by decide +kernel
theorem dX10_same_25 : decode cX10_same 25 = .ok (.aload_n 0, 1) := by decide +kernel
theorem dX10_same_26 : decode cX10_same 26 = .ok (.getfield 34, 3) := by decide +kernel
theorem dX10_same_29 : decode cX10_same 29 = .ok (.iload_n 1, 1) := by decide +kernel
theorem dX10_same_30 : decode cX10_same 30 = .ok (.iaload, 1) := by decide +kernel
theorem dX10_same_31 : decode cX10_same 31 = .ok (.aload_n 0, 1) := by decide +kernel
theorem dX10_same_32 : decode cX10_same 32 = .ok (.getfield 34, 3) := by decide +kernel
theorem dX10_same_35 : decode cX10_same 35 = .ok (.iload_n 2, 1) := by decide +kernel
theorem dX10_same_36 : decode cX10_same 36 = .ok (.iaload, 1) := by decide +kernel
theorem dX10_same_37 : decode cX10_same 37 = .ok (.if_icmp .ne 7, 3) := by decide +kernel
theorem dX10_same_40 : decode cX10_same 40 = .ok (.iconst 1, 1) := by decide +kernel
theorem dX10_same_41 : decode cX10_same 41 = .ok (.goto 4, 3) := by decide +kernel
theorem dX10_same_44 : decode cX10_same 44 = .ok (.iconst 0, 1) := by decide +kernel
theorem dX10_same_45 : decode cX10_same 45 = .ok (.ireturn, 1) := by decide +kernel
set_option maxRecDepth 20000 in
theorem ggX10_count_X10_in : GoodIn wsX10_count wsX10_in := goodIn_r _ [11] (by decide +kernel) (by decide +kernel)
set_option maxRecDepth 20000 in
theorem gX10_count_X10_in : GoodIn wsX10_count (va_wsS RX10 95 yX10_in wsX10_in) := goodIn_app (goodIn_of _ (by decide +kernel)) ggX10_count_X10_in
theorem dX10_count_0 : decode cX10_count 0 = .ok (.iload_n 1, 1) := by decide +kernel
theorem dX10_count_1 : decode cX10_count 1 = .ok (.tableswitch 60 0 4 #[35, 40, 45, 50, 55], 35) := by decide +kernel
theorem dX10_count_36 : decode cX10_count 36 = .ok (.aload_n 0, 1) := by decide +kernel
theorem dX10_count_37 : decode cX10_count 37 = .ok (.getfield 100, 3) := by decide +kernel
theorem dX10_count_40 : decode cX10_count 40 = .ok (.ireturn, 1) := by decide +kernel
theorem dX10_count_41 : decode cX10_count 41 = .ok (.aload_n 0, 1) := by decide +kernel
theorem dX10_count_42 : decode cX10_count 42 = .ok (.getfield 105, 3) := by decide +kernel
theorem dX10_count_45 : decode cX10_count 45 = .ok (.ireturn, 1) := by decide +kernel
theorem dX10_count_46 : decode cX10_count 46 = .ok (.aload_n 0, 1) := by decide +kernel
theorem dX10_count_47 : decode cX10_count 47 = .ok (.getfield 112, 3) := by decide +kernel
theorem dX10_count_50 : decode cX10_count 50 = .ok (.ireturn, 1) := by decide +kernel
theorem dX10_count_51 : decode cX10_count 51 = .ok (.aload_n 0, 1) := by decide +kernel
theorem dX10_count_52 : decode cX10_count 52 = .ok (.getfield 164, 3) := by decide +kernel
theorem dX10_count_55 : decode cX10_count 55 = .ok (.ireturn, 1) := by decide +kernel
theorem dX10_count_56 : decode cX10_count 56 = .ok (.aload_n 0, 1) := by decide +kernel
theorem dX10_count_57 : decode cX10_count 57 = .ok (.getfield 167, 3) := by decide +kernel
theorem dX10_count_60 : decode cX10_count 60 = .ok (.ireturn, 1) := by decide +kernel
theorem dX10_count_61 : decode cX10_count 61 = .ok (.iload_n 1, 1) := by decide +kernel
theorem dX10_count_62 : decode cX10_count 62 = .ok (.bipush 6, 2) := by decide +kernel
theorem dX10_count_64 : decode cX10_count 64 = .ok (.bipush 11, 2) := by decide +kernel
theorem dX10_count_66 : decode cX10_count 66 = .ok (.invokestatic 95, 3) := by decide +kernel
theorem dX10_count_69 : decode cX10_count 69 = .ok (.ifCond .eq 14, 3) := by decide +kernel
theorem dX10_count_72 : decode cX10_count 72 = .ok (.aload_n 0, 1) := by decide +kernel
theorem dX10_count_73 : decode cX10_count 73 = .ok (.getfield 92, 3) := by decide +kernel
theorem dX10_count_76 : decode cX10_count 76 = .ok (.iload_n 1, 1) := by decide +kernel
theorem dX10_count_77 : decode cX10_count 77 = .ok (.iconst 5, 1) := by decide +kernel
theorem dX10_count_78 : decode cX10_count 78 = .ok (.isub, 1) := by decide +kernel
theorem dX10_count_79 : decode cX10_count 79 = .ok (.iaload, 1) := by decide +kernel
theorem dX10_count_80 : decode cX10_count 80 = .ok (.goto 5, 3) := by decide +kernel
theorem dX10_count_83 : decode cX10_count 83 = .ok (.ldc 170, 2) := by decide +kernel
theorem dX10_count_85 : decode cX10_count 85 = .ok (.ireturn, 1) := by decide +kernel
theorem dJ9_floorMod_7cf53_0 : decode cJ9_floorMod_7cf53 0 = .ok (.iload_n 0, 1) := by decide +kernel
theorem dJ9_floorMod_7cf53_1 : decode cJ9_floorMod_7cf53 1 = .ok (.iload_n 1, 1) := by decide +kernel
theorem dJ9_floorMod_7cf53_2 : decode cJ9_floorMod_7cf53 2 = .ok (.irem, 1) := by decide +kernel
theorem dJ9_floorMod_7cf53_3 : decode cJ9_floorMod_7cf53 3 = .ok (.istore_n 2, 1) := by decide +kernel
theorem dJ9_floorMod_7cf53_4 : decode cJ9_floorMod_7cf53 4 = .ok (.iload_n 0, 1) := by decide +kernel
theorem dJ9_floorMod_7cf53_5 : decode cJ9_floorMod_7cf53 5 = .ok (.iload_n 1, 1) := by decide +kernel
theorem dJ9_floorMod_7cf53_6 : decode cJ9_floorMod_7cf53 6 = .ok (.ixor, 1) := by decide +kernel
theorem dJ9_floorMod_7cf53_7 : decode cJ9_floorMod_7cf53 7 = .ok (.ifCond .ge 11, 3) := by decide +kernel
theorem dJ9_floorMod_7cf53_10 : decode cJ9_floorMod_7cf53 10 = .ok (.iload_n 2, 1) := by decide +kernel
theorem dJ9_floorMod_7cf53_11 : decode cJ9_floorMod_7cf53 11 = .ok (.ifCond .eq 7, 3) := by decide +kernel
theorem dJ9_floorMod_7cf53_14 : decode cJ9_floorMod_7cf53 14 = .ok (.iload_n 2, 1) := by decide +kernel
theorem dJ9_floorMod_7cf53_15 : decode cJ9_floorMod_7cf53 15 = .ok (.iload_n 1, 1) := by decide +kernel
theorem dJ9_floorMod_7cf53_16 : decode cJ9_floorMod_7cf53 16 = .ok (.iadd, 1) := by decide +kernel
theorem dJ9_floorMod_7cf53_17 : decode cJ9_floorMod_7cf53 17 = .ok (.ireturn, 1) := by decide +kernel
theorem dJ9_floorMod_7cf53_18 : decode cJ9_floorMod_7cf53 18 = .ok (.iload_n 2, 1) := by decide +kernel
theorem dJ9_floorMod_7cf53_19 : decode cJ9_floorMod_7cf53 19 = .ok (.ireturn, 1) := by decide +kernel
theorem dJ9_min_7cf53_0 : decode cJ9_min_7cf53 0 = .ok (.iload_n 0, 1) := by decide +kernel
theorem dJ9_min_7cf53_1 : decode cJ9_min_7cf53 1 = .ok (.iload_n 1, 1) := by decide +kernel
theorem dJ9_min_7cf53_2 : decode cJ9_min_7cf53 2 = .ok (.if_icmp .gt 7, 3) := by decide +kernel
theorem dJ9_min_7cf53_5 : decode cJ9_min_7cf53 5 = .ok (.iload_n 0, 1) := by decide +kernel
theorem dJ9_min_7cf53_6 : decode cJ9_min_7cf53 6 = .ok (.goto 4, 3) := by decide +kernel
theorem dJ9_min_7cf53_9 : decode cJ9_min_7cf53 9 = .ok (.iload_n 1, 1) := by decide +kernel
theorem dJ9_min_7cf53_10 : decode cJ9_min_7cf53 10 = .ok (.ireturn, 1) := by decide +kernel
theorem dJ7_fill_53178_0 : decode cJ7_fill_53178 0 = .ok (.iconst 0, 1) := by decide +kernel
theorem dJ7_fill_53178_1 : decode cJ7_fill_53178 1 = .ok (.istore_n 2, 1) := by decide +kernel
theorem dJ7_fill_53178_2 : decode cJ7_fill_53178 2 = .ok (.aload_n 0, 1) := by decide +kernel
theorem dJ7_fill_53178_3 : decode cJ7_fill_53178 3 = .ok (.arraylength, 1) := by decide +kernel
theorem dJ7_fill_53178_4 : decode cJ7_fill_53178 4 = .ok (.istore_n 3, 1) := by decide +kernel
theorem dJ7_fill_53178_5 : decode cJ7_fill_53178 5 = .ok (.iload_n 2, 1) := by decide +kernel
theorem dJ7_fill_53178_6 : decode cJ7_fill_53178 6 = .ok (.iload_n 3, 1) := by decide +kernel
theorem dJ7_fill_53178_7 : decode cJ7_fill_53178 7 = .ok (.if_icmp .ge 13, 3) := by decide +kernel
theorem dJ7_fill_53178_10 : decode cJ7_fill_53178 10 = .ok (.aload_n 0, 1) := by decide +kernel
theorem dJ7_fill_53178_11 : decode cJ7_fill_53178 11 = .ok (.iload_n 2, 1) := by decide +kernel
theorem dJ7_fill_53178_12 : decode cJ7_fill_53178 12 = .ok (.iload_n 1, 1) := by decide +kernel
theorem dJ7_fill_53178_13 : decode cJ7_fill_53178 13 = .ok (.iastore, 1) := by decide +kernel
theorem dJ7_fill_53178_14 : decode cJ7_fill_53178 14 = .ok (.iinc 2 1, 3) := by decide +kernel
theorem dJ7_fill_53178_17 : decode cJ7_fill_53178 17 = .ok (.goto (-12), 3) := by decide +kernel
theorem dJ7_fill_53178_20 : decode cJ7_fill_53178 20 = .ok (.return_, 1) := by decide +kernel
set_option maxRecDepth 20000 in
theorem ggL_law_X9_init : GoodIn wsL_law wsX9_init := goodIn_r _ [8, 9, 10, 11, 12, 13, 14, 15, 16, 17, 18, 19, 20, 21, 22, 23, 24, 25, 26, 27, 28, 29, 30, 31, 32, 33, 34, 35, 36, 37, 38, 39, 40, 41, 42, 43, 44, 45, 46, 47, 48, 49, 50, 51, 577, 578, 579, 580, 581, 582, 583, 584, 585, 586, 587, 588, 589, 590, 591, 592, 628, 629, 630, 631, 632, 633, 634, 635, 636, 637, 638, 639] (by decide +kernel) (by decide +kernel)
set_option maxRecDepth 20000 in
theorem gL_law_X9_init : GoodIn wsL_law (wsX9_init) := ggL_law_X9_init
set_option maxRecDepth 20000 in
theorem ggL_law_X10_init : GoodIn wsL_law wsX10_init := goodIn_r _ [54, 55, 10, 11, 25, 56, 57, 58, 59, 60, 61, 62, 63, 64, 65, 66, 67, 68, 69, 70, 71, 72, 50, 73, 74, 75, 76, 77, 78, 79, 80, 81, 82, 83, 593, 594, 595, 596, 597, 598, 599, 600, 601, 602, 603, 604, 605, 606, 607, 608, 609, 610, 611, 612, 613, 614, 615, 616, 617, 618, 619, 620, 621, 622, 623, 624, 625, 626, 627] (by decide +kernel) (by decide +kernel)
set_option maxRecDepth 20000 in
theorem gL_law_X10_init : GoodIn wsL_law (wsX10_init) := ggL_law_X10_init
set_option maxRecDepth 20000 in
theorem ggL_law_X9_horse : GoodIn wsL_law wsX9_horse := goodIn_r _ [87, 88, 89, 90, 13, 91, 92, 2, 93, 94, 95, 96, 97, 98, 99, 100, 101, 102, 12, 103, 104, 105, 106, 107, 108, 109, 110, 111, 112, 113, 114, 115, 10, 11, 116, 117, 118, 119, 120, 577, 578, 579, 580, 581, 582, 583, 584, 585, 586, 587, 588, 589, 590, 591, 592, 640, 641, 642, 643, 644, 645, 646, 647, 648, 649, 650, 651, 652, 653, 654] (by decide +kernel) (by decide +kernel)
set_option maxRecDepth 20000 in
theorem gL_law_X9_horse : GoodIn wsL_law (wsV RL 13 RX9 yX9_horse wsX9_horse) := goodIn_app (goodIn_of _ (by decide +kernel)) ggL_law_X9_horse
set_option maxRecDepth 20000 in
theorem ggL_law_X10_horse : GoodIn wsL_law wsX10_horse := goodIn_r _ [124, 125, 126, 127, 56, 57, 64, 128, 129, 5, 130, 593, 594, 595, 596, 597, 598, 599, 600, 601, 602, 603, 604, 605, 606, 607, 608, 609, 610, 611, 612, 613, 614, 615, 616, 617, 618, 619, 620, 621, 622, 623, 624, 625, 626, 627] (by decide +kernel) (by decide +kernel)
set_option maxRecDepth 20000 in
theorem gL_law_X10_horse : GoodIn wsL_law (wsV RL 17 RX10 yX10_horse wsX10_horse) := goodIn_app (goodIn_of _ (by decide +kernel)) ggL_law_X10_horse
set_option maxRecDepth 20000 in
theorem ggL_law_X9_wagon : GoodIn wsL_law wsX9_wagon := goodIn_r _ [134, 88, 135, 90, 15, 136, 137, 138, 91, 92, 2, 93, 139, 140, 141, 142, 112, 113, 114, 115, 10, 11, 577, 578, 579, 580, 581, 582, 583, 584, 585, 586, 587, 588, 589, 590, 591, 592, 655, 656] (by decide +kernel) (by decide +kernel)
set_option maxRecDepth 20000 in
theorem gL_law_X9_wagon : GoodIn wsL_law (wsV RL 18 RX9 yX9_wagon wsX9_wagon) := goodIn_app (goodIn_of _ (by decide +kernel)) ggL_law_X9_wagon
set_option maxRecDepth 20000 in
theorem ggL_law_X10_wagon : GoodIn wsL_law wsX10_wagon := goodIn_r _ [146, 125, 147, 127, 62, 65, 128, 129, 5, 130, 593, 594, 595, 596, 597, 598, 599, 600, 601, 602, 603, 604, 605, 606, 607, 608, 609, 610, 611, 612, 613, 614, 615, 616, 617, 618, 619, 620, 621, 622, 623, 624, 625, 626, 627] (by decide +kernel) (by decide +kernel)
set_option maxRecDepth 20000 in
theorem gL_law_X10_wagon : GoodIn wsL_law (wsV RL 22 RX10 yX10_wagon wsX10_wagon) := goodIn_app (goodIn_of _ (by decide +kernel)) ggL_law_X10_wagon
set_option maxRecDepth 20000 in
theorem ggL_law_X9_lead : GoodIn wsL_law wsX9_lead := goodIn_r _ [151, 88, 15, 13, 91, 92, 2, 93, 152, 153, 154, 577, 578, 579, 580, 581, 582, 583, 584, 585, 586, 587, 588, 589, 590, 591, 592] (by decide +kernel) (by decide +kernel)
set_option maxRecDepth 20000 in
theorem gL_law_X9_lead : GoodIn wsL_law (wsV RL 23 RX9 yX9_lead wsX9_lead) := goodIn_app (goodIn_of _ (by decide +kernel)) ggL_law_X9_lead
set_option maxRecDepth 20000 in
theorem ggL_law_X10_lead : GoodIn wsL_law wsX10_lead := goodIn_r _ [158, 125, 65, 64, 128, 129, 5, 130, 593, 594, 595, 596, 597, 598, 599, 600, 601, 602, 603, 604, 605, 606, 607, 608, 609, 610, 611, 612, 613, 614, 615, 616, 617, 618, 619, 620, 621, 622, 623, 624, 625, 626, 627] (by decide +kernel) (by decide +kernel)
set_option maxRecDepth 20000 in
theorem gL_law_X10_lead : GoodIn wsL_law (wsV RL 26 RX10 yX10_lead wsX10_lead) := goodIn_app (goodIn_of _ (by decide +kernel)) ggL_law_X10_lead
set_option maxRecDepth 20000 in
theorem ggL_law_X9_empty : GoodIn wsL_law wsX9_empty := goodIn_r _ [162, 163, 88, 91, 92, 2, 93, 164, 165, 166, 167, 13, 15, 17, 168, 19, 169, 21, 170, 23, 171, 172, 173, 174, 152, 153, 154, 577, 578, 579, 580, 581, 582, 583, 584, 585, 586, 587, 588, 589, 590, 591, 592, 628, 629, 630, 631, 632, 633, 634, 635, 636, 637, 638, 639] (by decide +kernel) (by decide +kernel)
set_option maxRecDepth 20000 in
theorem gL_law_X9_empty : GoodIn wsL_law (wsV RL 27 RX9 yX9_empty wsX9_empty) := goodIn_app (goodIn_of _ (by decide +kernel)) ggL_law_X9_empty
set_option maxRecDepth 20000 in
theorem ggL_law_X10_empty : GoodIn wsL_law wsX10_empty := goodIn_r _ [178, 125, 64, 65, 66, 69, 71, 75, 128, 129, 5, 130, 179, 180, 181, 182, 593, 594, 595, 596, 597, 598, 599, 600, 601, 602, 603, 604, 605, 606, 607, 608, 609, 610, 611, 612, 613, 614, 615, 616, 617, 618, 619, 620, 621, 622, 623, 624, 625, 626, 627] (by decide +kernel) (by decide +kernel)
set_option maxRecDepth 20000 in
theorem gL_law_X10_empty : GoodIn wsL_law (wsV RL 30 RX10 yX10_empty wsX10_empty) := goodIn_app (goodIn_of _ (by decide +kernel)) ggL_law_X10_empty
set_option maxRecDepth 20000 in
theorem ggL_law_X9_tear : GoodIn wsL_law wsX9_tear := goodIn_r _ [186, 88, 21, 170, 187, 188, 91, 92, 2, 93, 152, 153, 154, 577, 578, 579, 580, 581, 582, 583, 584, 585, 586, 587, 588, 589, 590, 591, 592, 635, 636, 637, 638, 639] (by decide +kernel) (by decide +kernel)
set_option maxRecDepth 20000 in
theorem gL_law_X9_tear : GoodIn wsL_law (wsV RL 31 RX9 yX9_tear wsX9_tear) := goodIn_app (goodIn_of _ (by decide +kernel)) ggL_law_X9_tear
set_option maxRecDepth 20000 in
theorem ggL_law_X10_tear : GoodIn wsL_law wsX10_tear := goodIn_r _ [192, 71, 125, 73, 128, 129, 5, 130, 593, 594, 595, 596, 597, 598, 599, 600, 601, 602, 603, 604, 605, 606, 607, 608, 609, 610, 611, 612, 613, 614, 615, 616, 617, 618, 619, 620, 621, 622, 623, 624, 625, 626, 627] (by decide +kernel) (by decide +kernel)
set_option maxRecDepth 20000 in
theorem gL_law_X10_tear : GoodIn wsL_law (wsV RL 34 RX10 yX10_tear wsX10_tear) := goodIn_app (goodIn_of _ (by decide +kernel)) ggL_law_X10_tear
set_option maxRecDepth 20000 in
theorem ggL_law_X9_hang : GoodIn wsL_law wsX9_hang := goodIn_r _ [196, 88, 197, 90, 23, 22, 198, 199, 91, 92, 2, 93, 200, 201, 202, 203, 10, 11, 204, 577, 578, 579, 580, 581, 582, 583, 584, 585, 586, 587, 588, 589, 590, 591, 592, 657] (by decide +kernel) (by decide +kernel)
set_option maxRecDepth 20000 in
theorem gL_law_X9_hang : GoodIn wsL_law (wsV RL 35 RX9 yX9_hang wsX9_hang) := goodIn_app (goodIn_of _ (by decide +kernel)) ggL_law_X9_hang
set_option maxRecDepth 20000 in
theorem ggL_law_X10_hang : GoodIn wsL_law wsX10_hang := goodIn_r _ [208, 125, 209, 127, 75, 76, 128, 129, 5, 130, 593, 594, 595, 596, 597, 598, 599, 600, 601, 602, 603, 604, 605, 606, 607, 608, 609, 610, 611, 612, 613, 614, 615, 616, 617, 618, 619, 620, 621, 622, 623, 624, 625, 626, 627] (by decide +kernel) (by decide +kernel)
set_option maxRecDepth 20000 in
theorem gL_law_X10_hang : GoodIn wsL_law (wsV RL 38 RX10 yX10_hang wsX10_hang) := goodIn_app (goodIn_of _ (by decide +kernel)) ggL_law_X10_hang
set_option maxRecDepth 20000 in
theorem ggL_law_X9_act : GoodIn wsL_law wsX9_act := goodIn_r _ [213, 88, 91, 92, 2, 93, 214, 215, 216, 217, 29, 218, 219, 220, 221, 222, 223, 224, 225, 226, 227, 228, 229, 230, 13, 231, 232, 233, 234, 235, 236, 237, 238, 239, 240, 241, 242, 243, 244, 245, 246, 247, 248, 249, 250, 251, 252, 253, 254, 255, 256, 257, 258, 99, 259, 260, 261, 262, 263, 264, 265, 104, 266, 267, 268, 102, 269, 270, 271, 272, 273, 274, 275, 276, 277, 278, 279, 280, 281, 282, 15, 283, 284, 285, 286, 287, 288, 289, 290, 291, 292, 293, 294, 295, 296, 297, 298, 299, 300, 301, 302, 138, 303, 304, 142, 305, 306, 307, 308, 309, 310, 311, 312, 313, 314, 315, 316, 317, 318, 319, 320, 321, 322, 323, 324, 325, 326, 17, 327, 328, 329, 31, 330, 331, 332, 333, 40, 334, 335, 336, 337, 168, 338, 339, 340, 341, 342, 343, 344, 345, 346, 347, 348, 349, 350, 351, 352, 353, 354, 355, 356, 357, 358, 359, 360, 152, 153, 154, 361, 362, 363, 364, 365, 366, 367, 368, 369, 370, 371, 372, 373, 374, 375, 376, 377, 378, 379, 380, 381, 382, 383, 19, 384, 385, 386, 33, 387, 388, 389, 44, 390, 391, 392, 393, 394, 395, 396, 397, 169, 398, 399, 400, 401, 402, 403, 404, 405, 406, 407, 408, 409, 410, 411, 412, 413, 414, 415, 21, 416, 417, 418, 35, 419, 420, 421, 422, 51, 49, 423, 424, 425, 426, 427, 170, 187, 188, 428, 429, 430, 431, 432, 433, 23, 434, 577, 578, 579, 580, 581, 582, 583, 584, 585, 586, 587, 588, 589, 590, 591, 592, 640, 641, 642, 643, 644, 650, 651, 652, 653, 654, 645, 646, 647, 648, 649, 655, 656, 628, 629, 630, 631, 632, 633, 634, 635, 636, 637, 638, 639, 657] (by decide +kernel) (by decide +kernel)
set_option maxRecDepth 20000 in
theorem gL_law_X9_act : GoodIn wsL_law (wsV RL 39 RX9 yX9_act wsX9_act) := goodIn_app (goodIn_of _ (by decide +kernel)) ggL_law_X9_act
set_option maxRecDepth 20000 in
theorem ggL_law_X10_act : GoodIn wsL_law wsX10_act := goodIn_r _ [438, 125, 128, 129, 5, 130, 439, 440, 441, 442, 443, 444, 83, 445, 446, 447, 448, 64, 65, 57, 75, 76, 449, 450, 451, 452, 453, 454, 455, 56, 58, 59, 456, 457, 458, 459, 460, 461, 462, 463, 60, 464, 465, 466, 467, 63, 62, 61, 468, 469, 470, 471, 66, 67, 68, 472, 473, 474, 475, 476, 477, 478, 479, 480, 481, 482, 483, 484, 485, 486, 69, 70, 487, 488, 489, 490, 71, 72, 73, 74, 593, 594, 595, 596, 597, 598, 599, 600, 601, 602, 603, 604, 605, 606, 607, 608, 609, 610, 611, 612, 613, 614, 615, 616, 617, 618, 619, 620, 621, 622, 623, 624, 625, 626, 627] (by decide +kernel) (by decide +kernel)
set_option maxRecDepth 20000 in
theorem gL_law_X10_act : GoodIn wsL_law (wsV RL 43 RX10 yX10_act wsX10_act) := goodIn_app (goodIn_of _ (by decide +kernel)) ggL_law_X10_act
set_option maxRecDepth 20000 in
theorem ggL_law_X9_came : GoodIn wsL_law wsX9_came := goodIn_r _ [494, 239, 577, 578, 579, 580, 581, 582, 583, 584, 585, 586, 587, 588, 589, 590, 591, 592] (by decide +kernel) (by decide +kernel)
set_option maxRecDepth 20000 in
theorem gL_law_X9_came : GoodIn wsL_law (wsV RL 44 RX9 yX9_came wsX9_came) := goodIn_app (goodIn_of _ (by decide +kernel)) ggL_law_X9_came
set_option maxRecDepth 20000 in
theorem ggL_law_X10_came : GoodIn wsL_law wsX10_came := goodIn_r _ [498, 444, 593, 594, 595, 596, 597, 598, 599, 600, 601, 602, 603, 604, 605, 606, 607, 608, 609, 610, 611, 612, 613, 614, 615, 616, 617, 618, 619, 620, 621, 622, 623, 624, 625, 626, 627] (by decide +kernel) (by decide +kernel)
set_option maxRecDepth 20000 in
theorem gL_law_X10_came : GoodIn wsL_law (wsV RL 48 RX10 yX10_came wsX10_came) := goodIn_app (goodIn_of _ (by decide +kernel)) ggL_law_X10_came
set_option maxRecDepth 20000 in
theorem ggL_law_X9_task : GoodIn wsL_law wsX9_task := goodIn_r _ [502, 88, 503, 90, 26, 91, 92, 2, 93, 577, 578, 579, 580, 581, 582, 583, 584, 585, 586, 587, 588, 589, 590, 591, 592] (by decide +kernel) (by decide +kernel)
set_option maxRecDepth 20000 in
theorem gL_law_X9_task : GoodIn wsL_law (wsV RL 49 RX9 yX9_task wsX9_task) := goodIn_app (goodIn_of _ (by decide +kernel)) ggL_law_X9_task
end
section
set_option maxRecDepth 20000 in
theorem ggL_law_X10_task : GoodIn wsL_law wsX10_task := goodIn_r _ [507, 125, 508, 127, 77, 78, 79, 80, 128, 129, 5, 130, 593, 594, 595, 596, 597, 598, 599, 600, 601, 602, 603, 604, 605, 606, 607, 608, 609, 610, 611, 612, 613, 614, 615, 616, 617, 618, 619, 620, 621, 622, 623, 624, 625, 626, 627] (by decide +kernel) (by decide +kernel)
set_option maxRecDepth 20000 in
theorem gL_law_X10_task : GoodIn wsL_law (wsV RL 52 RX10 yX10_task wsX10_task) := goodIn_app (goodIn_of _ (by decide +kernel)) ggL_law_X10_task
set_option maxRecDepth 20000 in
theorem ggL_law_X9_clear : GoodIn wsL_law wsX9_clear := goodIn_r _ [512, 503, 577, 578, 579, 580, 581, 582, 583, 584, 585, 586, 587, 588, 589, 590, 591, 592] (by decide +kernel) (by decide +kernel)
set_option maxRecDepth 20000 in
theorem gL_law_X9_clear : GoodIn wsL_law (wsV RL 53 RX9 yX9_clear wsX9_clear) := goodIn_app (goodIn_of _ (by decide +kernel)) ggL_law_X9_clear
set_option maxRecDepth 20000 in
theorem ggL_law_X10_clear : GoodIn wsL_law wsX10_clear := goodIn_r _ [516, 508, 593, 594, 595, 596, 597, 598, 599, 600, 601, 602, 603, 604, 605, 606, 607, 608, 609, 610, 611, 612, 613, 614, 615, 616, 617, 618, 619, 620, 621, 622, 623, 624, 625, 626, 627] (by decide +kernel) (by decide +kernel)
set_option maxRecDepth 20000 in
theorem gL_law_X10_clear : GoodIn wsL_law (wsV RL 56 RX10 yX10_clear wsX10_clear) := goodIn_app (goodIn_of _ (by decide +kernel)) ggL_law_X10_clear
set_option maxRecDepth 20000 in
theorem ggL_law_X9_day : GoodIn wsL_law wsX9_day := goodIn_r _ [520, 503, 26, 214, 215, 216, 2, 217, 29, 218, 219, 220, 221, 222, 223, 224, 225, 226, 227, 228, 229, 230, 13, 231, 232, 233, 234, 235, 236, 237, 238, 239, 240, 241, 242, 243, 244, 245, 246, 247, 248, 249, 250, 251, 252, 253, 254, 255, 256, 257, 258, 99, 259, 260, 261, 262, 263, 264, 265, 104, 266, 267, 268, 102, 269, 270, 271, 272, 273, 274, 275, 276, 277, 278, 279, 280, 281, 282, 15, 283, 284, 285, 286, 287, 288, 289, 290, 291, 292, 293, 294, 295, 296, 297, 298, 299, 300, 301, 302, 138, 303, 304, 142, 305, 306, 307, 308, 309, 310, 311, 312, 313, 314, 315, 316, 317, 318, 319, 320, 321, 322, 323, 324, 325, 326, 17, 327, 328, 329, 31, 330, 331, 332, 333, 40, 334, 335, 336, 337, 168, 338, 339, 91, 92, 93, 340, 341, 342, 343, 344, 345, 346, 347, 348, 349, 350, 351, 352, 353, 354, 355, 356, 357, 358, 359, 360, 152, 153, 154, 361, 362, 363, 364, 365, 366, 367, 368, 369, 370, 371, 372, 373, 374, 375, 376, 377, 378, 379, 380, 381, 382, 383, 19, 384, 385, 386, 33, 387, 388, 389, 44, 390, 391, 392, 393, 394, 395, 396, 397, 169, 398, 399, 400, 401, 402, 403, 404, 405, 406, 407, 408, 409, 410, 411, 412, 413, 414, 415, 21, 416, 417, 418, 35, 419, 420, 421, 422, 51, 49, 423, 424, 425, 426, 427, 170, 187, 188, 428, 429, 430, 431, 432, 433, 23, 434, 521, 522, 523, 524, 525, 27, 28, 577, 578, 579, 580, 581, 582, 583, 584, 585, 586, 587, 588, 589, 590, 591, 592, 640, 641, 642, 643, 644, 650, 651, 652, 653, 654, 645, 646, 647, 648, 649, 655, 656, 628, 629, 630, 631, 632, 633, 634, 635, 636, 637, 638, 639, 657] (by decide +kernel) (by decide +kernel)
set_option maxRecDepth 20000 in
theorem gL_law_X9_day : GoodIn wsL_law (wsV RL 57 RX9 yX9_day wsX9_day) := goodIn_app (goodIn_of _ (by decide +kernel)) ggL_law_X9_day
set_option maxRecDepth 20000 in
theorem ggL_law_X10_day : GoodIn wsL_law wsX10_day := goodIn_r _ [529, 508, 77, 78, 79, 80, 530, 81, 82, 439, 440, 441, 5, 442, 443, 444, 83, 445, 446, 447, 448, 64, 65, 57, 75, 76, 449, 450, 451, 452, 453, 454, 455, 56, 58, 59, 456, 457, 458, 459, 460, 461, 462, 463, 60, 464, 465, 466, 467, 63, 62, 61, 468, 469, 470, 471, 66, 67, 68, 472, 473, 474, 475, 476, 477, 478, 128, 129, 130, 479, 480, 481, 482, 483, 484, 485, 486, 69, 70, 487, 488, 489, 490, 71, 72, 73, 74, 593, 594, 595, 596, 597, 598, 599, 600, 601, 602, 603, 604, 605, 606, 607, 608, 609, 610, 611, 612, 613, 614, 615, 616, 617, 618, 619, 620, 621, 622, 623, 624, 625, 626, 627] (by decide +kernel) (by decide +kernel)
set_option maxRecDepth 20000 in
theorem gL_law_X10_day : GoodIn wsL_law (wsV RL 60 RX10 yX10_day wsX10_day) := goodIn_app (goodIn_of _ (by decide +kernel)) ggL_law_X10_day
set_option maxRecDepth 20000 in
theorem ggL_law_X9_book : GoodIn wsL_law wsX9_book := goodIn_r _ [534, 525, 319, 320, 321, 322, 88, 27, 28, 91, 92, 2, 93, 577, 578, 579, 580, 581, 582, 583, 584, 585, 586, 587, 588, 589, 590, 591, 592] (by decide +kernel) (by decide +kernel)
set_option maxRecDepth 20000 in
theorem gL_law_X9_book : GoodIn wsL_law (wsV RL 61 RX9 yX9_book wsX9_book) := goodIn_app (goodIn_of _ (by decide +kernel)) ggL_law_X9_book
set_option maxRecDepth 20000 in
theorem ggL_law_X10_book : GoodIn wsL_law wsX10_book := goodIn_r _ [538, 530, 125, 81, 82, 472, 473, 5, 474, 128, 129, 130, 593, 594, 595, 596, 597, 598, 599, 600, 601, 602, 603, 604, 605, 606, 607, 608, 609, 610, 611, 612, 613, 614, 615, 616, 617, 618, 619, 620, 621, 622, 623, 624, 625, 626, 627] (by decide +kernel) (by decide +kernel)
set_option maxRecDepth 20000 in
theorem gL_law_X10_book : GoodIn wsL_law (wsV RL 64 RX10 yX10_book wsX10_book) := goodIn_app (goodIn_of _ (by decide +kernel)) ggL_law_X10_book
set_option maxRecDepth 20000 in
theorem ggL_law_X9_horseTells : GoodIn wsL_law wsX9_horseTells := goodIn_r _ [542, 88, 13, 244, 226, 249, 543, 544, 91, 92, 2, 93, 545, 345, 346, 347, 348, 99, 349, 350, 546, 352, 353, 104, 354, 355, 102, 356, 577, 578, 579, 580, 581, 582, 583, 584, 585, 586, 587, 588, 589, 590, 591, 592, 640, 641, 642, 643, 644, 650, 651, 652, 653, 654, 645, 646, 647, 648, 649] (by decide +kernel) (by decide +kernel)
set_option maxRecDepth 20000 in
theorem gL_law_X9_horseTells : GoodIn wsL_law (wsV RL 65 RX9 yX9_horseTells wsX9_horseTells) := goodIn_app (goodIn_of _ (by decide +kernel)) ggL_law_X9_horseTells
set_option maxRecDepth 20000 in
theorem ggL_law_X10_horseTells : GoodIn wsL_law wsX10_horseTells := goodIn_r _ [550, 64, 125, 56, 57, 58, 59, 60, 61, 128, 129, 5, 130, 593, 594, 595, 596, 597, 598, 599, 600, 601, 602, 603, 604, 605, 606, 607, 608, 609, 610, 611, 612, 613, 614, 615, 616, 617, 618, 619, 620, 621, 622, 623, 624, 625, 626, 627] (by decide +kernel) (by decide +kernel)
set_option maxRecDepth 20000 in
theorem gL_law_X10_horseTells : GoodIn wsL_law (wsV RL 68 RX10 yX10_horseTells wsX10_horseTells) := goodIn_app (goodIn_of _ (by decide +kernel)) ggL_law_X10_horseTells
set_option maxRecDepth 20000 in
theorem ggL_law_X9_shed : GoodIn wsL_law wsX9_shed := goodIn_r _ [554, 88, 15, 309, 91, 92, 2, 93, 577, 578, 579, 580, 581, 582, 583, 584, 585, 586, 587, 588, 589, 590, 591, 592] (by decide +kernel) (by decide +kernel)
set_option maxRecDepth 20000 in
theorem gL_law_X9_shed : GoodIn wsL_law (wsV RL 69 RX9 yX9_shed wsX9_shed) := goodIn_app (goodIn_of _ (by decide +kernel)) ggL_law_X9_shed
set_option maxRecDepth 20000 in
theorem ggL_law_X10_shed : GoodIn wsL_law wsX10_shed := goodIn_r _ [558, 125, 65, 128, 129, 5, 130, 593, 594, 595, 596, 597, 598, 599, 600, 601, 602, 603, 604, 605, 606, 607, 608, 609, 610, 611, 612, 613, 614, 615, 616, 617, 618, 619, 620, 621, 622, 623, 624, 625, 626, 627] (by decide +kernel) (by decide +kernel)
set_option maxRecDepth 20000 in
theorem gL_law_X10_shed : GoodIn wsL_law (wsV RL 73 RX10 yX10_shed wsX10_shed) := goodIn_app (goodIn_of _ (by decide +kernel)) ggL_law_X10_shed
set_option maxRecDepth 20000 in
theorem ggL_law_X9_same : GoodIn wsL_law wsX9_same := goodIn_r _ [562, 88, 13, 91, 92, 2, 93, 152, 153, 154, 577, 578, 579, 580, 581, 582, 583, 584, 585, 586, 587, 588, 589, 590, 591, 592] (by decide +kernel) (by decide +kernel)
set_option maxRecDepth 20000 in
theorem gL_law_X9_same : GoodIn wsL_law (wsV RL 74 RX9 yX9_same wsX9_same) := goodIn_app (goodIn_of _ (by decide +kernel)) ggL_law_X9_same
set_option maxRecDepth 20000 in
theorem ggL_law_X10_same : GoodIn wsL_law wsX10_same := goodIn_r _ [566, 125, 64, 128, 129, 5, 130, 593, 594, 595, 596, 597, 598, 599, 600, 601, 602, 603, 604, 605, 606, 607, 608, 609, 610, 611, 612, 613, 614, 615, 616, 617, 618, 619, 620, 621, 622, 623, 624, 625, 626, 627] (by decide +kernel) (by decide +kernel)
set_option maxRecDepth 20000 in
theorem gL_law_X10_same : GoodIn wsL_law (wsV RL 77 RX10 yX10_same wsX10_same) := goodIn_app (goodIn_of _ (by decide +kernel)) ggL_law_X10_same
set_option maxRecDepth 20000 in
theorem ggL_law_X9_count : GoodIn wsL_law wsX9_count := goodIn_r _ [570, 89, 135, 197, 503, 525, 571, 29, 577, 578, 579, 580, 581, 582, 583, 584, 585, 586, 587, 588, 589, 590, 591, 592] (by decide +kernel) (by decide +kernel)
set_option maxRecDepth 20000 in
theorem gL_law_X9_count : GoodIn wsL_law (wsV RL 78 RX9 yX9_count wsX9_count) := goodIn_app (goodIn_of _ (by decide +kernel)) ggL_law_X9_count
set_option maxRecDepth 20000 in
theorem ggL_law_X10_count : GoodIn wsL_law wsX10_count := goodIn_r _ [575, 126, 147, 209, 508, 530, 83, 576, 128, 129, 5, 130, 593, 594, 595, 596, 597, 598, 599, 600, 601, 602, 603, 604, 605, 606, 607, 608, 609, 610, 611, 612, 613, 614, 615, 616, 617, 618, 619, 620, 621, 622, 623, 624, 625, 626, 627] (by decide +kernel) (by decide +kernel)
set_option maxRecDepth 20000 in
theorem gL_law_X10_count : GoodIn wsL_law (wsV RL 81 RX10 yX10_count wsX10_count) := goodIn_app (goodIn_of _ (by decide +kernel)) ggL_law_X10_count
theorem dL_law_0 : decode cL_law 0 = .ok (.new 7, 3) := by decide +kernel
theorem dL_law_3 : decode cL_law 3 = .ok (.dup, 1) := by decide +kernel
theorem dL_law_4 : decode cL_law 4 = .ok (.invokespecial 9, 3) := by decide +kernel
theorem dL_law_7 : decode cL_law 7 = .ok (.astore_n 1, 1) := by decide +kernel
theorem dL_law_8 : decode cL_law 8 = .ok (.new 10, 3) := by decide +kernel
theorem dL_law_11 : decode cL_law 11 = .ok (.dup, 1) := by decide +kernel
theorem dL_law_12 : decode cL_law 12 = .ok (.invokespecial 12, 3) := by decide +kernel
theorem dL_law_15 : decode cL_law 15 = .ok (.astore_n 2, 1) := by decide +kernel
theorem dL_law_16 : decode cL_law 16 = .ok (.iconst 0, 1) := by decide +kernel
theorem dL_law_17 : decode cL_law 17 = .ok (.istore_n 3, 1) := by decide +kernel
theorem dL_law_18 : decode cL_law 18 = .ok (.iload_n 3, 1) := by decide +kernel
theorem dL_law_19 : decode cL_law 19 = .ok (.aload_n 0, 1) := by decide +kernel
theorem dL_law_20 : decode cL_law 20 = .ok (.arraylength, 1) := by decide +kernel
theorem dL_law_21 : decode cL_law 21 = .ok (.iconst 5, 1) := by decide +kernel
theorem dL_law_22 : decode cL_law 22 = .ok (.isub, 1) := by decide +kernel
theorem dL_law_23 : decode cL_law 23 = .ok (.if_icmp .gt 593, 3) := by decide +kernel
theorem dL_law_26 : decode cL_law 26 = .ok (.aload_n 0, 1) := by decide +kernel
theorem dL_law_27 : decode cL_law 27 = .ok (.iload_n 3, 1) := by decide +kernel
theorem dL_law_28 : decode cL_law 28 = .ok (.iaload, 1) := by decide +kernel
theorem dL_law_29 : decode cL_law 29 = .ok (.bipush 15, 2) := by decide +kernel
theorem dL_law_31 : decode cL_law 31 = .ok (.iand, 1) := by decide +kernel
theorem dL_law_32 : decode cL_law 32 = .ok (.tableswitch 578 0 15 #[80, 123, 156, 189, 222, 255, 288, 341, 354, 407, 420, 433, 466, 499, 522, 555], 80) := by decide +kernel
theorem dL_law_112 : decode cL_law 112 = .ok (.aload_n 1, 1) := by decide +kernel
theorem dL_law_113 : decode cL_law 113 = .ok (.aload_n 0, 1) := by decide +kernel
theorem dL_law_114 : decode cL_law 114 = .ok (.iload_n 3, 1) := by decide +kernel
theorem dL_law_115 : decode cL_law 115 = .ok (.iconst 1, 1) := by decide +kernel
theorem dL_law_116 : decode cL_law 116 = .ok (.iadd, 1) := by decide +kernel
theorem dL_law_117 : decode cL_law 117 = .ok (.iaload, 1) := by decide +kernel
theorem dL_law_118 : decode cL_law 118 = .ok (.aload_n 0, 1) := by decide +kernel
theorem dL_law_119 : decode cL_law 119 = .ok (.iload_n 3, 1) := by decide +kernel
theorem dL_law_120 : decode cL_law 120 = .ok (.iconst 2, 1) := by decide +kernel
theorem dL_law_121 : decode cL_law 121 = .ok (.iadd, 1) := by decide +kernel
theorem dL_law_122 : decode cL_law 122 = .ok (.iaload, 1) := by decide +kernel
theorem dL_law_123 : decode cL_law 123 = .ok (.aload_n 0, 1) := by decide +kernel
theorem dL_law_124 : decode cL_law 124 = .ok (.iload_n 3, 1) := by decide +kernel
theorem dL_law_125 : decode cL_law 125 = .ok (.iconst 3, 1) := by decide +kernel
theorem dL_law_126 : decode cL_law 126 = .ok (.iadd, 1) := by decide +kernel
theorem dL_law_127 : decode cL_law 127 = .ok (.iaload, 1) := by decide +kernel
theorem dL_law_128 : decode cL_law 128 = .ok (.invokevirtual 13, 3) := by decide +kernel
theorem dL_law_131 : decode cL_law 131 = .ok (.aload_n 2, 1) := by decide +kernel
theorem dL_law_132 : decode cL_law 132 = .ok (.aload_n 0, 1) := by decide +kernel
theorem dL_law_133 : decode cL_law 133 = .ok (.iload_n 3, 1) := by decide +kernel
theorem dL_law_134 : decode cL_law 134 = .ok (.iconst 1, 1) := by decide +kernel
theorem dL_law_135 : decode cL_law 135 = .ok (.iadd, 1) := by decide +kernel
theorem dL_law_136 : decode cL_law 136 = .ok (.iaload, 1) := by decide +kernel
theorem dL_law_137 : decode cL_law 137 = .ok (.aload_n 0, 1) := by decide +kernel
theorem dL_law_138 : decode cL_law 138 = .ok (.iload_n 3, 1) := by decide +kernel
theorem dL_law_139 : decode cL_law 139 = .ok (.iconst 2, 1) := by decide +kernel
theorem dL_law_140 : decode cL_law 140 = .ok (.iadd, 1) := by decide +kernel
theorem dL_law_141 : decode cL_law 141 = .ok (.iaload, 1) := by decide +kernel
theorem dL_law_142 : decode cL_law 142 = .ok (.aload_n 0, 1) := by decide +kernel
theorem dL_law_143 : decode cL_law 143 = .ok (.iload_n 3, 1) := by decide +kernel
theorem dL_law_144 : decode cL_law 144 = .ok (.iconst 3, 1) := by decide +kernel
theorem dL_law_145 : decode cL_law 145 = .ok (.iadd, 1) := by decide +kernel
theorem dL_law_146 : decode cL_law 146 = .ok (.iaload, 1) := by decide +kernel
theorem dL_law_147 : decode cL_law 147 = .ok (.invokevirtual 17, 3) := by decide +kernel
theorem dL_law_150 : decode cL_law 150 = .ok (.if_icmp .eq 460, 3) := by decide +kernel
theorem dL_law_153 : decode cL_law 153 = .ok (.iconst 0, 1) := by decide +kernel
theorem dL_law_154 : decode cL_law 154 = .ok (.ireturn, 1) := by decide +kernel
theorem dL_law_155 : decode cL_law 155 = .ok (.aload_n 1, 1) := by decide +kernel
theorem dL_law_156 : decode cL_law 156 = .ok (.aload_n 0, 1) := by decide +kernel
theorem dL_law_157 : decode cL_law 157 = .ok (.iload_n 3, 1) := by decide +kernel
theorem dL_law_158 : decode cL_law 158 = .ok (.iconst 1, 1) := by decide +kernel
theorem dL_law_159 : decode cL_law 159 = .ok (.iadd, 1) := by decide +kernel
theorem dL_law_160 : decode cL_law 160 = .ok (.iaload, 1) := by decide +kernel
theorem dL_law_161 : decode cL_law 161 = .ok (.aload_n 0, 1) := by decide +kernel
theorem dL_law_162 : decode cL_law 162 = .ok (.iload_n 3, 1) := by decide +kernel
theorem dL_law_163 : decode cL_law 163 = .ok (.iconst 2, 1) := by decide +kernel
theorem dL_law_164 : decode cL_law 164 = .ok (.iadd, 1) := by decide +kernel
theorem dL_law_165 : decode cL_law 165 = .ok (.iaload, 1) := by decide +kernel
theorem dL_law_166 : decode cL_law 166 = .ok (.invokevirtual 18, 3) := by decide +kernel
theorem dL_law_169 : decode cL_law 169 = .ok (.aload_n 2, 1) := by decide +kernel
theorem dL_law_170 : decode cL_law 170 = .ok (.aload_n 0, 1) := by decide +kernel
theorem dL_law_171 : decode cL_law 171 = .ok (.iload_n 3, 1) := by decide +kernel
theorem dL_law_172 : decode cL_law 172 = .ok (.iconst 1, 1) := by decide +kernel
theorem dL_law_173 : decode cL_law 173 = .ok (.iadd, 1) := by decide +kernel
theorem dL_law_174 : decode cL_law 174 = .ok (.iaload, 1) := by decide +kernel
theorem dL_law_175 : decode cL_law 175 = .ok (.aload_n 0, 1) := by decide +kernel
theorem dL_law_176 : decode cL_law 176 = .ok (.iload_n 3, 1) := by decide +kernel
theorem dL_law_177 : decode cL_law 177 = .ok (.iconst 2, 1) := by decide +kernel
theorem dL_law_178 : decode cL_law 178 = .ok (.iadd, 1) := by decide +kernel
theorem dL_law_179 : decode cL_law 179 = .ok (.iaload, 1) := by decide +kernel
theorem dL_law_180 : decode cL_law 180 = .ok (.invokevirtual 22, 3) := by decide +kernel
theorem dL_law_183 : decode cL_law 183 = .ok (.if_icmp .eq 427, 3) := by decide +kernel
theorem dL_law_186 : decode cL_law 186 = .ok (.iconst 0, 1) := by decide +kernel
theorem dL_law_187 : decode cL_law 187 = .ok (.ireturn, 1) := by decide +kernel
theorem dL_law_188 : decode cL_law 188 = .ok (.aload_n 1, 1) := by decide +kernel
theorem dL_law_189 : decode cL_law 189 = .ok (.aload_n 0, 1) := by decide +kernel
theorem dL_law_190 : decode cL_law 190 = .ok (.iload_n 3, 1) := by decide +kernel
theorem dL_law_191 : decode cL_law 191 = .ok (.iconst 1, 1) := by decide +kernel
theorem dL_law_192 : decode cL_law 192 = .ok (.iadd, 1) := by decide +kernel
theorem dL_law_193 : decode cL_law 193 = .ok (.iaload, 1) := by decide +kernel
theorem dL_law_194 : decode cL_law 194 = .ok (.aload_n 0, 1) := by decide +kernel
theorem dL_law_195 : decode cL_law 195 = .ok (.iload_n 3, 1) := by decide +kernel
theorem dL_law_196 : decode cL_law 196 = .ok (.iconst 2, 1) := by decide +kernel
theorem dL_law_197 : decode cL_law 197 = .ok (.iadd, 1) := by decide +kernel
theorem dL_law_198 : decode cL_law 198 = .ok (.iaload, 1) := by decide +kernel
theorem dL_law_199 : decode cL_law 199 = .ok (.invokevirtual 23, 3) := by decide +kernel
theorem dL_law_202 : decode cL_law 202 = .ok (.aload_n 2, 1) := by decide +kernel
theorem dL_law_203 : decode cL_law 203 = .ok (.aload_n 0, 1) := by decide +kernel
theorem dL_law_204 : decode cL_law 204 = .ok (.iload_n 3, 1) := by decide +kernel
theorem dL_law_205 : decode cL_law 205 = .ok (.iconst 1, 1) := by decide +kernel
theorem dL_law_206 : decode cL_law 206 = .ok (.iadd, 1) := by decide +kernel
theorem dL_law_207 : decode cL_law 207 = .ok (.iaload, 1) := by decide +kernel
theorem dL_law_208 : decode cL_law 208 = .ok (.aload_n 0, 1) := by decide +kernel
theorem dL_law_209 : decode cL_law 209 = .ok (.iload_n 3, 1) := by decide +kernel
theorem dL_law_210 : decode cL_law 210 = .ok (.iconst 2, 1) := by decide +kernel
theorem dL_law_211 : decode cL_law 211 = .ok (.iadd, 1) := by decide +kernel
theorem dL_law_212 : decode cL_law 212 = .ok (.iaload, 1) := by decide +kernel
theorem dL_law_213 : decode cL_law 213 = .ok (.invokevirtual 26, 3) := by decide +kernel
theorem dL_law_216 : decode cL_law 216 = .ok (.if_icmp .eq 394, 3) := by decide +kernel
theorem dL_law_219 : decode cL_law 219 = .ok (.iconst 0, 1) := by decide +kernel
theorem dL_law_220 : decode cL_law 220 = .ok (.ireturn, 1) := by decide +kernel
theorem dL_law_221 : decode cL_law 221 = .ok (.aload_n 1, 1) := by decide +kernel
theorem dL_law_222 : decode cL_law 222 = .ok (.aload_n 0, 1) := by decide +kernel
theorem dL_law_223 : decode cL_law 223 = .ok (.iload_n 3, 1) := by decide +kernel
theorem dL_law_224 : decode cL_law 224 = .ok (.iconst 1, 1) := by decide +kernel
theorem dL_law_225 : decode cL_law 225 = .ok (.iadd, 1) := by decide +kernel
theorem dL_law_226 : decode cL_law 226 = .ok (.iaload, 1) := by decide +kernel
theorem dL_law_227 : decode cL_law 227 = .ok (.aload_n 0, 1) := by decide +kernel
theorem dL_law_228 : decode cL_law 228 = .ok (.iload_n 3, 1) := by decide +kernel
theorem dL_law_229 : decode cL_law 229 = .ok (.iconst 2, 1) := by decide +kernel
theorem dL_law_230 : decode cL_law 230 = .ok (.iadd, 1) := by decide +kernel
theorem dL_law_231 : decode cL_law 231 = .ok (.iaload, 1) := by decide +kernel
theorem dL_law_232 : decode cL_law 232 = .ok (.invokevirtual 27, 3) := by decide +kernel
theorem dL_law_235 : decode cL_law 235 = .ok (.aload_n 2, 1) := by decide +kernel
theorem dL_law_236 : decode cL_law 236 = .ok (.aload_n 0, 1) := by decide +kernel
theorem dL_law_237 : decode cL_law 237 = .ok (.iload_n 3, 1) := by decide +kernel
theorem dL_law_238 : decode cL_law 238 = .ok (.iconst 1, 1) := by decide +kernel
theorem dL_law_239 : decode cL_law 239 = .ok (.iadd, 1) := by decide +kernel
theorem dL_law_240 : decode cL_law 240 = .ok (.iaload, 1) := by decide +kernel
theorem dL_law_241 : decode cL_law 241 = .ok (.aload_n 0, 1) := by decide +kernel
theorem dL_law_242 : decode cL_law 242 = .ok (.iload_n 3, 1) := by decide +kernel
theorem dL_law_243 : decode cL_law 243 = .ok (.iconst 2, 1) := by decide +kernel
theorem dL_law_244 : decode cL_law 244 = .ok (.iadd, 1) := by decide +kernel
theorem dL_law_245 : decode cL_law 245 = .ok (.iaload, 1) := by decide +kernel
theorem dL_law_246 : decode cL_law 246 = .ok (.invokevirtual 30, 3) := by decide +kernel
theorem dL_law_249 : decode cL_law 249 = .ok (.if_icmp .eq 361, 3) := by decide +kernel
theorem dL_law_252 : decode cL_law 252 = .ok (.iconst 0, 1) := by decide +kernel
theorem dL_law_253 : decode cL_law 253 = .ok (.ireturn, 1) := by decide +kernel
theorem dL_law_254 : decode cL_law 254 = .ok (.aload_n 1, 1) := by decide +kernel
theorem dL_law_255 : decode cL_law 255 = .ok (.aload_n 0, 1) := by decide +kernel
theorem dL_law_256 : decode cL_law 256 = .ok (.iload_n 3, 1) := by decide +kernel
theorem dL_law_257 : decode cL_law 257 = .ok (.iconst 1, 1) := by decide +kernel
theorem dL_law_258 : decode cL_law 258 = .ok (.iadd, 1) := by decide +kernel
theorem dL_law_259 : decode cL_law 259 = .ok (.iaload, 1) := by decide +kernel
theorem dL_law_260 : decode cL_law 260 = .ok (.aload_n 0, 1) := by decide +kernel
theorem dL_law_261 : decode cL_law 261 = .ok (.iload_n 3, 1) := by decide +kernel
theorem dL_law_262 : decode cL_law 262 = .ok (.iconst 2, 1) := by decide +kernel
theorem dL_law_263 : decode cL_law 263 = .ok (.iadd, 1) := by decide +kernel
theorem dL_law_264 : decode cL_law 264 = .ok (.iaload, 1) := by decide +kernel
theorem dL_law_265 : decode cL_law 265 = .ok (.invokevirtual 31, 3) := by decide +kernel
theorem dL_law_268 : decode cL_law 268 = .ok (.aload_n 2, 1) := by decide +kernel
theorem dL_law_269 : decode cL_law 269 = .ok (.aload_n 0, 1) := by decide +kernel
theorem dL_law_270 : decode cL_law 270 = .ok (.iload_n 3, 1) := by decide +kernel
theorem dL_law_271 : decode cL_law 271 = .ok (.iconst 1, 1) := by decide +kernel
theorem dL_law_272 : decode cL_law 272 = .ok (.iadd, 1) := by decide +kernel
theorem dL_law_273 : decode cL_law 273 = .ok (.iaload, 1) := by decide +kernel
theorem dL_law_274 : decode cL_law 274 = .ok (.aload_n 0, 1) := by decide +kernel
theorem dL_law_275 : decode cL_law 275 = .ok (.iload_n 3, 1) := by decide +kernel
theorem dL_law_276 : decode cL_law 276 = .ok (.iconst 2, 1) := by decide +kernel
theorem dL_law_277 : decode cL_law 277 = .ok (.iadd, 1) := by decide +kernel
theorem dL_law_278 : decode cL_law 278 = .ok (.iaload, 1) := by decide +kernel
theorem dL_law_279 : decode cL_law 279 = .ok (.invokevirtual 34, 3) := by decide +kernel
theorem dL_law_282 : decode cL_law 282 = .ok (.if_icmp .eq 328, 3) := by decide +kernel
theorem dL_law_285 : decode cL_law 285 = .ok (.iconst 0, 1) := by decide +kernel
theorem dL_law_286 : decode cL_law 286 = .ok (.ireturn, 1) := by decide +kernel
theorem dL_law_287 : decode cL_law 287 = .ok (.aload_n 1, 1) := by decide +kernel
theorem dL_law_288 : decode cL_law 288 = .ok (.aload_n 0, 1) := by decide +kernel
theorem dL_law_289 : decode cL_law 289 = .ok (.iload_n 3, 1) := by decide +kernel
theorem dL_law_290 : decode cL_law 290 = .ok (.iconst 1, 1) := by decide +kernel
theorem dL_law_291 : decode cL_law 291 = .ok (.iadd, 1) := by decide +kernel
theorem dL_law_292 : decode cL_law 292 = .ok (.iaload, 1) := by decide +kernel
theorem dL_law_293 : decode cL_law 293 = .ok (.aload_n 0, 1) := by decide +kernel
theorem dL_law_294 : decode cL_law 294 = .ok (.iload_n 3, 1) := by decide +kernel
theorem dL_law_295 : decode cL_law 295 = .ok (.iconst 2, 1) := by decide +kernel
theorem dL_law_296 : decode cL_law 296 = .ok (.iadd, 1) := by decide +kernel
theorem dL_law_297 : decode cL_law 297 = .ok (.iaload, 1) := by decide +kernel
theorem dL_law_298 : decode cL_law 298 = .ok (.invokevirtual 35, 3) := by decide +kernel
theorem dL_law_301 : decode cL_law 301 = .ok (.aload_n 2, 1) := by decide +kernel
theorem dL_law_302 : decode cL_law 302 = .ok (.aload_n 0, 1) := by decide +kernel
theorem dL_law_303 : decode cL_law 303 = .ok (.iload_n 3, 1) := by decide +kernel
theorem dL_law_304 : decode cL_law 304 = .ok (.iconst 1, 1) := by decide +kernel
theorem dL_law_305 : decode cL_law 305 = .ok (.iadd, 1) := by decide +kernel
theorem dL_law_306 : decode cL_law 306 = .ok (.iaload, 1) := by decide +kernel
theorem dL_law_307 : decode cL_law 307 = .ok (.aload_n 0, 1) := by decide +kernel
theorem dL_law_308 : decode cL_law 308 = .ok (.iload_n 3, 1) := by decide +kernel
theorem dL_law_309 : decode cL_law 309 = .ok (.iconst 2, 1) := by decide +kernel
theorem dL_law_310 : decode cL_law 310 = .ok (.iadd, 1) := by decide +kernel
theorem dL_law_311 : decode cL_law 311 = .ok (.iaload, 1) := by decide +kernel
theorem dL_law_312 : decode cL_law 312 = .ok (.invokevirtual 38, 3) := by decide +kernel
theorem dL_law_315 : decode cL_law 315 = .ok (.if_icmp .eq 295, 3) := by decide +kernel
theorem dL_law_318 : decode cL_law 318 = .ok (.iconst 0, 1) := by decide +kernel
theorem dL_law_319 : decode cL_law 319 = .ok (.ireturn, 1) := by decide +kernel
theorem dL_law_320 : decode cL_law 320 = .ok (.aload_n 1, 1) := by decide +kernel
theorem dL_law_321 : decode cL_law 321 = .ok (.aload_n 0, 1) := by decide +kernel
theorem dL_law_322 : decode cL_law 322 = .ok (.iload_n 3, 1) := by decide +kernel
theorem dL_law_323 : decode cL_law 323 = .ok (.iconst 1, 1) := by decide +kernel
theorem dL_law_324 : decode cL_law 324 = .ok (.iadd, 1) := by decide +kernel
theorem dL_law_325 : decode cL_law 325 = .ok (.iaload, 1) := by decide +kernel
theorem dL_law_326 : decode cL_law 326 = .ok (.aload_n 0, 1) := by decide +kernel
theorem dL_law_327 : decode cL_law 327 = .ok (.iload_n 3, 1) := by decide +kernel
theorem dL_law_328 : decode cL_law 328 = .ok (.iconst 2, 1) := by decide +kernel
theorem dL_law_329 : decode cL_law 329 = .ok (.iadd, 1) := by decide +kernel
theorem dL_law_330 : decode cL_law 330 = .ok (.iaload, 1) := by decide +kernel
theorem dL_law_331 : decode cL_law 331 = .ok (.aload_n 0, 1) := by decide +kernel
theorem dL_law_332 : decode cL_law 332 = .ok (.iload_n 3, 1) := by decide +kernel
theorem dL_law_333 : decode cL_law 333 = .ok (.iconst 3, 1) := by decide +kernel
theorem dL_law_334 : decode cL_law 334 = .ok (.iadd, 1) := by decide +kernel
theorem dL_law_335 : decode cL_law 335 = .ok (.iaload, 1) := by decide +kernel
theorem dL_law_336 : decode cL_law 336 = .ok (.aload_n 0, 1) := by decide +kernel
theorem dL_law_337 : decode cL_law 337 = .ok (.iload_n 3, 1) := by decide +kernel
theorem dL_law_338 : decode cL_law 338 = .ok (.iconst 4, 1) := by decide +kernel
theorem dL_law_339 : decode cL_law 339 = .ok (.iadd, 1) := by decide +kernel
theorem dL_law_340 : decode cL_law 340 = .ok (.iaload, 1) := by decide +kernel
theorem dL_law_341 : decode cL_law 341 = .ok (.invokevirtual 39, 3) := by decide +kernel
theorem dL_law_344 : decode cL_law 344 = .ok (.aload_n 2, 1) := by decide +kernel
theorem dL_law_345 : decode cL_law 345 = .ok (.aload_n 0, 1) := by decide +kernel
theorem dL_law_346 : decode cL_law 346 = .ok (.iload_n 3, 1) := by decide +kernel
theorem dL_law_347 : decode cL_law 347 = .ok (.iconst 1, 1) := by decide +kernel
theorem dL_law_348 : decode cL_law 348 = .ok (.iadd, 1) := by decide +kernel
theorem dL_law_349 : decode cL_law 349 = .ok (.iaload, 1) := by decide +kernel
theorem dL_law_350 : decode cL_law 350 = .ok (.aload_n 0, 1) := by decide +kernel
theorem dL_law_351 : decode cL_law 351 = .ok (.iload_n 3, 1) := by decide +kernel
theorem dL_law_352 : decode cL_law 352 = .ok (.iconst 2, 1) := by decide +kernel
theorem dL_law_353 : decode cL_law 353 = .ok (.iadd, 1) := by decide +kernel
theorem dL_law_354 : decode cL_law 354 = .ok (.iaload, 1) := by decide +kernel
theorem dL_law_355 : decode cL_law 355 = .ok (.aload_n 0, 1) := by decide +kernel
theorem dL_law_356 : decode cL_law 356 = .ok (.iload_n 3, 1) := by decide +kernel
theorem dL_law_357 : decode cL_law 357 = .ok (.iconst 3, 1) := by decide +kernel
theorem dL_law_358 : decode cL_law 358 = .ok (.iadd, 1) := by decide +kernel
theorem dL_law_359 : decode cL_law 359 = .ok (.iaload, 1) := by decide +kernel
theorem dL_law_360 : decode cL_law 360 = .ok (.aload_n 0, 1) := by decide +kernel
theorem dL_law_361 : decode cL_law 361 = .ok (.iload_n 3, 1) := by decide +kernel
theorem dL_law_362 : decode cL_law 362 = .ok (.iconst 4, 1) := by decide +kernel
theorem dL_law_363 : decode cL_law 363 = .ok (.iadd, 1) := by decide +kernel
theorem dL_law_364 : decode cL_law 364 = .ok (.iaload, 1) := by decide +kernel
theorem dL_law_365 : decode cL_law 365 = .ok (.invokevirtual 43, 3) := by decide +kernel
theorem dL_law_368 : decode cL_law 368 = .ok (.if_icmp .eq 242, 3) := by decide +kernel
theorem dL_law_371 : decode cL_law 371 = .ok (.iconst 0, 1) := by decide +kernel
theorem dL_law_372 : decode cL_law 372 = .ok (.ireturn, 1) := by decide +kernel
theorem dL_law_373 : decode cL_law 373 = .ok (.aload_n 1, 1) := by decide +kernel
theorem dL_law_374 : decode cL_law 374 = .ok (.invokevirtual 44, 3) := by decide +kernel
theorem dL_law_377 : decode cL_law 377 = .ok (.aload_n 2, 1) := by decide +kernel
theorem dL_law_378 : decode cL_law 378 = .ok (.invokevirtual 48, 3) := by decide +kernel
theorem dL_law_381 : decode cL_law 381 = .ok (.if_icmp .eq 229, 3) := by decide +kernel
theorem dL_law_384 : decode cL_law 384 = .ok (.iconst 0, 1) := by decide +kernel
theorem dL_law_385 : decode cL_law 385 = .ok (.ireturn, 1) := by decide +kernel
theorem dL_law_386 : decode cL_law 386 = .ok (.aload_n 1, 1) := by decide +kernel
theorem dL_law_387 : decode cL_law 387 = .ok (.aload_n 0, 1) := by decide +kernel
theorem dL_law_388 : decode cL_law 388 = .ok (.iload_n 3, 1) := by decide +kernel
theorem dL_law_389 : decode cL_law 389 = .ok (.iconst 1, 1) := by decide +kernel
theorem dL_law_390 : decode cL_law 390 = .ok (.iadd, 1) := by decide +kernel
theorem dL_law_391 : decode cL_law 391 = .ok (.iaload, 1) := by decide +kernel
theorem dL_law_392 : decode cL_law 392 = .ok (.aload_n 0, 1) := by decide +kernel
theorem dL_law_393 : decode cL_law 393 = .ok (.iload_n 3, 1) := by decide +kernel
theorem dL_law_394 : decode cL_law 394 = .ok (.iconst 2, 1) := by decide +kernel
theorem dL_law_395 : decode cL_law 395 = .ok (.iadd, 1) := by decide +kernel
theorem dL_law_396 : decode cL_law 396 = .ok (.iaload, 1) := by decide +kernel
theorem dL_law_397 : decode cL_law 397 = .ok (.aload_n 0, 1) := by decide +kernel
theorem dL_law_398 : decode cL_law 398 = .ok (.iload_n 3, 1) := by decide +kernel
theorem dL_law_399 : decode cL_law 399 = .ok (.iconst 3, 1) := by decide +kernel
theorem dL_law_400 : decode cL_law 400 = .ok (.iadd, 1) := by decide +kernel
theorem dL_law_401 : decode cL_law 401 = .ok (.iaload, 1) := by decide +kernel
theorem dL_law_402 : decode cL_law 402 = .ok (.aload_n 0, 1) := by decide +kernel
theorem dL_law_403 : decode cL_law 403 = .ok (.iload_n 3, 1) := by decide +kernel
theorem dL_law_404 : decode cL_law 404 = .ok (.iconst 4, 1) := by decide +kernel
theorem dL_law_405 : decode cL_law 405 = .ok (.iadd, 1) := by decide +kernel
theorem dL_law_406 : decode cL_law 406 = .ok (.iaload, 1) := by decide +kernel
theorem dL_law_407 : decode cL_law 407 = .ok (.invokevirtual 49, 3) := by decide +kernel
theorem dL_law_410 : decode cL_law 410 = .ok (.aload_n 2, 1) := by decide +kernel
theorem dL_law_411 : decode cL_law 411 = .ok (.aload_n 0, 1) := by decide +kernel
theorem dL_law_412 : decode cL_law 412 = .ok (.iload_n 3, 1) := by decide +kernel
theorem dL_law_413 : decode cL_law 413 = .ok (.iconst 1, 1) := by decide +kernel
theorem dL_law_414 : decode cL_law 414 = .ok (.iadd, 1) := by decide +kernel
theorem dL_law_415 : decode cL_law 415 = .ok (.iaload, 1) := by decide +kernel
theorem dL_law_416 : decode cL_law 416 = .ok (.aload_n 0, 1) := by decide +kernel
theorem dL_law_417 : decode cL_law 417 = .ok (.iload_n 3, 1) := by decide +kernel
theorem dL_law_418 : decode cL_law 418 = .ok (.iconst 2, 1) := by decide +kernel
theorem dL_law_419 : decode cL_law 419 = .ok (.iadd, 1) := by decide +kernel
theorem dL_law_420 : decode cL_law 420 = .ok (.iaload, 1) := by decide +kernel
theorem dL_law_421 : decode cL_law 421 = .ok (.aload_n 0, 1) := by decide +kernel
theorem dL_law_422 : decode cL_law 422 = .ok (.iload_n 3, 1) := by decide +kernel
theorem dL_law_423 : decode cL_law 423 = .ok (.iconst 3, 1) := by decide +kernel
theorem dL_law_424 : decode cL_law 424 = .ok (.iadd, 1) := by decide +kernel
theorem dL_law_425 : decode cL_law 425 = .ok (.iaload, 1) := by decide +kernel
theorem dL_law_426 : decode cL_law 426 = .ok (.aload_n 0, 1) := by decide +kernel
theorem dL_law_427 : decode cL_law 427 = .ok (.iload_n 3, 1) := by decide +kernel
theorem dL_law_428 : decode cL_law 428 = .ok (.iconst 4, 1) := by decide +kernel
theorem dL_law_429 : decode cL_law 429 = .ok (.iadd, 1) := by decide +kernel
theorem dL_law_430 : decode cL_law 430 = .ok (.iaload, 1) := by decide +kernel
theorem dL_law_431 : decode cL_law 431 = .ok (.invokevirtual 52, 3) := by decide +kernel
theorem dL_law_434 : decode cL_law 434 = .ok (.if_icmp .eq 176, 3) := by decide +kernel
theorem dL_law_437 : decode cL_law 437 = .ok (.iconst 0, 1) := by decide +kernel
theorem dL_law_438 : decode cL_law 438 = .ok (.ireturn, 1) := by decide +kernel
theorem dL_law_439 : decode cL_law 439 = .ok (.aload_n 1, 1) := by decide +kernel
theorem dL_law_440 : decode cL_law 440 = .ok (.invokevirtual 53, 3) := by decide +kernel
theorem dL_law_443 : decode cL_law 443 = .ok (.aload_n 2, 1) := by decide +kernel
theorem dL_law_444 : decode cL_law 444 = .ok (.invokevirtual 56, 3) := by decide +kernel
theorem dL_law_447 : decode cL_law 447 = .ok (.if_icmp .eq 163, 3) := by decide +kernel
theorem dL_law_450 : decode cL_law 450 = .ok (.iconst 0, 1) := by decide +kernel
theorem dL_law_451 : decode cL_law 451 = .ok (.ireturn, 1) := by decide +kernel
theorem dL_law_452 : decode cL_law 452 = .ok (.aload_n 1, 1) := by decide +kernel
theorem dL_law_453 : decode cL_law 453 = .ok (.invokevirtual 57, 3) := by decide +kernel
theorem dL_law_456 : decode cL_law 456 = .ok (.aload_n 2, 1) := by decide +kernel
theorem dL_law_457 : decode cL_law 457 = .ok (.invokevirtual 60, 3) := by decide +kernel
theorem dL_law_460 : decode cL_law 460 = .ok (.if_icmp .eq 150, 3) := by decide +kernel
theorem dL_law_463 : decode cL_law 463 = .ok (.iconst 0, 1) := by decide +kernel
theorem dL_law_464 : decode cL_law 464 = .ok (.ireturn, 1) := by decide +kernel
theorem dL_law_465 : decode cL_law 465 = .ok (.aload_n 1, 1) := by decide +kernel
theorem dL_law_466 : decode cL_law 466 = .ok (.aload_n 0, 1) := by decide +kernel
theorem dL_law_467 : decode cL_law 467 = .ok (.iload_n 3, 1) := by decide +kernel
theorem dL_law_468 : decode cL_law 468 = .ok (.iconst 1, 1) := by decide +kernel
theorem dL_law_469 : decode cL_law 469 = .ok (.iadd, 1) := by decide +kernel
theorem dL_law_470 : decode cL_law 470 = .ok (.iaload, 1) := by decide +kernel
theorem dL_law_471 : decode cL_law 471 = .ok (.aload_n 0, 1) := by decide +kernel
theorem dL_law_472 : decode cL_law 472 = .ok (.iload_n 3, 1) := by decide +kernel
theorem dL_law_473 : decode cL_law 473 = .ok (.iconst 2, 1) := by decide +kernel
theorem dL_law_474 : decode cL_law 474 = .ok (.iadd, 1) := by decide +kernel
theorem dL_law_475 : decode cL_law 475 = .ok (.iaload, 1) := by decide +kernel
theorem dL_law_476 : decode cL_law 476 = .ok (.invokevirtual 61, 3) := by decide +kernel
theorem dL_law_479 : decode cL_law 479 = .ok (.aload_n 2, 1) := by decide +kernel
theorem dL_law_480 : decode cL_law 480 = .ok (.aload_n 0, 1) := by decide +kernel
theorem dL_law_481 : decode cL_law 481 = .ok (.iload_n 3, 1) := by decide +kernel
theorem dL_law_482 : decode cL_law 482 = .ok (.iconst 1, 1) := by decide +kernel
theorem dL_law_483 : decode cL_law 483 = .ok (.iadd, 1) := by decide +kernel
theorem dL_law_484 : decode cL_law 484 = .ok (.iaload, 1) := by decide +kernel
theorem dL_law_485 : decode cL_law 485 = .ok (.aload_n 0, 1) := by decide +kernel
theorem dL_law_486 : decode cL_law 486 = .ok (.iload_n 3, 1) := by decide +kernel
theorem dL_law_487 : decode cL_law 487 = .ok (.iconst 2, 1) := by decide +kernel
theorem dL_law_488 : decode cL_law 488 = .ok (.iadd, 1) := by decide +kernel
theorem dL_law_489 : decode cL_law 489 = .ok (.iaload, 1) := by decide +kernel
theorem dL_law_490 : decode cL_law 490 = .ok (.invokevirtual 64, 3) := by decide +kernel
theorem dL_law_493 : decode cL_law 493 = .ok (.if_icmp .eq 117, 3) := by decide +kernel
theorem dL_law_496 : decode cL_law 496 = .ok (.iconst 0, 1) := by decide +kernel
theorem dL_law_497 : decode cL_law 497 = .ok (.ireturn, 1) := by decide +kernel
theorem dL_law_498 : decode cL_law 498 = .ok (.aload_n 1, 1) := by decide +kernel
theorem dL_law_499 : decode cL_law 499 = .ok (.aload_n 0, 1) := by decide +kernel
theorem dL_law_500 : decode cL_law 500 = .ok (.iload_n 3, 1) := by decide +kernel
theorem dL_law_501 : decode cL_law 501 = .ok (.iconst 1, 1) := by decide +kernel
theorem dL_law_502 : decode cL_law 502 = .ok (.iadd, 1) := by decide +kernel
theorem dL_law_503 : decode cL_law 503 = .ok (.iaload, 1) := by decide +kernel
theorem dL_law_504 : decode cL_law 504 = .ok (.aload_n 0, 1) := by decide +kernel
theorem dL_law_505 : decode cL_law 505 = .ok (.iload_n 3, 1) := by decide +kernel
theorem dL_law_506 : decode cL_law 506 = .ok (.iconst 2, 1) := by decide +kernel
theorem dL_law_507 : decode cL_law 507 = .ok (.iadd, 1) := by decide +kernel
theorem dL_law_508 : decode cL_law 508 = .ok (.iaload, 1) := by decide +kernel
theorem dL_law_509 : decode cL_law 509 = .ok (.invokevirtual 65, 3) := by decide +kernel
theorem dL_law_512 : decode cL_law 512 = .ok (.aload_n 2, 1) := by decide +kernel
theorem dL_law_513 : decode cL_law 513 = .ok (.aload_n 0, 1) := by decide +kernel
theorem dL_law_514 : decode cL_law 514 = .ok (.iload_n 3, 1) := by decide +kernel
theorem dL_law_515 : decode cL_law 515 = .ok (.iconst 1, 1) := by decide +kernel
theorem dL_law_516 : decode cL_law 516 = .ok (.iadd, 1) := by decide +kernel
theorem dL_law_517 : decode cL_law 517 = .ok (.iaload, 1) := by decide +kernel
theorem dL_law_518 : decode cL_law 518 = .ok (.aload_n 0, 1) := by decide +kernel
theorem dL_law_519 : decode cL_law 519 = .ok (.iload_n 3, 1) := by decide +kernel
theorem dL_law_520 : decode cL_law 520 = .ok (.iconst 2, 1) := by decide +kernel
theorem dL_law_521 : decode cL_law 521 = .ok (.iadd, 1) := by decide +kernel
theorem dL_law_522 : decode cL_law 522 = .ok (.iaload, 1) := by decide +kernel
theorem dL_law_523 : decode cL_law 523 = .ok (.invokevirtual 68, 3) := by decide +kernel
theorem dL_law_526 : decode cL_law 526 = .ok (.if_icmp .eq 84, 3) := by decide +kernel
theorem dL_law_529 : decode cL_law 529 = .ok (.iconst 0, 1) := by decide +kernel
theorem dL_law_530 : decode cL_law 530 = .ok (.ireturn, 1) := by decide +kernel
theorem dL_law_531 : decode cL_law 531 = .ok (.aload_n 1, 1) := by decide +kernel
theorem dL_law_532 : decode cL_law 532 = .ok (.aload_n 0, 1) := by decide +kernel
theorem dL_law_533 : decode cL_law 533 = .ok (.iload_n 3, 1) := by decide +kernel
theorem dL_law_534 : decode cL_law 534 = .ok (.iconst 1, 1) := by decide +kernel
theorem dL_law_535 : decode cL_law 535 = .ok (.iadd, 1) := by decide +kernel
theorem dL_law_536 : decode cL_law 536 = .ok (.iaload, 1) := by decide +kernel
theorem dL_law_537 : decode cL_law 537 = .ok (.invokevirtual 69, 3) := by decide +kernel
theorem dL_law_540 : decode cL_law 540 = .ok (.aload_n 2, 1) := by decide +kernel
theorem dL_law_541 : decode cL_law 541 = .ok (.aload_n 0, 1) := by decide +kernel
theorem dL_law_542 : decode cL_law 542 = .ok (.iload_n 3, 1) := by decide +kernel
theorem dL_law_543 : decode cL_law 543 = .ok (.iconst 1, 1) := by decide +kernel
theorem dL_law_544 : decode cL_law 544 = .ok (.iadd, 1) := by decide +kernel
theorem dL_law_545 : decode cL_law 545 = .ok (.iaload, 1) := by decide +kernel
theorem dL_law_546 : decode cL_law 546 = .ok (.invokevirtual 73, 3) := by decide +kernel
theorem dL_law_549 : decode cL_law 549 = .ok (.if_icmp .eq 61, 3) := by decide +kernel
theorem dL_law_552 : decode cL_law 552 = .ok (.iconst 0, 1) := by decide +kernel
theorem dL_law_553 : decode cL_law 553 = .ok (.ireturn, 1) := by decide +kernel
theorem dL_law_554 : decode cL_law 554 = .ok (.aload_n 1, 1) := by decide +kernel
theorem dL_law_555 : decode cL_law 555 = .ok (.aload_n 0, 1) := by decide +kernel
theorem dL_law_556 : decode cL_law 556 = .ok (.iload_n 3, 1) := by decide +kernel
theorem dL_law_557 : decode cL_law 557 = .ok (.iconst 1, 1) := by decide +kernel
theorem dL_law_558 : decode cL_law 558 = .ok (.iadd, 1) := by decide +kernel
theorem dL_law_559 : decode cL_law 559 = .ok (.iaload, 1) := by decide +kernel
theorem dL_law_560 : decode cL_law 560 = .ok (.aload_n 0, 1) := by decide +kernel
theorem dL_law_561 : decode cL_law 561 = .ok (.iload_n 3, 1) := by decide +kernel
theorem dL_law_562 : decode cL_law 562 = .ok (.iconst 2, 1) := by decide +kernel
theorem dL_law_563 : decode cL_law 563 = .ok (.iadd, 1) := by decide +kernel
theorem dL_law_564 : decode cL_law 564 = .ok (.iaload, 1) := by decide +kernel
theorem dL_law_565 : decode cL_law 565 = .ok (.invokevirtual 74, 3) := by decide +kernel
theorem dL_law_568 : decode cL_law 568 = .ok (.aload_n 2, 1) := by decide +kernel
theorem dL_law_569 : decode cL_law 569 = .ok (.aload_n 0, 1) := by decide +kernel
theorem dL_law_570 : decode cL_law 570 = .ok (.iload_n 3, 1) := by decide +kernel
theorem dL_law_571 : decode cL_law 571 = .ok (.iconst 1, 1) := by decide +kernel
theorem dL_law_572 : decode cL_law 572 = .ok (.iadd, 1) := by decide +kernel
theorem dL_law_573 : decode cL_law 573 = .ok (.iaload, 1) := by decide +kernel
theorem dL_law_574 : decode cL_law 574 = .ok (.aload_n 0, 1) := by decide +kernel
theorem dL_law_575 : decode cL_law 575 = .ok (.iload_n 3, 1) := by decide +kernel
theorem dL_law_576 : decode cL_law 576 = .ok (.iconst 2, 1) := by decide +kernel
theorem dL_law_577 : decode cL_law 577 = .ok (.iadd, 1) := by decide +kernel
theorem dL_law_578 : decode cL_law 578 = .ok (.iaload, 1) := by decide +kernel
theorem dL_law_579 : decode cL_law 579 = .ok (.invokevirtual 77, 3) := by decide +kernel
theorem dL_law_582 : decode cL_law 582 = .ok (.if_icmp .eq 28, 3) := by decide +kernel
theorem dL_law_585 : decode cL_law 585 = .ok (.iconst 0, 1) := by decide +kernel
theorem dL_law_586 : decode cL_law 586 = .ok (.ireturn, 1) := by decide +kernel
theorem dL_law_587 : decode cL_law 587 = .ok (.aload_n 1, 1) := by decide +kernel
theorem dL_law_588 : decode cL_law 588 = .ok (.aload_n 0, 1) := by decide +kernel
theorem dL_law_589 : decode cL_law 589 = .ok (.iload_n 3, 1) := by decide +kernel
theorem dL_law_590 : decode cL_law 590 = .ok (.iconst 1, 1) := by decide +kernel
theorem dL_law_591 : decode cL_law 591 = .ok (.iadd, 1) := by decide +kernel
theorem dL_law_592 : decode cL_law 592 = .ok (.iaload, 1) := by decide +kernel
theorem dL_law_593 : decode cL_law 593 = .ok (.invokevirtual 78, 3) := by decide +kernel
theorem dL_law_596 : decode cL_law 596 = .ok (.aload_n 2, 1) := by decide +kernel
theorem dL_law_597 : decode cL_law 597 = .ok (.aload_n 0, 1) := by decide +kernel
theorem dL_law_598 : decode cL_law 598 = .ok (.iload_n 3, 1) := by decide +kernel
theorem dL_law_599 : decode cL_law 599 = .ok (.iconst 1, 1) := by decide +kernel
theorem dL_law_600 : decode cL_law 600 = .ok (.iadd, 1) := by decide +kernel
theorem dL_law_601 : decode cL_law 601 = .ok (.iaload, 1) := by decide +kernel
theorem dL_law_602 : decode cL_law 602 = .ok (.invokevirtual 81, 3) := by decide +kernel
theorem dL_law_605 : decode cL_law 605 = .ok (.if_icmp .eq 5, 3) := by decide +kernel
theorem dL_law_608 : decode cL_law 608 = .ok (.iconst 0, 1) := by decide +kernel
theorem dL_law_609 : decode cL_law 609 = .ok (.ireturn, 1) := by decide +kernel
theorem dL_law_610 : decode cL_law 610 = .ok (.iinc 3 5, 3) := by decide +kernel
theorem dL_law_613 : decode cL_law 613 = .ok (.goto (-595), 3) := by decide +kernel
theorem dL_law_616 : decode cL_law 616 = .ok (.iconst 1, 1) := by decide +kernel
theorem dL_law_617 : decode cL_law 617 = .ok (.ireturn, 1) := by decide +kernel
abbrev vwCl : List vw_C := [(RX0, TX0, 1), (RX1, TX1, 5), (RX2, TX2, 5), (RX3, TX3, 5), (RX4, TX4, 3), (RX5, TX5, 5), (RX6, TX6, 4), (RX7, TX7, 2), (RX9, TX9, 16), (RX10, TX10, 35)]
end
section
/-! MY WORLD: cells by name (a kind and a number), one function for all that they hold; ad gives a name's address -/
def u3 (Y : Nat → Nat → Nat → Int32) (k i j : Nat) (v : Int32) : Nat → Nat → Nat → Int32 := fun k' i' => if k' = k ∧ i' = i then va_up (Y k' i') j v else Y k' i'
theorem u3_row (Y : Nat → Nat → Nat → Int32) (k i j : Nat) (v : Int32) : u3 Y k i j v k i = va_up (Y k i) j v := by simp [u3]
theorem u3_ne {Y : Nat → Nat → Nat → Int32} {k i j k' i' : Nat} {v : Int32} (h : ¬ (k' = k ∧ i' = i)) : u3 Y k i j v k' i' = Y k' i' := if_neg h
theorem u3_at (Y : Nat → Nat → Nat → Int32) (k i j k' i' j' : Nat) (v : Int32) : u3 Y k i j v k' i' j' = if k' = k ∧ i' = i ∧ j' = j then v else Y k' i' j' := by
  by_cases h : k' = k ∧ i' = i
  · obtain ⟨rfl, rfl⟩ := h
    rw [u3_row]
    simp [va_up]
  · rw [u3_ne h, if_neg (fun q => h ⟨q.1, q.2.1⟩)]
abbrev nwE : Type := (Nat → Nat → Nat) → Nat → Nat → (Nat → Int32) → va_E
def nw (D : va_G) (en : nwE) (dom : Nat → Nat → Prop) (A : Nat → Prop) (ad : Nat → Nat → Nat) (Y : Nat → Nat → Nat → Int32) (H : Heap) : Prop :=
  (∀ k i, dom k i → va_at D vwCl (ad k i, en ad k i (Y k i)) H) ∧ (∀ k i k' i', dom k i → dom k' i' → ad k i = ad k' i' → k = k' ∧ i = i') ∧ ∀ k i, dom k i → A (ad k i)
theorem nw.one {D : va_G} {en : nwE} {dom : Nat → Nat → Prop} {A : Nat → Prop} {ad : Nat → Nat → Nat} {Y : Nat → Nat → Nat → Int32} {H : Heap} (h : nw D en dom A ad Y H) {k i : Nat} (hd : dom k i) : va_P D vwCl [(ad k i, en ad k i (Y k i))] H := by
  intro j q hj
  match j, hj with
  | 0, hj => cases hj; exact h.1 k i hd
  | j + 1, hj => simp at hj
theorem nw.set {D : va_G} {en : nwE} {dom : Nat → Nat → Prop} {A : Nat → Prop} {ad : Nat → Nat → Nat} {Y : Nat → Nat → Nat → Int32} {H H1 : Heap} (h : nw D en dom A ad Y H) {k i j : Nat} {x : Int32} (hd : dom k i) (he : va_at D vwCl (ad k i, en ad k i (va_up (Y k i) j x)) H1) (oq : ∀ q, q ≠ ad k i → H1[q]? = H[q]?) : nw D en dom A ad (u3 Y k i j x) H1 := by
  refine ⟨fun k' i' hd' => ?_, h.2⟩
  by_cases hk : k' = k ∧ i' = i
  · obtain ⟨rfl, rfl⟩ := hk
    rw [u3_row]
    exact he
  · rw [u3_ne hk]
    exact (h.1 k' i' hd').kept (oq _ (fun e => hk (h.2.1 k' i' k i hd' hd e)))
theorem nw.kept {D : va_G} {en : nwE} {dom : Nat → Nat → Prop} {A : Nat → Prop} {ad : Nat → Nat → Nat} {Y : Nat → Nat → Nat → Int32} {H H1 : Heap} (h : nw D en dom A ad Y H) (oq : ∀ k i, dom k i → H1[ad k i]? = H[ad k i]?) : nw D en dom A ad Y H1 :=
  ⟨fun k i hd => (h.1 k i hd).kept (oq k i hd), h.2⟩
theorem nw.lt {D : va_G} {en : nwE} {dom : Nat → Nat → Prop} {A : Nat → Prop} {ad : Nat → Nat → Nat} {Y : Nat → Nat → Nat → Int32} {H : Heap} (h : nw D en dom A ad Y H) {k i : Nat} (hd : dom k i) : ad k i < H.size := (h.1 k i hd).lt
/-- the state by another spelling -/
theorem nw.to {D : va_G} {en : nwE} {dom : Nat → Nat → Prop} {A : Nat → Prop} {ad : Nat → Nat → Nat} {Y Y' : Nat → Nat → Nat → Int32} {H : Heap} (h : nw D en dom A ad Y H) (e : Y = Y') : nw D en dom A ad Y' H := e ▸ h
/-- what the tables say: classes, array classes; which class may stand for which -/
abbrev tysC (C : Nat → ClassId) : List (ClassId × FieldType) := [(C 0, .int), (C 1, .boolean), (C 2, .object RX2), (C 3, .object RX8), (C 4, .object RX6), (C 5, .object RX4), (C 6, .object RX5), (C 7, .object RX0), (C 8, .array .int)]
def KK (D : va_G) (C : Nat → ClassId) (U : State) : Prop := va_K D vwCl (tysC C) U ∧ (va_Nw (.castable RX1 RX2) U ∧ va_Nw (.castable RX3 RX2) U ∧ va_Nw (.castable RX1 RX8) U ∧ va_Nw (.castable RX2 RX8) U ∧ va_Nw (.castable RX3 RX8) U ∧ va_Nw (.castable RX7 RX8) U) ∧ (va_Nc RX7 RX2 U ∧ va_Nc RX2 RX3 U ∧ va_Nc RX1 RX3 U)
theorem KK.warm {D : va_G} {C : Nat → ClassId} {s U : State} (hW : s.WarmedH U.vm) (h : KK D C s) : KK D C U := by
  obtain ⟨h0, ⟨h1, h2, h3, h4, h5, h6⟩, h7, h8, h9⟩ := h
  exact ⟨va_K.moved hW.alike h0, ⟨va_Nw.warmC hW h1, va_Nw.warmC hW h2, va_Nw.warmC hW h3, va_Nw.warmC hW h4, va_Nw.warmC hW h5, va_Nw.warmC hW h6⟩, va_Nc.moved hW.alike h7, va_Nc.moved hW.alike h8, va_Nc.moved hW.alike h9⟩
theorem KK.calling {D : va_G} {C : Nat → ClassId} {U : State} (g : JFrame) (mk : MethodId) (a : Array Value) (h : KK D C U) : KK D C (U.calling g mk a) := by
  obtain ⟨h0, ⟨h1, h2, h3, h4, h5, h6⟩, h7, h8, h9⟩ := h
  exact ⟨va_K.moved (u := U) (U := U.calling g mk a) (Vm.Alike.refl U.vm) h0, ⟨va_Nw.same rfl (u := U) (U := U.calling g mk a) rfl h1, va_Nw.same rfl (u := U) (U := U.calling g mk a) rfl h2, va_Nw.same rfl (u := U) (U := U.calling g mk a) rfl h3, va_Nw.same rfl (u := U) (U := U.calling g mk a) rfl h4, va_Nw.same rfl (u := U) (U := U.calling g mk a) rfl h5, va_Nw.same rfl (u := U) (U := U.calling g mk a) rfl h6⟩, va_Nc.moved (u := U) (U := U.calling g mk a) (Vm.Alike.refl U.vm) h7, va_Nc.moved (u := U) (U := U.calling g mk a) (Vm.Alike.refl U.vm) h8, va_Nc.moved (u := U) (U := U.calling g mk a) (Vm.Alike.refl U.vm) h9⟩
/-- a method's start: the tables, the heap as G has it, all new cells are its own -/
def PW (D : va_G) (C : Nat → ClassId) (A : Nat → Prop) (G : Heap → Prop) : State → Prop := fun U => KK D C U ∧ G U.heap ∧ ∀ q, U.heap.size ≤ q → A q
/-- its end: the answer, the heap, what isn't its own stays -/
def nQ (A : Nat → Prop) (v : Option Value) (G : Heap → Prop) : Array Value → State → Outcome → State → Prop := fun _ st oc t => (oc = .returned v ∧ G t.heap) ∧ va_F A st t
theorem PW.blind {D : va_G} {C : Nat → ClassId} {A : Nat → Prop} {G : Heap → Prop} {av : List Value} : FrameBlind (va_Pc av (PW D C A G)) := fun a U g mk q => ⟨q.1, KK.calling g mk a q.2.1, q.2.2⟩
section NW
variable {p : Program} {l : Launch} {e : Env} {R : Room} {s : State} {m : MethodId} {args : Array Value} {below : List Frame} {meth : Method} {c : Code} {H : Heap} {locs : List Loc} {cells slots : Nat} {Q : State → Prop}
variable {cc : ByteArray} {pc nL : Nat} {ls : Array Slot} {rest : List Value} {D : va_G} {C : Nat → ClassId} {A : Nat → Prop} {H0 : Heap} {en : nwE} {dom : Nat → Nat → Prop} {ad : Nat → Nat → Nat} {Y : Nat → Nat → Nat → Int32} {Ts : List Cond} {own : String}
theorem nw_get (S : CallFix p m c cc nL s args Ts own) (hK : KK D C s) (hN : nw D en dom A ad Y H) {k i : Nat} (hd : dom k i) {ci : Nat} {fs : List Value} (he : en ad k i (Y k i) = .inr (ci, fs)) {CN : String} {T : u_T} {N : Nat} (hc : vwCl[ci]? = some (CN, T, N)) (hin : ∀ w ∈ u_ws CN T N, w ∈ Ts) (j : Nat) (hj : j < N) {index : Nat} {ref : String} (hlink : Cond.fieldLink own index ref (T j).2.1 (T j).2.2.1 ∈ Ts) (hsame : ∀ x, s.fieldFound? (T j).1 (T j).2.1 (T j).2.2.1 = some x → s.fieldFound? ref (T j).2.1 (T j).2.2.1 = some x) {v : Value} (hv : fs[j]? = some v) (hdg : decode cc pc = .ok (.getfield index, 3))
    (kk : W p l e R s m args below meth c H locs cells slots Q (F0 m (pc + 3) ls (v :: rest))) : W p l e R s m args below meth c H locs cells slots Q (F0 m pc ls (.ref (ad k i) :: rest)) :=
  va_get (ws := [(ad k i, en ad k i (Y k i))]) S.1 S.2.1 S.2.2.2.2 hin S.2.2.2.1 hK.1 (hN.one hd) 0 (by rw [he]; rfl) hc j hj (S.2.2.2.2 _ hlink) hsame hv hdg kk
theorem nw_put (S : CallFix p m c cc nL s args Ts own) (hK : KK D C s) (hN : nw D en dom A ad Y H) (hS : va_S A H0 H locs) {k i : Nat} (hd : dom k i) {ci : Nat} {fs : List Value} (he : en ad k i (Y k i) = .inr (ci, fs)) {CN : String} {T : u_T} {N : Nat} (hc : vwCl[ci]? = some (CN, T, N)) (hin : ∀ w ∈ u_ws CN T N, w ∈ Ts) {ty0 : Nat → FieldType} (hty : ∀ k, k < N → parseFieldDescriptor (T k).2.2.1 = some (ty0 k)) (hnm : ∀ a, a < N → ∀ b, b < N → a ≠ b → (T a).2.1 ≠ (T b).2.1) (j : Nat) (hj : j < N) {index : Nat} {ref : String} (hlink : Cond.fieldLink own index ref (T j).2.1 (T j).2.2.1 ∈ Ts) (hsame : ∀ x, s.fieldFound? (T j).1 (T j).2.1 (T j).2.2.1 = some x → s.fieldFound? ref (T j).2.1 (T j).2.2.1 = some x) (hfin : (T j).2.2.2 = false) (x : Int32) {v : Value} (hn : narrow (ty0 j) v = v) (hfit : fits (ty0 j) v = true) (hset : en ad k i (va_up (Y k i) j x) = .inr (ci, fs.set j v)) (hl : j < fs.length) (hdg : decode cc pc = .ok (.putfield index, 3))
    (kk : ∀ (H1 : Heap) (locs1 : List Loc), nw D en dom A ad (u3 Y k i j x) H1 → H1.size = H.size → va_S A H0 H1 locs1 → W p l e R s m args below meth c H1 locs1 cells slots Q (F0 m (pc + 3) ls rest)) : W p l e R s m args below meth c H locs cells slots Q (F0 m pc ls (v :: .ref (ad k i) :: rest)) := by
  obtain ⟨hx, hb, -, hown, hts⟩ := S
  have hap := va_apart (own := own) hts hin ty0 hty hnm hK.1 hc
  have hat := hN.1 k i hd
  rw [he] at hat
  obtain ⟨r, h1, cell, q1, q2, q3, q4⟩ := hat
  have hr : r = (CN, T, N) := Option.some.inj (h1.symm.trans hc)
  subst hr
  obtain ⟨hSl, hfc, kC, hkC, hkind⟩ := hK.1.1 ci _ hc
  obtain ⟨cf, kf, fi, f, hi, hsl⟩ := hSl j hj
  have hlay := hts _ (hin _ (u_in_lay hj))
  unfold u_lay at hlay
  rw [if_neg (by rw [hfin]; decide)] at hlay
  have hst := (u_facts hfc hkC (u_lays hts hin hj) hi).1
  have h6 := u_store hfc hkC hkind hlay hi (hty j hj) hn hfit
  refine W.putK hx hb (f := f) ⟨hown, hts _ hlink, ⟨_, _, _, hsame _ hi⟩, hst⟩ (by rw [q2]; exact h6) q1 q3 (by rw [hsl]; exact k2_hasslot (q4 j hj)) rfl rfl hdg fun H' e1 e2 e3 => ?_
  rw [hsl] at e1 ⊢
  refine kk H' _ (hN.set hd ?_ e3) e2 (hS.put e2 e3 (hN.2.2 k i hd))
  rw [hset]
  exact ⟨_, hc, t_OB.to (V := updV (vp_V fs) j v) ⟨_, e1, q2, q3, t_set q4 hap hj v⟩ (fun j' _ => vp_updV_set hl v j')⟩
theorem nw_putF (S : CallFix p m c cc nL s args Ts own) (hK : KK D C s) (hN : nw D en dom A ad Y H) (hS : va_S A H0 H locs) {k i : Nat} (hd : dom k i) {ci : Nat} {fs : List Value} (he : en ad k i (Y k i) = .inr (ci, fs)) {CN : String} {T : u_T} {N : Nat} (hc : vwCl[ci]? = some (CN, T, N)) (hin : ∀ w ∈ u_ws CN T N, w ∈ Ts) {ty0 : Nat → FieldType} (hty : ∀ k, k < N → parseFieldDescriptor (T k).2.2.1 = some (ty0 k)) (hnm : ∀ a, a < N → ∀ b, b < N → a ≠ b → (T a).2.1 ≠ (T b).2.1) (j : Nat) (hj : j < N) {index : Nat} {ref : String} (hlink : Cond.fieldLink own index ref (T j).2.1 (T j).2.2.1 ∈ Ts) (hsame : ∀ x, s.fieldFound? (T j).1 (T j).2.1 (T j).2.2.1 = some x → s.fieldFound? ref (T j).2.1 (T j).2.2.1 = some x) (hfin : (T j).2.2.2 = true) (hin2 : meth.name = "<init>") (hdecl : (T j).1 = own) (x : Int32) {v : Value} (hn : narrow (ty0 j) v = v) (hfit : fits (ty0 j) v = true) (hset : en ad k i (va_up (Y k i) j x) = .inr (ci, fs.set j v)) (hl : j < fs.length) (hdg : decode cc pc = .ok (.putfield index, 3))
    (kk : ∀ (H1 : Heap) (locs1 : List Loc), nw D en dom A ad (u3 Y k i j x) H1 → H1.size = H.size → va_S A H0 H1 locs1 → W p l e R s m args below meth c H1 locs1 cells slots Q (F0 m (pc + 3) ls rest)) : W p l e R s m args below meth c H locs cells slots Q (F0 m pc ls (v :: .ref (ad k i) :: rest)) := by
  obtain ⟨hx, hb, -, hown, hts⟩ := S
  have hap := va_apart (own := own) hts hin ty0 hty hnm hK.1 hc
  have hat := hN.1 k i hd
  rw [he] at hat
  obtain ⟨r, h1, cell, q1, q2, q3, q4⟩ := hat
  have hr : r = (CN, T, N) := Option.some.inj (h1.symm.trans hc)
  subst hr
  obtain ⟨hSl, hfc, kC, hkC, hkind⟩ := hK.1.1 ci _ hc
  obtain ⟨cf, kf, fi, f, hi, hsl⟩ := hSl j hj
  have hlay := hts _ (hin _ (u_in_lay hj))
  unfold u_lay at hlay
  rw [if_pos hfin] at hlay
  have hst := (u_facts hfc hkC (u_lays hts hin hj) hi).1
  have hcf : m.cls = cf := by
    obtain ⟨_, _, c', _, _, _, -, -, hf', -, -, -, hown2, -⟩ := Cond.laysFinal_spec hlay
    have e1 : c' = cf := by have := hi.symm.trans hf'; simp at this; exact this.1.symm
    rw [hdecl] at hown2
    rw [← e1]; exact Option.some.inj (hown.symm.trans hown2)
  have h6 := u_fits hfc hkC hkind (Or.inr hlay) hi (hty j hj) hn hfit
  refine W.putFinK hx hb hown (hts _ hlink) (hsame _ hi) hst hcf hin2 (by rw [q2]; exact h6) q1 q3 (by rw [hsl]; exact k2_hasslot (q4 j hj)) rfl rfl hdg fun H' e1 e2 e3 => ?_
  rw [hsl] at e1 ⊢
  refine kk H' _ (hN.set hd ?_ e3) e2 (hS.put e2 e3 (hN.2.2 k i hd))
  rw [hset]
  exact ⟨_, hc, t_OB.to (V := updV (vp_V fs) j v) ⟨_, e1, q2, q3, t_set q4 hap hj v⟩ (fun j' _ => vp_updV_set hl v j')⟩
/-- an int of a row -/
theorem nw_iald (S : CallFix p m c cc nL s args Ts own) (hK : KK D C s) (hN : nw D en dom A ad Y H) {k i n : Nat} (hd : dom k i) (he : en ad k i (Y k i) = .inl (C 0, n, .inl (Y k i))) {x : Int32} (hin : vp_in x n) (hdg : decode cc pc = .ok (.iaload, 1))
    (kk : W p l e R s m args below meth c H locs cells slots Q (F0 m (pc + 1) ls (.int (Y k i x.toNatClampNeg) :: rest))) : W p l e R s m args below meth c H locs cells slots Q (F0 m pc ls (.int x :: .ref (ad k i) :: rest)) :=
  va_iald (ws := [(ad k i, en ad k i (Y k i))]) S.1 S.2.1 hK.1 (hN.one hd) 0 0 (by rw [he]; rfl) rfl hin hdg kk
theorem nw_zald (S : CallFix p m c cc nL s args Ts own) (hK : KK D C s) (hN : nw D en dom A ad Y H) {k i n : Nat} (hd : dom k i) (he : en ad k i (Y k i) = .inl (C 1, n, .inl (Y k i))) {x : Int32} (hin : vp_in x n) (hdg : decode cc pc = .ok (.baload, 1))
    (kk : W p l e R s m args below meth c H locs cells slots Q (F0 m (pc + 1) ls (.int (Y k i x.toNatClampNeg) :: rest))) : W p l e R s m args below meth c H locs cells slots Q (F0 m pc ls (.int x :: .ref (ad k i) :: rest)) :=
  va_zald (ws := [(ad k i, en ad k i (Y k i))]) S.1 S.2.1 hK.1 (hN.one hd) 0 1 (by rw [he]; rfl) rfl hin hdg kk
theorem nw_iast (S : CallFix p m c cc nL s args Ts own) (hK : KK D C s) (hN : nw D en dom A ad Y H) (hS : va_S A H0 H locs) {k i n : Nat} (hd : dom k i) (he : ∀ r, en ad k i r = .inl (C 0, n, .inl r)) {x v : Int32} (hin : vp_in x n) (hdg : decode cc pc = .ok (.iastore, 1))
    (kk : ∀ (H1 : Heap) (locs1 : List Loc), nw D en dom A ad (u3 Y k i x.toNatClampNeg v) H1 → H1.size = H.size → va_S A H0 H1 locs1 → W p l e R s m args below meth c H1 locs1 cells slots Q (F0 m (pc + 1) ls rest)) : W p l e R s m args below meth c H locs cells slots Q (F0 m pc ls (.int v :: .int x :: .ref (ad k i) :: rest)) := by
  have hat := hN.1 k i hd
  rw [he] at hat
  refine W.iast S.1 S.2.1 hat ((hK.1.2 0 (C 0, .int) rfl).1 n (fun j => .int (Y k i j))) (fun q => by cases q) (by show ¬ (x < 0 ∨ (arrV _ _ _).slots.size ≤ _); rw [arrV_size]; exact hin) rfl rfl hdg fun H1 e z oq => ?_
  refine kk H1 _ (hN.set hd ?_ oq) z (hS.put z oq (hN.2.2 k i hd))
  rw [he]
  show H1[ad k i]? = some (vp_cell _ _)
  rw [e, vp_cell_i, vp_cell_i, arrV_store]
  congr 2
  funext q
  by_cases hq : q = x.toNatClampNeg
  · subst hq
    simp [updV, va_up]
  · simp [updV, va_up, hq]
theorem nw_zast (S : CallFix p m c cc nL s args Ts own) (hK : KK D C s) (hN : nw D en dom A ad Y H) (hS : va_S A H0 H locs) {k i n : Nat} (hd : dom k i) (he : ∀ r, en ad k i r = .inl (C 1, n, .inl r)) {x v : Int32} (hin : vp_in x n) (hnar : narrow .boolean (.int v) = .int v) (hdg : decode cc pc = .ok (.bastore, 1))
    (kk : ∀ (H1 : Heap) (locs1 : List Loc), nw D en dom A ad (u3 Y k i x.toNatClampNeg v) H1 → H1.size = H.size → va_S A H0 H1 locs1 → W p l e R s m args below meth c H1 locs1 cells slots Q (F0 m (pc + 1) ls rest)) : W p l e R s m args below meth c H locs cells slots Q (F0 m pc ls (.int v :: .int x :: .ref (ad k i) :: rest)) := by
  have hat := hN.1 k i hd
  rw [he] at hat
  refine W.zast S.1 S.2.1 hat ((hK.1.2 1 (C 1, .boolean) rfl).1 n (fun j => .int (Y k i j))) (fun q => by cases q) (by show ¬ (x < 0 ∨ (arrV _ _ _).slots.size ≤ _); rw [arrV_size]; exact hin) rfl rfl hdg fun H1 e z oq => ?_
  refine kk H1 _ (hN.set hd ?_ oq) z (hS.put z oq (hN.2.2 k i hd))
  rw [he]
  show H1[ad k i]? = some (vp_cell _ _)
  rw [e, vp_cell_i, vp_cell_i, arrV_store, hnar]
  congr 2
  funext q
  by_cases hq : q = x.toNatClampNeg
  · subst hq
    simp [updV, va_up]
  · simp [updV, va_up, hq]
/-- a reference of a row -/
theorem nw_aald (S : CallFix p m c cc nL s args Ts own) (hK : KK D C s) (hN : nw D en dom A ad Y H) {k i n : Nat} (hd : dom k i) (t0 : Nat) {cA : ClassId} {ty : FieldType} (ht : (tysC C)[t0]? = some (cA, ty)) (href : ty.isReference = true) {f : Nat → Option Nat} (he : en ad k i (Y k i) = .inl (cA, n, .inr (.inr (.inr (.inr f))))) {x : Int32} (hin : vp_in x n) (hdg : decode cc pc = .ok (.aaload, 1)) {v : Value} (hv : va_rf (f x.toNatClampNeg) = v)
    (kk : W p l e R s m args below meth c H locs cells slots Q (F0 m (pc + 1) ls (v :: rest))) : W p l e R s m args below meth c H locs cells slots Q (F0 m pc ls (.int x :: .ref (ad k i) :: rest)) := by
  have hat := hN.1 k i hd
  rw [he] at hat
  have hlt : x.toNatClampNeg < n := Nat.not_le.mp fun q => hin (Or.inr q)
  exact W.aald (v := v) (ty := ty) S.1 S.2.1 hat ((hK.1.2 t0 _ ht).1 n (fun j => va_rf (f j))) href (fun q => by cases q) (by show ¬ (x < 0 ∨ (arrV _ _ _).slots.size ≤ _); rw [arrV_size]; exact hin) (by show (arrV _ _ _).slots[_]? = _; rw [arrV_read _ _ hlt, hv]) rfl rfl hdg kk
theorem nw_aast (S : CallFix p m c cc nL s args Ts own) (hK : KK D C s) (hN : nw D en dom A ad Y H) (hS : va_S A H0 H locs) {k i n : Nat} (hd : dom k i) (t0 : Nat) {cA : ClassId} {E : String} (ht : (tysC C)[t0]? = some (cA, .object E)) {g : Int32 → Option Nat} (he : ∀ r, en ad k i r = .inl (cA, n, .inr (.inr (.inr (.inr (fun j => g (r j))))))) {x v : Int32} {b : Nat} (hg : g v = some b) (hr : va_Any E s H b) (hin : vp_in x n) (hdg : decode cc pc = .ok (.aastore, 1))
    (kk : ∀ (H1 : Heap) (locs1 : List Loc), nw D en dom A ad (u3 Y k i x.toNatClampNeg v) H1 → H1.size = H.size → va_S A H0 H1 locs1 → W p l e R s m args below meth c H1 locs1 cells slots Q (F0 m (pc + 1) ls rest)) : W p l e R s m args below meth c H locs cells slots Q (F0 m pc ls (.ref b :: .int x :: .ref (ad k i) :: rest)) := by
  have hat := hN.1 k i hd
  rw [he] at hat
  have hlt : x.toNatClampNeg < n := Nat.not_le.mp fun q => hin (Or.inr q)
  have h0 : ¬ x < 0 := fun q => hin (Or.inl q)
  obtain ⟨cellV, g1, g3, ⟨kC, hkC⟩, hasg⟩ := hr
  obtain ⟨kA, comp, k1, k2, k3, -⟩ := (hK.1.2 t0 _ ht).2
  obtain ⟨kE, hkE, -⟩ := Vm.findClass_spec k3
  refine W.aast S.1 S.2.1 hat (fun q h => by cases h) (fun h => by cases h) k1 k2 rfl hkE ⟨h0, by show _ < (arrV _ _ _).slots.size; rw [arrV_size]; exact hlt⟩ g1 (fun q h => by rw [h] at g3; cases g3) hkC (hasg _ k3) rfl rfl hdg fun H1 e z oq => ?_
  refine kk H1 _ (hN.set hd ?_ oq) z (hS.put z oq (hN.2.2 k i hd))
  rw [he]
  show H1[ad k i]? = some (vp_cell _ _)
  rw [e, vp_cell_q, vp_cell_q, arrV_store]
  congr 2
  funext q
  by_cases hq : q = x.toNatClampNeg
  · subst hq
    simp [updV, va_up, hg, va_rf]
  · simp [updV, va_up, hq]
theorem nw_aastN (S : CallFix p m c cc nL s args Ts own) (hK : KK D C s) (hN : nw D en dom A ad Y H) (hS : va_S A H0 H locs) {k i n : Nat} (hd : dom k i) (t0 : Nat) {cA : ClassId} {E : String} (ht : (tysC C)[t0]? = some (cA, .object E)) {g : Int32 → Option Nat} (he : ∀ r, en ad k i r = .inl (cA, n, .inr (.inr (.inr (.inr (fun j => g (r j))))))) {x : Int32} (v : Int32) (hg : g v = none) (hin : vp_in x n) (hdg : decode cc pc = .ok (.aastore, 1))
    (kk : ∀ (H1 : Heap) (locs1 : List Loc), nw D en dom A ad (u3 Y k i x.toNatClampNeg v) H1 → H1.size = H.size → va_S A H0 H1 locs1 → W p l e R s m args below meth c H1 locs1 cells slots Q (F0 m (pc + 1) ls rest)) : W p l e R s m args below meth c H locs cells slots Q (F0 m pc ls (.null :: .int x :: .ref (ad k i) :: rest)) := by
  have hat := hN.1 k i hd
  rw [he] at hat
  refine va_WaastN (C := E) S.1 S.2.1 hat ((hK.1.2 t0 _ ht).1 n (fun j => va_rf (g (Y k i j)))) (fun h => by cases h) (by show ¬ (x < 0 ∨ (arrV _ _ _).slots.size ≤ _); rw [arrV_size]; exact hin) rfl rfl hdg fun H1 e z oq => ?_
  refine kk H1 _ (hN.set hd ?_ oq) z (hS.put z oq (hN.2.2 k i hd))
  rw [he]
  show H1[ad k i]? = some (vp_cell _ _)
  rw [e, vp_cell_q, vp_cell_q, arrV_store]
  congr 2
  funext q
  by_cases hq : q = x.toNatClampNeg
  · subst hq
    simp [updV, va_up, hg, va_rf]
  · simp [updV, va_up, hq]
/-- the object at a name may lie in a row of E -/
theorem nw_any (hK : KK D C s) (hN : nw D en dom A ad Y H) {k i : Nat} (hd : dom k i) {ci : Nat} {fs : List Value} (he : en ad k i (Y k i) = .inr (ci, fs)) {r : vw_C} (hc : vwCl[ci]? = some r) {E : String} (hE : E = r.1 ∨ va_Nw (.castable r.1 E) s) : va_Any E s H (ad k i) := by
  refine va_rAny hK.1 (hN.one hd) (q0 := 0) (by rw [he]; rfl) hc (fun comp c0 h1 h2 => ?_)
  rcases hE with rfl | hE
  · have hcl := (hK.1.1 ci r hc).2
    cases h1.symm.trans h2
    cases hcl.1.symm.trans h1
    exact va_assign hcl
  · obtain ⟨c1, t1, f1, f2, f3⟩ := Cond.castable_spec (va_Nw.use (A := #[]) rfl hE)
    cases h1.symm.trans f2
    cases h2.symm.trans f1
    exact f3
theorem nw_recv (hK : KK D C s) (hN : nw D en dom A ad Y H) {k i : Nat} (hd : dom k i) {ci : Nat} {fs : List Value} (he : en ad k i (Y k i) = .inr (ci, fs)) {CN : String} {T : u_T} {N : Nat} (hc : vwCl[ci]? = some (CN, T, N)) : ∃ cell : Cell, H[ad k i]? = some cell ∧ cell.vm.isStatics = false ∧ s.vm.findClass CN = some cell.cls := by
  have h := va_recv hK.1 (hN.one hd) (q0 := 0) (a := ad k i) (fs := fs) hc (by rw [he]; rfl)
  exact h
theorem nw_alen (S : CallFix p m c cc nL s args Ts own) (hK : KK D C s) (hN : nw D en dom A ad Y H) {k i : Nat} (hd : dom k i) (t0 : Nat) {cA : ClassId} {ty : FieldType} (ht : (tysC C)[t0]? = some (cA, ty)) {x : vp_A} (he : en ad k i (Y k i) = .inl (cA, x)) {v : Int32} (hv : Int32.ofNat x.1 = v) (hdg : decode cc pc = .ok (.arraylength, 1))
    (kk : W p l e R s m args below meth c H locs cells slots Q (F0 m (pc + 1) ls (.int v :: rest))) : W p l e R s m args below meth c H locs cells slots Q (F0 m pc ls (.ref (ad k i) :: rest)) :=
  va_alen (ws := [(ad k i, en ad k i (Y k i))]) S.1 S.2.1 hK.1 (hN.one hd) 0 t0 (by rw [he]; rfl) ht hv hdg kk
/-- behind a call -/
theorem nw_call {v : Option Value} {G : Heap → Prop} {mc ms : Nat} {st0 : List Value} {a : Array Value} (hr : va_Run p l e R s m args below meth c H locs cells slots mc ms (F0 m pc ls st0) rest (nQ A v G a) A) (hS : va_S A H0 H locs)
    (kk : ∀ (H1 : Heap) (locs1 : List Loc), G H1 → H.size ≤ H1.size → (∀ q : Nat, q < H.size → ¬ A q → H1[q]? = H[q]?) → va_S A H0 H1 locs1 → W p l e R s m args below meth c H1 locs1 (cells + mc) (slots + ms) Q (F0 m (pc + 3) ls (v.toList ++ rest))) : W p l e R s m args below meth c H locs cells slots Q (F0 m pc ls st0) := by
  intro T hT X
  obtain ⟨v', st₀, t, T', L, h0, X', hL, e1, e2, ⟨⟨hv, hg⟩, hz, hk⟩, st⟩ := hr T hT X
  cases hv
  rw [h0] at hz hk
  obtain ⟨t2, a1, b1⟩ := kk T'.heap (locs ++ L) (by rw [e1]; exact hg) (by rw [e1]; exact hz) (fun q h1 h2 => by rw [e1]; exact hk q h1 h2)
    ⟨Nat.le_trans hS.1 (by rw [e1]; exact hz), fun q h1 h2 => by rw [e1, hk q (Nat.lt_of_lt_of_le h1 hS.1) h2]; exact hS.2.1 q h1 h2, fun q hq => by
      rcases List.mem_append.mp hq with h | h
      · exact hS.2.2 q h
      · exact hL q h⟩ T' rfl X'
  exact ⟨t2, st t2 a1, b1⟩
theorem nw_preV {G : Heap → Prop} {b : Nat} {As : List Value} {CN : String} (hK : KK D C s) (hG : G H) (hA : ∀ q, s.heap.size ≤ q → A q) (hS : va_S A s.heap H locs) (hrecv : ∃ cell : Cell, H[b]? = some cell ∧ cell.vm.isStatics = false ∧ s.vm.findClass CN = some cell.cls) : PreV s H CN b (va_Pc (.ref b :: As) (PW D C A G)) As :=
  ⟨PW.blind, hrecv, fun U hU hW => ⟨rfl, KK.warm hW hK, by rw [hU]; exact hG, fun q hq => hA q (Nat.le_trans hS.1 (by rw [← hU]; exact hq))⟩⟩
theorem nw_preS {G : Heap → Prop} {As : List Value} (hK : KK D C s) (hG : G H) (hA : ∀ q, s.heap.size ≤ q → A q) (hS : va_S A s.heap H locs) : PreS s H (va_Pc As (PW D C A G)) As :=
  ⟨PW.blind, fun U hU hW => ⟨rfl, KK.warm hW hK, by rw [hU]; exact hG, fun q hq => hA q (Nat.le_trans hS.1 (by rw [← hU]; exact hq))⟩⟩
theorem nw_preP {As : List Value} : PreS s H (va_Pc As (fun _ => True)) As := ⟨fun _ _ _ _ q => ⟨q.1, trivial⟩, fun _ _ _ => ⟨rfl, trivial⟩⟩
/-- the ends -/
theorem nw_end {G : Heap → Prop} {v : Option Value} {as : Array Value} {t : State} (hS : va_S A s.heap H locs) (hG : G H) (ht : t.heap = H) : nQ A v G as s (.returned v) t := ⟨⟨rfl, by rw [ht]; exact hG⟩, hS.F ht⟩
end NW
end
section
theorem zz_last : True := trivial
end
