section
-- ===== PART A: goes FIRST, ahead of the names: the tables' words, and 'selects' of the private methods out of them =====
/-- a private method of a class that the tables say can be made, by its rows of tables_1 -/
def lw_okq (q : MethodName × Nat) : Prop := (q.1.cls ≠ "java/lang/invoke/MethodHandle" ∧ q.1.cls ≠ "java/lang/invoke/VarHandle") ∧ Cond.instantiable q.1.cls q.2 ∈ tables_1 ∧ Cond.privateMethod q.1 ∈ tables_1 ∧ Cond.instanceMethod q.1 ∈ tables_1
theorem lw_p0 : lw_okq (⟨"DayEndBank", "refusalOfChange", "()I"⟩, 11) := ⟨⟨by decide +kernel, by decide +kernel⟩, List.mem_of_getElem? (i := 12) (by decide +kernel), List.mem_of_getElem? (i := 194) (by decide +kernel), List.mem_of_getElem? (i := 195) (by decide +kernel)⟩
theorem lw_p1 : lw_okq (⟨"DayEndBank$Disk", "makeCheckpoint", "()Z"⟩, 6) := ⟨⟨by decide +kernel, by decide +kernel⟩, List.mem_of_getElem? (i := 40) (by decide +kernel), List.mem_of_getElem? (i := 225) (by decide +kernel), List.mem_of_getElem? (i := 226) (by decide +kernel)⟩
theorem lw_p2 : lw_okq (⟨"DayEndBank$Disk", "writeOnce", "()Z"⟩, 6) := ⟨⟨by decide +kernel, by decide +kernel⟩, List.mem_of_getElem? (i := 40) (by decide +kernel), List.mem_of_getElem? (i := 229) (by decide +kernel), List.mem_of_getElem? (i := 230) (by decide +kernel)⟩
theorem lw_p3 : lw_okq (⟨"DayEndBank", "isPayable", "(II)Z"⟩, 11) := ⟨⟨by decide +kernel, by decide +kernel⟩, List.mem_of_getElem? (i := 12) (by decide +kernel), List.mem_of_getElem? (i := 237) (by decide +kernel), List.mem_of_getElem? (i := 238) (by decide +kernel)⟩
theorem lw_p4 : lw_okq (⟨"DayEndBank", "isParty", "(I)Z"⟩, 11) := ⟨⟨by decide +kernel, by decide +kernel⟩, List.mem_of_getElem? (i := 12) (by decide +kernel), List.mem_of_getElem? (i := 241) (by decide +kernel), List.mem_of_getElem? (i := 242) (by decide +kernel)⟩
theorem lw_p5 : lw_okq (⟨"DayEndBank", "accountOf", "(I)LDayEndBank$Account;"⟩, 11) := ⟨⟨by decide +kernel, by decide +kernel⟩, List.mem_of_getElem? (i := 12) (by decide +kernel), List.mem_of_getElem? (i := 245) (by decide +kernel), List.mem_of_getElem? (i := 246) (by decide +kernel)⟩
theorem lw_p6 : lw_okq (⟨"DayEndBank", "transfer", "(LDayEndBank$Account;LDayEndBank$Account;I)V"⟩, 11) := ⟨⟨by decide +kernel, by decide +kernel⟩, List.mem_of_getElem? (i := 12) (by decide +kernel), List.mem_of_getElem? (i := 256) (by decide +kernel), List.mem_of_getElem? (i := 257) (by decide +kernel)⟩
theorem lw_p7 : lw_okq (⟨"DayEndBank", "leastFreeHold", "()I"⟩, 11) := ⟨⟨by decide +kernel, by decide +kernel⟩, List.mem_of_getElem? (i := 12) (by decide +kernel), List.mem_of_getElem? (i := 264) (by decide +kernel), List.mem_of_getElem? (i := 265) (by decide +kernel)⟩
theorem lw_p8 : lw_okq (⟨"DayEndBank", "standingHold", "(I)LDayEndBank$Hold;"⟩, 11) := ⟨⟨by decide +kernel, by decide +kernel⟩, List.mem_of_getElem? (i := 12) (by decide +kernel), List.mem_of_getElem? (i := 276) (by decide +kernel), List.mem_of_getElem? (i := 277) (by decide +kernel)⟩
theorem lw_p9 : lw_okq (⟨"DayEndBank$RestDays", "wasMade", "(I)Z"⟩, 2) := ⟨⟨by decide +kernel, by decide +kernel⟩, List.mem_of_getElem? (i := 26) (by decide +kernel), List.mem_of_getElem? (i := 304) (by decide +kernel), List.mem_of_getElem? (i := 305) (by decide +kernel)⟩
theorem lw_p10 : lw_okq (⟨"DayEndBank", "isInLaterMonth", "(I)Z"⟩, 11) := ⟨⟨by decide +kernel, by decide +kernel⟩, List.mem_of_getElem? (i := 12) (by decide +kernel), List.mem_of_getElem? (i := 308) (by decide +kernel), List.mem_of_getElem? (i := 309) (by decide +kernel)⟩
theorem lw_p11 : lw_okq (⟨"DayEndBank", "makeDayEnd", "()Z"⟩, 11) := ⟨⟨by decide +kernel, by decide +kernel⟩, List.mem_of_getElem? (i := 12) (by decide +kernel), List.mem_of_getElem? (i := 340) (by decide +kernel), List.mem_of_getElem? (i := 341) (by decide +kernel)⟩
theorem lw_p12 : lw_okq (⟨"DayEndBank", "makeStep", "(LDayEndBank$Account;)Z"⟩, 11) := ⟨⟨by decide +kernel, by decide +kernel⟩, List.mem_of_getElem? (i := 12) (by decide +kernel), List.mem_of_getElem? (i := 344) (by decide +kernel), List.mem_of_getElem? (i := 345) (by decide +kernel)⟩
theorem lw_p13 : lw_okq (⟨"DayEndBank", "planOrders", "(LDayEndBank$Account;)V"⟩, 11) := ⟨⟨by decide +kernel, by decide +kernel⟩, List.mem_of_getElem? (i := 12) (by decide +kernel), List.mem_of_getElem? (i := 348) (by decide +kernel), List.mem_of_getElem? (i := 349) (by decide +kernel)⟩
theorem lw_p14 : lw_okq (⟨"DayEndBank", "writeStep", "(LDayEndBank$Account;)Z"⟩, 11) := ⟨⟨by decide +kernel, by decide +kernel⟩, List.mem_of_getElem? (i := 12) (by decide +kernel), List.mem_of_getElem? (i := 364) (by decide +kernel), List.mem_of_getElem? (i := 365) (by decide +kernel)⟩
theorem lw_p15 : lw_okq (⟨"DayEndBank", "carryOutOrders", "()V"⟩, 11) := ⟨⟨by decide +kernel, by decide +kernel⟩, List.mem_of_getElem? (i := 12) (by decide +kernel), List.mem_of_getElem? (i := 369) (by decide +kernel), List.mem_of_getElem? (i := 370) (by decide +kernel)⟩
def lw_privs_1 : List (MethodName × Nat) := [(⟨"DayEndBank", "refusalOfChange", "()I"⟩, 11), (⟨"DayEndBank$Disk", "makeCheckpoint", "()Z"⟩, 6), (⟨"DayEndBank$Disk", "writeOnce", "()Z"⟩, 6), (⟨"DayEndBank", "isPayable", "(II)Z"⟩, 11), (⟨"DayEndBank", "isParty", "(I)Z"⟩, 11), (⟨"DayEndBank", "accountOf", "(I)LDayEndBank$Account;"⟩, 11), (⟨"DayEndBank", "transfer", "(LDayEndBank$Account;LDayEndBank$Account;I)V"⟩, 11), (⟨"DayEndBank", "leastFreeHold", "()I"⟩, 11), (⟨"DayEndBank", "standingHold", "(I)LDayEndBank$Hold;"⟩, 11), (⟨"DayEndBank$RestDays", "wasMade", "(I)Z"⟩, 2), (⟨"DayEndBank", "isInLaterMonth", "(I)Z"⟩, 11), (⟨"DayEndBank", "makeDayEnd", "()Z"⟩, 11), (⟨"DayEndBank", "makeStep", "(LDayEndBank$Account;)Z"⟩, 11), (⟨"DayEndBank", "planOrders", "(LDayEndBank$Account;)V"⟩, 11), (⟨"DayEndBank", "writeStep", "(LDayEndBank$Account;)Z"⟩, 11), (⟨"DayEndBank", "carryOutOrders", "()V"⟩, 11)]
theorem lw_r1 : ∀ q ∈ lw_privs_1, lw_okq q := List.forall_mem_cons.mpr ⟨lw_p0, List.forall_mem_cons.mpr ⟨lw_p1, List.forall_mem_cons.mpr ⟨lw_p2, List.forall_mem_cons.mpr ⟨lw_p3, List.forall_mem_cons.mpr ⟨lw_p4, List.forall_mem_cons.mpr ⟨lw_p5, List.forall_mem_cons.mpr ⟨lw_p6, List.forall_mem_cons.mpr ⟨lw_p7, List.forall_mem_cons.mpr ⟨lw_p8, List.forall_mem_cons.mpr ⟨lw_p9, List.forall_mem_cons.mpr ⟨lw_p10, List.forall_mem_cons.mpr ⟨lw_p11, List.forall_mem_cons.mpr ⟨lw_p12, List.forall_mem_cons.mpr ⟨lw_p13, List.forall_mem_cons.mpr ⟨lw_p14, List.forall_mem_cons.mpr ⟨lw_p15, fun _ h => absurd h List.not_mem_nil⟩⟩⟩⟩⟩⟩⟩⟩⟩⟩⟩⟩⟩⟩⟩⟩
theorem lw_p16 : lw_okq (⟨"DayEndBank", "shownAccount", "(I)LDayEndBank$Account;"⟩, 11) := ⟨⟨by decide +kernel, by decide +kernel⟩, List.mem_of_getElem? (i := 12) (by decide +kernel), List.mem_of_getElem? (i := 417) (by decide +kernel), List.mem_of_getElem? (i := 418) (by decide +kernel)⟩
theorem lw_p17 : lw_okq (⟨"DayEndBank", "sumOfBalances", "(I)J"⟩, 11) := ⟨⟨by decide +kernel, by decide +kernel⟩, List.mem_of_getElem? (i := 12) (by decide +kernel), List.mem_of_getElem? (i := 437) (by decide +kernel), List.mem_of_getElem? (i := 438) (by decide +kernel)⟩
theorem lw_p18 : lw_okq (⟨"DayEndBankModel", "shut", "()I"⟩, 31) := ⟨⟨by decide +kernel, by decide +kernel⟩, List.mem_of_getElem? (i := 462) (by decide +kernel), List.mem_of_getElem? (i := 566) (by decide +kernel), List.mem_of_getElem? (i := 567) (by decide +kernel)⟩
theorem lw_p19 : lw_okq (⟨"DayEndBankModel", "comes", "(II)Z"⟩, 31) := ⟨⟨by decide +kernel, by decide +kernel⟩, List.mem_of_getElem? (i := 462) (by decide +kernel), List.mem_of_getElem? (i := 571) (by decide +kernel), List.mem_of_getElem? (i := 572) (by decide +kernel)⟩
theorem lw_p20 : lw_okq (⟨"DayEndBankModel", "afford", "(I)Z"⟩, 31) := ⟨⟨by decide +kernel, by decide +kernel⟩, List.mem_of_getElem? (i := 462) (by decide +kernel), List.mem_of_getElem? (i := 575) (by decide +kernel), List.mem_of_getElem? (i := 576) (by decide +kernel)⟩
theorem lw_p21 : lw_okq (⟨"DayEndBankModel", "spend", "(I)V"⟩, 31) := ⟨⟨by decide +kernel, by decide +kernel⟩, List.mem_of_getElem? (i := 462) (by decide +kernel), List.mem_of_getElem? (i := 579) (by decide +kernel), List.mem_of_getElem? (i := 580) (by decide +kernel)⟩
theorem lw_p22 : lw_okq (⟨"DayEndBankModel", "pair", "(II)Z"⟩, 31) := ⟨⟨by decide +kernel, by decide +kernel⟩, List.mem_of_getElem? (i := 462) (by decide +kernel), List.mem_of_getElem? (i := 587) (by decide +kernel), List.mem_of_getElem? (i := 588) (by decide +kernel)⟩
theorem lw_p23 : lw_okq (⟨"DayEndBankModel", "is", "(I)Z"⟩, 31) := ⟨⟨by decide +kernel, by decide +kernel⟩, List.mem_of_getElem? (i := 462) (by decide +kernel), List.mem_of_getElem? (i := 591) (by decide +kernel), List.mem_of_getElem? (i := 592) (by decide +kernel)⟩
theorem lw_p24 : lw_okq (⟨"DayEndBankModel", "amountOk", "(I)Z"⟩, 31) := ⟨⟨by decide +kernel, by decide +kernel⟩, List.mem_of_getElem? (i := 462) (by decide +kernel), List.mem_of_getElem? (i := 595) (by decide +kernel), List.mem_of_getElem? (i := 596) (by decide +kernel)⟩
theorem lw_p25 : lw_okq (⟨"DayEndBankModel", "free", "(I)J"⟩, 31) := ⟨⟨by decide +kernel, by decide +kernel⟩, List.mem_of_getElem? (i := 462) (by decide +kernel), List.mem_of_getElem? (i := 599) (by decide +kernel), List.mem_of_getElem? (i := 600) (by decide +kernel)⟩
theorem lw_p26 : lw_okq (⟨"DayEndBankModel", "linesOf", "(II)I"⟩, 31) := ⟨⟨by decide +kernel, by decide +kernel⟩, List.mem_of_getElem? (i := 462) (by decide +kernel), List.mem_of_getElem? (i := 603) (by decide +kernel), List.mem_of_getElem? (i := 604) (by decide +kernel)⟩
theorem lw_p27 : lw_okq (⟨"DayEndBankModel", "setOf", "(II)I"⟩, 31) := ⟨⟨by decide +kernel, by decide +kernel⟩, List.mem_of_getElem? (i := 462) (by decide +kernel), List.mem_of_getElem? (i := 607) (by decide +kernel), List.mem_of_getElem? (i := 608) (by decide +kernel)⟩
theorem lw_p28 : lw_okq (⟨"DayEndBankModel", "transfer", "(III)V"⟩, 31) := ⟨⟨by decide +kernel, by decide +kernel⟩, List.mem_of_getElem? (i := 462) (by decide +kernel), List.mem_of_getElem? (i := 611) (by decide +kernel), List.mem_of_getElem? (i := 612) (by decide +kernel)⟩
theorem lw_p29 : lw_okq (⟨"DayEndBankModel", "stands", "(I)Z"⟩, 31) := ⟨⟨by decide +kernel, by decide +kernel⟩, List.mem_of_getElem? (i := 462) (by decide +kernel), List.mem_of_getElem? (i := 623) (by decide +kernel), List.mem_of_getElem? (i := 624) (by decide +kernel)⟩
theorem lw_p30 : lw_okq (⟨"DayEndBankModel", "resting", "(I)Z"⟩, 31) := ⟨⟨by decide +kernel, by decide +kernel⟩, List.mem_of_getElem? (i := 462) (by decide +kernel), List.mem_of_getElem? (i := 639) (by decide +kernel), List.mem_of_getElem? (i := 640) (by decide +kernel)⟩
theorem lw_p31 : lw_okq (⟨"DayEndBankModel", "later", "(I)Z"⟩, 31) := ⟨⟨by decide +kernel, by decide +kernel⟩, List.mem_of_getElem? (i := 462) (by decide +kernel), List.mem_of_getElem? (i := 643) (by decide +kernel), List.mem_of_getElem? (i := 644) (by decide +kernel)⟩
def lw_privs_2 : List (MethodName × Nat) := [(⟨"DayEndBank", "shownAccount", "(I)LDayEndBank$Account;"⟩, 11), (⟨"DayEndBank", "sumOfBalances", "(I)J"⟩, 11), (⟨"DayEndBankModel", "shut", "()I"⟩, 31), (⟨"DayEndBankModel", "comes", "(II)Z"⟩, 31), (⟨"DayEndBankModel", "afford", "(I)Z"⟩, 31), (⟨"DayEndBankModel", "spend", "(I)V"⟩, 31), (⟨"DayEndBankModel", "pair", "(II)Z"⟩, 31), (⟨"DayEndBankModel", "is", "(I)Z"⟩, 31), (⟨"DayEndBankModel", "amountOk", "(I)Z"⟩, 31), (⟨"DayEndBankModel", "free", "(I)J"⟩, 31), (⟨"DayEndBankModel", "linesOf", "(II)I"⟩, 31), (⟨"DayEndBankModel", "setOf", "(II)I"⟩, 31), (⟨"DayEndBankModel", "transfer", "(III)V"⟩, 31), (⟨"DayEndBankModel", "stands", "(I)Z"⟩, 31), (⟨"DayEndBankModel", "resting", "(I)Z"⟩, 31), (⟨"DayEndBankModel", "later", "(I)Z"⟩, 31)]
theorem lw_r2 : ∀ q ∈ lw_privs_2, lw_okq q := List.forall_mem_cons.mpr ⟨lw_p16, List.forall_mem_cons.mpr ⟨lw_p17, List.forall_mem_cons.mpr ⟨lw_p18, List.forall_mem_cons.mpr ⟨lw_p19, List.forall_mem_cons.mpr ⟨lw_p20, List.forall_mem_cons.mpr ⟨lw_p21, List.forall_mem_cons.mpr ⟨lw_p22, List.forall_mem_cons.mpr ⟨lw_p23, List.forall_mem_cons.mpr ⟨lw_p24, List.forall_mem_cons.mpr ⟨lw_p25, List.forall_mem_cons.mpr ⟨lw_p26, List.forall_mem_cons.mpr ⟨lw_p27, List.forall_mem_cons.mpr ⟨lw_p28, List.forall_mem_cons.mpr ⟨lw_p29, List.forall_mem_cons.mpr ⟨lw_p30, List.forall_mem_cons.mpr ⟨lw_p31, fun _ h => absurd h List.not_mem_nil⟩⟩⟩⟩⟩⟩⟩⟩⟩⟩⟩⟩⟩⟩⟩⟩
theorem lw_p32 : lw_okq (⟨"DayEndBankModel", "walk", "(I)V"⟩, 31) := ⟨⟨by decide +kernel, by decide +kernel⟩, List.mem_of_getElem? (i := 462) (by decide +kernel), List.mem_of_getElem? (i := 647) (by decide +kernel), List.mem_of_getElem? (i := 648) (by decide +kernel)⟩
theorem lw_p33 : lw_okq (⟨"DayEndBankModel", "dayEnd", "()Z"⟩, 31) := ⟨⟨by decide +kernel, by decide +kernel⟩, List.mem_of_getElem? (i := 462) (by decide +kernel), List.mem_of_getElem? (i := 661) (by decide +kernel), List.mem_of_getElem? (i := 662) (by decide +kernel)⟩
theorem lw_p34 : lw_okq (⟨"DayEndBankModel", "step", "(I)Z"⟩, 31) := ⟨⟨by decide +kernel, by decide +kernel⟩, List.mem_of_getElem? (i := 462) (by decide +kernel), List.mem_of_getElem? (i := 665) (by decide +kernel), List.mem_of_getElem? (i := 666) (by decide +kernel)⟩
theorem lw_p35 : lw_okq (⟨"DayEndBankModel", "paidOrders", "(I)I"⟩, 31) := ⟨⟨by decide +kernel, by decide +kernel⟩, List.mem_of_getElem? (i := 462) (by decide +kernel), List.mem_of_getElem? (i := 669) (by decide +kernel), List.mem_of_getElem? (i := 670) (by decide +kernel)⟩
theorem lw_p36 : lw_okq (⟨"DayEndBankModel", "due", "(I)Z"⟩, 31) := ⟨⟨by decide +kernel, by decide +kernel⟩, List.mem_of_getElem? (i := 462) (by decide +kernel), List.mem_of_getElem? (i := 673) (by decide +kernel), List.mem_of_getElem? (i := 674) (by decide +kernel)⟩
theorem lw_p37 : lw_okq (⟨"DayEndBankModel", "grow", "(I)V"⟩, 31) := ⟨⟨by decide +kernel, by decide +kernel⟩, List.mem_of_getElem? (i := 462) (by decide +kernel), List.mem_of_getElem? (i := 677) (by decide +kernel), List.mem_of_getElem? (i := 678) (by decide +kernel)⟩
theorem lw_p38 : lw_okq (⟨"DayEndBankModel", "days", "(III)I"⟩, 31) := ⟨⟨by decide +kernel, by decide +kernel⟩, List.mem_of_getElem? (i := 462) (by decide +kernel), List.mem_of_getElem? (i := 681) (by decide +kernel), List.mem_of_getElem? (i := 682) (by decide +kernel)⟩
def lw_privs_3 : List (MethodName × Nat) := [(⟨"DayEndBankModel", "walk", "(I)V"⟩, 31), (⟨"DayEndBankModel", "dayEnd", "()Z"⟩, 31), (⟨"DayEndBankModel", "step", "(I)Z"⟩, 31), (⟨"DayEndBankModel", "paidOrders", "(I)I"⟩, 31), (⟨"DayEndBankModel", "due", "(I)Z"⟩, 31), (⟨"DayEndBankModel", "grow", "(I)V"⟩, 31), (⟨"DayEndBankModel", "days", "(III)I"⟩, 31)]
theorem lw_r3 : ∀ q ∈ lw_privs_3, lw_okq q := List.forall_mem_cons.mpr ⟨lw_p32, List.forall_mem_cons.mpr ⟨lw_p33, List.forall_mem_cons.mpr ⟨lw_p34, List.forall_mem_cons.mpr ⟨lw_p35, List.forall_mem_cons.mpr ⟨lw_p36, List.forall_mem_cons.mpr ⟨lw_p37, List.forall_mem_cons.mpr ⟨lw_p38, fun _ h => absurd h List.not_mem_nil⟩⟩⟩⟩⟩⟩⟩
def lw_privs : List (MethodName × Nat) := lw_privs_1 ++ (lw_privs_2 ++ (lw_privs_3))
def lw_tbl : List Cond := k2_sels lw_privs ++ tables_1
theorem lw_privs_ok : ∀ q ∈ lw_privs, lw_okq q := by
  show ∀ q ∈ lw_privs_1 ++ (lw_privs_2 ++ (lw_privs_3)), lw_okq q
  exact List.forall_mem_append.mpr ⟨lw_r1, List.forall_mem_append.mpr ⟨lw_r2, lw_r3⟩⟩
end
section
/-! NAMES (by program: names.py, out of claim/Statement.lean) -/
def nR_B : String := "DayEndBank"
def nR_A : String := "DayEndBank$Account"
def nR_H : String := "DayEndBank$Hold"
def nR_O : String := "DayEndBank$Order"
def nR_R : String := "DayEndBank$RestDays"
def nR_D : String := "DayEndBank$Disk"
def nR_M : String := "DayEndBankModel"
def nR_C : String := "DayEndBank$Calendar"
def nR_I : String := "java/lang/Integer"
def nR_T : String := "java/lang/Math"
def nR_L : String := "DayEndBankLaw"
def nT_B : u_T := fun k => match k with
  | 0 => ("DayEndBank", "accounts", "[LDayEndBank$Account;", true)
  | 1 => ("DayEndBank", "holds", "[LDayEndBank$Hold;", true)
  | 2 => ("DayEndBank", "orders", "[LDayEndBank$Order;", true)
  | 3 => ("DayEndBank", "restDays", "LDayEndBank$RestDays;", true)
  | 4 => ("DayEndBank", "disk", "LDayEndBank$Disk;", true)
  | 5 => ("DayEndBank", "cash", "[J", true)
  | 6 => ("DayEndBank", "interest", "[J", true)
  | 7 => ("DayEndBank", "accountsOpened", "I", false)
  | 8 => ("DayEndBank", "ordersMade", "I", false)
  | 9 => ("DayEndBank", "bookDate", "I", false)
  | _ => ("DayEndBank", "dayEndOpen", "Z", false)
def nt_B : Nat → FieldType := fun k => match k with
  | 0 => .array (.object "DayEndBank$Account")
  | 1 => .array (.object "DayEndBank$Hold")
  | 2 => .array (.object "DayEndBank$Order")
  | 3 => .object "DayEndBank$RestDays"
  | 4 => .object "DayEndBank$Disk"
  | 5 => .array (.long)
  | 6 => .array (.long)
  | 7 => .int
  | 8 => .int
  | 9 => .int
  | _ => .boolean
theorem zw_nmB : ∀ a, a < 11 → ∀ b, b < 11 → a ≠ b → (nT_B a).2.1 ≠ (nT_B b).2.1 := by decide +kernel
theorem zw_tyB : ∀ k, k < 11 → parseFieldDescriptor (nT_B k).2.2.1 = some (nt_B k) := by decide +kernel
def nT_A : u_T := fun k => match k with
  | 0 => ("DayEndBank$Account", "number", "I", true)
  | 1 => ("DayEndBank$Account", "currency", "I", false)
  | 2 => ("DayEndBank$Account", "basis", "I", false)
  | 3 => ("DayEndBank$Account", "limit", "I", false)
  | 4 => ("DayEndBank$Account", "rate", "I", false)
  | 5 => ("DayEndBank$Account", "balance", "J", false)
  | 6 => ("DayEndBank$Account", "held", "J", false)
  | 7 => ("DayEndBank$Account", "accrual", "J", false)
  | _ => ("DayEndBank$Account", "mark", "I", false)
def nt_A : Nat → FieldType := fun k => match k with
  | 0 => .int
  | 1 => .int
  | 2 => .int
  | 3 => .int
  | 4 => .int
  | 5 => .long
  | 6 => .long
  | 7 => .long
  | _ => .int
theorem zw_nmA : ∀ a, a < 9 → ∀ b, b < 9 → a ≠ b → (nT_A a).2.1 ≠ (nT_A b).2.1 := by decide +kernel
theorem zw_tyA : ∀ k, k < 9 → parseFieldDescriptor (nT_A k).2.2.1 = some (nt_A k) := by decide +kernel
def nT_H : u_T := fun k => match k with
  | 0 => ("DayEndBank$Hold", "holder", "LDayEndBank$Account;", false)
  | _ => ("DayEndBank$Hold", "amount", "I", false)
def nt_H : Nat → FieldType := fun k => match k with
  | 0 => .object "DayEndBank$Account"
  | _ => .int
theorem zw_nmH : ∀ a, a < 2 → ∀ b, b < 2 → a ≠ b → (nT_H a).2.1 ≠ (nT_H b).2.1 := by decide +kernel
theorem zw_tyH : ∀ k, k < 2 → parseFieldDescriptor (nT_H k).2.2.1 = some (nt_H k) := by decide +kernel
def nT_O : u_T := fun k => match k with
  | 0 => ("DayEndBank$Order", "payer", "LDayEndBank$Account;", false)
  | 1 => ("DayEndBank$Order", "payee", "LDayEndBank$Account;", false)
  | 2 => ("DayEndBank$Order", "amount", "I", false)
  | 3 => ("DayEndBank$Order", "day", "I", false)
  | 4 => ("DayEndBank$Order", "misses", "I", false)
  | 5 => ("DayEndBank$Order", "isDue", "Z", false)
  | _ => ("DayEndBank$Order", "isPaid", "Z", false)
def nt_O : Nat → FieldType := fun k => match k with
  | 0 => .object "DayEndBank$Account"
  | 1 => .object "DayEndBank$Account"
  | 2 => .int
  | 3 => .int
  | 4 => .int
  | 5 => .boolean
  | _ => .boolean
theorem zw_nmO : ∀ a, a < 7 → ∀ b, b < 7 → a ≠ b → (nT_O a).2.1 ≠ (nT_O b).2.1 := by decide +kernel
theorem zw_tyO : ∀ k, k < 7 → parseFieldDescriptor (nT_O k).2.2.1 = some (nt_O k) := by decide +kernel
def nT_R : u_T := fun k => match k with
  | 0 => ("DayEndBank$RestDays", "dates", "[I", true)
  | _ => ("DayEndBank$RestDays", "datesMade", "I", false)
def nt_R : Nat → FieldType := fun k => match k with
  | 0 => .array (.int)
  | _ => .int
theorem zw_nmR : ∀ a, a < 2 → ∀ b, b < 2 → a ≠ b → (nT_R a).2.1 ≠ (nT_R b).2.1 := by decide +kernel
theorem zw_tyR : ∀ k, k < 2 → parseFieldDescriptor (nT_R k).2.2.1 = some (nt_R k) := by decide +kernel
def nT_D : u_T := fun k => match k with
  | 0 => ("DayEndBank$Disk", "stopped", "Z", false)
  | 1 => ("DayEndBank$Disk", "writesMade", "I", false)
  | 2 => ("DayEndBank$Disk", "writesLeft", "I", false)
  | 3 => ("DayEndBank$Disk", "linesInLog", "I", false)
  | 4 => ("DayEndBank$Disk", "transactionsInLog", "I", false)
  | _ => ("DayEndBank$Disk", "changedInLog", "I", false)
def nt_D : Nat → FieldType := fun k => match k with
  | 0 => .boolean
  | 1 => .int
  | 2 => .int
  | 3 => .int
  | 4 => .int
  | _ => .int
theorem zw_nmD : ∀ a, a < 6 → ∀ b, b < 6 → a ≠ b → (nT_D a).2.1 ≠ (nT_D b).2.1 := by decide +kernel
theorem zw_tyD : ∀ k, k < 6 → parseFieldDescriptor (nT_D k).2.2.1 = some (nt_D k) := by decide +kernel
def nT_M : u_T := fun k => match k with
  | 0 => ("DayEndBankModel", "accounts", "I", false)
  | 1 => ("DayEndBankModel", "currency", "[I", true)
  | 2 => ("DayEndBankModel", "basis", "[I", true)
  | 3 => ("DayEndBankModel", "limit", "[I", true)
  | 4 => ("DayEndBankModel", "rate", "[I", true)
  | 5 => ("DayEndBankModel", "marked", "[I", true)
  | 6 => ("DayEndBankModel", "money", "[J", true)
  | 7 => ("DayEndBankModel", "accrual", "[J", true)
  | 8 => ("DayEndBankModel", "holdOf", "[I", true)
  | 9 => ("DayEndBankModel", "holdAmount", "[I", true)
  | 10 => ("DayEndBankModel", "orders", "I", false)
  | 11 => ("DayEndBankModel", "payer", "[I", true)
  | 12 => ("DayEndBankModel", "payee", "[I", true)
  | 13 => ("DayEndBankModel", "sum", "[I", true)
  | 14 => ("DayEndBankModel", "dayOf", "[I", true)
  | 15 => ("DayEndBankModel", "misses", "[I", true)
  | 16 => ("DayEndBankModel", "rests", "I", false)
  | 17 => ("DayEndBankModel", "restDate", "[I", true)
  | 18 => ("DayEndBankModel", "cash", "[J", true)
  | 19 => ("DayEndBankModel", "interest", "[J", true)
  | 20 => ("DayEndBankModel", "now", "I", false)
  | 21 => ("DayEndBankModel", "ending", "Z", false)
  | 22 => ("DayEndBankModel", "stopped", "Z", false)
  | 23 => ("DayEndBankModel", "left", "I", false)
  | 24 => ("DayEndBankModel", "written", "I", false)
  | 25 => ("DayEndBankModel", "inLog", "I", false)
  | 26 => ("DayEndBankModel", "ended", "I", false)
  | 27 => ("DayEndBankModel", "touched", "I", false)
  | 28 => ("DayEndBankModel", "year", "I", false)
  | 29 => ("DayEndBankModel", "month", "I", false)
  | _ => ("DayEndBankModel", "day", "I", false)
def nt_M : Nat → FieldType := fun k => match k with
  | 0 => .int
  | 1 => .array (.int)
  | 2 => .array (.int)
  | 3 => .array (.int)
  | 4 => .array (.int)
  | 5 => .array (.int)
  | 6 => .array (.long)
  | 7 => .array (.long)
  | 8 => .array (.int)
  | 9 => .array (.int)
  | 10 => .int
  | 11 => .array (.int)
  | 12 => .array (.int)
  | 13 => .array (.int)
  | 14 => .array (.int)
  | 15 => .array (.int)
  | 16 => .int
  | 17 => .array (.int)
  | 18 => .array (.long)
  | 19 => .array (.long)
  | 20 => .int
  | 21 => .boolean
  | 22 => .boolean
  | 23 => .int
  | 24 => .int
  | 25 => .int
  | 26 => .int
  | 27 => .int
  | 28 => .int
  | 29 => .int
  | _ => .int
theorem zw_nmM : ∀ a, a < 31 → ∀ b, b < 31 → a ≠ b → (nT_M a).2.1 ≠ (nT_M b).2.1 := by decide +kernel
theorem zw_tyM : ∀ k, k < 31 → parseFieldDescriptor (nT_M k).2.2.1 = some (nt_M k) := by decide +kernel
abbrev vwCl : List vw_C := [(nR_B, nT_B, 11), (nR_A, nT_A, 9), (nR_H, nT_H, 2), (nR_O, nT_O, 7), (nR_R, nT_R, 2), (nR_D, nT_D, 6), (nR_M, nT_M, 31)]
abbrev nc_B_init : ByteArray := prog_1_method_1_code
def ny_B_init : MethodName := ⟨"DayEndBank", "<init>", "()V"⟩
abbrev nc_R_init : ByteArray := prog_7_method_1_code
def ny_R_init : MethodName := ⟨"DayEndBank$RestDays", "<init>", "()V"⟩
abbrev nc_D_init : ByteArray := prog_4_method_1_code
def ny_D_init : MethodName := ⟨"DayEndBank$Disk", "<init>", "()V"⟩
abbrev nc_A_init : ByteArray := prog_2_method_1_code
def ny_A_init : MethodName := ⟨"DayEndBank$Account", "<init>", "(I)V"⟩
abbrev nc_H_init : ByteArray := prog_5_method_1_code
def ny_H_init : MethodName := ⟨"DayEndBank$Hold", "<init>", "()V"⟩
abbrev nc_O_init : ByteArray := prog_6_method_1_code
def ny_O_init : MethodName := ⟨"DayEndBank$Order", "<init>", "()V"⟩
abbrev nc_B_open : ByteArray := prog_1_method_2_code
def ny_B_open : MethodName := ⟨"DayEndBank", "open", "(IIII)I"⟩
abbrev nc_B_refusalOfChange : ByteArray := prog_1_method_26_code
def ny_B_refusalOfChange : MethodName := ⟨"DayEndBank", "refusalOfChange", "()I"⟩
abbrev nc_B_isCurrency : ByteArray := prog_1_method_23_code
def ny_B_isCurrency : MethodName := ⟨"DayEndBank", "isCurrency", "(I)Z"⟩
abbrev nc_B_isWithin : ByteArray := prog_1_method_22_code
def ny_B_isWithin : MethodName := ⟨"DayEndBank", "isWithin", "(III)Z"⟩
abbrev nc_C_isBasis : ByteArray := prog_3_method_2_code
def ny_C_isBasis : MethodName := ⟨"DayEndBank$Calendar", "isBasis", "(I)Z"⟩
abbrev nc_B_bitOf : ByteArray := prog_1_method_25_code
def ny_B_bitOf : MethodName := ⟨"DayEndBank", "bitOf", "(LDayEndBank$Account;)I"⟩
abbrev nc_D_writeTransaction : ByteArray := prog_4_method_2_code
def ny_D_writeTransaction : MethodName := ⟨"DayEndBank$Disk", "writeTransaction", "(I)Z"⟩
abbrev nc_I_bitCount : ByteArray := prog_10_method_49_code
def ny_I_bitCount : MethodName := ⟨"java/lang/Integer", "bitCount", "(I)I"⟩
abbrev nc_D_writeLines : ByteArray := prog_4_method_3_code
def ny_D_writeLines : MethodName := ⟨"DayEndBank$Disk", "writeLines", "(II)Z"⟩
abbrev nc_D_makeCheckpoint : ByteArray := prog_4_method_4_code
def ny_D_makeCheckpoint : MethodName := ⟨"DayEndBank$Disk", "makeCheckpoint", "()Z"⟩
abbrev nc_D_writeOnce : ByteArray := prog_4_method_5_code
def ny_D_writeOnce : MethodName := ⟨"DayEndBank$Disk", "writeOnce", "()Z"⟩
abbrev nc_B_pay : ByteArray := prog_1_method_3_code
def ny_B_pay : MethodName := ⟨"DayEndBank", "pay", "(III)I"⟩
abbrev nc_B_isPayable : ByteArray := prog_1_method_31_code
def ny_B_isPayable : MethodName := ⟨"DayEndBank", "isPayable", "(II)Z"⟩
abbrev nc_B_isParty : ByteArray := prog_1_method_32_code
def ny_B_isParty : MethodName := ⟨"DayEndBank", "isParty", "(I)Z"⟩
abbrev nc_B_accountOf : ByteArray := prog_1_method_27_code
def ny_B_accountOf : MethodName := ⟨"DayEndBank", "accountOf", "(I)LDayEndBank$Account;"⟩
abbrev nc_B_isAmount : ByteArray := prog_1_method_24_code
def ny_B_isAmount : MethodName := ⟨"DayEndBank", "isAmount", "(I)Z"⟩
abbrev nc_A_spendable : ByteArray := prog_2_method_2_code
def ny_A_spendable : MethodName := ⟨"DayEndBank$Account", "spendable", "()J"⟩
abbrev nc_B_transfer : ByteArray := prog_1_method_34_code
def ny_B_transfer : MethodName := ⟨"DayEndBank", "transfer", "(LDayEndBank$Account;LDayEndBank$Account;I)V"⟩
abbrev nc_B_hold : ByteArray := prog_1_method_4_code
def ny_B_hold : MethodName := ⟨"DayEndBank", "hold", "(II)I"⟩
abbrev nc_B_leastFreeHold : ByteArray := prog_1_method_30_code
def ny_B_leastFreeHold : MethodName := ⟨"DayEndBank", "leastFreeHold", "()I"⟩
abbrev nc_H_begin : ByteArray := prog_5_method_2_code
def ny_H_begin : MethodName := ⟨"DayEndBank$Hold", "begin", "(LDayEndBank$Account;I)V"⟩
abbrev nc_B_release : ByteArray := prog_1_method_5_code
def ny_B_release : MethodName := ⟨"DayEndBank", "release", "(I)I"⟩
abbrev nc_B_standingHold : ByteArray := prog_1_method_29_code
def ny_B_standingHold : MethodName := ⟨"DayEndBank", "standingHold", "(I)LDayEndBank$Hold;"⟩
abbrev nc_H_end : ByteArray := prog_5_method_3_code
def ny_H_end : MethodName := ⟨"DayEndBank$Hold", "end", "()V"⟩
abbrev nc_B_settle : ByteArray := prog_1_method_6_code
def ny_B_settle : MethodName := ⟨"DayEndBank", "settle", "(III)I"⟩
abbrev nc_B_order : ByteArray := prog_1_method_7_code
def ny_B_order : MethodName := ⟨"DayEndBank", "order", "(IIII)I"⟩
abbrev nc_O_make : ByteArray := prog_6_method_2_code
def ny_O_make : MethodName := ⟨"DayEndBank$Order", "make", "(LDayEndBank$Account;LDayEndBank$Account;II)V"⟩
abbrev nc_B_rest : ByteArray := prog_1_method_8_code
def ny_B_rest : MethodName := ⟨"DayEndBank", "rest", "(I)I"⟩
abbrev nc_R_isRest : ByteArray := prog_7_method_4_code
def ny_R_isRest : MethodName := ⟨"DayEndBank$RestDays", "isRest", "(I)Z"⟩
abbrev nc_R_wasMade : ByteArray := prog_7_method_5_code
def ny_R_wasMade : MethodName := ⟨"DayEndBank$RestDays", "wasMade", "(I)Z"⟩
abbrev nc_B_isInLaterMonth : ByteArray := prog_1_method_33_code
def ny_B_isInLaterMonth : MethodName := ⟨"DayEndBank", "isInLaterMonth", "(I)Z"⟩
abbrev nc_C_monthAndDay : ByteArray := prog_3_method_9_code
def ny_C_monthAndDay : MethodName := ⟨"DayEndBank$Calendar", "monthAndDay", "(I)I"⟩
abbrev nc_T_floorDiv : ByteArray := prog_11_method_47_code
def ny_T_floorDiv : MethodName := ⟨"java/lang/Math", "floorDiv", "(II)I"⟩
abbrev nc_T_floorMod : ByteArray := prog_11_method_50_code
def ny_T_floorMod : MethodName := ⟨"java/lang/Math", "floorMod", "(II)I"⟩
abbrev nc_C_monthIn : ByteArray := prog_3_method_7_code
def ny_C_monthIn : MethodName := ⟨"DayEndBank$Calendar", "monthIn", "(I)I"⟩
abbrev nc_R_isFull : ByteArray := prog_7_method_2_code
def ny_R_isFull : MethodName := ⟨"DayEndBank$RestDays", "isFull", "()Z"⟩
abbrev nc_R_add : ByteArray := prog_7_method_3_code
def ny_R_add : MethodName := ⟨"DayEndBank$RestDays", "add", "(I)V"⟩
abbrev nc_B_run : ByteArray := prog_1_method_9_code
def ny_B_run : MethodName := ⟨"DayEndBank", "run", "(I)I"⟩
abbrev nc_B_makeDayEnd : ByteArray := prog_1_method_36_code
def ny_B_makeDayEnd : MethodName := ⟨"DayEndBank", "makeDayEnd", "()Z"⟩
abbrev nc_B_makeStep : ByteArray := prog_1_method_37_code
def ny_B_makeStep : MethodName := ⟨"DayEndBank", "makeStep", "(LDayEndBank$Account;)Z"⟩
abbrev nc_B_planOrders : ByteArray := prog_1_method_38_code
def ny_B_planOrders : MethodName := ⟨"DayEndBank", "planOrders", "(LDayEndBank$Account;)V"⟩
abbrev nc_R_dueDate : ByteArray := prog_7_method_6_code
def ny_R_dueDate : MethodName := ⟨"DayEndBank$RestDays", "dueDate", "(II)I"⟩
abbrev nc_C_dayIn : ByteArray := prog_3_method_8_code
def ny_C_dayIn : MethodName := ⟨"DayEndBank$Calendar", "dayIn", "(I)I"⟩
abbrev nc_T_min : ByteArray := prog_11_method_69_code
def ny_T_min : MethodName := ⟨"java/lang/Math", "min", "(II)I"⟩
abbrev nc_B_writeStep : ByteArray := prog_1_method_39_code
def ny_B_writeStep : MethodName := ⟨"DayEndBank", "writeStep", "(LDayEndBank$Account;)Z"⟩
abbrev nc_B_carryOutOrders : ByteArray := prog_1_method_40_code
def ny_B_carryOutOrders : MethodName := ⟨"DayEndBank", "carryOutOrders", "()V"⟩
abbrev nc_C_dayCount : ByteArray := prog_3_method_4_code
def ny_C_dayCount : MethodName := ⟨"DayEndBank$Calendar", "dayCount", "(III)I"⟩
abbrev nc_C_countByMonths : ByteArray := prog_3_method_5_code
def ny_C_countByMonths : MethodName := ⟨"DayEndBank$Calendar", "countByMonths", "(II)I"⟩
abbrev nc_A_accrue : ByteArray := prog_2_method_3_code
def ny_A_accrue : MethodName := ⟨"DayEndBank$Account", "accrue", "(I)V"⟩
abbrev nc_C_isLastOfMonth : ByteArray := prog_3_method_6_code
def ny_C_isLastOfMonth : MethodName := ⟨"DayEndBank$Calendar", "isLastOfMonth", "(I)Z"⟩
abbrev nc_A_takeInterest : ByteArray := prog_2_method_4_code
def ny_A_takeInterest : MethodName := ⟨"DayEndBank$Account", "takeInterest", "()J"⟩
abbrev nc_C_yearOf : ByteArray := prog_3_method_3_code
def ny_C_yearOf : MethodName := ⟨"DayEndBank$Calendar", "yearOf", "(I)I"⟩
abbrev nc_A_nearest : ByteArray := prog_2_method_5_code
def ny_A_nearest : MethodName := ⟨"DayEndBank$Account", "nearest", "(JJ)J"⟩
abbrev nc_T_floorDivL : ByteArray := prog_11_method_49_code
def ny_T_floorDivL : MethodName := ⟨"java/lang/Math", "floorDiv", "(JJ)J"⟩
abbrev nc_B_fuse : ByteArray := prog_1_method_10_code
def ny_B_fuse : MethodName := ⟨"DayEndBank", "fuse", "(I)Z"⟩
abbrev nc_B_restart : ByteArray := prog_1_method_11_code
def ny_B_restart : MethodName := ⟨"DayEndBank", "restart", "()I"⟩
abbrev nc_B_balance : ByteArray := prog_1_method_12_code
def ny_B_balance : MethodName := ⟨"DayEndBank", "balance", "(I)J"⟩
abbrev nc_B_shownAccount : ByteArray := prog_1_method_28_code
def ny_B_shownAccount : MethodName := ⟨"DayEndBank", "shownAccount", "(I)LDayEndBank$Account;"⟩
abbrev nc_B_available : ByteArray := prog_1_method_13_code
def ny_B_available : MethodName := ⟨"DayEndBank", "available", "(I)J"⟩
abbrev nc_B_accrued : ByteArray := prog_1_method_14_code
def ny_B_accrued : MethodName := ⟨"DayEndBank", "accrued", "(I)J"⟩
abbrev nc_B_mark : ByteArray := prog_1_method_15_code
def ny_B_mark : MethodName := ⟨"DayEndBank", "mark", "(I)I"⟩
abbrev nc_B_ledger : ByteArray := prog_1_method_16_code
def ny_B_ledger : MethodName := ⟨"DayEndBank", "ledger", "(II)J"⟩
abbrev nc_B_sumOfBalances : ByteArray := prog_1_method_35_code
def ny_B_sumOfBalances : MethodName := ⟨"DayEndBank", "sumOfBalances", "(I)J"⟩
abbrev nc_B_missed : ByteArray := prog_1_method_17_code
def ny_B_missed : MethodName := ⟨"DayEndBank", "missed", "(I)I"⟩
abbrev nc_B_today : ByteArray := prog_1_method_18_code
def ny_B_today : MethodName := ⟨"DayEndBank", "today", "()I"⟩
abbrev nc_B_count : ByteArray := prog_1_method_19_code
def ny_B_count : MethodName := ⟨"DayEndBank", "count", "(III)I"⟩
abbrev nc_B_writes : ByteArray := prog_1_method_20_code
def ny_B_writes : MethodName := ⟨"DayEndBank", "writes", "()I"⟩
abbrev nc_B_lines : ByteArray := prog_1_method_21_code
def ny_B_lines : MethodName := ⟨"DayEndBank", "lines", "()I"⟩
abbrev nc_M_init : ByteArray := prog_9_method_1_code
def ny_M_init : MethodName := ⟨"DayEndBankModel", "<init>", "()V"⟩
abbrev nc_M_open : ByteArray := prog_9_method_15_code
def ny_M_open : MethodName := ⟨"DayEndBankModel", "open", "(IIII)I"⟩
abbrev nc_M_shut : ByteArray := prog_9_method_11_code
def ny_M_shut : MethodName := ⟨"DayEndBankModel", "shut", "()I"⟩
abbrev nc_M_comes : ByteArray := prog_9_method_10_code
def ny_M_comes : MethodName := ⟨"DayEndBankModel", "comes", "(II)Z"⟩
abbrev nc_M_afford : ByteArray := prog_9_method_9_code
def ny_M_afford : MethodName := ⟨"DayEndBankModel", "afford", "(I)Z"⟩
abbrev nc_M_spend : ByteArray := prog_9_method_8_code
def ny_M_spend : MethodName := ⟨"DayEndBankModel", "spend", "(I)V"⟩
abbrev nc_M_pay : ByteArray := prog_9_method_20_code
def ny_M_pay : MethodName := ⟨"DayEndBankModel", "pay", "(III)I"⟩
abbrev nc_M_pair : ByteArray := prog_9_method_16_code
def ny_M_pair : MethodName := ⟨"DayEndBankModel", "pair", "(II)Z"⟩
abbrev nc_M_is : ByteArray := prog_9_method_12_code
def ny_M_is : MethodName := ⟨"DayEndBankModel", "is", "(I)Z"⟩
abbrev nc_M_amountOk : ByteArray := prog_9_method_13_code
def ny_M_amountOk : MethodName := ⟨"DayEndBankModel", "amountOk", "(I)Z"⟩
abbrev nc_M_free : ByteArray := prog_9_method_14_code
def ny_M_free : MethodName := ⟨"DayEndBankModel", "free", "(I)J"⟩
abbrev nc_M_linesOf : ByteArray := prog_9_method_17_code
def ny_M_linesOf : MethodName := ⟨"DayEndBankModel", "linesOf", "(II)I"⟩
abbrev nc_M_setOf : ByteArray := prog_9_method_18_code
def ny_M_setOf : MethodName := ⟨"DayEndBankModel", "setOf", "(II)I"⟩
abbrev nc_M_transfer : ByteArray := prog_9_method_19_code
def ny_M_transfer : MethodName := ⟨"DayEndBankModel", "transfer", "(III)V"⟩
abbrev nc_M_hold : ByteArray := prog_9_method_21_code
def ny_M_hold : MethodName := ⟨"DayEndBankModel", "hold", "(II)I"⟩
abbrev nc_M_release : ByteArray := prog_9_method_23_code
def ny_M_release : MethodName := ⟨"DayEndBankModel", "release", "(I)I"⟩
abbrev nc_M_stands : ByteArray := prog_9_method_22_code
def ny_M_stands : MethodName := ⟨"DayEndBankModel", "stands", "(I)Z"⟩
abbrev nc_M_settle : ByteArray := prog_9_method_24_code
def ny_M_settle : MethodName := ⟨"DayEndBankModel", "settle", "(III)I"⟩
abbrev nc_M_order : ByteArray := prog_9_method_25_code
def ny_M_order : MethodName := ⟨"DayEndBankModel", "order", "(IIII)I"⟩
abbrev nc_M_rest : ByteArray := prog_9_method_27_code
def ny_M_rest : MethodName := ⟨"DayEndBankModel", "rest", "(I)I"⟩
abbrev nc_M_resting : ByteArray := prog_9_method_6_code
def ny_M_resting : MethodName := ⟨"DayEndBankModel", "resting", "(I)Z"⟩
abbrev nc_M_later : ByteArray := prog_9_method_26_code
def ny_M_later : MethodName := ⟨"DayEndBankModel", "later", "(I)Z"⟩
abbrev nc_M_walk : ByteArray := prog_9_method_4_code
def ny_M_walk : MethodName := ⟨"DayEndBankModel", "walk", "(I)V"⟩
abbrev nc_M_leap : ByteArray := prog_9_method_2_code
def ny_M_leap : MethodName := ⟨"DayEndBankModel", "leap", "(I)Z"⟩
abbrev nc_M_length : ByteArray := prog_9_method_3_code
def ny_M_length : MethodName := ⟨"DayEndBankModel", "length", "(II)I"⟩
abbrev nc_M_run : ByteArray := prog_9_method_32_code
def ny_M_run : MethodName := ⟨"DayEndBankModel", "run", "(I)I"⟩
abbrev nc_M_dayEnd : ByteArray := prog_9_method_31_code
def ny_M_dayEnd : MethodName := ⟨"DayEndBankModel", "dayEnd", "()Z"⟩
abbrev nc_M_step : ByteArray := prog_9_method_29_code
def ny_M_step : MethodName := ⟨"DayEndBankModel", "step", "(I)Z"⟩
abbrev nc_M_paidOrders : ByteArray := prog_9_method_28_code
def ny_M_paidOrders : MethodName := ⟨"DayEndBankModel", "paidOrders", "(I)I"⟩
abbrev nc_M_due : ByteArray := prog_9_method_7_code
def ny_M_due : MethodName := ⟨"DayEndBankModel", "due", "(I)Z"⟩
abbrev nc_M_grow : ByteArray := prog_9_method_30_code
def ny_M_grow : MethodName := ⟨"DayEndBankModel", "grow", "(I)V"⟩
abbrev nc_M_days : ByteArray := prog_9_method_5_code
def ny_M_days : MethodName := ⟨"DayEndBankModel", "days", "(III)I"⟩
abbrev nc_M_fuse : ByteArray := prog_9_method_33_code
def ny_M_fuse : MethodName := ⟨"DayEndBankModel", "fuse", "(I)Z"⟩
abbrev nc_M_restart : ByteArray := prog_9_method_34_code
def ny_M_restart : MethodName := ⟨"DayEndBankModel", "restart", "()I"⟩
abbrev nc_M_balance : ByteArray := prog_9_method_35_code
def ny_M_balance : MethodName := ⟨"DayEndBankModel", "balance", "(I)J"⟩
abbrev nc_M_available : ByteArray := prog_9_method_36_code
def ny_M_available : MethodName := ⟨"DayEndBankModel", "available", "(I)J"⟩
abbrev nc_M_accrued : ByteArray := prog_9_method_37_code
def ny_M_accrued : MethodName := ⟨"DayEndBankModel", "accrued", "(I)J"⟩
abbrev nc_M_mark : ByteArray := prog_9_method_38_code
def ny_M_mark : MethodName := ⟨"DayEndBankModel", "mark", "(I)I"⟩
abbrev nc_M_ledger : ByteArray := prog_9_method_39_code
def ny_M_ledger : MethodName := ⟨"DayEndBankModel", "ledger", "(II)J"⟩
abbrev nc_M_missed : ByteArray := prog_9_method_40_code
def ny_M_missed : MethodName := ⟨"DayEndBankModel", "missed", "(I)I"⟩
abbrev nc_M_today : ByteArray := prog_9_method_41_code
def ny_M_today : MethodName := ⟨"DayEndBankModel", "today", "()I"⟩
abbrev nc_M_count : ByteArray := prog_9_method_42_code
def ny_M_count : MethodName := ⟨"DayEndBankModel", "count", "(III)I"⟩
abbrev nc_M_writes : ByteArray := prog_9_method_43_code
def ny_M_writes : MethodName := ⟨"DayEndBankModel", "writes", "()I"⟩
abbrev nc_M_lines : ByteArray := prog_9_method_44_code
def ny_M_lines : MethodName := ⟨"DayEndBankModel", "lines", "()I"⟩
abbrev nc_L_law : ByteArray := code
def ny_L_law : MethodName := ⟨"DayEndBankLaw", "law", "([I)Z"⟩
def zw_tb : List Cond := tables_1.filter goodWord
def zw_big : List Cond := k2_sels lw_privs ++ zw_tb
theorem zw_selgood : (k2_sels lw_privs).all goodWord = true := by decide +kernel
theorem zw_allgood : zw_big.all goodWord = true := List.all_eq_true.mpr (fun w hw => (List.mem_append.mp hw).elim (fun h => List.all_eq_true.mp zw_selgood w h) (fun h => (List.mem_filter.mp h).2))
theorem zw_in_tbl : ∀ w ∈ zw_big, w ∈ lw_tbl := by
  intro w hw
  rcases List.mem_append.mp hw with h | h
  · exact List.mem_append_left _ h
  · exact List.mem_append_right _ (List.mem_filter.mp h).1
theorem zw_mem {w : Cond} (h : w ∈ tables_1) (hg : goodWord w = true) : w ∈ zw_big := List.mem_append_right _ (List.mem_filter.mpr ⟨h, hg⟩)
end
section
theorem nw_0 : Cond.initialized "DayEndBankLaw" ∈ zw_big := zw_mem (List.mem_append_left _ (List.mem_of_getElem? (i := 0) (by decide +kernel))) (by decide +kernel)
theorem nw_1 : Cond.initialized "DayEndBank" ∈ zw_big := zw_mem (List.mem_append_left _ (List.mem_of_getElem? (i := 1) (by decide +kernel))) (by decide +kernel)
theorem nw_2 : Cond.initialized "DayEndBank$RestDays" ∈ zw_big := zw_mem (List.mem_append_left _ (List.mem_of_getElem? (i := 2) (by decide +kernel))) (by decide +kernel)
theorem nw_3 : Cond.initialized "DayEndBank$Disk" ∈ zw_big := zw_mem (List.mem_append_left _ (List.mem_of_getElem? (i := 3) (by decide +kernel))) (by decide +kernel)
theorem nw_4 : Cond.initialized "DayEndBank$Account" ∈ zw_big := zw_mem (List.mem_append_left _ (List.mem_of_getElem? (i := 4) (by decide +kernel))) (by decide +kernel)
theorem nw_5 : Cond.initialized "DayEndBank$Hold" ∈ zw_big := zw_mem (List.mem_append_left _ (List.mem_of_getElem? (i := 5) (by decide +kernel))) (by decide +kernel)
theorem nw_6 : Cond.initialized "DayEndBank$Order" ∈ zw_big := zw_mem (List.mem_append_left _ (List.mem_of_getElem? (i := 6) (by decide +kernel))) (by decide +kernel)
theorem nw_7 : Cond.initialized "DayEndBankModel" ∈ zw_big := zw_mem (List.mem_append_left _ (List.mem_of_getElem? (i := 7) (by decide +kernel))) (by decide +kernel)
theorem nw_8 : Cond.initialized "DayEndBank$Calendar" ∈ zw_big := zw_mem (List.mem_append_left _ (List.mem_of_getElem? (i := 8) (by decide +kernel))) (by decide +kernel)
theorem nw_9 : Cond.initialized "java/lang/Integer" ∈ zw_big := zw_mem (List.mem_append_left _ (List.mem_of_getElem? (i := 9) (by decide +kernel))) (by decide +kernel)
theorem nw_10 : Cond.initialized "java/lang/Math" ∈ zw_big := zw_mem (List.mem_append_left _ (List.mem_of_getElem? (i := 10) (by decide +kernel))) (by decide +kernel)
theorem nw_13 : Cond.methodLink "DayEndBankLaw" 9 ny_B_init ∈ zw_big := zw_mem (List.mem_append_left _ (List.mem_of_getElem? (i := 13) (by decide +kernel))) (by decide +kernel)
theorem nw_14 : Cond.instanceMethod ny_B_init ∈ zw_big := zw_mem (List.mem_append_left _ (List.mem_of_getElem? (i := 14) (by decide +kernel))) (by decide +kernel)
theorem nw_15 : Cond.code ny_B_init nc_B_init 2 none ∈ zw_big := zw_mem (List.mem_append_left _ (List.mem_of_getElem? (i := 15) (by decide +kernel))) (by decide +kernel)
theorem nw_28 : Cond.instanceMethod ny_R_init ∈ zw_big := zw_mem (List.mem_append_left _ (List.mem_of_getElem? (i := 28) (by decide +kernel))) (by decide +kernel)
theorem nw_29 : Cond.code ny_R_init nc_R_init 1 none ∈ zw_big := zw_mem (List.mem_append_left _ (List.mem_of_getElem? (i := 29) (by decide +kernel))) (by decide +kernel)
theorem nw_31 : Cond.fieldLink "DayEndBank$RestDays" 9 "DayEndBank$RestDays" "dates" "[I" ∈ zw_big := zw_mem (List.mem_append_left _ (List.mem_of_getElem? (i := 31) (by decide +kernel))) (by decide +kernel)
theorem nw_32 : Cond.fieldLink "DayEndBank$RestDays" 13 "DayEndBank$RestDays" "datesMade" "I" ∈ zw_big := zw_mem (List.mem_append_left _ (List.mem_of_getElem? (i := 32) (by decide +kernel))) (by decide +kernel)
theorem nw_33 : Cond.laysFinal "DayEndBank$RestDays" "DayEndBank$RestDays" "dates" "[I" ∈ zw_big := zw_mem (List.mem_append_left _ (List.mem_of_getElem? (i := 33) (by decide +kernel))) (by decide +kernel)
theorem nw_35 : Cond.lays "DayEndBank$RestDays" "DayEndBank$RestDays" "datesMade" "I" ∈ zw_big := zw_mem (List.mem_append_left _ (List.mem_of_getElem? (i := 35) (by decide +kernel))) (by decide +kernel)
theorem nw_42 : Cond.instanceMethod ny_D_init ∈ zw_big := zw_mem (List.mem_append_left _ (List.mem_of_getElem? (i := 42) (by decide +kernel))) (by decide +kernel)
theorem nw_43 : Cond.code ny_D_init nc_D_init 1 none ∈ zw_big := zw_mem (List.mem_append_left _ (List.mem_of_getElem? (i := 43) (by decide +kernel))) (by decide +kernel)
theorem nw_45 : Cond.fieldLink "DayEndBank$Disk" 39 "DayEndBank$Disk" "stopped" "Z" ∈ zw_big := zw_mem (List.mem_append_left _ (List.mem_of_getElem? (i := 45) (by decide +kernel))) (by decide +kernel)
theorem nw_46 : Cond.fieldLink "DayEndBank" 163 "DayEndBank$Disk" "stopped" "Z" ∈ zw_big := zw_mem (List.mem_append_left _ (List.mem_of_getElem? (i := 46) (by decide +kernel))) (by decide +kernel)
theorem nw_47 : Cond.fieldLink "DayEndBank$Disk" 43 "DayEndBank$Disk" "writesMade" "I" ∈ zw_big := zw_mem (List.mem_append_left _ (List.mem_of_getElem? (i := 47) (by decide +kernel))) (by decide +kernel)
theorem nw_48 : Cond.fieldLink "DayEndBank" 198 "DayEndBank$Disk" "writesMade" "I" ∈ zw_big := zw_mem (List.mem_append_left _ (List.mem_of_getElem? (i := 48) (by decide +kernel))) (by decide +kernel)
theorem nw_49 : Cond.fieldLink "DayEndBank$Disk" 9 "DayEndBank$Disk" "writesLeft" "I" ∈ zw_big := zw_mem (List.mem_append_left _ (List.mem_of_getElem? (i := 49) (by decide +kernel))) (by decide +kernel)
theorem nw_50 : Cond.fieldLink "DayEndBank" 170 "DayEndBank$Disk" "writesLeft" "I" ∈ zw_big := zw_mem (List.mem_append_left _ (List.mem_of_getElem? (i := 50) (by decide +kernel))) (by decide +kernel)
theorem nw_51 : Cond.fieldLink "DayEndBank$Disk" 23 "DayEndBank$Disk" "linesInLog" "I" ∈ zw_big := zw_mem (List.mem_append_left _ (List.mem_of_getElem? (i := 51) (by decide +kernel))) (by decide +kernel)
theorem nw_52 : Cond.fieldLink "DayEndBank" 201 "DayEndBank$Disk" "linesInLog" "I" ∈ zw_big := zw_mem (List.mem_append_left _ (List.mem_of_getElem? (i := 52) (by decide +kernel))) (by decide +kernel)
theorem nw_53 : Cond.fieldLink "DayEndBank$Disk" 33 "DayEndBank$Disk" "transactionsInLog" "I" ∈ zw_big := zw_mem (List.mem_append_left _ (List.mem_of_getElem? (i := 53) (by decide +kernel))) (by decide +kernel)
theorem nw_54 : Cond.fieldLink "DayEndBank" 173 "DayEndBank$Disk" "transactionsInLog" "I" ∈ zw_big := zw_mem (List.mem_append_left _ (List.mem_of_getElem? (i := 54) (by decide +kernel))) (by decide +kernel)
theorem nw_55 : Cond.fieldLink "DayEndBank$Disk" 36 "DayEndBank$Disk" "changedInLog" "I" ∈ zw_big := zw_mem (List.mem_append_left _ (List.mem_of_getElem? (i := 55) (by decide +kernel))) (by decide +kernel)
theorem nw_56 : Cond.lays "DayEndBank$Disk" "DayEndBank$Disk" "stopped" "Z" ∈ zw_big := zw_mem (List.mem_append_left _ (List.mem_of_getElem? (i := 56) (by decide +kernel))) (by decide +kernel)
theorem nw_58 : Cond.lays "DayEndBank$Disk" "DayEndBank$Disk" "writesMade" "I" ∈ zw_big := zw_mem (List.mem_append_left _ (List.mem_of_getElem? (i := 58) (by decide +kernel))) (by decide +kernel)
theorem nw_60 : Cond.lays "DayEndBank$Disk" "DayEndBank$Disk" "writesLeft" "I" ∈ zw_big := zw_mem (List.mem_append_left _ (List.mem_of_getElem? (i := 60) (by decide +kernel))) (by decide +kernel)
theorem nw_62 : Cond.lays "DayEndBank$Disk" "DayEndBank$Disk" "linesInLog" "I" ∈ zw_big := zw_mem (List.mem_append_left _ (List.mem_of_getElem? (i := 62) (by decide +kernel))) (by decide +kernel)
theorem nw_64 : Cond.lays "DayEndBank$Disk" "DayEndBank$Disk" "transactionsInLog" "I" ∈ zw_big := zw_mem (List.mem_append_left _ (List.mem_of_getElem? (i := 64) (by decide +kernel))) (by decide +kernel)
theorem nw_66 : Cond.lays "DayEndBank$Disk" "DayEndBank$Disk" "changedInLog" "I" ∈ zw_big := zw_mem (List.mem_append_left _ (List.mem_of_getElem? (i := 66) (by decide +kernel))) (by decide +kernel)
theorem nw_70 : Cond.methodLink "DayEndBank" 48 ny_A_init ∈ zw_big := zw_mem (List.mem_append_left _ (List.mem_of_getElem? (i := 70) (by decide +kernel))) (by decide +kernel)
theorem nw_71 : Cond.instanceMethod ny_A_init ∈ zw_big := zw_mem (List.mem_append_left _ (List.mem_of_getElem? (i := 71) (by decide +kernel))) (by decide +kernel)
theorem nw_72 : Cond.code ny_A_init nc_A_init 2 none ∈ zw_big := zw_mem (List.mem_append_left _ (List.mem_of_getElem? (i := 72) (by decide +kernel))) (by decide +kernel)
theorem nw_74 : Cond.fieldLink "DayEndBank$Account" 7 "DayEndBank$Account" "number" "I" ∈ zw_big := zw_mem (List.mem_append_left _ (List.mem_of_getElem? (i := 74) (by decide +kernel))) (by decide +kernel)
theorem nw_75 : Cond.fieldLink "DayEndBank" 100 "DayEndBank$Account" "number" "I" ∈ zw_big := zw_mem (List.mem_append_left _ (List.mem_of_getElem? (i := 75) (by decide +kernel))) (by decide +kernel)
theorem nw_76 : Cond.fieldLink "DayEndBank" 82 "DayEndBank$Account" "currency" "I" ∈ zw_big := zw_mem (List.mem_append_left _ (List.mem_of_getElem? (i := 76) (by decide +kernel))) (by decide +kernel)
theorem nw_77 : Cond.fieldLink "DayEndBank" 85 "DayEndBank$Account" "basis" "I" ∈ zw_big := zw_mem (List.mem_append_left _ (List.mem_of_getElem? (i := 77) (by decide +kernel))) (by decide +kernel)
theorem nw_78 : Cond.fieldLink "DayEndBank$Account" 31 "DayEndBank$Account" "basis" "I" ∈ zw_big := zw_mem (List.mem_append_left _ (List.mem_of_getElem? (i := 78) (by decide +kernel))) (by decide +kernel)
theorem nw_79 : Cond.fieldLink "DayEndBank$Account" 17 "DayEndBank$Account" "limit" "I" ∈ zw_big := zw_mem (List.mem_append_left _ (List.mem_of_getElem? (i := 79) (by decide +kernel))) (by decide +kernel)
theorem nw_80 : Cond.fieldLink "DayEndBank" 88 "DayEndBank$Account" "limit" "I" ∈ zw_big := zw_mem (List.mem_append_left _ (List.mem_of_getElem? (i := 80) (by decide +kernel))) (by decide +kernel)
theorem nw_81 : Cond.fieldLink "DayEndBank" 91 "DayEndBank$Account" "rate" "I" ∈ zw_big := zw_mem (List.mem_append_left _ (List.mem_of_getElem? (i := 81) (by decide +kernel))) (by decide +kernel)
theorem nw_82 : Cond.fieldLink "DayEndBank$Account" 26 "DayEndBank$Account" "rate" "I" ∈ zw_big := zw_mem (List.mem_append_left _ (List.mem_of_getElem? (i := 82) (by decide +kernel))) (by decide +kernel)
theorem nw_83 : Cond.fieldLink "DayEndBank$Account" 13 "DayEndBank$Account" "balance" "J" ∈ zw_big := zw_mem (List.mem_append_left _ (List.mem_of_getElem? (i := 83) (by decide +kernel))) (by decide +kernel)
theorem nw_84 : Cond.fieldLink "DayEndBank" 179 "DayEndBank$Account" "balance" "J" ∈ zw_big := zw_mem (List.mem_append_left _ (List.mem_of_getElem? (i := 84) (by decide +kernel))) (by decide +kernel)
theorem nw_85 : Cond.fieldLink "DayEndBank$Account" 20 "DayEndBank$Account" "held" "J" ∈ zw_big := zw_mem (List.mem_append_left _ (List.mem_of_getElem? (i := 85) (by decide +kernel))) (by decide +kernel)
theorem nw_86 : Cond.fieldLink "DayEndBank$Hold" 17 "DayEndBank$Account" "held" "J" ∈ zw_big := zw_mem (List.mem_append_left _ (List.mem_of_getElem? (i := 86) (by decide +kernel))) (by decide +kernel)
theorem nw_87 : Cond.fieldLink "DayEndBank$Account" 23 "DayEndBank$Account" "accrual" "J" ∈ zw_big := zw_mem (List.mem_append_left _ (List.mem_of_getElem? (i := 87) (by decide +kernel))) (by decide +kernel)
theorem nw_88 : Cond.fieldLink "DayEndBank" 183 "DayEndBank$Account" "accrual" "J" ∈ zw_big := zw_mem (List.mem_append_left _ (List.mem_of_getElem? (i := 88) (by decide +kernel))) (by decide +kernel)
theorem nw_89 : Cond.fieldLink "DayEndBank" 97 "DayEndBank$Account" "mark" "I" ∈ zw_big := zw_mem (List.mem_append_left _ (List.mem_of_getElem? (i := 89) (by decide +kernel))) (by decide +kernel)
theorem nw_90 : Cond.laysFinal "DayEndBank$Account" "DayEndBank$Account" "number" "I" ∈ zw_big := zw_mem (List.mem_append_left _ (List.mem_of_getElem? (i := 90) (by decide +kernel))) (by decide +kernel)
theorem nw_92 : Cond.lays "DayEndBank$Account" "DayEndBank$Account" "currency" "I" ∈ zw_big := zw_mem (List.mem_append_left _ (List.mem_of_getElem? (i := 92) (by decide +kernel))) (by decide +kernel)
theorem nw_94 : Cond.lays "DayEndBank$Account" "DayEndBank$Account" "basis" "I" ∈ zw_big := zw_mem (List.mem_append_left _ (List.mem_of_getElem? (i := 94) (by decide +kernel))) (by decide +kernel)
theorem nw_96 : Cond.lays "DayEndBank$Account" "DayEndBank$Account" "limit" "I" ∈ zw_big := zw_mem (List.mem_append_left _ (List.mem_of_getElem? (i := 96) (by decide +kernel))) (by decide +kernel)
theorem nw_98 : Cond.lays "DayEndBank$Account" "DayEndBank$Account" "rate" "I" ∈ zw_big := zw_mem (List.mem_append_left _ (List.mem_of_getElem? (i := 98) (by decide +kernel))) (by decide +kernel)
theorem nw_100 : Cond.lays "DayEndBank$Account" "DayEndBank$Account" "balance" "J" ∈ zw_big := zw_mem (List.mem_append_left _ (List.mem_of_getElem? (i := 100) (by decide +kernel))) (by decide +kernel)
theorem nw_102 : Cond.lays "DayEndBank$Account" "DayEndBank$Account" "held" "J" ∈ zw_big := zw_mem (List.mem_append_left _ (List.mem_of_getElem? (i := 102) (by decide +kernel))) (by decide +kernel)
theorem nw_104 : Cond.lays "DayEndBank$Account" "DayEndBank$Account" "accrual" "J" ∈ zw_big := zw_mem (List.mem_append_left _ (List.mem_of_getElem? (i := 104) (by decide +kernel))) (by decide +kernel)
theorem nw_106 : Cond.lays "DayEndBank$Account" "DayEndBank$Account" "mark" "I" ∈ zw_big := zw_mem (List.mem_append_left _ (List.mem_of_getElem? (i := 106) (by decide +kernel))) (by decide +kernel)
theorem nw_112 : Cond.instanceMethod ny_H_init ∈ zw_big := zw_mem (List.mem_append_left _ (List.mem_of_getElem? (i := 112) (by decide +kernel))) (by decide +kernel)
theorem nw_113 : Cond.code ny_H_init nc_H_init 1 none ∈ zw_big := zw_mem (List.mem_append_left _ (List.mem_of_getElem? (i := 113) (by decide +kernel))) (by decide +kernel)
theorem nw_115 : Cond.fieldLink "DayEndBank$Hold" 7 "DayEndBank$Hold" "holder" "LDayEndBank$Account;" ∈ zw_big := zw_mem (List.mem_append_left _ (List.mem_of_getElem? (i := 115) (by decide +kernel))) (by decide +kernel)
theorem nw_116 : Cond.fieldLink "DayEndBank" 133 "DayEndBank$Hold" "holder" "LDayEndBank$Account;" ∈ zw_big := zw_mem (List.mem_append_left _ (List.mem_of_getElem? (i := 116) (by decide +kernel))) (by decide +kernel)
theorem nw_117 : Cond.fieldLink "DayEndBank$Hold" 13 "DayEndBank$Hold" "amount" "I" ∈ zw_big := zw_mem (List.mem_append_left _ (List.mem_of_getElem? (i := 117) (by decide +kernel))) (by decide +kernel)
theorem nw_118 : Cond.fieldLink "DayEndBank" 140 "DayEndBank$Hold" "amount" "I" ∈ zw_big := zw_mem (List.mem_append_left _ (List.mem_of_getElem? (i := 118) (by decide +kernel))) (by decide +kernel)
theorem nw_119 : Cond.lays "DayEndBank$Hold" "DayEndBank$Hold" "holder" "LDayEndBank$Account;" ∈ zw_big := zw_mem (List.mem_append_left _ (List.mem_of_getElem? (i := 119) (by decide +kernel))) (by decide +kernel)
theorem nw_121 : Cond.lays "DayEndBank$Hold" "DayEndBank$Hold" "amount" "I" ∈ zw_big := zw_mem (List.mem_append_left _ (List.mem_of_getElem? (i := 121) (by decide +kernel))) (by decide +kernel)
theorem nw_126 : Cond.instanceMethod ny_O_init ∈ zw_big := zw_mem (List.mem_append_left _ (List.mem_of_getElem? (i := 126) (by decide +kernel))) (by decide +kernel)
theorem nw_127 : Cond.code ny_O_init nc_O_init 1 none ∈ zw_big := zw_mem (List.mem_append_left _ (List.mem_of_getElem? (i := 127) (by decide +kernel))) (by decide +kernel)
theorem nw_129 : Cond.fieldLink "DayEndBank$Order" 7 "DayEndBank$Order" "payer" "LDayEndBank$Account;" ∈ zw_big := zw_mem (List.mem_append_left _ (List.mem_of_getElem? (i := 129) (by decide +kernel))) (by decide +kernel)
theorem nw_130 : Cond.fieldLink "DayEndBank" 240 "DayEndBank$Order" "payer" "LDayEndBank$Account;" ∈ zw_big := zw_mem (List.mem_append_left _ (List.mem_of_getElem? (i := 130) (by decide +kernel))) (by decide +kernel)
theorem nw_131 : Cond.fieldLink "DayEndBank$Order" 13 "DayEndBank$Order" "payee" "LDayEndBank$Account;" ∈ zw_big := zw_mem (List.mem_append_left _ (List.mem_of_getElem? (i := 131) (by decide +kernel))) (by decide +kernel)
theorem nw_132 : Cond.fieldLink "DayEndBank" 257 "DayEndBank$Order" "payee" "LDayEndBank$Account;" ∈ zw_big := zw_mem (List.mem_append_left _ (List.mem_of_getElem? (i := 132) (by decide +kernel))) (by decide +kernel)
theorem nw_133 : Cond.fieldLink "DayEndBank$Order" 16 "DayEndBank$Order" "amount" "I" ∈ zw_big := zw_mem (List.mem_append_left _ (List.mem_of_getElem? (i := 133) (by decide +kernel))) (by decide +kernel)
theorem nw_134 : Cond.fieldLink "DayEndBank" 253 "DayEndBank$Order" "amount" "I" ∈ zw_big := zw_mem (List.mem_append_left _ (List.mem_of_getElem? (i := 134) (by decide +kernel))) (by decide +kernel)
theorem nw_135 : Cond.fieldLink "DayEndBank$Order" 20 "DayEndBank$Order" "day" "I" ∈ zw_big := zw_mem (List.mem_append_left _ (List.mem_of_getElem? (i := 135) (by decide +kernel))) (by decide +kernel)
theorem nw_136 : Cond.fieldLink "DayEndBank" 243 "DayEndBank$Order" "day" "I" ∈ zw_big := zw_mem (List.mem_append_left _ (List.mem_of_getElem? (i := 136) (by decide +kernel))) (by decide +kernel)
theorem nw_137 : Cond.fieldLink "DayEndBank" 190 "DayEndBank$Order" "misses" "I" ∈ zw_big := zw_mem (List.mem_append_left _ (List.mem_of_getElem? (i := 137) (by decide +kernel))) (by decide +kernel)
theorem nw_138 : Cond.fieldLink "DayEndBank" 250 "DayEndBank$Order" "isDue" "Z" ∈ zw_big := zw_mem (List.mem_append_left _ (List.mem_of_getElem? (i := 138) (by decide +kernel))) (by decide +kernel)
theorem nw_139 : Cond.fieldLink "DayEndBank" 254 "DayEndBank$Order" "isPaid" "Z" ∈ zw_big := zw_mem (List.mem_append_left _ (List.mem_of_getElem? (i := 139) (by decide +kernel))) (by decide +kernel)
theorem nw_140 : Cond.lays "DayEndBank$Order" "DayEndBank$Order" "payer" "LDayEndBank$Account;" ∈ zw_big := zw_mem (List.mem_append_left _ (List.mem_of_getElem? (i := 140) (by decide +kernel))) (by decide +kernel)
theorem nw_142 : Cond.lays "DayEndBank$Order" "DayEndBank$Order" "payee" "LDayEndBank$Account;" ∈ zw_big := zw_mem (List.mem_append_left _ (List.mem_of_getElem? (i := 142) (by decide +kernel))) (by decide +kernel)
theorem nw_144 : Cond.lays "DayEndBank$Order" "DayEndBank$Order" "amount" "I" ∈ zw_big := zw_mem (List.mem_append_left _ (List.mem_of_getElem? (i := 144) (by decide +kernel))) (by decide +kernel)
theorem nw_146 : Cond.lays "DayEndBank$Order" "DayEndBank$Order" "day" "I" ∈ zw_big := zw_mem (List.mem_append_left _ (List.mem_of_getElem? (i := 146) (by decide +kernel))) (by decide +kernel)
theorem nw_148 : Cond.lays "DayEndBank$Order" "DayEndBank$Order" "misses" "I" ∈ zw_big := zw_mem (List.mem_append_left _ (List.mem_of_getElem? (i := 148) (by decide +kernel))) (by decide +kernel)
theorem nw_150 : Cond.lays "DayEndBank$Order" "DayEndBank$Order" "isDue" "Z" ∈ zw_big := zw_mem (List.mem_append_left _ (List.mem_of_getElem? (i := 150) (by decide +kernel))) (by decide +kernel)
theorem nw_152 : Cond.lays "DayEndBank$Order" "DayEndBank$Order" "isPaid" "Z" ∈ zw_big := zw_mem (List.mem_append_left _ (List.mem_of_getElem? (i := 152) (by decide +kernel))) (by decide +kernel)
theorem nw_155 : Cond.fieldLink "DayEndBank" 11 "DayEndBank" "accounts" "[LDayEndBank$Account;" ∈ zw_big := zw_mem (List.mem_append_left _ (List.mem_of_getElem? (i := 155) (by decide +kernel))) (by decide +kernel)
theorem nw_156 : Cond.fieldLink "DayEndBank" 17 "DayEndBank" "holds" "[LDayEndBank$Hold;" ∈ zw_big := zw_mem (List.mem_append_left _ (List.mem_of_getElem? (i := 156) (by decide +kernel))) (by decide +kernel)
theorem nw_157 : Cond.fieldLink "DayEndBank" 23 "DayEndBank" "orders" "[LDayEndBank$Order;" ∈ zw_big := zw_mem (List.mem_append_left _ (List.mem_of_getElem? (i := 157) (by decide +kernel))) (by decide +kernel)
theorem nw_158 : Cond.fieldLink "DayEndBank" 30 "DayEndBank" "restDays" "LDayEndBank$RestDays;" ∈ zw_big := zw_mem (List.mem_append_left _ (List.mem_of_getElem? (i := 158) (by decide +kernel))) (by decide +kernel)
theorem nw_159 : Cond.fieldLink "DayEndBank" 37 "DayEndBank" "disk" "LDayEndBank$Disk;" ∈ zw_big := zw_mem (List.mem_append_left _ (List.mem_of_getElem? (i := 159) (by decide +kernel))) (by decide +kernel)
theorem nw_160 : Cond.fieldLink "DayEndBank" 41 "DayEndBank" "cash" "[J" ∈ zw_big := zw_mem (List.mem_append_left _ (List.mem_of_getElem? (i := 160) (by decide +kernel))) (by decide +kernel)
theorem nw_161 : Cond.fieldLink "DayEndBank" 45 "DayEndBank" "interest" "[J" ∈ zw_big := zw_mem (List.mem_append_left _ (List.mem_of_getElem? (i := 161) (by decide +kernel))) (by decide +kernel)
theorem nw_162 : Cond.fieldLink "DayEndBank" 71 "DayEndBank" "accountsOpened" "I" ∈ zw_big := zw_mem (List.mem_append_left _ (List.mem_of_getElem? (i := 162) (by decide +kernel))) (by decide +kernel)
theorem nw_163 : Cond.fieldLink "DayEndBank" 143 "DayEndBank" "ordersMade" "I" ∈ zw_big := zw_mem (List.mem_append_left _ (List.mem_of_getElem? (i := 163) (by decide +kernel))) (by decide +kernel)
theorem nw_164 : Cond.fieldLink "DayEndBank" 94 "DayEndBank" "bookDate" "I" ∈ zw_big := zw_mem (List.mem_append_left _ (List.mem_of_getElem? (i := 164) (by decide +kernel))) (by decide +kernel)
theorem nw_165 : Cond.fieldLink "DayEndBank" 204 "DayEndBank" "dayEndOpen" "Z" ∈ zw_big := zw_mem (List.mem_append_left _ (List.mem_of_getElem? (i := 165) (by decide +kernel))) (by decide +kernel)
theorem nw_166 : Cond.laysFinal "DayEndBank" "DayEndBank" "accounts" "[LDayEndBank$Account;" ∈ zw_big := zw_mem (List.mem_append_left _ (List.mem_of_getElem? (i := 166) (by decide +kernel))) (by decide +kernel)
theorem nw_168 : Cond.laysFinal "DayEndBank" "DayEndBank" "holds" "[LDayEndBank$Hold;" ∈ zw_big := zw_mem (List.mem_append_left _ (List.mem_of_getElem? (i := 168) (by decide +kernel))) (by decide +kernel)
theorem nw_170 : Cond.laysFinal "DayEndBank" "DayEndBank" "orders" "[LDayEndBank$Order;" ∈ zw_big := zw_mem (List.mem_append_left _ (List.mem_of_getElem? (i := 170) (by decide +kernel))) (by decide +kernel)
theorem nw_172 : Cond.laysFinal "DayEndBank" "DayEndBank" "restDays" "LDayEndBank$RestDays;" ∈ zw_big := zw_mem (List.mem_append_left _ (List.mem_of_getElem? (i := 172) (by decide +kernel))) (by decide +kernel)
theorem nw_174 : Cond.laysFinal "DayEndBank" "DayEndBank" "disk" "LDayEndBank$Disk;" ∈ zw_big := zw_mem (List.mem_append_left _ (List.mem_of_getElem? (i := 174) (by decide +kernel))) (by decide +kernel)
theorem nw_176 : Cond.laysFinal "DayEndBank" "DayEndBank" "cash" "[J" ∈ zw_big := zw_mem (List.mem_append_left _ (List.mem_of_getElem? (i := 176) (by decide +kernel))) (by decide +kernel)
theorem nw_178 : Cond.laysFinal "DayEndBank" "DayEndBank" "interest" "[J" ∈ zw_big := zw_mem (List.mem_append_left _ (List.mem_of_getElem? (i := 178) (by decide +kernel))) (by decide +kernel)
theorem nw_180 : Cond.lays "DayEndBank" "DayEndBank" "accountsOpened" "I" ∈ zw_big := zw_mem (List.mem_append_left _ (List.mem_of_getElem? (i := 180) (by decide +kernel))) (by decide +kernel)
theorem nw_182 : Cond.lays "DayEndBank" "DayEndBank" "ordersMade" "I" ∈ zw_big := zw_mem (List.mem_append_left _ (List.mem_of_getElem? (i := 182) (by decide +kernel))) (by decide +kernel)
theorem nw_184 : Cond.lays "DayEndBank" "DayEndBank" "bookDate" "I" ∈ zw_big := zw_mem (List.mem_append_left _ (List.mem_of_getElem? (i := 184) (by decide +kernel))) (by decide +kernel)
theorem nw_186 : Cond.lays "DayEndBank" "DayEndBank" "dayEndOpen" "Z" ∈ zw_big := zw_mem (List.mem_append_left _ (List.mem_of_getElem? (i := 186) (by decide +kernel))) (by decide +kernel)
theorem nw_189 : Cond.methodLink "DayEndBankLaw" 13 ny_B_open ∈ zw_big := zw_mem (List.mem_append_left _ (List.mem_of_getElem? (i := 189) (by decide +kernel))) (by decide +kernel)
theorem nw_190 : Cond.instanceMethod ny_B_open ∈ zw_big := zw_mem (List.mem_append_left _ (List.mem_of_getElem? (i := 190) (by decide +kernel))) (by decide +kernel)
theorem nw_191 : Cond.selects "DayEndBank" ny_B_open ny_B_open ∈ zw_big := zw_mem (List.mem_append_left _ (List.mem_of_getElem? (i := 191) (by decide +kernel))) (by decide +kernel)
theorem nw_192 : Cond.code ny_B_open nc_B_open 7 (some .int) ∈ zw_big := zw_mem (List.mem_append_left _ (List.mem_of_getElem? (i := 192) (by decide +kernel))) (by decide +kernel)
theorem nw_193 : Cond.methodLink "DayEndBank" 53 ny_B_refusalOfChange ∈ zw_big := zw_mem (List.mem_append_left _ (List.mem_of_getElem? (i := 193) (by decide +kernel))) (by decide +kernel)
theorem nw_195 : Cond.instanceMethod ny_B_refusalOfChange ∈ zw_big := zw_mem (List.mem_append_left _ (List.mem_of_getElem? (i := 195) (by decide +kernel))) (by decide +kernel)
theorem nw_196 : Cond.code ny_B_refusalOfChange nc_B_refusalOfChange 1 (some .int) ∈ zw_big := zw_mem (List.mem_append_left _ (List.mem_of_getElem? (i := 196) (by decide +kernel))) (by decide +kernel)
theorem nw_197 : Cond.methodLink "DayEndBank" 57 ny_B_isCurrency ∈ zw_big := zw_mem (List.mem_append_left _ (List.mem_of_getElem? (i := 197) (by decide +kernel))) (by decide +kernel)
theorem nw_198 : Cond.static ny_B_isCurrency ∈ zw_big := zw_mem (List.mem_append_left _ (List.mem_of_getElem? (i := 198) (by decide +kernel))) (by decide +kernel)
theorem nw_199 : Cond.code ny_B_isCurrency nc_B_isCurrency 1 (some .boolean) ∈ zw_big := zw_mem (List.mem_append_left _ (List.mem_of_getElem? (i := 199) (by decide +kernel))) (by decide +kernel)
theorem nw_200 : Cond.methodLink "DayEndBank" 67 ny_B_isWithin ∈ zw_big := zw_mem (List.mem_append_left _ (List.mem_of_getElem? (i := 200) (by decide +kernel))) (by decide +kernel)
theorem nw_201 : Cond.static ny_B_isWithin ∈ zw_big := zw_mem (List.mem_append_left _ (List.mem_of_getElem? (i := 201) (by decide +kernel))) (by decide +kernel)
theorem nw_202 : Cond.code ny_B_isWithin nc_B_isWithin 3 (some .boolean) ∈ zw_big := zw_mem (List.mem_append_left _ (List.mem_of_getElem? (i := 202) (by decide +kernel))) (by decide +kernel)
theorem nw_203 : Cond.methodLink "DayEndBank" 61 ny_C_isBasis ∈ zw_big := zw_mem (List.mem_append_left _ (List.mem_of_getElem? (i := 203) (by decide +kernel))) (by decide +kernel)
theorem nw_204 : Cond.static ny_C_isBasis ∈ zw_big := zw_mem (List.mem_append_left _ (List.mem_of_getElem? (i := 204) (by decide +kernel))) (by decide +kernel)
theorem nw_205 : Cond.code ny_C_isBasis nc_C_isBasis 1 (some .boolean) ∈ zw_big := zw_mem (List.mem_append_left _ (List.mem_of_getElem? (i := 205) (by decide +kernel))) (by decide +kernel)
theorem nw_206 : Cond.constant "DayEndBank" 66 (1000000) ∈ zw_big := zw_mem (List.mem_append_left _ (List.mem_of_getElem? (i := 206) (by decide +kernel))) (by decide +kernel)
theorem nw_207 : Cond.methodLink "DayEndBank" 75 ny_B_bitOf ∈ zw_big := zw_mem (List.mem_append_left _ (List.mem_of_getElem? (i := 207) (by decide +kernel))) (by decide +kernel)
theorem nw_208 : Cond.static ny_B_bitOf ∈ zw_big := zw_mem (List.mem_append_left _ (List.mem_of_getElem? (i := 208) (by decide +kernel))) (by decide +kernel)
theorem nw_209 : Cond.code ny_B_bitOf nc_B_bitOf 1 (some .int) ∈ zw_big := zw_mem (List.mem_append_left _ (List.mem_of_getElem? (i := 209) (by decide +kernel))) (by decide +kernel)
theorem nw_210 : Cond.methodLink "DayEndBank" 79 ny_D_writeTransaction ∈ zw_big := zw_mem (List.mem_append_left _ (List.mem_of_getElem? (i := 210) (by decide +kernel))) (by decide +kernel)
theorem nw_211 : Cond.instanceMethod ny_D_writeTransaction ∈ zw_big := zw_mem (List.mem_append_left _ (List.mem_of_getElem? (i := 211) (by decide +kernel))) (by decide +kernel)
theorem nw_212 : Cond.selects "DayEndBank$Disk" ny_D_writeTransaction ny_D_writeTransaction ∈ zw_big := zw_mem (List.mem_append_left _ (List.mem_of_getElem? (i := 212) (by decide +kernel))) (by decide +kernel)
theorem nw_213 : Cond.code ny_D_writeTransaction nc_D_writeTransaction 2 (some .boolean) ∈ zw_big := zw_mem (List.mem_append_left _ (List.mem_of_getElem? (i := 213) (by decide +kernel))) (by decide +kernel)
theorem nw_214 : Cond.methodLink "DayEndBank$Disk" 13 ny_I_bitCount ∈ zw_big := zw_mem (List.mem_append_left _ (List.mem_of_getElem? (i := 214) (by decide +kernel))) (by decide +kernel)
theorem nw_215 : Cond.static ny_I_bitCount ∈ zw_big := zw_mem (List.mem_append_left _ (List.mem_of_getElem? (i := 215) (by decide +kernel))) (by decide +kernel)
theorem nw_216 : Cond.code ny_I_bitCount nc_I_bitCount 1 (some .int) ∈ zw_big := zw_mem (List.mem_append_left _ (List.mem_of_getElem? (i := 216) (by decide +kernel))) (by decide +kernel)
theorem nw_217 : Cond.constant "java/lang/Integer" 265 (1431655765) ∈ zw_big := zw_mem (List.mem_append_left _ (List.mem_of_getElem? (i := 217) (by decide +kernel))) (by decide +kernel)
theorem nw_218 : Cond.constant "java/lang/Integer" 266 (858993459) ∈ zw_big := zw_mem (List.mem_append_left _ (List.mem_of_getElem? (i := 218) (by decide +kernel))) (by decide +kernel)
theorem nw_219 : Cond.constant "java/lang/Integer" 267 (252645135) ∈ zw_big := zw_mem (List.mem_append_left _ (List.mem_of_getElem? (i := 219) (by decide +kernel))) (by decide +kernel)
theorem nw_220 : Cond.methodLink "DayEndBank$Disk" 19 ny_D_writeLines ∈ zw_big := zw_mem (List.mem_append_left _ (List.mem_of_getElem? (i := 220) (by decide +kernel))) (by decide +kernel)
theorem nw_221 : Cond.instanceMethod ny_D_writeLines ∈ zw_big := zw_mem (List.mem_append_left _ (List.mem_of_getElem? (i := 221) (by decide +kernel))) (by decide +kernel)
theorem nw_222 : Cond.selects "DayEndBank$Disk" ny_D_writeLines ny_D_writeLines ∈ zw_big := zw_mem (List.mem_append_left _ (List.mem_of_getElem? (i := 222) (by decide +kernel))) (by decide +kernel)
theorem nw_223 : Cond.code ny_D_writeLines nc_D_writeLines 4 (some .boolean) ∈ zw_big := zw_mem (List.mem_append_left _ (List.mem_of_getElem? (i := 223) (by decide +kernel))) (by decide +kernel)
theorem nw_224 : Cond.methodLink "DayEndBank$Disk" 26 ny_D_makeCheckpoint ∈ zw_big := zw_mem (List.mem_append_left _ (List.mem_of_getElem? (i := 224) (by decide +kernel))) (by decide +kernel)
theorem nw_226 : Cond.instanceMethod ny_D_makeCheckpoint ∈ zw_big := zw_mem (List.mem_append_left _ (List.mem_of_getElem? (i := 226) (by decide +kernel))) (by decide +kernel)
theorem nw_227 : Cond.code ny_D_makeCheckpoint nc_D_makeCheckpoint 3 (some .boolean) ∈ zw_big := zw_mem (List.mem_append_left _ (List.mem_of_getElem? (i := 227) (by decide +kernel))) (by decide +kernel)
theorem nw_228 : Cond.methodLink "DayEndBank$Disk" 30 ny_D_writeOnce ∈ zw_big := zw_mem (List.mem_append_left _ (List.mem_of_getElem? (i := 228) (by decide +kernel))) (by decide +kernel)
theorem nw_230 : Cond.instanceMethod ny_D_writeOnce ∈ zw_big := zw_mem (List.mem_append_left _ (List.mem_of_getElem? (i := 230) (by decide +kernel))) (by decide +kernel)
theorem nw_231 : Cond.code ny_D_writeOnce nc_D_writeOnce 1 (some .boolean) ∈ zw_big := zw_mem (List.mem_append_left _ (List.mem_of_getElem? (i := 231) (by decide +kernel))) (by decide +kernel)
theorem nw_232 : Cond.methodLink "DayEndBankLaw" 18 ny_B_pay ∈ zw_big := zw_mem (List.mem_append_left _ (List.mem_of_getElem? (i := 232) (by decide +kernel))) (by decide +kernel)
theorem nw_233 : Cond.instanceMethod ny_B_pay ∈ zw_big := zw_mem (List.mem_append_left _ (List.mem_of_getElem? (i := 233) (by decide +kernel))) (by decide +kernel)
theorem nw_234 : Cond.selects "DayEndBank" ny_B_pay ny_B_pay ∈ zw_big := zw_mem (List.mem_append_left _ (List.mem_of_getElem? (i := 234) (by decide +kernel))) (by decide +kernel)
theorem nw_235 : Cond.code ny_B_pay nc_B_pay 7 (some .int) ∈ zw_big := zw_mem (List.mem_append_left _ (List.mem_of_getElem? (i := 235) (by decide +kernel))) (by decide +kernel)
theorem nw_236 : Cond.methodLink "DayEndBank" 103 ny_B_isPayable ∈ zw_big := zw_mem (List.mem_append_left _ (List.mem_of_getElem? (i := 236) (by decide +kernel))) (by decide +kernel)
theorem nw_238 : Cond.instanceMethod ny_B_isPayable ∈ zw_big := zw_mem (List.mem_append_left _ (List.mem_of_getElem? (i := 238) (by decide +kernel))) (by decide +kernel)
theorem nw_239 : Cond.code ny_B_isPayable nc_B_isPayable 5 (some .boolean) ∈ zw_big := zw_mem (List.mem_append_left _ (List.mem_of_getElem? (i := 239) (by decide +kernel))) (by decide +kernel)
theorem nw_240 : Cond.methodLink "DayEndBank" 207 ny_B_isParty ∈ zw_big := zw_mem (List.mem_append_right _ (List.mem_append_left _ (List.mem_of_getElem? (i := 0) (by decide +kernel)))) (by decide +kernel)
theorem nw_242 : Cond.instanceMethod ny_B_isParty ∈ zw_big := zw_mem (List.mem_append_right _ (List.mem_append_left _ (List.mem_of_getElem? (i := 2) (by decide +kernel)))) (by decide +kernel)
theorem nw_243 : Cond.code ny_B_isParty nc_B_isParty 2 (some .boolean) ∈ zw_big := zw_mem (List.mem_append_right _ (List.mem_append_left _ (List.mem_of_getElem? (i := 3) (by decide +kernel)))) (by decide +kernel)
theorem nw_244 : Cond.methodLink "DayEndBank" 110 ny_B_accountOf ∈ zw_big := zw_mem (List.mem_append_right _ (List.mem_append_left _ (List.mem_of_getElem? (i := 4) (by decide +kernel)))) (by decide +kernel)
theorem nw_246 : Cond.instanceMethod ny_B_accountOf ∈ zw_big := zw_mem (List.mem_append_right _ (List.mem_append_left _ (List.mem_of_getElem? (i := 6) (by decide +kernel)))) (by decide +kernel)
theorem nw_247 : Cond.code ny_B_accountOf nc_B_accountOf 2 (some (.object "DayEndBank$Account")) ∈ zw_big := zw_mem (List.mem_append_right _ (List.mem_append_left _ (List.mem_of_getElem? (i := 7) (by decide +kernel)))) (by decide +kernel)
theorem nw_248 : Cond.methodLink "DayEndBank" 107 ny_B_isAmount ∈ zw_big := zw_mem (List.mem_append_right _ (List.mem_append_left _ (List.mem_of_getElem? (i := 8) (by decide +kernel)))) (by decide +kernel)
theorem nw_249 : Cond.static ny_B_isAmount ∈ zw_big := zw_mem (List.mem_append_right _ (List.mem_append_left _ (List.mem_of_getElem? (i := 9) (by decide +kernel)))) (by decide +kernel)
theorem nw_250 : Cond.code ny_B_isAmount nc_B_isAmount 1 (some .boolean) ∈ zw_big := zw_mem (List.mem_append_right _ (List.mem_append_left _ (List.mem_of_getElem? (i := 10) (by decide +kernel)))) (by decide +kernel)
theorem nw_251 : Cond.methodLink "DayEndBank" 114 ny_A_spendable ∈ zw_big := zw_mem (List.mem_append_right _ (List.mem_append_left _ (List.mem_of_getElem? (i := 11) (by decide +kernel)))) (by decide +kernel)
theorem nw_252 : Cond.instanceMethod ny_A_spendable ∈ zw_big := zw_mem (List.mem_append_right _ (List.mem_append_left _ (List.mem_of_getElem? (i := 12) (by decide +kernel)))) (by decide +kernel)
theorem nw_253 : Cond.selects "DayEndBank$Account" ny_A_spendable ny_A_spendable ∈ zw_big := zw_mem (List.mem_append_right _ (List.mem_append_left _ (List.mem_of_getElem? (i := 13) (by decide +kernel)))) (by decide +kernel)
theorem nw_254 : Cond.code ny_A_spendable nc_A_spendable 1 (some .long) ∈ zw_big := zw_mem (List.mem_append_right _ (List.mem_append_left _ (List.mem_of_getElem? (i := 14) (by decide +kernel)))) (by decide +kernel)
theorem nw_255 : Cond.methodLink "DayEndBank" 118 ny_B_transfer ∈ zw_big := zw_mem (List.mem_append_right _ (List.mem_append_left _ (List.mem_of_getElem? (i := 15) (by decide +kernel)))) (by decide +kernel)
theorem nw_257 : Cond.instanceMethod ny_B_transfer ∈ zw_big := zw_mem (List.mem_append_right _ (List.mem_append_left _ (List.mem_of_getElem? (i := 17) (by decide +kernel)))) (by decide +kernel)
theorem nw_258 : Cond.code ny_B_transfer nc_B_transfer 4 none ∈ zw_big := zw_mem (List.mem_append_right _ (List.mem_append_left _ (List.mem_of_getElem? (i := 18) (by decide +kernel)))) (by decide +kernel)
theorem nw_259 : Cond.methodLink "DayEndBankLaw" 23 ny_B_hold ∈ zw_big := zw_mem (List.mem_append_right _ (List.mem_append_left _ (List.mem_of_getElem? (i := 19) (by decide +kernel)))) (by decide +kernel)
theorem nw_260 : Cond.instanceMethod ny_B_hold ∈ zw_big := zw_mem (List.mem_append_right _ (List.mem_append_left _ (List.mem_of_getElem? (i := 20) (by decide +kernel)))) (by decide +kernel)
theorem nw_261 : Cond.selects "DayEndBank" ny_B_hold ny_B_hold ∈ zw_big := zw_mem (List.mem_append_right _ (List.mem_append_left _ (List.mem_of_getElem? (i := 21) (by decide +kernel)))) (by decide +kernel)
theorem nw_262 : Cond.code ny_B_hold nc_B_hold 6 (some .int) ∈ zw_big := zw_mem (List.mem_append_right _ (List.mem_append_left _ (List.mem_of_getElem? (i := 22) (by decide +kernel)))) (by decide +kernel)
theorem nw_263 : Cond.methodLink "DayEndBank" 122 ny_B_leastFreeHold ∈ zw_big := zw_mem (List.mem_append_right _ (List.mem_append_left _ (List.mem_of_getElem? (i := 23) (by decide +kernel)))) (by decide +kernel)
theorem nw_265 : Cond.instanceMethod ny_B_leastFreeHold ∈ zw_big := zw_mem (List.mem_append_right _ (List.mem_append_left _ (List.mem_of_getElem? (i := 25) (by decide +kernel)))) (by decide +kernel)
theorem nw_266 : Cond.code ny_B_leastFreeHold nc_B_leastFreeHold 2 (some .int) ∈ zw_big := zw_mem (List.mem_append_right _ (List.mem_append_left _ (List.mem_of_getElem? (i := 26) (by decide +kernel)))) (by decide +kernel)
theorem nw_267 : Cond.methodLink "DayEndBank" 125 ny_H_begin ∈ zw_big := zw_mem (List.mem_append_right _ (List.mem_append_left _ (List.mem_of_getElem? (i := 27) (by decide +kernel)))) (by decide +kernel)
theorem nw_268 : Cond.instanceMethod ny_H_begin ∈ zw_big := zw_mem (List.mem_append_right _ (List.mem_append_left _ (List.mem_of_getElem? (i := 28) (by decide +kernel)))) (by decide +kernel)
theorem nw_269 : Cond.selects "DayEndBank$Hold" ny_H_begin ny_H_begin ∈ zw_big := zw_mem (List.mem_append_right _ (List.mem_append_left _ (List.mem_of_getElem? (i := 29) (by decide +kernel)))) (by decide +kernel)
theorem nw_270 : Cond.code ny_H_begin nc_H_begin 3 none ∈ zw_big := zw_mem (List.mem_append_right _ (List.mem_append_left _ (List.mem_of_getElem? (i := 30) (by decide +kernel)))) (by decide +kernel)
theorem nw_271 : Cond.methodLink "DayEndBankLaw" 28 ny_B_release ∈ zw_big := zw_mem (List.mem_append_right _ (List.mem_append_left _ (List.mem_of_getElem? (i := 31) (by decide +kernel)))) (by decide +kernel)
theorem nw_272 : Cond.instanceMethod ny_B_release ∈ zw_big := zw_mem (List.mem_append_right _ (List.mem_append_left _ (List.mem_of_getElem? (i := 32) (by decide +kernel)))) (by decide +kernel)
theorem nw_273 : Cond.selects "DayEndBank" ny_B_release ny_B_release ∈ zw_big := zw_mem (List.mem_append_right _ (List.mem_append_left _ (List.mem_of_getElem? (i := 33) (by decide +kernel)))) (by decide +kernel)
theorem nw_274 : Cond.code ny_B_release nc_B_release 4 (some .int) ∈ zw_big := zw_mem (List.mem_append_right _ (List.mem_append_left _ (List.mem_of_getElem? (i := 34) (by decide +kernel)))) (by decide +kernel)
theorem nw_275 : Cond.methodLink "DayEndBank" 129 ny_B_standingHold ∈ zw_big := zw_mem (List.mem_append_right _ (List.mem_append_left _ (List.mem_of_getElem? (i := 35) (by decide +kernel)))) (by decide +kernel)
theorem nw_277 : Cond.instanceMethod ny_B_standingHold ∈ zw_big := zw_mem (List.mem_append_right _ (List.mem_append_left _ (List.mem_of_getElem? (i := 37) (by decide +kernel)))) (by decide +kernel)
theorem nw_278 : Cond.code ny_B_standingHold nc_B_standingHold 2 (some (.object "DayEndBank$Hold")) ∈ zw_big := zw_mem (List.mem_append_right _ (List.mem_append_left _ (List.mem_of_getElem? (i := 38) (by decide +kernel)))) (by decide +kernel)
theorem nw_279 : Cond.methodLink "DayEndBank" 137 ny_H_end ∈ zw_big := zw_mem (List.mem_append_right _ (List.mem_append_left _ (List.mem_of_getElem? (i := 39) (by decide +kernel)))) (by decide +kernel)
theorem nw_280 : Cond.instanceMethod ny_H_end ∈ zw_big := zw_mem (List.mem_append_right _ (List.mem_append_left _ (List.mem_of_getElem? (i := 40) (by decide +kernel)))) (by decide +kernel)
theorem nw_281 : Cond.selects "DayEndBank$Hold" ny_H_end ny_H_end ∈ zw_big := zw_mem (List.mem_append_right _ (List.mem_append_left _ (List.mem_of_getElem? (i := 41) (by decide +kernel)))) (by decide +kernel)
theorem nw_282 : Cond.code ny_H_end nc_H_end 1 none ∈ zw_big := zw_mem (List.mem_append_right _ (List.mem_append_left _ (List.mem_of_getElem? (i := 42) (by decide +kernel)))) (by decide +kernel)
theorem nw_283 : Cond.methodLink "DayEndBankLaw" 33 ny_B_settle ∈ zw_big := zw_mem (List.mem_append_right _ (List.mem_append_left _ (List.mem_of_getElem? (i := 43) (by decide +kernel)))) (by decide +kernel)
theorem nw_284 : Cond.instanceMethod ny_B_settle ∈ zw_big := zw_mem (List.mem_append_right _ (List.mem_append_left _ (List.mem_of_getElem? (i := 44) (by decide +kernel)))) (by decide +kernel)
theorem nw_285 : Cond.selects "DayEndBank" ny_B_settle ny_B_settle ∈ zw_big := zw_mem (List.mem_append_right _ (List.mem_append_left _ (List.mem_of_getElem? (i := 45) (by decide +kernel)))) (by decide +kernel)
theorem nw_286 : Cond.code ny_B_settle nc_B_settle 8 (some .int) ∈ zw_big := zw_mem (List.mem_append_right _ (List.mem_append_left _ (List.mem_of_getElem? (i := 46) (by decide +kernel)))) (by decide +kernel)
theorem nw_287 : Cond.methodLink "DayEndBankLaw" 37 ny_B_order ∈ zw_big := zw_mem (List.mem_append_right _ (List.mem_append_left _ (List.mem_of_getElem? (i := 47) (by decide +kernel)))) (by decide +kernel)
theorem nw_288 : Cond.instanceMethod ny_B_order ∈ zw_big := zw_mem (List.mem_append_right _ (List.mem_append_left _ (List.mem_of_getElem? (i := 48) (by decide +kernel)))) (by decide +kernel)
theorem nw_289 : Cond.selects "DayEndBank" ny_B_order ny_B_order ∈ zw_big := zw_mem (List.mem_append_right _ (List.mem_append_left _ (List.mem_of_getElem? (i := 49) (by decide +kernel)))) (by decide +kernel)
theorem nw_290 : Cond.code ny_B_order nc_B_order 8 (some .int) ∈ zw_big := zw_mem (List.mem_append_right _ (List.mem_append_left _ (List.mem_of_getElem? (i := 50) (by decide +kernel)))) (by decide +kernel)
theorem nw_291 : Cond.methodLink "DayEndBank" 146 ny_O_make ∈ zw_big := zw_mem (List.mem_append_right _ (List.mem_append_left _ (List.mem_of_getElem? (i := 51) (by decide +kernel)))) (by decide +kernel)
theorem nw_292 : Cond.instanceMethod ny_O_make ∈ zw_big := zw_mem (List.mem_append_right _ (List.mem_append_left _ (List.mem_of_getElem? (i := 52) (by decide +kernel)))) (by decide +kernel)
theorem nw_293 : Cond.selects "DayEndBank$Order" ny_O_make ny_O_make ∈ zw_big := zw_mem (List.mem_append_right _ (List.mem_append_left _ (List.mem_of_getElem? (i := 53) (by decide +kernel)))) (by decide +kernel)
theorem nw_294 : Cond.code ny_O_make nc_O_make 5 none ∈ zw_big := zw_mem (List.mem_append_right _ (List.mem_append_left _ (List.mem_of_getElem? (i := 54) (by decide +kernel)))) (by decide +kernel)
theorem nw_295 : Cond.methodLink "DayEndBankLaw" 41 ny_B_rest ∈ zw_big := zw_mem (List.mem_append_right _ (List.mem_append_left _ (List.mem_of_getElem? (i := 55) (by decide +kernel)))) (by decide +kernel)
theorem nw_296 : Cond.instanceMethod ny_B_rest ∈ zw_big := zw_mem (List.mem_append_right _ (List.mem_append_left _ (List.mem_of_getElem? (i := 56) (by decide +kernel)))) (by decide +kernel)
theorem nw_297 : Cond.selects "DayEndBank" ny_B_rest ny_B_rest ∈ zw_big := zw_mem (List.mem_append_right _ (List.mem_append_left _ (List.mem_of_getElem? (i := 57) (by decide +kernel)))) (by decide +kernel)
theorem nw_298 : Cond.code ny_B_rest nc_B_rest 3 (some .int) ∈ zw_big := zw_mem (List.mem_append_right _ (List.mem_append_left _ (List.mem_of_getElem? (i := 58) (by decide +kernel)))) (by decide +kernel)
theorem nw_299 : Cond.methodLink "DayEndBank" 150 ny_R_isRest ∈ zw_big := zw_mem (List.mem_append_right _ (List.mem_append_left _ (List.mem_of_getElem? (i := 59) (by decide +kernel)))) (by decide +kernel)
theorem nw_300 : Cond.instanceMethod ny_R_isRest ∈ zw_big := zw_mem (List.mem_append_right _ (List.mem_append_left _ (List.mem_of_getElem? (i := 60) (by decide +kernel)))) (by decide +kernel)
theorem nw_301 : Cond.selects "DayEndBank$RestDays" ny_R_isRest ny_R_isRest ∈ zw_big := zw_mem (List.mem_append_right _ (List.mem_append_left _ (List.mem_of_getElem? (i := 61) (by decide +kernel)))) (by decide +kernel)
theorem nw_302 : Cond.code ny_R_isRest nc_R_isRest 3 (some .boolean) ∈ zw_big := zw_mem (List.mem_append_right _ (List.mem_append_left _ (List.mem_of_getElem? (i := 62) (by decide +kernel)))) (by decide +kernel)
theorem nw_303 : Cond.methodLink "DayEndBank$RestDays" 21 ny_R_wasMade ∈ zw_big := zw_mem (List.mem_append_right _ (List.mem_append_left _ (List.mem_of_getElem? (i := 63) (by decide +kernel)))) (by decide +kernel)
theorem nw_305 : Cond.instanceMethod ny_R_wasMade ∈ zw_big := zw_mem (List.mem_append_right _ (List.mem_append_left _ (List.mem_of_getElem? (i := 65) (by decide +kernel)))) (by decide +kernel)
theorem nw_306 : Cond.code ny_R_wasMade nc_R_wasMade 3 (some .boolean) ∈ zw_big := zw_mem (List.mem_append_right _ (List.mem_append_left _ (List.mem_of_getElem? (i := 66) (by decide +kernel)))) (by decide +kernel)
theorem nw_307 : Cond.methodLink "DayEndBank" 153 ny_B_isInLaterMonth ∈ zw_big := zw_mem (List.mem_append_right _ (List.mem_append_left _ (List.mem_of_getElem? (i := 67) (by decide +kernel)))) (by decide +kernel)
theorem nw_309 : Cond.instanceMethod ny_B_isInLaterMonth ∈ zw_big := zw_mem (List.mem_append_right _ (List.mem_append_left _ (List.mem_of_getElem? (i := 69) (by decide +kernel)))) (by decide +kernel)
theorem nw_310 : Cond.code ny_B_isInLaterMonth nc_B_isInLaterMonth 3 (some .boolean) ∈ zw_big := zw_mem (List.mem_append_right _ (List.mem_append_left _ (List.mem_of_getElem? (i := 70) (by decide +kernel)))) (by decide +kernel)
theorem nw_311 : Cond.methodLink "DayEndBank" 210 ny_C_monthAndDay ∈ zw_big := zw_mem (List.mem_append_right _ (List.mem_append_left _ (List.mem_of_getElem? (i := 71) (by decide +kernel)))) (by decide +kernel)
theorem nw_312 : Cond.static ny_C_monthAndDay ∈ zw_big := zw_mem (List.mem_append_right _ (List.mem_append_left _ (List.mem_of_getElem? (i := 72) (by decide +kernel)))) (by decide +kernel)
theorem nw_313 : Cond.code ny_C_monthAndDay nc_C_monthAndDay 10 (some .int) ∈ zw_big := zw_mem (List.mem_append_right _ (List.mem_append_left _ (List.mem_of_getElem? (i := 73) (by decide +kernel)))) (by decide +kernel)
theorem nw_314 : Cond.constant "DayEndBank$Calendar" 28 (146097) ∈ zw_big := zw_mem (List.mem_append_right _ (List.mem_append_left _ (List.mem_of_getElem? (i := 74) (by decide +kernel)))) (by decide +kernel)
theorem nw_315 : Cond.methodLink "DayEndBank$Calendar" 29 ny_T_floorDiv ∈ zw_big := zw_mem (List.mem_append_right _ (List.mem_append_left _ (List.mem_of_getElem? (i := 75) (by decide +kernel)))) (by decide +kernel)
theorem nw_316 : Cond.static ny_T_floorDiv ∈ zw_big := zw_mem (List.mem_append_right _ (List.mem_append_left _ (List.mem_of_getElem? (i := 76) (by decide +kernel)))) (by decide +kernel)
theorem nw_317 : Cond.code ny_T_floorDiv nc_T_floorDiv 3 (some .int) ∈ zw_big := zw_mem (List.mem_append_right _ (List.mem_append_left _ (List.mem_of_getElem? (i := 77) (by decide +kernel)))) (by decide +kernel)
theorem nw_318 : Cond.methodLink "DayEndBank$Calendar" 32 ny_T_floorMod ∈ zw_big := zw_mem (List.mem_append_right _ (List.mem_append_left _ (List.mem_of_getElem? (i := 78) (by decide +kernel)))) (by decide +kernel)
theorem nw_319 : Cond.static ny_T_floorMod ∈ zw_big := zw_mem (List.mem_append_right _ (List.mem_append_left _ (List.mem_of_getElem? (i := 79) (by decide +kernel)))) (by decide +kernel)
theorem nw_320 : Cond.code ny_T_floorMod nc_T_floorMod 3 (some .int) ∈ zw_big := zw_mem (List.mem_append_right _ (List.mem_append_left _ (List.mem_of_getElem? (i := 80) (by decide +kernel)))) (by decide +kernel)
theorem nw_321 : Cond.constant "DayEndBank$Calendar" 35 (36524) ∈ zw_big := zw_mem (List.mem_append_right _ (List.mem_append_left _ (List.mem_of_getElem? (i := 81) (by decide +kernel)))) (by decide +kernel)
theorem nw_322 : Cond.constant "DayEndBank$Calendar" 36 (146096) ∈ zw_big := zw_mem (List.mem_append_right _ (List.mem_append_left _ (List.mem_of_getElem? (i := 82) (by decide +kernel)))) (by decide +kernel)
theorem nw_323 : Cond.methodLink "DayEndBank" 214 ny_C_monthIn ∈ zw_big := zw_mem (List.mem_append_right _ (List.mem_append_left _ (List.mem_of_getElem? (i := 83) (by decide +kernel)))) (by decide +kernel)
theorem nw_324 : Cond.static ny_C_monthIn ∈ zw_big := zw_mem (List.mem_append_right _ (List.mem_append_left _ (List.mem_of_getElem? (i := 84) (by decide +kernel)))) (by decide +kernel)
theorem nw_325 : Cond.code ny_C_monthIn nc_C_monthIn 1 (some .int) ∈ zw_big := zw_mem (List.mem_append_right _ (List.mem_append_left _ (List.mem_of_getElem? (i := 85) (by decide +kernel)))) (by decide +kernel)
theorem nw_326 : Cond.methodLink "DayEndBank" 156 ny_R_isFull ∈ zw_big := zw_mem (List.mem_append_right _ (List.mem_append_left _ (List.mem_of_getElem? (i := 86) (by decide +kernel)))) (by decide +kernel)
theorem nw_327 : Cond.instanceMethod ny_R_isFull ∈ zw_big := zw_mem (List.mem_append_right _ (List.mem_append_left _ (List.mem_of_getElem? (i := 87) (by decide +kernel)))) (by decide +kernel)
theorem nw_328 : Cond.selects "DayEndBank$RestDays" ny_R_isFull ny_R_isFull ∈ zw_big := zw_mem (List.mem_append_right _ (List.mem_append_left _ (List.mem_of_getElem? (i := 88) (by decide +kernel)))) (by decide +kernel)
theorem nw_329 : Cond.code ny_R_isFull nc_R_isFull 1 (some .boolean) ∈ zw_big := zw_mem (List.mem_append_right _ (List.mem_append_left _ (List.mem_of_getElem? (i := 89) (by decide +kernel)))) (by decide +kernel)
theorem nw_330 : Cond.methodLink "DayEndBank" 160 ny_R_add ∈ zw_big := zw_mem (List.mem_append_right _ (List.mem_append_left _ (List.mem_of_getElem? (i := 90) (by decide +kernel)))) (by decide +kernel)
theorem nw_331 : Cond.instanceMethod ny_R_add ∈ zw_big := zw_mem (List.mem_append_right _ (List.mem_append_left _ (List.mem_of_getElem? (i := 91) (by decide +kernel)))) (by decide +kernel)
theorem nw_332 : Cond.selects "DayEndBank$RestDays" ny_R_add ny_R_add ∈ zw_big := zw_mem (List.mem_append_right _ (List.mem_append_left _ (List.mem_of_getElem? (i := 92) (by decide +kernel)))) (by decide +kernel)
theorem nw_333 : Cond.code ny_R_add nc_R_add 2 none ∈ zw_big := zw_mem (List.mem_append_right _ (List.mem_append_left _ (List.mem_of_getElem? (i := 93) (by decide +kernel)))) (by decide +kernel)
theorem nw_334 : Cond.methodLink "DayEndBank$RestDays" 17 ny_R_isFull ∈ zw_big := zw_mem (List.mem_append_right _ (List.mem_append_left _ (List.mem_of_getElem? (i := 94) (by decide +kernel)))) (by decide +kernel)
theorem nw_335 : Cond.methodLink "DayEndBankLaw" 45 ny_B_run ∈ zw_big := zw_mem (List.mem_append_right _ (List.mem_append_left _ (List.mem_of_getElem? (i := 95) (by decide +kernel)))) (by decide +kernel)
theorem nw_336 : Cond.instanceMethod ny_B_run ∈ zw_big := zw_mem (List.mem_append_right _ (List.mem_append_left _ (List.mem_of_getElem? (i := 96) (by decide +kernel)))) (by decide +kernel)
theorem nw_337 : Cond.selects "DayEndBank" ny_B_run ny_B_run ∈ zw_big := zw_mem (List.mem_append_right _ (List.mem_append_left _ (List.mem_of_getElem? (i := 97) (by decide +kernel)))) (by decide +kernel)
theorem nw_338 : Cond.code ny_B_run nc_B_run 3 (some .int) ∈ zw_big := zw_mem (List.mem_append_right _ (List.mem_append_left _ (List.mem_of_getElem? (i := 98) (by decide +kernel)))) (by decide +kernel)
theorem nw_339 : Cond.methodLink "DayEndBank" 167 ny_B_makeDayEnd ∈ zw_big := zw_mem (List.mem_append_right _ (List.mem_append_left _ (List.mem_of_getElem? (i := 99) (by decide +kernel)))) (by decide +kernel)
theorem nw_341 : Cond.instanceMethod ny_B_makeDayEnd ∈ zw_big := zw_mem (List.mem_append_right _ (List.mem_append_left _ (List.mem_of_getElem? (i := 101) (by decide +kernel)))) (by decide +kernel)
theorem nw_342 : Cond.code ny_B_makeDayEnd nc_B_makeDayEnd 2 (some .boolean) ∈ zw_big := zw_mem (List.mem_append_right _ (List.mem_append_left _ (List.mem_of_getElem? (i := 102) (by decide +kernel)))) (by decide +kernel)
theorem nw_343 : Cond.methodLink "DayEndBank" 217 ny_B_makeStep ∈ zw_big := zw_mem (List.mem_append_right _ (List.mem_append_left _ (List.mem_of_getElem? (i := 103) (by decide +kernel)))) (by decide +kernel)
theorem nw_345 : Cond.instanceMethod ny_B_makeStep ∈ zw_big := zw_mem (List.mem_append_right _ (List.mem_append_left _ (List.mem_of_getElem? (i := 105) (by decide +kernel)))) (by decide +kernel)
theorem nw_346 : Cond.code ny_B_makeStep nc_B_makeStep 2 (some .boolean) ∈ zw_big := zw_mem (List.mem_append_right _ (List.mem_append_left _ (List.mem_of_getElem? (i := 106) (by decide +kernel)))) (by decide +kernel)
theorem nw_347 : Cond.methodLink "DayEndBank" 221 ny_B_planOrders ∈ zw_big := zw_mem (List.mem_append_right _ (List.mem_append_left _ (List.mem_of_getElem? (i := 107) (by decide +kernel)))) (by decide +kernel)
theorem nw_349 : Cond.instanceMethod ny_B_planOrders ∈ zw_big := zw_mem (List.mem_append_right _ (List.mem_append_left _ (List.mem_of_getElem? (i := 109) (by decide +kernel)))) (by decide +kernel)
theorem nw_350 : Cond.code ny_B_planOrders nc_B_planOrders 6 none ∈ zw_big := zw_mem (List.mem_append_right _ (List.mem_append_left _ (List.mem_of_getElem? (i := 110) (by decide +kernel)))) (by decide +kernel)
theorem nw_351 : Cond.methodLink "DayEndBank" 246 ny_R_dueDate ∈ zw_big := zw_mem (List.mem_append_right _ (List.mem_append_left _ (List.mem_of_getElem? (i := 111) (by decide +kernel)))) (by decide +kernel)
theorem nw_352 : Cond.instanceMethod ny_R_dueDate ∈ zw_big := zw_mem (List.mem_append_right _ (List.mem_append_left _ (List.mem_of_getElem? (i := 112) (by decide +kernel)))) (by decide +kernel)
theorem nw_353 : Cond.selects "DayEndBank$RestDays" ny_R_dueDate ny_R_dueDate ∈ zw_big := zw_mem (List.mem_append_right _ (List.mem_append_left _ (List.mem_of_getElem? (i := 113) (by decide +kernel)))) (by decide +kernel)
theorem nw_354 : Cond.code ny_R_dueDate nc_R_dueDate 7 (some .int) ∈ zw_big := zw_mem (List.mem_append_right _ (List.mem_append_left _ (List.mem_of_getElem? (i := 114) (by decide +kernel)))) (by decide +kernel)
theorem nw_355 : Cond.methodLink "DayEndBank$RestDays" 25 ny_C_monthAndDay ∈ zw_big := zw_mem (List.mem_append_right _ (List.mem_append_left _ (List.mem_of_getElem? (i := 115) (by decide +kernel)))) (by decide +kernel)
theorem nw_356 : Cond.methodLink "DayEndBank$RestDays" 31 ny_C_dayIn ∈ zw_big := zw_mem (List.mem_append_right _ (List.mem_append_left _ (List.mem_of_getElem? (i := 116) (by decide +kernel)))) (by decide +kernel)
theorem nw_357 : Cond.static ny_C_dayIn ∈ zw_big := zw_mem (List.mem_append_right _ (List.mem_append_left _ (List.mem_of_getElem? (i := 117) (by decide +kernel)))) (by decide +kernel)
theorem nw_358 : Cond.code ny_C_dayIn nc_C_dayIn 1 (some .int) ∈ zw_big := zw_mem (List.mem_append_right _ (List.mem_append_left _ (List.mem_of_getElem? (i := 118) (by decide +kernel)))) (by decide +kernel)
theorem nw_359 : Cond.methodLink "DayEndBank$RestDays" 34 ny_T_min ∈ zw_big := zw_mem (List.mem_append_right _ (List.mem_append_left _ (List.mem_of_getElem? (i := 119) (by decide +kernel)))) (by decide +kernel)
theorem nw_360 : Cond.static ny_T_min ∈ zw_big := zw_mem (List.mem_append_right _ (List.mem_append_left _ (List.mem_of_getElem? (i := 120) (by decide +kernel)))) (by decide +kernel)
theorem nw_361 : Cond.code ny_T_min nc_T_min 2 (some .int) ∈ zw_big := zw_mem (List.mem_append_right _ (List.mem_append_left _ (List.mem_of_getElem? (i := 121) (by decide +kernel)))) (by decide +kernel)
theorem nw_362 : Cond.methodLink "DayEndBank$RestDays" 40 ny_R_isRest ∈ zw_big := zw_mem (List.mem_append_right _ (List.mem_append_left _ (List.mem_of_getElem? (i := 122) (by decide +kernel)))) (by decide +kernel)
theorem nw_363 : Cond.methodLink "DayEndBank" 225 ny_B_writeStep ∈ zw_big := zw_mem (List.mem_append_right _ (List.mem_append_left _ (List.mem_of_getElem? (i := 123) (by decide +kernel)))) (by decide +kernel)
theorem nw_365 : Cond.instanceMethod ny_B_writeStep ∈ zw_big := zw_mem (List.mem_append_right _ (List.mem_append_left _ (List.mem_of_getElem? (i := 125) (by decide +kernel)))) (by decide +kernel)
theorem nw_366 : Cond.code ny_B_writeStep nc_B_writeStep 5 (some .boolean) ∈ zw_big := zw_mem (List.mem_append_right _ (List.mem_append_left _ (List.mem_of_getElem? (i := 126) (by decide +kernel)))) (by decide +kernel)
theorem nw_367 : Cond.methodLink "DayEndBank" 260 ny_D_writeLines ∈ zw_big := zw_mem (List.mem_append_right _ (List.mem_append_left _ (List.mem_of_getElem? (i := 127) (by decide +kernel)))) (by decide +kernel)
theorem nw_368 : Cond.methodLink "DayEndBank" 228 ny_B_carryOutOrders ∈ zw_big := zw_mem (List.mem_append_right _ (List.mem_append_left _ (List.mem_of_getElem? (i := 128) (by decide +kernel)))) (by decide +kernel)
theorem nw_370 : Cond.instanceMethod ny_B_carryOutOrders ∈ zw_big := zw_mem (List.mem_append_right _ (List.mem_append_left _ (List.mem_of_getElem? (i := 130) (by decide +kernel)))) (by decide +kernel)
theorem nw_371 : Cond.code ny_B_carryOutOrders nc_B_carryOutOrders 3 none ∈ zw_big := zw_mem (List.mem_append_right _ (List.mem_append_left _ (List.mem_of_getElem? (i := 131) (by decide +kernel)))) (by decide +kernel)
theorem nw_372 : Cond.methodLink "DayEndBank" 194 ny_C_dayCount ∈ zw_big := zw_mem (List.mem_append_right _ (List.mem_append_left _ (List.mem_of_getElem? (i := 132) (by decide +kernel)))) (by decide +kernel)
theorem nw_373 : Cond.static ny_C_dayCount ∈ zw_big := zw_mem (List.mem_append_right _ (List.mem_append_left _ (List.mem_of_getElem? (i := 133) (by decide +kernel)))) (by decide +kernel)
theorem nw_374 : Cond.code ny_C_dayCount nc_C_dayCount 3 (some .int) ∈ zw_big := zw_mem (List.mem_append_right _ (List.mem_append_left _ (List.mem_of_getElem? (i := 134) (by decide +kernel)))) (by decide +kernel)
theorem nw_375 : Cond.methodLink "DayEndBank$Calendar" 9 ny_C_countByMonths ∈ zw_big := zw_mem (List.mem_append_right _ (List.mem_append_left _ (List.mem_of_getElem? (i := 135) (by decide +kernel)))) (by decide +kernel)
theorem nw_376 : Cond.static ny_C_countByMonths ∈ zw_big := zw_mem (List.mem_append_right _ (List.mem_append_left _ (List.mem_of_getElem? (i := 136) (by decide +kernel)))) (by decide +kernel)
theorem nw_377 : Cond.code ny_C_countByMonths nc_C_countByMonths 6 (some .int) ∈ zw_big := zw_mem (List.mem_append_right _ (List.mem_append_left _ (List.mem_of_getElem? (i := 137) (by decide +kernel)))) (by decide +kernel)
theorem nw_378 : Cond.methodLink "DayEndBank$Calendar" 13 ny_C_monthAndDay ∈ zw_big := zw_mem (List.mem_append_right _ (List.mem_append_left _ (List.mem_of_getElem? (i := 138) (by decide +kernel)))) (by decide +kernel)
theorem nw_379 : Cond.methodLink "DayEndBank$Calendar" 17 ny_C_dayIn ∈ zw_big := zw_mem (List.mem_append_right _ (List.mem_append_left _ (List.mem_of_getElem? (i := 139) (by decide +kernel)))) (by decide +kernel)
theorem nw_380 : Cond.methodLink "DayEndBank$Calendar" 20 ny_T_min ∈ zw_big := zw_mem (List.mem_append_right _ (List.mem_append_left _ (List.mem_of_getElem? (i := 140) (by decide +kernel)))) (by decide +kernel)
theorem nw_381 : Cond.methodLink "DayEndBank$Calendar" 25 ny_C_monthIn ∈ zw_big := zw_mem (List.mem_append_right _ (List.mem_append_left _ (List.mem_of_getElem? (i := 141) (by decide +kernel)))) (by decide +kernel)
theorem nw_382 : Cond.methodLink "DayEndBank" 231 ny_A_accrue ∈ zw_big := zw_mem (List.mem_append_right _ (List.mem_append_left _ (List.mem_of_getElem? (i := 142) (by decide +kernel)))) (by decide +kernel)
theorem nw_383 : Cond.instanceMethod ny_A_accrue ∈ zw_big := zw_mem (List.mem_append_right _ (List.mem_append_left _ (List.mem_of_getElem? (i := 143) (by decide +kernel)))) (by decide +kernel)
theorem nw_384 : Cond.selects "DayEndBank$Account" ny_A_accrue ny_A_accrue ∈ zw_big := zw_mem (List.mem_append_right _ (List.mem_append_left _ (List.mem_of_getElem? (i := 144) (by decide +kernel)))) (by decide +kernel)
theorem nw_385 : Cond.code ny_A_accrue nc_A_accrue 2 none ∈ zw_big := zw_mem (List.mem_append_right _ (List.mem_append_left _ (List.mem_of_getElem? (i := 145) (by decide +kernel)))) (by decide +kernel)
theorem nw_386 : Cond.methodLink "DayEndBank" 234 ny_C_isLastOfMonth ∈ zw_big := zw_mem (List.mem_append_right _ (List.mem_append_left _ (List.mem_of_getElem? (i := 146) (by decide +kernel)))) (by decide +kernel)
theorem nw_387 : Cond.static ny_C_isLastOfMonth ∈ zw_big := zw_mem (List.mem_append_right _ (List.mem_append_left _ (List.mem_of_getElem? (i := 147) (by decide +kernel)))) (by decide +kernel)
theorem nw_388 : Cond.code ny_C_isLastOfMonth nc_C_isLastOfMonth 1 (some .boolean) ∈ zw_big := zw_mem (List.mem_append_right _ (List.mem_append_left _ (List.mem_of_getElem? (i := 148) (by decide +kernel)))) (by decide +kernel)
theorem nw_389 : Cond.methodLink "DayEndBank" 237 ny_A_takeInterest ∈ zw_big := zw_mem (List.mem_append_right _ (List.mem_append_left _ (List.mem_of_getElem? (i := 149) (by decide +kernel)))) (by decide +kernel)
theorem nw_390 : Cond.instanceMethod ny_A_takeInterest ∈ zw_big := zw_mem (List.mem_append_right _ (List.mem_append_left _ (List.mem_of_getElem? (i := 150) (by decide +kernel)))) (by decide +kernel)
theorem nw_391 : Cond.selects "DayEndBank$Account" ny_A_takeInterest ny_A_takeInterest ∈ zw_big := zw_mem (List.mem_append_right _ (List.mem_append_left _ (List.mem_of_getElem? (i := 151) (by decide +kernel)))) (by decide +kernel)
theorem nw_392 : Cond.code ny_A_takeInterest nc_A_takeInterest 5 (some .long) ∈ zw_big := zw_mem (List.mem_append_right _ (List.mem_append_left _ (List.mem_of_getElem? (i := 152) (by decide +kernel)))) (by decide +kernel)
theorem nw_393 : Cond.constantLong "DayEndBank$Account" 29 (10000) ∈ zw_big := zw_mem (List.mem_append_right _ (List.mem_append_left _ (List.mem_of_getElem? (i := 153) (by decide +kernel)))) (by decide +kernel)
theorem nw_394 : Cond.methodLink "DayEndBank$Account" 34 ny_C_yearOf ∈ zw_big := zw_mem (List.mem_append_right _ (List.mem_append_left _ (List.mem_of_getElem? (i := 154) (by decide +kernel)))) (by decide +kernel)
theorem nw_395 : Cond.static ny_C_yearOf ∈ zw_big := zw_mem (List.mem_append_right _ (List.mem_append_left _ (List.mem_of_getElem? (i := 155) (by decide +kernel)))) (by decide +kernel)
theorem nw_396 : Cond.code ny_C_yearOf nc_C_yearOf 1 (some .int) ∈ zw_big := zw_mem (List.mem_append_right _ (List.mem_append_left _ (List.mem_of_getElem? (i := 156) (by decide +kernel)))) (by decide +kernel)
theorem nw_397 : Cond.methodLink "DayEndBank$Account" 40 ny_A_nearest ∈ zw_big := zw_mem (List.mem_append_right _ (List.mem_append_left _ (List.mem_of_getElem? (i := 157) (by decide +kernel)))) (by decide +kernel)
theorem nw_398 : Cond.static ny_A_nearest ∈ zw_big := zw_mem (List.mem_append_right _ (List.mem_append_left _ (List.mem_of_getElem? (i := 158) (by decide +kernel)))) (by decide +kernel)
theorem nw_399 : Cond.code ny_A_nearest nc_A_nearest 10 (some .long) ∈ zw_big := zw_mem (List.mem_append_right _ (List.mem_append_left _ (List.mem_of_getElem? (i := 159) (by decide +kernel)))) (by decide +kernel)
theorem nw_400 : Cond.methodLink "DayEndBank$Account" 44 ny_T_floorDivL ∈ zw_big := zw_mem (List.mem_append_right _ (List.mem_append_left _ (List.mem_of_getElem? (i := 160) (by decide +kernel)))) (by decide +kernel)
theorem nw_401 : Cond.static ny_T_floorDivL ∈ zw_big := zw_mem (List.mem_append_right _ (List.mem_append_left _ (List.mem_of_getElem? (i := 161) (by decide +kernel)))) (by decide +kernel)
theorem nw_402 : Cond.code ny_T_floorDivL nc_T_floorDivL 6 (some .long) ∈ zw_big := zw_mem (List.mem_append_right _ (List.mem_append_left _ (List.mem_of_getElem? (i := 162) (by decide +kernel)))) (by decide +kernel)
theorem nw_403 : Cond.constantLong "DayEndBank$Account" 49 (2) ∈ zw_big := zw_mem (List.mem_append_right _ (List.mem_append_left _ (List.mem_of_getElem? (i := 163) (by decide +kernel)))) (by decide +kernel)
theorem nw_404 : Cond.methodLink "DayEndBankLaw" 49 ny_B_fuse ∈ zw_big := zw_mem (List.mem_append_right _ (List.mem_append_left _ (List.mem_of_getElem? (i := 164) (by decide +kernel)))) (by decide +kernel)
theorem nw_405 : Cond.instanceMethod ny_B_fuse ∈ zw_big := zw_mem (List.mem_append_right _ (List.mem_append_left _ (List.mem_of_getElem? (i := 165) (by decide +kernel)))) (by decide +kernel)
theorem nw_406 : Cond.selects "DayEndBank" ny_B_fuse ny_B_fuse ∈ zw_big := zw_mem (List.mem_append_right _ (List.mem_append_left _ (List.mem_of_getElem? (i := 166) (by decide +kernel)))) (by decide +kernel)
theorem nw_407 : Cond.code ny_B_fuse nc_B_fuse 2 (some .boolean) ∈ zw_big := zw_mem (List.mem_append_right _ (List.mem_append_left _ (List.mem_of_getElem? (i := 167) (by decide +kernel)))) (by decide +kernel)
theorem nw_408 : Cond.methodLink "DayEndBankLaw" 54 ny_B_restart ∈ zw_big := zw_mem (List.mem_append_right _ (List.mem_append_left _ (List.mem_of_getElem? (i := 168) (by decide +kernel)))) (by decide +kernel)
theorem nw_409 : Cond.instanceMethod ny_B_restart ∈ zw_big := zw_mem (List.mem_append_right _ (List.mem_append_left _ (List.mem_of_getElem? (i := 169) (by decide +kernel)))) (by decide +kernel)
theorem nw_410 : Cond.selects "DayEndBank" ny_B_restart ny_B_restart ∈ zw_big := zw_mem (List.mem_append_right _ (List.mem_append_left _ (List.mem_of_getElem? (i := 170) (by decide +kernel)))) (by decide +kernel)
theorem nw_411 : Cond.code ny_B_restart nc_B_restart 1 (some .int) ∈ zw_big := zw_mem (List.mem_append_right _ (List.mem_append_left _ (List.mem_of_getElem? (i := 171) (by decide +kernel)))) (by decide +kernel)
theorem nw_412 : Cond.methodLink "DayEndBankLaw" 59 ny_B_balance ∈ zw_big := zw_mem (List.mem_append_right _ (List.mem_append_left _ (List.mem_of_getElem? (i := 172) (by decide +kernel)))) (by decide +kernel)
theorem nw_413 : Cond.instanceMethod ny_B_balance ∈ zw_big := zw_mem (List.mem_append_right _ (List.mem_append_left _ (List.mem_of_getElem? (i := 173) (by decide +kernel)))) (by decide +kernel)
theorem nw_414 : Cond.selects "DayEndBank" ny_B_balance ny_B_balance ∈ zw_big := zw_mem (List.mem_append_right _ (List.mem_append_left _ (List.mem_of_getElem? (i := 174) (by decide +kernel)))) (by decide +kernel)
theorem nw_415 : Cond.code ny_B_balance nc_B_balance 3 (some .long) ∈ zw_big := zw_mem (List.mem_append_right _ (List.mem_append_left _ (List.mem_of_getElem? (i := 175) (by decide +kernel)))) (by decide +kernel)
theorem nw_416 : Cond.methodLink "DayEndBank" 176 ny_B_shownAccount ∈ zw_big := zw_mem (List.mem_append_right _ (List.mem_append_left _ (List.mem_of_getElem? (i := 176) (by decide +kernel)))) (by decide +kernel)
theorem nw_418 : Cond.instanceMethod ny_B_shownAccount ∈ zw_big := zw_mem (List.mem_append_right _ (List.mem_append_left _ (List.mem_of_getElem? (i := 178) (by decide +kernel)))) (by decide +kernel)
theorem nw_419 : Cond.code ny_B_shownAccount nc_B_shownAccount 2 (some (.object "DayEndBank$Account")) ∈ zw_big := zw_mem (List.mem_append_right _ (List.mem_append_left _ (List.mem_of_getElem? (i := 179) (by decide +kernel)))) (by decide +kernel)
theorem nw_420 : Cond.methodLink "DayEndBankLaw" 64 ny_B_available ∈ zw_big := zw_mem (List.mem_append_right _ (List.mem_append_left _ (List.mem_of_getElem? (i := 180) (by decide +kernel)))) (by decide +kernel)
theorem nw_421 : Cond.instanceMethod ny_B_available ∈ zw_big := zw_mem (List.mem_append_right _ (List.mem_append_left _ (List.mem_of_getElem? (i := 181) (by decide +kernel)))) (by decide +kernel)
theorem nw_422 : Cond.selects "DayEndBank" ny_B_available ny_B_available ∈ zw_big := zw_mem (List.mem_append_right _ (List.mem_append_left _ (List.mem_of_getElem? (i := 182) (by decide +kernel)))) (by decide +kernel)
theorem nw_423 : Cond.code ny_B_available nc_B_available 3 (some .long) ∈ zw_big := zw_mem (List.mem_append_right _ (List.mem_append_left _ (List.mem_of_getElem? (i := 183) (by decide +kernel)))) (by decide +kernel)
theorem nw_424 : Cond.methodLink "DayEndBankLaw" 68 ny_B_accrued ∈ zw_big := zw_mem (List.mem_append_right _ (List.mem_append_left _ (List.mem_of_getElem? (i := 184) (by decide +kernel)))) (by decide +kernel)
theorem nw_425 : Cond.instanceMethod ny_B_accrued ∈ zw_big := zw_mem (List.mem_append_right _ (List.mem_append_left _ (List.mem_of_getElem? (i := 185) (by decide +kernel)))) (by decide +kernel)
theorem nw_426 : Cond.selects "DayEndBank" ny_B_accrued ny_B_accrued ∈ zw_big := zw_mem (List.mem_append_right _ (List.mem_append_left _ (List.mem_of_getElem? (i := 186) (by decide +kernel)))) (by decide +kernel)
theorem nw_427 : Cond.code ny_B_accrued nc_B_accrued 3 (some .long) ∈ zw_big := zw_mem (List.mem_append_right _ (List.mem_append_left _ (List.mem_of_getElem? (i := 187) (by decide +kernel)))) (by decide +kernel)
theorem nw_428 : Cond.methodLink "DayEndBankLaw" 72 ny_B_mark ∈ zw_big := zw_mem (List.mem_append_right _ (List.mem_append_left _ (List.mem_of_getElem? (i := 188) (by decide +kernel)))) (by decide +kernel)
theorem nw_429 : Cond.instanceMethod ny_B_mark ∈ zw_big := zw_mem (List.mem_append_right _ (List.mem_append_left _ (List.mem_of_getElem? (i := 189) (by decide +kernel)))) (by decide +kernel)
theorem nw_430 : Cond.selects "DayEndBank" ny_B_mark ny_B_mark ∈ zw_big := zw_mem (List.mem_append_right _ (List.mem_append_left _ (List.mem_of_getElem? (i := 190) (by decide +kernel)))) (by decide +kernel)
theorem nw_431 : Cond.code ny_B_mark nc_B_mark 3 (some .int) ∈ zw_big := zw_mem (List.mem_append_right _ (List.mem_append_left _ (List.mem_of_getElem? (i := 191) (by decide +kernel)))) (by decide +kernel)
theorem nw_432 : Cond.methodLink "DayEndBankLaw" 76 ny_B_ledger ∈ zw_big := zw_mem (List.mem_append_right _ (List.mem_append_left _ (List.mem_of_getElem? (i := 192) (by decide +kernel)))) (by decide +kernel)
theorem nw_433 : Cond.instanceMethod ny_B_ledger ∈ zw_big := zw_mem (List.mem_append_right _ (List.mem_append_left _ (List.mem_of_getElem? (i := 193) (by decide +kernel)))) (by decide +kernel)
theorem nw_434 : Cond.selects "DayEndBank" ny_B_ledger ny_B_ledger ∈ zw_big := zw_mem (List.mem_append_right _ (List.mem_append_left _ (List.mem_of_getElem? (i := 194) (by decide +kernel)))) (by decide +kernel)
theorem nw_435 : Cond.code ny_B_ledger nc_B_ledger 3 (some .long) ∈ zw_big := zw_mem (List.mem_append_right _ (List.mem_append_left _ (List.mem_of_getElem? (i := 195) (by decide +kernel)))) (by decide +kernel)
theorem nw_436 : Cond.methodLink "DayEndBank" 186 ny_B_sumOfBalances ∈ zw_big := zw_mem (List.mem_append_right _ (List.mem_append_left _ (List.mem_of_getElem? (i := 196) (by decide +kernel)))) (by decide +kernel)
theorem nw_438 : Cond.instanceMethod ny_B_sumOfBalances ∈ zw_big := zw_mem (List.mem_append_right _ (List.mem_append_left _ (List.mem_of_getElem? (i := 198) (by decide +kernel)))) (by decide +kernel)
theorem nw_439 : Cond.code ny_B_sumOfBalances nc_B_sumOfBalances 5 (some .long) ∈ zw_big := zw_mem (List.mem_append_right _ (List.mem_append_left _ (List.mem_of_getElem? (i := 199) (by decide +kernel)))) (by decide +kernel)
theorem nw_440 : Cond.methodLink "DayEndBankLaw" 81 ny_B_missed ∈ zw_big := zw_mem (List.mem_append_right _ (List.mem_append_left _ (List.mem_of_getElem? (i := 200) (by decide +kernel)))) (by decide +kernel)
theorem nw_441 : Cond.instanceMethod ny_B_missed ∈ zw_big := zw_mem (List.mem_append_right _ (List.mem_append_left _ (List.mem_of_getElem? (i := 201) (by decide +kernel)))) (by decide +kernel)
theorem nw_442 : Cond.selects "DayEndBank" ny_B_missed ny_B_missed ∈ zw_big := zw_mem (List.mem_append_right _ (List.mem_append_left _ (List.mem_of_getElem? (i := 202) (by decide +kernel)))) (by decide +kernel)
theorem nw_443 : Cond.code ny_B_missed nc_B_missed 2 (some .int) ∈ zw_big := zw_mem (List.mem_append_right _ (List.mem_append_left _ (List.mem_of_getElem? (i := 203) (by decide +kernel)))) (by decide +kernel)
theorem nw_444 : Cond.methodLink "DayEndBankLaw" 85 ny_B_today ∈ zw_big := zw_mem (List.mem_append_right _ (List.mem_append_left _ (List.mem_of_getElem? (i := 204) (by decide +kernel)))) (by decide +kernel)
theorem nw_445 : Cond.instanceMethod ny_B_today ∈ zw_big := zw_mem (List.mem_append_right _ (List.mem_append_left _ (List.mem_of_getElem? (i := 205) (by decide +kernel)))) (by decide +kernel)
theorem nw_446 : Cond.selects "DayEndBank" ny_B_today ny_B_today ∈ zw_big := zw_mem (List.mem_append_right _ (List.mem_append_left _ (List.mem_of_getElem? (i := 206) (by decide +kernel)))) (by decide +kernel)
theorem nw_447 : Cond.code ny_B_today nc_B_today 1 (some .int) ∈ zw_big := zw_mem (List.mem_append_right _ (List.mem_append_left _ (List.mem_of_getElem? (i := 207) (by decide +kernel)))) (by decide +kernel)
theorem nw_448 : Cond.methodLink "DayEndBankLaw" 89 ny_B_count ∈ zw_big := zw_mem (List.mem_append_right _ (List.mem_append_left _ (List.mem_of_getElem? (i := 208) (by decide +kernel)))) (by decide +kernel)
theorem nw_449 : Cond.instanceMethod ny_B_count ∈ zw_big := zw_mem (List.mem_append_right _ (List.mem_append_left _ (List.mem_of_getElem? (i := 209) (by decide +kernel)))) (by decide +kernel)
theorem nw_450 : Cond.selects "DayEndBank" ny_B_count ny_B_count ∈ zw_big := zw_mem (List.mem_append_right _ (List.mem_append_left _ (List.mem_of_getElem? (i := 210) (by decide +kernel)))) (by decide +kernel)
theorem nw_451 : Cond.code ny_B_count nc_B_count 4 (some .int) ∈ zw_big := zw_mem (List.mem_append_right _ (List.mem_append_left _ (List.mem_of_getElem? (i := 211) (by decide +kernel)))) (by decide +kernel)
theorem nw_452 : Cond.constant "DayEndBank" 193 (99999) ∈ zw_big := zw_mem (List.mem_append_right _ (List.mem_append_left _ (List.mem_of_getElem? (i := 212) (by decide +kernel)))) (by decide +kernel)
theorem nw_453 : Cond.methodLink "DayEndBankLaw" 93 ny_B_writes ∈ zw_big := zw_mem (List.mem_append_right _ (List.mem_append_left _ (List.mem_of_getElem? (i := 213) (by decide +kernel)))) (by decide +kernel)
theorem nw_454 : Cond.instanceMethod ny_B_writes ∈ zw_big := zw_mem (List.mem_append_right _ (List.mem_append_left _ (List.mem_of_getElem? (i := 214) (by decide +kernel)))) (by decide +kernel)
theorem nw_455 : Cond.selects "DayEndBank" ny_B_writes ny_B_writes ∈ zw_big := zw_mem (List.mem_append_right _ (List.mem_append_left _ (List.mem_of_getElem? (i := 215) (by decide +kernel)))) (by decide +kernel)
theorem nw_456 : Cond.code ny_B_writes nc_B_writes 1 (some .int) ∈ zw_big := zw_mem (List.mem_append_right _ (List.mem_append_left _ (List.mem_of_getElem? (i := 216) (by decide +kernel)))) (by decide +kernel)
theorem nw_457 : Cond.methodLink "DayEndBankLaw" 97 ny_B_lines ∈ zw_big := zw_mem (List.mem_append_right _ (List.mem_append_left _ (List.mem_of_getElem? (i := 217) (by decide +kernel)))) (by decide +kernel)
theorem nw_458 : Cond.instanceMethod ny_B_lines ∈ zw_big := zw_mem (List.mem_append_right _ (List.mem_append_left _ (List.mem_of_getElem? (i := 218) (by decide +kernel)))) (by decide +kernel)
theorem nw_459 : Cond.selects "DayEndBank" ny_B_lines ny_B_lines ∈ zw_big := zw_mem (List.mem_append_right _ (List.mem_append_left _ (List.mem_of_getElem? (i := 219) (by decide +kernel)))) (by decide +kernel)
theorem nw_460 : Cond.code ny_B_lines nc_B_lines 1 (some .int) ∈ zw_big := zw_mem (List.mem_append_right _ (List.mem_append_left _ (List.mem_of_getElem? (i := 220) (by decide +kernel)))) (by decide +kernel)
theorem nw_463 : Cond.methodLink "DayEndBankLaw" 12 ny_M_init ∈ zw_big := zw_mem (List.mem_append_right _ (List.mem_append_left _ (List.mem_of_getElem? (i := 223) (by decide +kernel)))) (by decide +kernel)
theorem nw_464 : Cond.instanceMethod ny_M_init ∈ zw_big := zw_mem (List.mem_append_right _ (List.mem_append_left _ (List.mem_of_getElem? (i := 224) (by decide +kernel)))) (by decide +kernel)
theorem nw_465 : Cond.code ny_M_init nc_M_init 1 none ∈ zw_big := zw_mem (List.mem_append_right _ (List.mem_append_left _ (List.mem_of_getElem? (i := 225) (by decide +kernel)))) (by decide +kernel)
theorem nw_467 : Cond.fieldLink "DayEndBankModel" 121 "DayEndBankModel" "accounts" "I" ∈ zw_big := zw_mem (List.mem_append_right _ (List.mem_append_left _ (List.mem_of_getElem? (i := 227) (by decide +kernel)))) (by decide +kernel)
theorem nw_468 : Cond.fieldLink "DayEndBankModel" 7 "DayEndBankModel" "currency" "[I" ∈ zw_big := zw_mem (List.mem_append_right _ (List.mem_append_left _ (List.mem_of_getElem? (i := 228) (by decide +kernel)))) (by decide +kernel)
theorem nw_469 : Cond.fieldLink "DayEndBankModel" 13 "DayEndBankModel" "basis" "[I" ∈ zw_big := zw_mem (List.mem_append_right _ (List.mem_append_left _ (List.mem_of_getElem? (i := 229) (by decide +kernel)))) (by decide +kernel)
theorem nw_470 : Cond.fieldLink "DayEndBankModel" 16 "DayEndBankModel" "limit" "[I" ∈ zw_big := zw_mem (List.mem_append_right _ (List.mem_append_left _ (List.mem_of_getElem? (i := 230) (by decide +kernel)))) (by decide +kernel)
theorem nw_471 : Cond.fieldLink "DayEndBankModel" 19 "DayEndBankModel" "rate" "[I" ∈ zw_big := zw_mem (List.mem_append_right _ (List.mem_append_left _ (List.mem_of_getElem? (i := 231) (by decide +kernel)))) (by decide +kernel)
theorem nw_472 : Cond.fieldLink "DayEndBankModel" 22 "DayEndBankModel" "marked" "[I" ∈ zw_big := zw_mem (List.mem_append_right _ (List.mem_append_left _ (List.mem_of_getElem? (i := 232) (by decide +kernel)))) (by decide +kernel)
theorem nw_473 : Cond.fieldLink "DayEndBankModel" 25 "DayEndBankModel" "money" "[J" ∈ zw_big := zw_mem (List.mem_append_right _ (List.mem_append_left _ (List.mem_of_getElem? (i := 233) (by decide +kernel)))) (by decide +kernel)
theorem nw_474 : Cond.fieldLink "DayEndBankModel" 29 "DayEndBankModel" "accrual" "[J" ∈ zw_big := zw_mem (List.mem_append_right _ (List.mem_append_left _ (List.mem_of_getElem? (i := 234) (by decide +kernel)))) (by decide +kernel)
theorem nw_475 : Cond.fieldLink "DayEndBankModel" 32 "DayEndBankModel" "holdOf" "[I" ∈ zw_big := zw_mem (List.mem_append_right _ (List.mem_append_left _ (List.mem_of_getElem? (i := 235) (by decide +kernel)))) (by decide +kernel)
theorem nw_476 : Cond.fieldLink "DayEndBankModel" 35 "DayEndBankModel" "holdAmount" "[I" ∈ zw_big := zw_mem (List.mem_append_right _ (List.mem_append_left _ (List.mem_of_getElem? (i := 236) (by decide +kernel)))) (by decide +kernel)
theorem nw_477 : Cond.fieldLink "DayEndBankModel" 159 "DayEndBankModel" "orders" "I" ∈ zw_big := zw_mem (List.mem_append_right _ (List.mem_append_left _ (List.mem_of_getElem? (i := 237) (by decide +kernel)))) (by decide +kernel)
theorem nw_478 : Cond.fieldLink "DayEndBankModel" 38 "DayEndBankModel" "payer" "[I" ∈ zw_big := zw_mem (List.mem_append_right _ (List.mem_append_left _ (List.mem_of_getElem? (i := 238) (by decide +kernel)))) (by decide +kernel)
theorem nw_479 : Cond.fieldLink "DayEndBankModel" 41 "DayEndBankModel" "payee" "[I" ∈ zw_big := zw_mem (List.mem_append_right _ (List.mem_append_left _ (List.mem_of_getElem? (i := 239) (by decide +kernel)))) (by decide +kernel)
theorem nw_480 : Cond.fieldLink "DayEndBankModel" 44 "DayEndBankModel" "sum" "[I" ∈ zw_big := zw_mem (List.mem_append_right _ (List.mem_append_right _ (List.mem_append_left _ (List.mem_of_getElem? (i := 0) (by decide +kernel))))) (by decide +kernel)
theorem nw_481 : Cond.fieldLink "DayEndBankModel" 47 "DayEndBankModel" "dayOf" "[I" ∈ zw_big := zw_mem (List.mem_append_right _ (List.mem_append_right _ (List.mem_append_left _ (List.mem_of_getElem? (i := 1) (by decide +kernel))))) (by decide +kernel)
theorem nw_482 : Cond.fieldLink "DayEndBankModel" 50 "DayEndBankModel" "misses" "[I" ∈ zw_big := zw_mem (List.mem_append_right _ (List.mem_append_right _ (List.mem_append_left _ (List.mem_of_getElem? (i := 2) (by decide +kernel))))) (by decide +kernel)
theorem nw_483 : Cond.fieldLink "DayEndBankModel" 87 "DayEndBankModel" "rests" "I" ∈ zw_big := zw_mem (List.mem_append_right _ (List.mem_append_right _ (List.mem_append_left _ (List.mem_of_getElem? (i := 3) (by decide +kernel))))) (by decide +kernel)
theorem nw_484 : Cond.fieldLink "DayEndBankModel" 53 "DayEndBankModel" "restDate" "[I" ∈ zw_big := zw_mem (List.mem_append_right _ (List.mem_append_right _ (List.mem_append_left _ (List.mem_of_getElem? (i := 4) (by decide +kernel))))) (by decide +kernel)
theorem nw_485 : Cond.fieldLink "DayEndBankModel" 56 "DayEndBankModel" "cash" "[J" ∈ zw_big := zw_mem (List.mem_append_right _ (List.mem_append_right _ (List.mem_append_left _ (List.mem_of_getElem? (i := 5) (by decide +kernel))))) (by decide +kernel)
theorem nw_486 : Cond.fieldLink "DayEndBankModel" 59 "DayEndBankModel" "interest" "[J" ∈ zw_big := zw_mem (List.mem_append_right _ (List.mem_append_right _ (List.mem_append_left _ (List.mem_of_getElem? (i := 6) (by decide +kernel))))) (by decide +kernel)
theorem nw_487 : Cond.fieldLink "DayEndBankModel" 90 "DayEndBankModel" "now" "I" ∈ zw_big := zw_mem (List.mem_append_right _ (List.mem_append_right _ (List.mem_append_left _ (List.mem_of_getElem? (i := 7) (by decide +kernel))))) (by decide +kernel)
theorem nw_488 : Cond.fieldLink "DayEndBankModel" 118 "DayEndBankModel" "ending" "Z" ∈ zw_big := zw_mem (List.mem_append_right _ (List.mem_append_right _ (List.mem_append_left _ (List.mem_of_getElem? (i := 8) (by decide +kernel))))) (by decide +kernel)
theorem nw_489 : Cond.fieldLink "DayEndBankModel" 102 "DayEndBankModel" "stopped" "Z" ∈ zw_big := zw_mem (List.mem_append_right _ (List.mem_append_right _ (List.mem_append_left _ (List.mem_of_getElem? (i := 9) (by decide +kernel))))) (by decide +kernel)
theorem nw_490 : Cond.fieldLink "DayEndBankModel" 62 "DayEndBankModel" "left" "I" ∈ zw_big := zw_mem (List.mem_append_right _ (List.mem_append_right _ (List.mem_append_left _ (List.mem_of_getElem? (i := 10) (by decide +kernel))))) (by decide +kernel)
theorem nw_491 : Cond.fieldLink "DayEndBankModel" 96 "DayEndBankModel" "written" "I" ∈ zw_big := zw_mem (List.mem_append_right _ (List.mem_append_right _ (List.mem_append_left _ (List.mem_of_getElem? (i := 11) (by decide +kernel))))) (by decide +kernel)
theorem nw_492 : Cond.fieldLink "DayEndBankModel" 106 "DayEndBankModel" "inLog" "I" ∈ zw_big := zw_mem (List.mem_append_right _ (List.mem_append_right _ (List.mem_append_left _ (List.mem_of_getElem? (i := 12) (by decide +kernel))))) (by decide +kernel)
theorem nw_493 : Cond.fieldLink "DayEndBankModel" 115 "DayEndBankModel" "ended" "I" ∈ zw_big := zw_mem (List.mem_append_right _ (List.mem_append_right _ (List.mem_append_left _ (List.mem_of_getElem? (i := 13) (by decide +kernel))))) (by decide +kernel)
theorem nw_494 : Cond.fieldLink "DayEndBankModel" 109 "DayEndBankModel" "touched" "I" ∈ zw_big := zw_mem (List.mem_append_right _ (List.mem_append_right _ (List.mem_append_left _ (List.mem_of_getElem? (i := 14) (by decide +kernel))))) (by decide +kernel)
theorem nw_495 : Cond.fieldLink "DayEndBankModel" 70 "DayEndBankModel" "year" "I" ∈ zw_big := zw_mem (List.mem_append_right _ (List.mem_append_right _ (List.mem_append_left _ (List.mem_of_getElem? (i := 15) (by decide +kernel))))) (by decide +kernel)
theorem nw_496 : Cond.fieldLink "DayEndBankModel" 73 "DayEndBankModel" "month" "I" ∈ zw_big := zw_mem (List.mem_append_right _ (List.mem_append_right _ (List.mem_append_left _ (List.mem_of_getElem? (i := 16) (by decide +kernel))))) (by decide +kernel)
theorem nw_497 : Cond.fieldLink "DayEndBankModel" 80 "DayEndBankModel" "day" "I" ∈ zw_big := zw_mem (List.mem_append_right _ (List.mem_append_right _ (List.mem_append_left _ (List.mem_of_getElem? (i := 17) (by decide +kernel))))) (by decide +kernel)
theorem nw_498 : Cond.lays "DayEndBankModel" "DayEndBankModel" "accounts" "I" ∈ zw_big := zw_mem (List.mem_append_right _ (List.mem_append_right _ (List.mem_append_left _ (List.mem_of_getElem? (i := 18) (by decide +kernel))))) (by decide +kernel)
theorem nw_500 : Cond.laysFinal "DayEndBankModel" "DayEndBankModel" "currency" "[I" ∈ zw_big := zw_mem (List.mem_append_right _ (List.mem_append_right _ (List.mem_append_left _ (List.mem_of_getElem? (i := 20) (by decide +kernel))))) (by decide +kernel)
theorem nw_502 : Cond.laysFinal "DayEndBankModel" "DayEndBankModel" "basis" "[I" ∈ zw_big := zw_mem (List.mem_append_right _ (List.mem_append_right _ (List.mem_append_left _ (List.mem_of_getElem? (i := 22) (by decide +kernel))))) (by decide +kernel)
theorem nw_504 : Cond.laysFinal "DayEndBankModel" "DayEndBankModel" "limit" "[I" ∈ zw_big := zw_mem (List.mem_append_right _ (List.mem_append_right _ (List.mem_append_left _ (List.mem_of_getElem? (i := 24) (by decide +kernel))))) (by decide +kernel)
theorem nw_506 : Cond.laysFinal "DayEndBankModel" "DayEndBankModel" "rate" "[I" ∈ zw_big := zw_mem (List.mem_append_right _ (List.mem_append_right _ (List.mem_append_left _ (List.mem_of_getElem? (i := 26) (by decide +kernel))))) (by decide +kernel)
theorem nw_508 : Cond.laysFinal "DayEndBankModel" "DayEndBankModel" "marked" "[I" ∈ zw_big := zw_mem (List.mem_append_right _ (List.mem_append_right _ (List.mem_append_left _ (List.mem_of_getElem? (i := 28) (by decide +kernel))))) (by decide +kernel)
theorem nw_510 : Cond.laysFinal "DayEndBankModel" "DayEndBankModel" "money" "[J" ∈ zw_big := zw_mem (List.mem_append_right _ (List.mem_append_right _ (List.mem_append_left _ (List.mem_of_getElem? (i := 30) (by decide +kernel))))) (by decide +kernel)
theorem nw_512 : Cond.laysFinal "DayEndBankModel" "DayEndBankModel" "accrual" "[J" ∈ zw_big := zw_mem (List.mem_append_right _ (List.mem_append_right _ (List.mem_append_left _ (List.mem_of_getElem? (i := 32) (by decide +kernel))))) (by decide +kernel)
theorem nw_514 : Cond.laysFinal "DayEndBankModel" "DayEndBankModel" "holdOf" "[I" ∈ zw_big := zw_mem (List.mem_append_right _ (List.mem_append_right _ (List.mem_append_left _ (List.mem_of_getElem? (i := 34) (by decide +kernel))))) (by decide +kernel)
theorem nw_516 : Cond.laysFinal "DayEndBankModel" "DayEndBankModel" "holdAmount" "[I" ∈ zw_big := zw_mem (List.mem_append_right _ (List.mem_append_right _ (List.mem_append_left _ (List.mem_of_getElem? (i := 36) (by decide +kernel))))) (by decide +kernel)
theorem nw_518 : Cond.lays "DayEndBankModel" "DayEndBankModel" "orders" "I" ∈ zw_big := zw_mem (List.mem_append_right _ (List.mem_append_right _ (List.mem_append_left _ (List.mem_of_getElem? (i := 38) (by decide +kernel))))) (by decide +kernel)
theorem nw_520 : Cond.laysFinal "DayEndBankModel" "DayEndBankModel" "payer" "[I" ∈ zw_big := zw_mem (List.mem_append_right _ (List.mem_append_right _ (List.mem_append_left _ (List.mem_of_getElem? (i := 40) (by decide +kernel))))) (by decide +kernel)
theorem nw_522 : Cond.laysFinal "DayEndBankModel" "DayEndBankModel" "payee" "[I" ∈ zw_big := zw_mem (List.mem_append_right _ (List.mem_append_right _ (List.mem_append_left _ (List.mem_of_getElem? (i := 42) (by decide +kernel))))) (by decide +kernel)
theorem nw_524 : Cond.laysFinal "DayEndBankModel" "DayEndBankModel" "sum" "[I" ∈ zw_big := zw_mem (List.mem_append_right _ (List.mem_append_right _ (List.mem_append_left _ (List.mem_of_getElem? (i := 44) (by decide +kernel))))) (by decide +kernel)
theorem nw_526 : Cond.laysFinal "DayEndBankModel" "DayEndBankModel" "dayOf" "[I" ∈ zw_big := zw_mem (List.mem_append_right _ (List.mem_append_right _ (List.mem_append_left _ (List.mem_of_getElem? (i := 46) (by decide +kernel))))) (by decide +kernel)
theorem nw_528 : Cond.laysFinal "DayEndBankModel" "DayEndBankModel" "misses" "[I" ∈ zw_big := zw_mem (List.mem_append_right _ (List.mem_append_right _ (List.mem_append_left _ (List.mem_of_getElem? (i := 48) (by decide +kernel))))) (by decide +kernel)
theorem nw_530 : Cond.lays "DayEndBankModel" "DayEndBankModel" "rests" "I" ∈ zw_big := zw_mem (List.mem_append_right _ (List.mem_append_right _ (List.mem_append_left _ (List.mem_of_getElem? (i := 50) (by decide +kernel))))) (by decide +kernel)
theorem nw_532 : Cond.laysFinal "DayEndBankModel" "DayEndBankModel" "restDate" "[I" ∈ zw_big := zw_mem (List.mem_append_right _ (List.mem_append_right _ (List.mem_append_left _ (List.mem_of_getElem? (i := 52) (by decide +kernel))))) (by decide +kernel)
theorem nw_534 : Cond.laysFinal "DayEndBankModel" "DayEndBankModel" "cash" "[J" ∈ zw_big := zw_mem (List.mem_append_right _ (List.mem_append_right _ (List.mem_append_left _ (List.mem_of_getElem? (i := 54) (by decide +kernel))))) (by decide +kernel)
theorem nw_536 : Cond.laysFinal "DayEndBankModel" "DayEndBankModel" "interest" "[J" ∈ zw_big := zw_mem (List.mem_append_right _ (List.mem_append_right _ (List.mem_append_left _ (List.mem_of_getElem? (i := 56) (by decide +kernel))))) (by decide +kernel)
theorem nw_538 : Cond.lays "DayEndBankModel" "DayEndBankModel" "now" "I" ∈ zw_big := zw_mem (List.mem_append_right _ (List.mem_append_right _ (List.mem_append_left _ (List.mem_of_getElem? (i := 58) (by decide +kernel))))) (by decide +kernel)
theorem nw_540 : Cond.lays "DayEndBankModel" "DayEndBankModel" "ending" "Z" ∈ zw_big := zw_mem (List.mem_append_right _ (List.mem_append_right _ (List.mem_append_left _ (List.mem_of_getElem? (i := 60) (by decide +kernel))))) (by decide +kernel)
theorem nw_542 : Cond.lays "DayEndBankModel" "DayEndBankModel" "stopped" "Z" ∈ zw_big := zw_mem (List.mem_append_right _ (List.mem_append_right _ (List.mem_append_left _ (List.mem_of_getElem? (i := 62) (by decide +kernel))))) (by decide +kernel)
theorem nw_544 : Cond.lays "DayEndBankModel" "DayEndBankModel" "left" "I" ∈ zw_big := zw_mem (List.mem_append_right _ (List.mem_append_right _ (List.mem_append_left _ (List.mem_of_getElem? (i := 64) (by decide +kernel))))) (by decide +kernel)
theorem nw_546 : Cond.lays "DayEndBankModel" "DayEndBankModel" "written" "I" ∈ zw_big := zw_mem (List.mem_append_right _ (List.mem_append_right _ (List.mem_append_left _ (List.mem_of_getElem? (i := 66) (by decide +kernel))))) (by decide +kernel)
theorem nw_548 : Cond.lays "DayEndBankModel" "DayEndBankModel" "inLog" "I" ∈ zw_big := zw_mem (List.mem_append_right _ (List.mem_append_right _ (List.mem_append_left _ (List.mem_of_getElem? (i := 68) (by decide +kernel))))) (by decide +kernel)
theorem nw_550 : Cond.lays "DayEndBankModel" "DayEndBankModel" "ended" "I" ∈ zw_big := zw_mem (List.mem_append_right _ (List.mem_append_right _ (List.mem_append_left _ (List.mem_of_getElem? (i := 70) (by decide +kernel))))) (by decide +kernel)
theorem nw_552 : Cond.lays "DayEndBankModel" "DayEndBankModel" "touched" "I" ∈ zw_big := zw_mem (List.mem_append_right _ (List.mem_append_right _ (List.mem_append_left _ (List.mem_of_getElem? (i := 72) (by decide +kernel))))) (by decide +kernel)
theorem nw_554 : Cond.lays "DayEndBankModel" "DayEndBankModel" "year" "I" ∈ zw_big := zw_mem (List.mem_append_right _ (List.mem_append_right _ (List.mem_append_left _ (List.mem_of_getElem? (i := 74) (by decide +kernel))))) (by decide +kernel)
theorem nw_556 : Cond.lays "DayEndBankModel" "DayEndBankModel" "month" "I" ∈ zw_big := zw_mem (List.mem_append_right _ (List.mem_append_right _ (List.mem_append_left _ (List.mem_of_getElem? (i := 76) (by decide +kernel))))) (by decide +kernel)
theorem nw_558 : Cond.lays "DayEndBankModel" "DayEndBankModel" "day" "I" ∈ zw_big := zw_mem (List.mem_append_right _ (List.mem_append_right _ (List.mem_append_left _ (List.mem_of_getElem? (i := 78) (by decide +kernel))))) (by decide +kernel)
theorem nw_561 : Cond.methodLink "DayEndBankLaw" 17 ny_M_open ∈ zw_big := zw_mem (List.mem_append_right _ (List.mem_append_right _ (List.mem_append_left _ (List.mem_of_getElem? (i := 81) (by decide +kernel))))) (by decide +kernel)
theorem nw_562 : Cond.instanceMethod ny_M_open ∈ zw_big := zw_mem (List.mem_append_right _ (List.mem_append_right _ (List.mem_append_left _ (List.mem_of_getElem? (i := 82) (by decide +kernel))))) (by decide +kernel)
theorem nw_563 : Cond.selects "DayEndBankModel" ny_M_open ny_M_open ∈ zw_big := zw_mem (List.mem_append_right _ (List.mem_append_right _ (List.mem_append_left _ (List.mem_of_getElem? (i := 83) (by decide +kernel))))) (by decide +kernel)
theorem nw_564 : Cond.code ny_M_open nc_M_open 5 (some .int) ∈ zw_big := zw_mem (List.mem_append_right _ (List.mem_append_right _ (List.mem_append_left _ (List.mem_of_getElem? (i := 84) (by decide +kernel))))) (by decide +kernel)
theorem nw_565 : Cond.methodLink "DayEndBankModel" 125 ny_M_shut ∈ zw_big := zw_mem (List.mem_append_right _ (List.mem_append_right _ (List.mem_append_left _ (List.mem_of_getElem? (i := 85) (by decide +kernel))))) (by decide +kernel)
theorem nw_567 : Cond.instanceMethod ny_M_shut ∈ zw_big := zw_mem (List.mem_append_right _ (List.mem_append_right _ (List.mem_append_left _ (List.mem_of_getElem? (i := 87) (by decide +kernel))))) (by decide +kernel)
theorem nw_568 : Cond.code ny_M_shut nc_M_shut 1 (some .int) ∈ zw_big := zw_mem (List.mem_append_right _ (List.mem_append_right _ (List.mem_append_left _ (List.mem_of_getElem? (i := 88) (by decide +kernel))))) (by decide +kernel)
theorem nw_569 : Cond.constant "DayEndBankModel" 124 (1000000) ∈ zw_big := zw_mem (List.mem_append_right _ (List.mem_append_right _ (List.mem_append_left _ (List.mem_of_getElem? (i := 89) (by decide +kernel))))) (by decide +kernel)
theorem nw_570 : Cond.methodLink "DayEndBankModel" 129 ny_M_comes ∈ zw_big := zw_mem (List.mem_append_right _ (List.mem_append_right _ (List.mem_append_left _ (List.mem_of_getElem? (i := 90) (by decide +kernel))))) (by decide +kernel)
theorem nw_572 : Cond.instanceMethod ny_M_comes ∈ zw_big := zw_mem (List.mem_append_right _ (List.mem_append_right _ (List.mem_append_left _ (List.mem_of_getElem? (i := 92) (by decide +kernel))))) (by decide +kernel)
theorem nw_573 : Cond.code ny_M_comes nc_M_comes 5 (some .boolean) ∈ zw_big := zw_mem (List.mem_append_right _ (List.mem_append_right _ (List.mem_append_left _ (List.mem_of_getElem? (i := 93) (by decide +kernel))))) (by decide +kernel)
theorem nw_574 : Cond.methodLink "DayEndBankModel" 112 ny_M_afford ∈ zw_big := zw_mem (List.mem_append_right _ (List.mem_append_right _ (List.mem_append_left _ (List.mem_of_getElem? (i := 94) (by decide +kernel))))) (by decide +kernel)
theorem nw_576 : Cond.instanceMethod ny_M_afford ∈ zw_big := zw_mem (List.mem_append_right _ (List.mem_append_right _ (List.mem_append_left _ (List.mem_of_getElem? (i := 96) (by decide +kernel))))) (by decide +kernel)
theorem nw_577 : Cond.code ny_M_afford nc_M_afford 2 (some .boolean) ∈ zw_big := zw_mem (List.mem_append_right _ (List.mem_append_right _ (List.mem_append_left _ (List.mem_of_getElem? (i := 97) (by decide +kernel))))) (by decide +kernel)
theorem nw_578 : Cond.methodLink "DayEndBankModel" 99 ny_M_spend ∈ zw_big := zw_mem (List.mem_append_right _ (List.mem_append_right _ (List.mem_append_left _ (List.mem_of_getElem? (i := 98) (by decide +kernel))))) (by decide +kernel)
theorem nw_580 : Cond.instanceMethod ny_M_spend ∈ zw_big := zw_mem (List.mem_append_right _ (List.mem_append_right _ (List.mem_append_left _ (List.mem_of_getElem? (i := 100) (by decide +kernel))))) (by decide +kernel)
theorem nw_581 : Cond.code ny_M_spend nc_M_spend 2 none ∈ zw_big := zw_mem (List.mem_append_right _ (List.mem_append_right _ (List.mem_append_left _ (List.mem_of_getElem? (i := 101) (by decide +kernel))))) (by decide +kernel)
theorem nw_582 : Cond.methodLink "DayEndBankLaw" 22 ny_M_pay ∈ zw_big := zw_mem (List.mem_append_right _ (List.mem_append_right _ (List.mem_append_left _ (List.mem_of_getElem? (i := 102) (by decide +kernel))))) (by decide +kernel)
theorem nw_583 : Cond.instanceMethod ny_M_pay ∈ zw_big := zw_mem (List.mem_append_right _ (List.mem_append_right _ (List.mem_append_left _ (List.mem_of_getElem? (i := 103) (by decide +kernel))))) (by decide +kernel)
theorem nw_584 : Cond.selects "DayEndBankModel" ny_M_pay ny_M_pay ∈ zw_big := zw_mem (List.mem_append_right _ (List.mem_append_right _ (List.mem_append_left _ (List.mem_of_getElem? (i := 104) (by decide +kernel))))) (by decide +kernel)
theorem nw_585 : Cond.code ny_M_pay nc_M_pay 4 (some .int) ∈ zw_big := zw_mem (List.mem_append_right _ (List.mem_append_right _ (List.mem_append_left _ (List.mem_of_getElem? (i := 105) (by decide +kernel))))) (by decide +kernel)
theorem nw_586 : Cond.methodLink "DayEndBankModel" 136 ny_M_pair ∈ zw_big := zw_mem (List.mem_append_right _ (List.mem_append_right _ (List.mem_append_left _ (List.mem_of_getElem? (i := 106) (by decide +kernel))))) (by decide +kernel)
theorem nw_588 : Cond.instanceMethod ny_M_pair ∈ zw_big := zw_mem (List.mem_append_right _ (List.mem_append_right _ (List.mem_append_left _ (List.mem_of_getElem? (i := 108) (by decide +kernel))))) (by decide +kernel)
theorem nw_589 : Cond.code ny_M_pair nc_M_pair 4 (some .boolean) ∈ zw_big := zw_mem (List.mem_append_right _ (List.mem_append_right _ (List.mem_append_left _ (List.mem_of_getElem? (i := 109) (by decide +kernel))))) (by decide +kernel)
theorem nw_590 : Cond.methodLink "DayEndBankModel" 133 ny_M_is ∈ zw_big := zw_mem (List.mem_append_right _ (List.mem_append_right _ (List.mem_append_left _ (List.mem_of_getElem? (i := 110) (by decide +kernel))))) (by decide +kernel)
theorem nw_592 : Cond.instanceMethod ny_M_is ∈ zw_big := zw_mem (List.mem_append_right _ (List.mem_append_right _ (List.mem_append_left _ (List.mem_of_getElem? (i := 112) (by decide +kernel))))) (by decide +kernel)
theorem nw_593 : Cond.code ny_M_is nc_M_is 2 (some .boolean) ∈ zw_big := zw_mem (List.mem_append_right _ (List.mem_append_right _ (List.mem_append_left _ (List.mem_of_getElem? (i := 113) (by decide +kernel))))) (by decide +kernel)
theorem nw_594 : Cond.methodLink "DayEndBankModel" 139 ny_M_amountOk ∈ zw_big := zw_mem (List.mem_append_right _ (List.mem_append_right _ (List.mem_append_left _ (List.mem_of_getElem? (i := 114) (by decide +kernel))))) (by decide +kernel)
theorem nw_596 : Cond.instanceMethod ny_M_amountOk ∈ zw_big := zw_mem (List.mem_append_right _ (List.mem_append_right _ (List.mem_append_left _ (List.mem_of_getElem? (i := 116) (by decide +kernel))))) (by decide +kernel)
theorem nw_597 : Cond.code ny_M_amountOk nc_M_amountOk 2 (some .boolean) ∈ zw_big := zw_mem (List.mem_append_right _ (List.mem_append_right _ (List.mem_append_left _ (List.mem_of_getElem? (i := 117) (by decide +kernel))))) (by decide +kernel)
theorem nw_598 : Cond.methodLink "DayEndBankModel" 142 ny_M_free ∈ zw_big := zw_mem (List.mem_append_right _ (List.mem_append_right _ (List.mem_append_left _ (List.mem_of_getElem? (i := 118) (by decide +kernel))))) (by decide +kernel)
theorem nw_600 : Cond.instanceMethod ny_M_free ∈ zw_big := zw_mem (List.mem_append_right _ (List.mem_append_right _ (List.mem_append_left _ (List.mem_of_getElem? (i := 120) (by decide +kernel))))) (by decide +kernel)
theorem nw_601 : Cond.code ny_M_free nc_M_free 5 (some .long) ∈ zw_big := zw_mem (List.mem_append_right _ (List.mem_append_right _ (List.mem_append_left _ (List.mem_of_getElem? (i := 121) (by decide +kernel))))) (by decide +kernel)
theorem nw_602 : Cond.methodLink "DayEndBankModel" 146 ny_M_linesOf ∈ zw_big := zw_mem (List.mem_append_right _ (List.mem_append_right _ (List.mem_append_left _ (List.mem_of_getElem? (i := 122) (by decide +kernel))))) (by decide +kernel)
theorem nw_604 : Cond.instanceMethod ny_M_linesOf ∈ zw_big := zw_mem (List.mem_append_right _ (List.mem_append_right _ (List.mem_append_left _ (List.mem_of_getElem? (i := 124) (by decide +kernel))))) (by decide +kernel)
theorem nw_605 : Cond.code ny_M_linesOf nc_M_linesOf 3 (some .int) ∈ zw_big := zw_mem (List.mem_append_right _ (List.mem_append_right _ (List.mem_append_left _ (List.mem_of_getElem? (i := 125) (by decide +kernel))))) (by decide +kernel)
theorem nw_606 : Cond.methodLink "DayEndBankModel" 149 ny_M_setOf ∈ zw_big := zw_mem (List.mem_append_right _ (List.mem_append_right _ (List.mem_append_left _ (List.mem_of_getElem? (i := 126) (by decide +kernel))))) (by decide +kernel)
theorem nw_608 : Cond.instanceMethod ny_M_setOf ∈ zw_big := zw_mem (List.mem_append_right _ (List.mem_append_right _ (List.mem_append_left _ (List.mem_of_getElem? (i := 128) (by decide +kernel))))) (by decide +kernel)
theorem nw_609 : Cond.code ny_M_setOf nc_M_setOf 3 (some .int) ∈ zw_big := zw_mem (List.mem_append_right _ (List.mem_append_right _ (List.mem_append_left _ (List.mem_of_getElem? (i := 129) (by decide +kernel))))) (by decide +kernel)
theorem nw_610 : Cond.methodLink "DayEndBankModel" 152 ny_M_transfer ∈ zw_big := zw_mem (List.mem_append_right _ (List.mem_append_right _ (List.mem_append_left _ (List.mem_of_getElem? (i := 130) (by decide +kernel))))) (by decide +kernel)
theorem nw_612 : Cond.instanceMethod ny_M_transfer ∈ zw_big := zw_mem (List.mem_append_right _ (List.mem_append_right _ (List.mem_append_left _ (List.mem_of_getElem? (i := 132) (by decide +kernel))))) (by decide +kernel)
theorem nw_613 : Cond.code ny_M_transfer nc_M_transfer 4 none ∈ zw_big := zw_mem (List.mem_append_right _ (List.mem_append_right _ (List.mem_append_left _ (List.mem_of_getElem? (i := 133) (by decide +kernel))))) (by decide +kernel)
theorem nw_614 : Cond.methodLink "DayEndBankLaw" 27 ny_M_hold ∈ zw_big := zw_mem (List.mem_append_right _ (List.mem_append_right _ (List.mem_append_left _ (List.mem_of_getElem? (i := 134) (by decide +kernel))))) (by decide +kernel)
theorem nw_615 : Cond.instanceMethod ny_M_hold ∈ zw_big := zw_mem (List.mem_append_right _ (List.mem_append_right _ (List.mem_append_left _ (List.mem_of_getElem? (i := 135) (by decide +kernel))))) (by decide +kernel)
theorem nw_616 : Cond.selects "DayEndBankModel" ny_M_hold ny_M_hold ∈ zw_big := zw_mem (List.mem_append_right _ (List.mem_append_right _ (List.mem_append_left _ (List.mem_of_getElem? (i := 136) (by decide +kernel))))) (by decide +kernel)
theorem nw_617 : Cond.code ny_M_hold nc_M_hold 4 (some .int) ∈ zw_big := zw_mem (List.mem_append_right _ (List.mem_append_right _ (List.mem_append_left _ (List.mem_of_getElem? (i := 137) (by decide +kernel))))) (by decide +kernel)
theorem nw_618 : Cond.methodLink "DayEndBankLaw" 32 ny_M_release ∈ zw_big := zw_mem (List.mem_append_right _ (List.mem_append_right _ (List.mem_append_left _ (List.mem_of_getElem? (i := 138) (by decide +kernel))))) (by decide +kernel)
theorem nw_619 : Cond.instanceMethod ny_M_release ∈ zw_big := zw_mem (List.mem_append_right _ (List.mem_append_right _ (List.mem_append_left _ (List.mem_of_getElem? (i := 139) (by decide +kernel))))) (by decide +kernel)
theorem nw_620 : Cond.selects "DayEndBankModel" ny_M_release ny_M_release ∈ zw_big := zw_mem (List.mem_append_right _ (List.mem_append_right _ (List.mem_append_left _ (List.mem_of_getElem? (i := 140) (by decide +kernel))))) (by decide +kernel)
theorem nw_621 : Cond.code ny_M_release nc_M_release 2 (some .int) ∈ zw_big := zw_mem (List.mem_append_right _ (List.mem_append_right _ (List.mem_append_left _ (List.mem_of_getElem? (i := 141) (by decide +kernel))))) (by decide +kernel)
theorem nw_622 : Cond.methodLink "DayEndBankModel" 156 ny_M_stands ∈ zw_big := zw_mem (List.mem_append_right _ (List.mem_append_right _ (List.mem_append_left _ (List.mem_of_getElem? (i := 142) (by decide +kernel))))) (by decide +kernel)
theorem nw_624 : Cond.instanceMethod ny_M_stands ∈ zw_big := zw_mem (List.mem_append_right _ (List.mem_append_right _ (List.mem_append_left _ (List.mem_of_getElem? (i := 144) (by decide +kernel))))) (by decide +kernel)
theorem nw_625 : Cond.code ny_M_stands nc_M_stands 2 (some .boolean) ∈ zw_big := zw_mem (List.mem_append_right _ (List.mem_append_right _ (List.mem_append_left _ (List.mem_of_getElem? (i := 145) (by decide +kernel))))) (by decide +kernel)
theorem nw_626 : Cond.methodLink "DayEndBankLaw" 36 ny_M_settle ∈ zw_big := zw_mem (List.mem_append_right _ (List.mem_append_right _ (List.mem_append_left _ (List.mem_of_getElem? (i := 146) (by decide +kernel))))) (by decide +kernel)
theorem nw_627 : Cond.instanceMethod ny_M_settle ∈ zw_big := zw_mem (List.mem_append_right _ (List.mem_append_right _ (List.mem_append_left _ (List.mem_of_getElem? (i := 147) (by decide +kernel))))) (by decide +kernel)
theorem nw_628 : Cond.selects "DayEndBankModel" ny_M_settle ny_M_settle ∈ zw_big := zw_mem (List.mem_append_right _ (List.mem_append_right _ (List.mem_append_left _ (List.mem_of_getElem? (i := 148) (by decide +kernel))))) (by decide +kernel)
theorem nw_629 : Cond.code ny_M_settle nc_M_settle 5 (some .int) ∈ zw_big := zw_mem (List.mem_append_right _ (List.mem_append_right _ (List.mem_append_left _ (List.mem_of_getElem? (i := 149) (by decide +kernel))))) (by decide +kernel)
theorem nw_630 : Cond.methodLink "DayEndBankLaw" 40 ny_M_order ∈ zw_big := zw_mem (List.mem_append_right _ (List.mem_append_right _ (List.mem_append_left _ (List.mem_of_getElem? (i := 150) (by decide +kernel))))) (by decide +kernel)
theorem nw_631 : Cond.instanceMethod ny_M_order ∈ zw_big := zw_mem (List.mem_append_right _ (List.mem_append_right _ (List.mem_append_left _ (List.mem_of_getElem? (i := 151) (by decide +kernel))))) (by decide +kernel)
theorem nw_632 : Cond.selects "DayEndBankModel" ny_M_order ny_M_order ∈ zw_big := zw_mem (List.mem_append_right _ (List.mem_append_right _ (List.mem_append_left _ (List.mem_of_getElem? (i := 152) (by decide +kernel))))) (by decide +kernel)
theorem nw_633 : Cond.code ny_M_order nc_M_order 5 (some .int) ∈ zw_big := zw_mem (List.mem_append_right _ (List.mem_append_right _ (List.mem_append_left _ (List.mem_of_getElem? (i := 153) (by decide +kernel))))) (by decide +kernel)
theorem nw_634 : Cond.methodLink "DayEndBankLaw" 44 ny_M_rest ∈ zw_big := zw_mem (List.mem_append_right _ (List.mem_append_right _ (List.mem_append_left _ (List.mem_of_getElem? (i := 154) (by decide +kernel))))) (by decide +kernel)
theorem nw_635 : Cond.instanceMethod ny_M_rest ∈ zw_big := zw_mem (List.mem_append_right _ (List.mem_append_right _ (List.mem_append_left _ (List.mem_of_getElem? (i := 155) (by decide +kernel))))) (by decide +kernel)
theorem nw_636 : Cond.selects "DayEndBankModel" ny_M_rest ny_M_rest ∈ zw_big := zw_mem (List.mem_append_right _ (List.mem_append_right _ (List.mem_append_left _ (List.mem_of_getElem? (i := 156) (by decide +kernel))))) (by decide +kernel)
theorem nw_637 : Cond.code ny_M_rest nc_M_rest 2 (some .int) ∈ zw_big := zw_mem (List.mem_append_right _ (List.mem_append_right _ (List.mem_append_left _ (List.mem_of_getElem? (i := 157) (by decide +kernel))))) (by decide +kernel)
theorem nw_638 : Cond.methodLink "DayEndBankModel" 93 ny_M_resting ∈ zw_big := zw_mem (List.mem_append_right _ (List.mem_append_right _ (List.mem_append_left _ (List.mem_of_getElem? (i := 158) (by decide +kernel))))) (by decide +kernel)
theorem nw_640 : Cond.instanceMethod ny_M_resting ∈ zw_big := zw_mem (List.mem_append_right _ (List.mem_append_right _ (List.mem_append_left _ (List.mem_of_getElem? (i := 160) (by decide +kernel))))) (by decide +kernel)
theorem nw_641 : Cond.code ny_M_resting nc_M_resting 4 (some .boolean) ∈ zw_big := zw_mem (List.mem_append_right _ (List.mem_append_right _ (List.mem_append_left _ (List.mem_of_getElem? (i := 161) (by decide +kernel))))) (by decide +kernel)
theorem nw_642 : Cond.methodLink "DayEndBankModel" 162 ny_M_later ∈ zw_big := zw_mem (List.mem_append_right _ (List.mem_append_right _ (List.mem_append_left _ (List.mem_of_getElem? (i := 162) (by decide +kernel))))) (by decide +kernel)
theorem nw_644 : Cond.instanceMethod ny_M_later ∈ zw_big := zw_mem (List.mem_append_right _ (List.mem_append_right _ (List.mem_append_left _ (List.mem_of_getElem? (i := 164) (by decide +kernel))))) (by decide +kernel)
theorem nw_645 : Cond.code ny_M_later nc_M_later 3 (some .boolean) ∈ zw_big := zw_mem (List.mem_append_right _ (List.mem_append_right _ (List.mem_append_left _ (List.mem_of_getElem? (i := 165) (by decide +kernel))))) (by decide +kernel)
theorem nw_646 : Cond.methodLink "DayEndBankModel" 83 ny_M_walk ∈ zw_big := zw_mem (List.mem_append_right _ (List.mem_append_right _ (List.mem_append_left _ (List.mem_of_getElem? (i := 166) (by decide +kernel))))) (by decide +kernel)
theorem nw_648 : Cond.instanceMethod ny_M_walk ∈ zw_big := zw_mem (List.mem_append_right _ (List.mem_append_right _ (List.mem_append_left _ (List.mem_of_getElem? (i := 168) (by decide +kernel))))) (by decide +kernel)
theorem nw_649 : Cond.code ny_M_walk nc_M_walk 4 none ∈ zw_big := zw_mem (List.mem_append_right _ (List.mem_append_right _ (List.mem_append_left _ (List.mem_of_getElem? (i := 169) (by decide +kernel))))) (by decide +kernel)
theorem nw_650 : Cond.methodLink "DayEndBankModel" 66 ny_M_leap ∈ zw_big := zw_mem (List.mem_append_right _ (List.mem_append_right _ (List.mem_append_left _ (List.mem_of_getElem? (i := 170) (by decide +kernel))))) (by decide +kernel)
theorem nw_651 : Cond.static ny_M_leap ∈ zw_big := zw_mem (List.mem_append_right _ (List.mem_append_right _ (List.mem_append_left _ (List.mem_of_getElem? (i := 171) (by decide +kernel))))) (by decide +kernel)
theorem nw_652 : Cond.code ny_M_leap nc_M_leap 1 (some .boolean) ∈ zw_big := zw_mem (List.mem_append_right _ (List.mem_append_right _ (List.mem_append_left _ (List.mem_of_getElem? (i := 172) (by decide +kernel))))) (by decide +kernel)
theorem nw_653 : Cond.methodLink "DayEndBankModel" 76 ny_M_length ∈ zw_big := zw_mem (List.mem_append_right _ (List.mem_append_right _ (List.mem_append_left _ (List.mem_of_getElem? (i := 173) (by decide +kernel))))) (by decide +kernel)
theorem nw_654 : Cond.static ny_M_length ∈ zw_big := zw_mem (List.mem_append_right _ (List.mem_append_right _ (List.mem_append_left _ (List.mem_of_getElem? (i := 174) (by decide +kernel))))) (by decide +kernel)
theorem nw_655 : Cond.code ny_M_length nc_M_length 2 (some .int) ∈ zw_big := zw_mem (List.mem_append_right _ (List.mem_append_right _ (List.mem_append_left _ (List.mem_of_getElem? (i := 175) (by decide +kernel))))) (by decide +kernel)
theorem nw_656 : Cond.methodLink "DayEndBankLaw" 48 ny_M_run ∈ zw_big := zw_mem (List.mem_append_right _ (List.mem_append_right _ (List.mem_append_left _ (List.mem_of_getElem? (i := 176) (by decide +kernel))))) (by decide +kernel)
theorem nw_657 : Cond.instanceMethod ny_M_run ∈ zw_big := zw_mem (List.mem_append_right _ (List.mem_append_right _ (List.mem_append_left _ (List.mem_of_getElem? (i := 177) (by decide +kernel))))) (by decide +kernel)
theorem nw_658 : Cond.selects "DayEndBankModel" ny_M_run ny_M_run ∈ zw_big := zw_mem (List.mem_append_right _ (List.mem_append_right _ (List.mem_append_left _ (List.mem_of_getElem? (i := 178) (by decide +kernel))))) (by decide +kernel)
theorem nw_659 : Cond.code ny_M_run nc_M_run 3 (some .int) ∈ zw_big := zw_mem (List.mem_append_right _ (List.mem_append_right _ (List.mem_append_left _ (List.mem_of_getElem? (i := 179) (by decide +kernel))))) (by decide +kernel)
theorem nw_660 : Cond.methodLink "DayEndBankModel" 186 ny_M_dayEnd ∈ zw_big := zw_mem (List.mem_append_right _ (List.mem_append_right _ (List.mem_append_left _ (List.mem_of_getElem? (i := 180) (by decide +kernel))))) (by decide +kernel)
theorem nw_662 : Cond.instanceMethod ny_M_dayEnd ∈ zw_big := zw_mem (List.mem_append_right _ (List.mem_append_right _ (List.mem_append_left _ (List.mem_of_getElem? (i := 182) (by decide +kernel))))) (by decide +kernel)
theorem nw_663 : Cond.code ny_M_dayEnd nc_M_dayEnd 2 (some .boolean) ∈ zw_big := zw_mem (List.mem_append_right _ (List.mem_append_right _ (List.mem_append_left _ (List.mem_of_getElem? (i := 183) (by decide +kernel))))) (by decide +kernel)
theorem nw_664 : Cond.methodLink "DayEndBankModel" 183 ny_M_step ∈ zw_big := zw_mem (List.mem_append_right _ (List.mem_append_right _ (List.mem_append_left _ (List.mem_of_getElem? (i := 184) (by decide +kernel))))) (by decide +kernel)
theorem nw_666 : Cond.instanceMethod ny_M_step ∈ zw_big := zw_mem (List.mem_append_right _ (List.mem_append_right _ (List.mem_append_left _ (List.mem_of_getElem? (i := 186) (by decide +kernel))))) (by decide +kernel)
theorem nw_667 : Cond.code ny_M_step nc_M_step 6 (some .boolean) ∈ zw_big := zw_mem (List.mem_append_right _ (List.mem_append_right _ (List.mem_append_left _ (List.mem_of_getElem? (i := 187) (by decide +kernel))))) (by decide +kernel)
theorem nw_668 : Cond.methodLink "DayEndBankModel" 168 ny_M_paidOrders ∈ zw_big := zw_mem (List.mem_append_right _ (List.mem_append_right _ (List.mem_append_left _ (List.mem_of_getElem? (i := 188) (by decide +kernel))))) (by decide +kernel)
theorem nw_670 : Cond.instanceMethod ny_M_paidOrders ∈ zw_big := zw_mem (List.mem_append_right _ (List.mem_append_right _ (List.mem_append_left _ (List.mem_of_getElem? (i := 190) (by decide +kernel))))) (by decide +kernel)
theorem nw_671 : Cond.code ny_M_paidOrders nc_M_paidOrders 6 (some .int) ∈ zw_big := zw_mem (List.mem_append_right _ (List.mem_append_right _ (List.mem_append_left _ (List.mem_of_getElem? (i := 191) (by decide +kernel))))) (by decide +kernel)
theorem nw_672 : Cond.methodLink "DayEndBankModel" 165 ny_M_due ∈ zw_big := zw_mem (List.mem_append_right _ (List.mem_append_right _ (List.mem_append_left _ (List.mem_of_getElem? (i := 192) (by decide +kernel))))) (by decide +kernel)
theorem nw_674 : Cond.instanceMethod ny_M_due ∈ zw_big := zw_mem (List.mem_append_right _ (List.mem_append_right _ (List.mem_append_left _ (List.mem_of_getElem? (i := 194) (by decide +kernel))))) (by decide +kernel)
theorem nw_675 : Cond.code ny_M_due nc_M_due 7 (some .boolean) ∈ zw_big := zw_mem (List.mem_append_right _ (List.mem_append_right _ (List.mem_append_left _ (List.mem_of_getElem? (i := 195) (by decide +kernel))))) (by decide +kernel)
theorem nw_676 : Cond.methodLink "DayEndBankModel" 172 ny_M_grow ∈ zw_big := zw_mem (List.mem_append_right _ (List.mem_append_right _ (List.mem_append_left _ (List.mem_of_getElem? (i := 196) (by decide +kernel))))) (by decide +kernel)
theorem nw_678 : Cond.instanceMethod ny_M_grow ∈ zw_big := zw_mem (List.mem_append_right _ (List.mem_append_right _ (List.mem_append_left _ (List.mem_of_getElem? (i := 198) (by decide +kernel))))) (by decide +kernel)
theorem nw_679 : Cond.code ny_M_grow nc_M_grow 9 none ∈ zw_big := zw_mem (List.mem_append_right _ (List.mem_append_right _ (List.mem_append_left _ (List.mem_of_getElem? (i := 199) (by decide +kernel))))) (by decide +kernel)
theorem nw_680 : Cond.methodLink "DayEndBankModel" 175 ny_M_days ∈ zw_big := zw_mem (List.mem_append_right _ (List.mem_append_right _ (List.mem_append_left _ (List.mem_of_getElem? (i := 200) (by decide +kernel))))) (by decide +kernel)
theorem nw_682 : Cond.instanceMethod ny_M_days ∈ zw_big := zw_mem (List.mem_append_right _ (List.mem_append_right _ (List.mem_append_left _ (List.mem_of_getElem? (i := 202) (by decide +kernel))))) (by decide +kernel)
theorem nw_683 : Cond.code ny_M_days nc_M_days 8 (some .int) ∈ zw_big := zw_mem (List.mem_append_right _ (List.mem_append_right _ (List.mem_append_left _ (List.mem_of_getElem? (i := 203) (by decide +kernel))))) (by decide +kernel)
theorem nw_684 : Cond.constantLong "DayEndBankModel" 179 (10000) ∈ zw_big := zw_mem (List.mem_append_right _ (List.mem_append_right _ (List.mem_append_left _ (List.mem_of_getElem? (i := 204) (by decide +kernel))))) (by decide +kernel)
theorem nw_685 : Cond.constantLong "DayEndBankModel" 181 (2) ∈ zw_big := zw_mem (List.mem_append_right _ (List.mem_append_right _ (List.mem_append_left _ (List.mem_of_getElem? (i := 205) (by decide +kernel))))) (by decide +kernel)
theorem nw_686 : Cond.methodLink "DayEndBankLaw" 53 ny_M_fuse ∈ zw_big := zw_mem (List.mem_append_right _ (List.mem_append_right _ (List.mem_append_left _ (List.mem_of_getElem? (i := 206) (by decide +kernel))))) (by decide +kernel)
theorem nw_687 : Cond.instanceMethod ny_M_fuse ∈ zw_big := zw_mem (List.mem_append_right _ (List.mem_append_right _ (List.mem_append_left _ (List.mem_of_getElem? (i := 207) (by decide +kernel))))) (by decide +kernel)
theorem nw_688 : Cond.selects "DayEndBankModel" ny_M_fuse ny_M_fuse ∈ zw_big := zw_mem (List.mem_append_right _ (List.mem_append_right _ (List.mem_append_left _ (List.mem_of_getElem? (i := 208) (by decide +kernel))))) (by decide +kernel)
theorem nw_689 : Cond.code ny_M_fuse nc_M_fuse 2 (some .boolean) ∈ zw_big := zw_mem (List.mem_append_right _ (List.mem_append_right _ (List.mem_append_left _ (List.mem_of_getElem? (i := 209) (by decide +kernel))))) (by decide +kernel)
theorem nw_690 : Cond.methodLink "DayEndBankLaw" 58 ny_M_restart ∈ zw_big := zw_mem (List.mem_append_right _ (List.mem_append_right _ (List.mem_append_left _ (List.mem_of_getElem? (i := 210) (by decide +kernel))))) (by decide +kernel)
theorem nw_691 : Cond.instanceMethod ny_M_restart ∈ zw_big := zw_mem (List.mem_append_right _ (List.mem_append_right _ (List.mem_append_left _ (List.mem_of_getElem? (i := 211) (by decide +kernel))))) (by decide +kernel)
theorem nw_692 : Cond.selects "DayEndBankModel" ny_M_restart ny_M_restart ∈ zw_big := zw_mem (List.mem_append_right _ (List.mem_append_right _ (List.mem_append_left _ (List.mem_of_getElem? (i := 212) (by decide +kernel))))) (by decide +kernel)
theorem nw_693 : Cond.code ny_M_restart nc_M_restart 1 (some .int) ∈ zw_big := zw_mem (List.mem_append_right _ (List.mem_append_right _ (List.mem_append_left _ (List.mem_of_getElem? (i := 213) (by decide +kernel))))) (by decide +kernel)
theorem nw_694 : Cond.methodLink "DayEndBankLaw" 63 ny_M_balance ∈ zw_big := zw_mem (List.mem_append_right _ (List.mem_append_right _ (List.mem_append_left _ (List.mem_of_getElem? (i := 214) (by decide +kernel))))) (by decide +kernel)
theorem nw_695 : Cond.instanceMethod ny_M_balance ∈ zw_big := zw_mem (List.mem_append_right _ (List.mem_append_right _ (List.mem_append_left _ (List.mem_of_getElem? (i := 215) (by decide +kernel))))) (by decide +kernel)
theorem nw_696 : Cond.selects "DayEndBankModel" ny_M_balance ny_M_balance ∈ zw_big := zw_mem (List.mem_append_right _ (List.mem_append_right _ (List.mem_append_left _ (List.mem_of_getElem? (i := 216) (by decide +kernel))))) (by decide +kernel)
theorem nw_697 : Cond.code ny_M_balance nc_M_balance 2 (some .long) ∈ zw_big := zw_mem (List.mem_append_right _ (List.mem_append_right _ (List.mem_append_left _ (List.mem_of_getElem? (i := 217) (by decide +kernel))))) (by decide +kernel)
theorem nw_698 : Cond.methodLink "DayEndBankLaw" 67 ny_M_available ∈ zw_big := zw_mem (List.mem_append_right _ (List.mem_append_right _ (List.mem_append_left _ (List.mem_of_getElem? (i := 218) (by decide +kernel))))) (by decide +kernel)
theorem nw_699 : Cond.instanceMethod ny_M_available ∈ zw_big := zw_mem (List.mem_append_right _ (List.mem_append_right _ (List.mem_append_left _ (List.mem_of_getElem? (i := 219) (by decide +kernel))))) (by decide +kernel)
theorem nw_700 : Cond.selects "DayEndBankModel" ny_M_available ny_M_available ∈ zw_big := zw_mem (List.mem_append_right _ (List.mem_append_right _ (List.mem_append_left _ (List.mem_of_getElem? (i := 220) (by decide +kernel))))) (by decide +kernel)
theorem nw_701 : Cond.code ny_M_available nc_M_available 2 (some .long) ∈ zw_big := zw_mem (List.mem_append_right _ (List.mem_append_right _ (List.mem_append_left _ (List.mem_of_getElem? (i := 221) (by decide +kernel))))) (by decide +kernel)
theorem nw_702 : Cond.methodLink "DayEndBankLaw" 71 ny_M_accrued ∈ zw_big := zw_mem (List.mem_append_right _ (List.mem_append_right _ (List.mem_append_left _ (List.mem_of_getElem? (i := 222) (by decide +kernel))))) (by decide +kernel)
theorem nw_703 : Cond.instanceMethod ny_M_accrued ∈ zw_big := zw_mem (List.mem_append_right _ (List.mem_append_right _ (List.mem_append_left _ (List.mem_of_getElem? (i := 223) (by decide +kernel))))) (by decide +kernel)
theorem nw_704 : Cond.selects "DayEndBankModel" ny_M_accrued ny_M_accrued ∈ zw_big := zw_mem (List.mem_append_right _ (List.mem_append_right _ (List.mem_append_left _ (List.mem_of_getElem? (i := 224) (by decide +kernel))))) (by decide +kernel)
theorem nw_705 : Cond.code ny_M_accrued nc_M_accrued 2 (some .long) ∈ zw_big := zw_mem (List.mem_append_right _ (List.mem_append_right _ (List.mem_append_left _ (List.mem_of_getElem? (i := 225) (by decide +kernel))))) (by decide +kernel)
theorem nw_706 : Cond.methodLink "DayEndBankLaw" 75 ny_M_mark ∈ zw_big := zw_mem (List.mem_append_right _ (List.mem_append_right _ (List.mem_append_left _ (List.mem_of_getElem? (i := 226) (by decide +kernel))))) (by decide +kernel)
theorem nw_707 : Cond.instanceMethod ny_M_mark ∈ zw_big := zw_mem (List.mem_append_right _ (List.mem_append_right _ (List.mem_append_left _ (List.mem_of_getElem? (i := 227) (by decide +kernel))))) (by decide +kernel)
theorem nw_708 : Cond.selects "DayEndBankModel" ny_M_mark ny_M_mark ∈ zw_big := zw_mem (List.mem_append_right _ (List.mem_append_right _ (List.mem_append_left _ (List.mem_of_getElem? (i := 228) (by decide +kernel))))) (by decide +kernel)
theorem nw_709 : Cond.code ny_M_mark nc_M_mark 2 (some .int) ∈ zw_big := zw_mem (List.mem_append_right _ (List.mem_append_right _ (List.mem_append_left _ (List.mem_of_getElem? (i := 229) (by decide +kernel))))) (by decide +kernel)
theorem nw_710 : Cond.methodLink "DayEndBankLaw" 80 ny_M_ledger ∈ zw_big := zw_mem (List.mem_append_right _ (List.mem_append_right _ (List.mem_append_left _ (List.mem_of_getElem? (i := 230) (by decide +kernel))))) (by decide +kernel)
theorem nw_711 : Cond.instanceMethod ny_M_ledger ∈ zw_big := zw_mem (List.mem_append_right _ (List.mem_append_right _ (List.mem_append_left _ (List.mem_of_getElem? (i := 231) (by decide +kernel))))) (by decide +kernel)
theorem nw_712 : Cond.selects "DayEndBankModel" ny_M_ledger ny_M_ledger ∈ zw_big := zw_mem (List.mem_append_right _ (List.mem_append_right _ (List.mem_append_left _ (List.mem_of_getElem? (i := 232) (by decide +kernel))))) (by decide +kernel)
theorem nw_713 : Cond.code ny_M_ledger nc_M_ledger 6 (some .long) ∈ zw_big := zw_mem (List.mem_append_right _ (List.mem_append_right _ (List.mem_append_left _ (List.mem_of_getElem? (i := 233) (by decide +kernel))))) (by decide +kernel)
theorem nw_714 : Cond.methodLink "DayEndBankLaw" 84 ny_M_missed ∈ zw_big := zw_mem (List.mem_append_right _ (List.mem_append_right _ (List.mem_append_left _ (List.mem_of_getElem? (i := 234) (by decide +kernel))))) (by decide +kernel)
theorem nw_715 : Cond.instanceMethod ny_M_missed ∈ zw_big := zw_mem (List.mem_append_right _ (List.mem_append_right _ (List.mem_append_left _ (List.mem_of_getElem? (i := 235) (by decide +kernel))))) (by decide +kernel)
theorem nw_716 : Cond.selects "DayEndBankModel" ny_M_missed ny_M_missed ∈ zw_big := zw_mem (List.mem_append_right _ (List.mem_append_right _ (List.mem_append_left _ (List.mem_of_getElem? (i := 236) (by decide +kernel))))) (by decide +kernel)
theorem nw_717 : Cond.code ny_M_missed nc_M_missed 2 (some .int) ∈ zw_big := zw_mem (List.mem_append_right _ (List.mem_append_right _ (List.mem_append_left _ (List.mem_of_getElem? (i := 237) (by decide +kernel))))) (by decide +kernel)
theorem nw_718 : Cond.methodLink "DayEndBankLaw" 88 ny_M_today ∈ zw_big := zw_mem (List.mem_append_right _ (List.mem_append_right _ (List.mem_append_left _ (List.mem_of_getElem? (i := 238) (by decide +kernel))))) (by decide +kernel)
theorem nw_719 : Cond.instanceMethod ny_M_today ∈ zw_big := zw_mem (List.mem_append_right _ (List.mem_append_right _ (List.mem_append_left _ (List.mem_of_getElem? (i := 239) (by decide +kernel))))) (by decide +kernel)
theorem nw_720 : Cond.selects "DayEndBankModel" ny_M_today ny_M_today ∈ zw_big := zw_mem (List.mem_append_right _ (List.mem_append_right _ (List.mem_append_right _ (List.mem_of_getElem? (i := 0) (by decide +kernel))))) (by decide +kernel)
theorem nw_721 : Cond.code ny_M_today nc_M_today 1 (some .int) ∈ zw_big := zw_mem (List.mem_append_right _ (List.mem_append_right _ (List.mem_append_right _ (List.mem_of_getElem? (i := 1) (by decide +kernel))))) (by decide +kernel)
theorem nw_722 : Cond.methodLink "DayEndBankLaw" 92 ny_M_count ∈ zw_big := zw_mem (List.mem_append_right _ (List.mem_append_right _ (List.mem_append_right _ (List.mem_of_getElem? (i := 2) (by decide +kernel))))) (by decide +kernel)
theorem nw_723 : Cond.instanceMethod ny_M_count ∈ zw_big := zw_mem (List.mem_append_right _ (List.mem_append_right _ (List.mem_append_right _ (List.mem_of_getElem? (i := 3) (by decide +kernel))))) (by decide +kernel)
theorem nw_724 : Cond.selects "DayEndBankModel" ny_M_count ny_M_count ∈ zw_big := zw_mem (List.mem_append_right _ (List.mem_append_right _ (List.mem_append_right _ (List.mem_of_getElem? (i := 4) (by decide +kernel))))) (by decide +kernel)
theorem nw_725 : Cond.code ny_M_count nc_M_count 4 (some .int) ∈ zw_big := zw_mem (List.mem_append_right _ (List.mem_append_right _ (List.mem_append_right _ (List.mem_of_getElem? (i := 5) (by decide +kernel))))) (by decide +kernel)
theorem nw_726 : Cond.constant "DayEndBankModel" 190 (99999) ∈ zw_big := zw_mem (List.mem_append_right _ (List.mem_append_right _ (List.mem_append_right _ (List.mem_of_getElem? (i := 6) (by decide +kernel))))) (by decide +kernel)
theorem nw_727 : Cond.methodLink "DayEndBankLaw" 96 ny_M_writes ∈ zw_big := zw_mem (List.mem_append_right _ (List.mem_append_right _ (List.mem_append_right _ (List.mem_of_getElem? (i := 7) (by decide +kernel))))) (by decide +kernel)
theorem nw_728 : Cond.instanceMethod ny_M_writes ∈ zw_big := zw_mem (List.mem_append_right _ (List.mem_append_right _ (List.mem_append_right _ (List.mem_of_getElem? (i := 8) (by decide +kernel))))) (by decide +kernel)
theorem nw_729 : Cond.selects "DayEndBankModel" ny_M_writes ny_M_writes ∈ zw_big := zw_mem (List.mem_append_right _ (List.mem_append_right _ (List.mem_append_right _ (List.mem_of_getElem? (i := 9) (by decide +kernel))))) (by decide +kernel)
theorem nw_730 : Cond.code ny_M_writes nc_M_writes 1 (some .int) ∈ zw_big := zw_mem (List.mem_append_right _ (List.mem_append_right _ (List.mem_append_right _ (List.mem_of_getElem? (i := 10) (by decide +kernel))))) (by decide +kernel)
theorem nw_731 : Cond.methodLink "DayEndBankLaw" 100 ny_M_lines ∈ zw_big := zw_mem (List.mem_append_right _ (List.mem_append_right _ (List.mem_append_right _ (List.mem_of_getElem? (i := 11) (by decide +kernel))))) (by decide +kernel)
theorem nw_732 : Cond.instanceMethod ny_M_lines ∈ zw_big := zw_mem (List.mem_append_right _ (List.mem_append_right _ (List.mem_append_right _ (List.mem_of_getElem? (i := 12) (by decide +kernel))))) (by decide +kernel)
theorem nw_733 : Cond.selects "DayEndBankModel" ny_M_lines ny_M_lines ∈ zw_big := zw_mem (List.mem_append_right _ (List.mem_append_right _ (List.mem_append_right _ (List.mem_of_getElem? (i := 13) (by decide +kernel))))) (by decide +kernel)
theorem nw_734 : Cond.code ny_M_lines nc_M_lines 1 (some .int) ∈ zw_big := zw_mem (List.mem_append_right _ (List.mem_append_right _ (List.mem_append_right _ (List.mem_of_getElem? (i := 14) (by decide +kernel))))) (by decide +kernel)
end
section
/-! OWN KIT: words of all methods in one list zw_big; contracts that read (zw_R) and that write (zw_Q); calls; locals by their number. -/
theorem zw_good {y : Cond} (h : y ∈ zw_big) : GoodIn zw_big (y :: zw_big) := by
  intro w hw
  rcases List.mem_cons.mp hw with rfl | hw
  · exact ⟨h, good_of_word (List.all_eq_true.mp zw_allgood _ h)⟩
  · exact ⟨hw, good_of_word (List.all_eq_true.mp zw_allgood _ hw)⟩
/-- locals, looked up by their number -/
theorem zv_mem {l : List (Nat × Value)} {i : Nat} {v : Value} (h : l.lookup i = some v) : (i, v) ∈ l := by
  induction l with
  | nil => cases h
  | cons q l ih =>
    obtain ⟨j, w⟩ := q
    by_cases e : i = j
    · subst e
      simp [List.lookup] at h
      subst h
      exact List.mem_cons_self
    · have e2 : (i == j) = false := by simp [e]
      simp [List.lookup, e2] at h
      exact List.mem_cons_of_mem _ (ih h)
theorem zv_at {ls : Array Slot} {nL : Nat} {l : List (Nat × Value)} (h : lv_has ls nL l) (i : Nat) {v : Value} (hv : l.lookup i = some v) : ls[i]? = some (.val v) := h.2.2 (i, v) (zv_mem hv)
theorem zv_sub {ls : Array Slot} {nL : Nat} {l l' : List (Nat × Value)} (h : lv_has ls nL l) (hl : ∀ q ∈ l', l.lookup q.1 = some q.2) : lv_has ls nL l' := ⟨h.1, h.2.1, fun q hq => h.2.2 q (zv_mem (hl q hq))⟩
section ZV
variable {p : Program} {l : Launch} {e : Env} {R : Room} {s : State} {m : MethodId} {args : Array Value} {below : List Frame} {meth : Method} {c : Code} {H : Heap} {locs : List Loc} {cells slots : Nat} {Q : State → Prop}
variable {cc : ByteArray} {pc : Nat} {ls : Array Slot} {rest : List Value}
theorem zv_iinc (hx : p.tables.exec = Jvm.exec) (hb : c.code = cc) {i nL : Nat} {n : Int} {x v : Int32} {lv lv' : List (Nat × Value)} (hdg : decode cc pc = .ok (.iinc i n, 3)) (h : lv_has ls nL lv) (hk : lv.lookup i = some (.int x)) (hv : x + Int32.ofInt n = v) (hn : i < nL) (hl : (i, Value.int v) :: lv.filter (fun q => !(q.1 == i) && !(q.1 + 1 == i && q.2.category == 2)) = lv')
    (kk : ∀ ls' : Array Slot, lv_has ls' nL lv' → W p l e R s m args below meth c H locs cells slots Q (F0 m (pc + 3) ls' rest)) : W p l e R s m args below meth c H locs cells slots Q (F0 m pc ls rest) := by
  obtain ⟨k, hk2⟩ := List.getElem?_of_mem (zv_mem hk)
  exact lv_iinc hx hb hdg h hk2 hv hn hl kk
end ZV
/-- the contract of a method that reads: its answer, and no cell changes -/
def zw_R (v : Value) : Array Value → State → Outcome → State → Prop := fun _ st o t => o = .returned (some v) ∧ t.heap = st.heap
/-- the contract of a method that writes: its answer, the heap behind it, no cell outside A changes -/
def zw_Q (v : Option Value) (PX : Heap → Prop) (A : Nat → Prop) : Array Value → State → Outcome → State → Prop := fun _ st o t => o = .returned v ∧ PX t.heap ∧ va_F A st t
/-- where it starts: its arguments, its world -/
def zw_P (av : List Value) (D : va_G) (tys : List (ClassId × FieldType)) (ws : va_W) : Array Value → State → Prop := fun v U => v = av.toArray ∧ va_P D vwCl ws U.heap ∧ va_K D vwCl tys U
/-- where a method starts that needs no cell -/
def zw_N (av : List Value) : Array Value → State → Prop := fun v _ => v = av.toArray
theorem zw_P_blind {av : List Value} {D : va_G} {tys : List (ClassId × FieldType)} {ws : va_W} : FrameBlind (zw_P av D tys ws) := fun a U g mk q => ⟨q.1, q.2.1, va_K.moved (u := U) (U := U.calling g mk a) (Vm.Alike.refl U.vm) q.2.2⟩
theorem zw_N_blind {av : List Value} : FrameBlind (zw_N av) := fun _ _ _ _ q => q
theorem zw_preN {s : State} {H : Heap} {As : List Value} : PreS s H (zw_N As) As := ⟨zw_N_blind, fun _ _ _ => rfl⟩
theorem zw_preS {s : State} {H : Heap} {As : List Value} {D : va_G} {tys : List (ClassId × FieldType)} {ws : va_W} (hP : va_P D vwCl ws H) (hK : va_K D vwCl tys s) : PreS s H (zw_P As D tys ws) As := ⟨zw_P_blind, fun U hU hW => ⟨rfl, by rw [hU]; exact hP, va_K.moved hW.alike hK⟩⟩
theorem zw_preV {s : State} {H : Heap} {C : String} {b : Nat} {As : List Value} {D : va_G} {tys : List (ClassId × FieldType)} {ws : va_W} (hP : va_P D vwCl ws H) (hK : va_K D vwCl tys s) {q0 ci : Nat} {q : vw_C} {fs : List Value} (hc : vwCl[ci]? = some q) (he : ws[q0]? = some (b, .inr (ci, fs))) (hC : q.1 = C) : PreV s H C b (zw_P (.ref b :: As) D tys ws) As := by
  subst hC
  exact ⟨zw_P_blind, va_recv hK hP hc he, fun U hU hW => ⟨rfl, by rw [hU]; exact hP, va_K.moved hW.alike hK⟩⟩
/-- what a callee's name must be known for -/
def zw_Y (y : MethodName) (bytes : ByteArray) (maxL : Nat) (ret : Option FieldType) (n : Nat) : Prop :=
  Cond.code y bytes maxL ret ∈ zw_big ∧ Cond.initialized y.cls ∈ zw_big ∧ (y.cls ≠ "java/lang/invoke/MethodHandle" ∧ y.cls ≠ "java/lang/invoke/VarHandle" ∧ (parseMethodDescriptor y.desc).map (fun d => d.parameters.length) = some n)
def zw_YV (y : MethodName) (bytes : ByteArray) (maxL : Nat) (ret : Option FieldType) (n : Nat) : Prop := zw_Y y bytes maxL ret n ∧ Cond.instanceMethod y ∈ zw_big ∧ Cond.selects y.cls y y ∈ zw_big
def zw_YS (y : MethodName) (bytes : ByteArray) (maxL : Nat) (ret : Option FieldType) (n : Nat) : Prop := zw_Y y bytes maxL ret n ∧ Cond.static y ∈ zw_big
section ZW
variable {p : Program} {l : Launch} {e : Env} {R : Room} {s : State} {m : MethodId} {args : Array Value} {below : List Frame} {meth : Method} {c : Code} {H : Heap} {locs : List Loc} {cells slots : Nat} {Q : State → Prop}
variable {cc bytes : ByteArray} {pc nL maxL index n : Nat} {ls : Array Slot} {rest st0 As : List Value} {own : String} {y : MethodName} {ret : Option FieldType} {rm : Room} {b : Nat} {v : Value} {vo : Option Value} {PX : Heap → Prop} {A : Nat → Prop} {H0 : Heap} {Pc : Array Value → State → Prop} {a : Array Value}
theorem zw_B (hts : ∀ w ∈ zw_big, w.before args s = true) (hY : zw_Y y bytes maxL ret n) (hl : Cond.methodLink own index y ∈ zw_big) (hrc : rm.cells = 0) (hrs : rm.slots = 0) (hR : rm.frames + 1 ≤ R.frames ∧ 8 + (maxL + 11) + rm.locals ≤ R.locals) :
    CallB R s args own index y bytes maxL ret (Cond.code y bytes maxL ret :: zw_big) rm 0 0 n :=
  callB_of n hts (zw_good hY.1) rfl hrc hrs (hts _ hY.2.1) (hts _ hl) hY.2.2 hR
theorem zw_cR (hr : CallRun p l e R s m args below meth c H locs cells slots 0 0 (F0 m pc ls st0) rest (zw_R v a) (fun _ => False)) (kk : W p l e R s m args below meth c H locs cells slots Q (F0 m (pc + 3) ls (v :: rest))) : W p l e R s m args below meth c H locs cells slots Q (F0 m pc ls st0) := by
  intro T hT X
  obtain ⟨v', st₀, t, T', L, h0, X', hL, e1, ⟨hv, hh⟩, st⟩ := hr T hT X
  cases hv
  obtain ⟨t2, a1, b1⟩ := kk T' (by rw [e1, hh, h0]) (Stand.forget X' (fun q h => (hL q h).elim))
  exact ⟨t2, st t2 a1, b1⟩
theorem zw_cW (hr : CallRun p l e R s m args below meth c H locs cells slots 0 0 (F0 m pc ls st0) rest (zw_Q vo PX A a) A) (hS : va_S A H0 H locs)
    (kk : ∀ (H1 : Heap) (locs1 : List Loc), PX H1 → va_S A H0 H1 locs1 → W p l e R s m args below meth c H1 locs1 cells slots Q (F0 m (pc + 3) ls (vo.toList ++ rest))) : W p l e R s m args below meth c H locs cells slots Q (F0 m pc ls st0) := by
  intro T hT X
  obtain ⟨v', st₀, t, T', L, h0, X', hL, e1, ⟨hv, hp, hz, hk⟩, st⟩ := hr T hT X
  cases hv
  rw [h0] at hz hk
  obtain ⟨t2, a1, b1⟩ := kk T'.heap (locs ++ L) (by rw [e1]; exact hp)
    ⟨Nat.le_trans hS.1 (by rw [e1]; exact hz), fun q h1 h2 => by rw [e1, hk q (Nat.lt_of_lt_of_le h1 hS.1) h2]; exact hS.2.1 q h1 h2, fun q hq => by
      rcases List.mem_append.mp hq with h | h
      · exact hS.2.2 q h
      · exact hL q h⟩ T' rfl X'
  exact ⟨t2, st t2 a1, b1⟩
/-- a static method that reads -/
theorem zw_sR (F : CallFix p m c cc nL s args zw_big own) (hM : Met l y (Cond.code y bytes maxL ret :: zw_big) rm Pc (zw_R v) 0 0 (fun _ => False)) (hp : PreS s H Pc As) (hY : zw_YS y bytes maxL ret n) (hl : Cond.methodLink own index y ∈ zw_big) (hrm : rm.cells = 0 ∧ rm.slots = 0 ∧ rm.frames + 1 ≤ R.frames ∧ 8 + (maxL + 11) + rm.locals ≤ R.locals) (hn : As.length = n) (hz : ls.size = nL) (hst : st0 = As.reverse ++ rest) (hW : (rest.map fun v => v.category).sum ≤ 8) (hc : cells ≤ R.cells ∧ slots ≤ R.slots) (hdg : decode cc pc = .ok (.invokestatic index, 3))
    (kk : W p l e R s m args below meth c H locs cells slots Q (F0 m (pc + 3) ls (v :: rest))) : W p l e R s m args below meth c H locs cells slots Q (F0 m pc ls st0) :=
  zw_cR (a := As.toArray) (W.runS F hM ⟨zw_B F.2.2.2.2 hY.1 hl hrm.1 hrm.2.1 hrm.2.2, F.2.2.2.2 _ hY.2⟩ hp rfl hn hz hst (lv_room hW) hdg hc) kk
/-- an instance method that reads -/
theorem zw_vR (F : CallFix p m c cc nL s args zw_big own) (hM : Met l y (Cond.code y bytes maxL ret :: zw_big) rm Pc (zw_R v) 0 0 (fun _ => False)) (hp : PreV s H y.cls b Pc As) (hY : zw_YV y bytes maxL ret n) (hl : Cond.methodLink own index y ∈ zw_big) (hrm : rm.cells = 0 ∧ rm.slots = 0 ∧ rm.frames + 1 ≤ R.frames ∧ 8 + (maxL + 11) + rm.locals ≤ R.locals) (hn : As.length = n) (hz : ls.size = nL) (hst : st0 = As.reverse ++ .ref b :: rest) (hW : (rest.map fun v => v.category).sum ≤ 8) (hc : cells ≤ R.cells ∧ slots ≤ R.slots) (hdg : decode cc pc = .ok (.invokevirtual index, 3))
    (kk : W p l e R s m args below meth c H locs cells slots Q (F0 m (pc + 3) ls (v :: rest))) : W p l e R s m args below meth c H locs cells slots Q (F0 m pc ls st0) :=
  zw_cR (a := (Value.ref b :: As).toArray) (W.runV F hM ⟨zw_B F.2.2.2.2 hY.1 hl hrm.1 hrm.2.1 hrm.2.2, F.2.2.2.2 _ hY.2.1, F.2.2.2.2 _ hY.2.2⟩ hp rfl hn hz hst (lv_room hW) hdg hc) kk
/-- an instance method that writes -/
theorem zw_vW (F : CallFix p m c cc nL s args zw_big own) (hM : Met l y (Cond.code y bytes maxL ret :: zw_big) rm Pc (zw_Q vo PX A) 0 0 A) (hp : PreV s H y.cls b Pc As) (hY : zw_YV y bytes maxL ret n) (hl : Cond.methodLink own index y ∈ zw_big) (hrm : rm.cells = 0 ∧ rm.slots = 0 ∧ rm.frames + 1 ≤ R.frames ∧ 8 + (maxL + 11) + rm.locals ≤ R.locals) (hn : As.length = n) (hz : ls.size = nL) (hst : st0 = As.reverse ++ .ref b :: rest) (hW : (rest.map fun v => v.category).sum ≤ 8) (hc : cells ≤ R.cells ∧ slots ≤ R.slots) (hdg : decode cc pc = .ok (.invokevirtual index, 3)) (hS : va_S A H0 H locs)
    (kk : ∀ (H1 : Heap) (locs1 : List Loc), PX H1 → va_S A H0 H1 locs1 → W p l e R s m args below meth c H1 locs1 cells slots Q (F0 m (pc + 3) ls (vo.toList ++ rest))) : W p l e R s m args below meth c H locs cells slots Q (F0 m pc ls st0) :=
  zw_cW (a := (Value.ref b :: As).toArray) (W.runV F hM ⟨zw_B F.2.2.2.2 hY.1 hl hrm.1 hrm.2.1 hrm.2.2, F.2.2.2.2 _ hY.2.1, F.2.2.2.2 _ hY.2.2⟩ hp rfl hn hz hst (lv_room hW) hdg hc) hS kk
-- ends of a method that reads
theorem zw_iret {v2 r : Int32} (hx : p.tables.exec = Jvm.exec) (hb : c.code = cc) (hr : meth.sig.returnType = some .int) (hlk : meth.locks = false) (hdg : decode cc pc = .ok (.ireturn, 1)) (hF : r = v2) :
    W p l e R s m args below meth c s.heap [] cells slots (MQ below (zw_R (.int r)) args s cells slots (fun _ => False)) (F0 m pc ls [.int v2]) :=
  W.iret hx hb hr (fun t ht _ => ⟨by rw [hF], ht⟩) (fun _ h => by cases h) hdg hlk
theorem zw_zret {v2 r : Int32} (hx : p.tables.exec = Jvm.exec) (hb : c.code = cc) (hr : meth.sig.returnType = some .boolean) (hlk : meth.locks = false) (hdg : decode cc pc = .ok (.ireturn, 1)) (hn : v2 = 0 ∨ v2 = 1) (hF : r = v2) :
    W p l e R s m args below meth c s.heap [] cells slots (MQ below (zw_R (.int r)) args s cells slots (fun _ => False)) (F0 m pc ls [.int v2]) :=
  W.zret hx hb hr (by rcases hn with rfl | rfl <;> rfl) (fun t ht _ => ⟨by rw [hF], ht⟩) (fun _ h => by cases h) hdg hlk
theorem zw_lret {v2 r : Int64} (hx : p.tables.exec = Jvm.exec) (hb : c.code = cc) (hr : meth.sig.returnType = some .long) (hlk : meth.locks = false) (hdg : decode cc pc = .ok (.lreturn, 1)) (hF : r = v2) :
    W p l e R s m args below meth c s.heap [] cells slots (MQ below (zw_R (.long r)) args s cells slots (fun _ => False)) (F0 m pc ls [.long v2]) :=
  W.lret hx hb hr (fun t ht _ => ⟨by rw [hF], ht⟩) (fun _ h => by cases h) hdg hlk
theorem zw_aret {ad : Nat → Nat} {r r2 : Option Nat} {C : String} {v2 : Value} (hx : p.tables.exec = Jvm.exec) (hb : c.code = cc) (hr : meth.sig.returnType = some (.object C)) (hlk : meth.locks = false) (hdg : decode cc pc = .ok (.areturn, 1)) (hv : va_re ad r2 = v2) (hF : r = r2) :
    W p l e R s m args below meth c s.heap [] cells slots (MQ below (zw_R (va_re ad r)) args s cells slots (fun _ => False)) (F0 m pc ls [v2]) :=
  W.aret hx hb hr (Or.inl ⟨C, rfl⟩) (by rw [← hv]; exact va_rf_or _) (fun t ht _ => ⟨by rw [hF, hv], ht⟩) (fun _ h => by cases h) hdg hlk
/-- a reference that may be null -/
theorem zw_split {ad : Nat → Nat} {r : Option Nat} (kn : r = none → W p l e R s m args below meth c H locs cells slots Q (F0 m pc ls (.null :: rest))) (ks : ∀ j : Nat, r = some j → W p l e R s m args below meth c H locs cells slots Q (F0 m pc ls (.ref (ad j) :: rest))) :
    W p l e R s m args below meth c H locs cells slots Q (F0 m pc ls (va_re ad r :: rest)) := by
  cases r with
  | none => exact kn rfl
  | some j => exact ks j rfl
end ZW
end
section
/-! what a callee is known for -/
theorem nk_B_open : zw_YV ny_B_open nc_B_open 7 (some .int) 4 := ⟨⟨nw_192, nw_1, by decide +kernel, by decide +kernel, by decide +kernel⟩, nw_190, nw_191⟩
theorem nk_B_refusalOfChange : zw_YV ny_B_refusalOfChange nc_B_refusalOfChange 1 (some .int) 0 := ⟨⟨nw_196, nw_1, by decide +kernel, by decide +kernel, by decide +kernel⟩, nw_195, (List.mem_append_left _ (List.mem_of_getElem? (i := 0) (by decide +kernel)))⟩
theorem nk_B_isCurrency : zw_YS ny_B_isCurrency nc_B_isCurrency 1 (some .boolean) 1 := ⟨⟨nw_199, nw_1, by decide +kernel, by decide +kernel, by decide +kernel⟩, nw_198⟩
theorem nk_B_isWithin : zw_YS ny_B_isWithin nc_B_isWithin 3 (some .boolean) 3 := ⟨⟨nw_202, nw_1, by decide +kernel, by decide +kernel, by decide +kernel⟩, nw_201⟩
theorem nk_C_isBasis : zw_YS ny_C_isBasis nc_C_isBasis 1 (some .boolean) 1 := ⟨⟨nw_205, nw_8, by decide +kernel, by decide +kernel, by decide +kernel⟩, nw_204⟩
theorem nk_B_bitOf : zw_YS ny_B_bitOf nc_B_bitOf 1 (some .int) 1 := ⟨⟨nw_209, nw_1, by decide +kernel, by decide +kernel, by decide +kernel⟩, nw_208⟩
theorem nk_D_writeTransaction : zw_YV ny_D_writeTransaction nc_D_writeTransaction 2 (some .boolean) 1 := ⟨⟨nw_213, nw_3, by decide +kernel, by decide +kernel, by decide +kernel⟩, nw_211, nw_212⟩
theorem nk_I_bitCount : zw_YS ny_I_bitCount nc_I_bitCount 1 (some .int) 1 := ⟨⟨nw_216, nw_9, by decide +kernel, by decide +kernel, by decide +kernel⟩, nw_215⟩
theorem nk_D_writeLines : zw_YV ny_D_writeLines nc_D_writeLines 4 (some .boolean) 2 := ⟨⟨nw_223, nw_3, by decide +kernel, by decide +kernel, by decide +kernel⟩, nw_221, nw_222⟩
theorem nk_D_makeCheckpoint : zw_YV ny_D_makeCheckpoint nc_D_makeCheckpoint 3 (some .boolean) 0 := ⟨⟨nw_227, nw_3, by decide +kernel, by decide +kernel, by decide +kernel⟩, nw_226, (List.mem_append_left _ (List.mem_of_getElem? (i := 1) (by decide +kernel)))⟩
theorem nk_D_writeOnce : zw_YV ny_D_writeOnce nc_D_writeOnce 1 (some .boolean) 0 := ⟨⟨nw_231, nw_3, by decide +kernel, by decide +kernel, by decide +kernel⟩, nw_230, (List.mem_append_left _ (List.mem_of_getElem? (i := 2) (by decide +kernel)))⟩
theorem nk_B_pay : zw_YV ny_B_pay nc_B_pay 7 (some .int) 3 := ⟨⟨nw_235, nw_1, by decide +kernel, by decide +kernel, by decide +kernel⟩, nw_233, nw_234⟩
theorem nk_B_isPayable : zw_YV ny_B_isPayable nc_B_isPayable 5 (some .boolean) 2 := ⟨⟨nw_239, nw_1, by decide +kernel, by decide +kernel, by decide +kernel⟩, nw_238, (List.mem_append_left _ (List.mem_of_getElem? (i := 3) (by decide +kernel)))⟩
theorem nk_B_isParty : zw_YV ny_B_isParty nc_B_isParty 2 (some .boolean) 1 := ⟨⟨nw_243, nw_1, by decide +kernel, by decide +kernel, by decide +kernel⟩, nw_242, (List.mem_append_left _ (List.mem_of_getElem? (i := 4) (by decide +kernel)))⟩
theorem nk_B_accountOf : zw_YV ny_B_accountOf nc_B_accountOf 2 (some (.object "DayEndBank$Account")) 1 := ⟨⟨nw_247, nw_1, by decide +kernel, by decide +kernel, by decide +kernel⟩, nw_246, (List.mem_append_left _ (List.mem_of_getElem? (i := 5) (by decide +kernel)))⟩
theorem nk_B_isAmount : zw_YS ny_B_isAmount nc_B_isAmount 1 (some .boolean) 1 := ⟨⟨nw_250, nw_1, by decide +kernel, by decide +kernel, by decide +kernel⟩, nw_249⟩
theorem nk_A_spendable : zw_YV ny_A_spendable nc_A_spendable 1 (some .long) 0 := ⟨⟨nw_254, nw_4, by decide +kernel, by decide +kernel, by decide +kernel⟩, nw_252, nw_253⟩
theorem nk_B_transfer : zw_YV ny_B_transfer nc_B_transfer 4 none 3 := ⟨⟨nw_258, nw_1, by decide +kernel, by decide +kernel, by decide +kernel⟩, nw_257, (List.mem_append_left _ (List.mem_of_getElem? (i := 6) (by decide +kernel)))⟩
theorem nk_B_hold : zw_YV ny_B_hold nc_B_hold 6 (some .int) 2 := ⟨⟨nw_262, nw_1, by decide +kernel, by decide +kernel, by decide +kernel⟩, nw_260, nw_261⟩
theorem nk_B_leastFreeHold : zw_YV ny_B_leastFreeHold nc_B_leastFreeHold 2 (some .int) 0 := ⟨⟨nw_266, nw_1, by decide +kernel, by decide +kernel, by decide +kernel⟩, nw_265, (List.mem_append_left _ (List.mem_of_getElem? (i := 7) (by decide +kernel)))⟩
theorem nk_H_begin : zw_YV ny_H_begin nc_H_begin 3 none 2 := ⟨⟨nw_270, nw_5, by decide +kernel, by decide +kernel, by decide +kernel⟩, nw_268, nw_269⟩
theorem nk_B_release : zw_YV ny_B_release nc_B_release 4 (some .int) 1 := ⟨⟨nw_274, nw_1, by decide +kernel, by decide +kernel, by decide +kernel⟩, nw_272, nw_273⟩
theorem nk_B_standingHold : zw_YV ny_B_standingHold nc_B_standingHold 2 (some (.object "DayEndBank$Hold")) 1 := ⟨⟨nw_278, nw_1, by decide +kernel, by decide +kernel, by decide +kernel⟩, nw_277, (List.mem_append_left _ (List.mem_of_getElem? (i := 8) (by decide +kernel)))⟩
theorem nk_H_end : zw_YV ny_H_end nc_H_end 1 none 0 := ⟨⟨nw_282, nw_5, by decide +kernel, by decide +kernel, by decide +kernel⟩, nw_280, nw_281⟩
theorem nk_B_settle : zw_YV ny_B_settle nc_B_settle 8 (some .int) 3 := ⟨⟨nw_286, nw_1, by decide +kernel, by decide +kernel, by decide +kernel⟩, nw_284, nw_285⟩
theorem nk_B_order : zw_YV ny_B_order nc_B_order 8 (some .int) 4 := ⟨⟨nw_290, nw_1, by decide +kernel, by decide +kernel, by decide +kernel⟩, nw_288, nw_289⟩
theorem nk_O_make : zw_YV ny_O_make nc_O_make 5 none 4 := ⟨⟨nw_294, nw_6, by decide +kernel, by decide +kernel, by decide +kernel⟩, nw_292, nw_293⟩
theorem nk_B_rest : zw_YV ny_B_rest nc_B_rest 3 (some .int) 1 := ⟨⟨nw_298, nw_1, by decide +kernel, by decide +kernel, by decide +kernel⟩, nw_296, nw_297⟩
theorem nk_R_isRest : zw_YV ny_R_isRest nc_R_isRest 3 (some .boolean) 1 := ⟨⟨nw_302, nw_2, by decide +kernel, by decide +kernel, by decide +kernel⟩, nw_300, nw_301⟩
theorem nk_R_wasMade : zw_YV ny_R_wasMade nc_R_wasMade 3 (some .boolean) 1 := ⟨⟨nw_306, nw_2, by decide +kernel, by decide +kernel, by decide +kernel⟩, nw_305, (List.mem_append_left _ (List.mem_of_getElem? (i := 9) (by decide +kernel)))⟩
theorem nk_B_isInLaterMonth : zw_YV ny_B_isInLaterMonth nc_B_isInLaterMonth 3 (some .boolean) 1 := ⟨⟨nw_310, nw_1, by decide +kernel, by decide +kernel, by decide +kernel⟩, nw_309, (List.mem_append_left _ (List.mem_of_getElem? (i := 10) (by decide +kernel)))⟩
theorem nk_C_monthAndDay : zw_YS ny_C_monthAndDay nc_C_monthAndDay 10 (some .int) 1 := ⟨⟨nw_313, nw_8, by decide +kernel, by decide +kernel, by decide +kernel⟩, nw_312⟩
theorem nk_T_floorDiv : zw_YS ny_T_floorDiv nc_T_floorDiv 3 (some .int) 2 := ⟨⟨nw_317, nw_10, by decide +kernel, by decide +kernel, by decide +kernel⟩, nw_316⟩
theorem nk_T_floorMod : zw_YS ny_T_floorMod nc_T_floorMod 3 (some .int) 2 := ⟨⟨nw_320, nw_10, by decide +kernel, by decide +kernel, by decide +kernel⟩, nw_319⟩
theorem nk_C_monthIn : zw_YS ny_C_monthIn nc_C_monthIn 1 (some .int) 1 := ⟨⟨nw_325, nw_8, by decide +kernel, by decide +kernel, by decide +kernel⟩, nw_324⟩
theorem nk_R_isFull : zw_YV ny_R_isFull nc_R_isFull 1 (some .boolean) 0 := ⟨⟨nw_329, nw_2, by decide +kernel, by decide +kernel, by decide +kernel⟩, nw_327, nw_328⟩
theorem nk_R_add : zw_YV ny_R_add nc_R_add 2 none 1 := ⟨⟨nw_333, nw_2, by decide +kernel, by decide +kernel, by decide +kernel⟩, nw_331, nw_332⟩
theorem nk_B_run : zw_YV ny_B_run nc_B_run 3 (some .int) 1 := ⟨⟨nw_338, nw_1, by decide +kernel, by decide +kernel, by decide +kernel⟩, nw_336, nw_337⟩
theorem nk_B_makeDayEnd : zw_YV ny_B_makeDayEnd nc_B_makeDayEnd 2 (some .boolean) 0 := ⟨⟨nw_342, nw_1, by decide +kernel, by decide +kernel, by decide +kernel⟩, nw_341, (List.mem_append_left _ (List.mem_of_getElem? (i := 11) (by decide +kernel)))⟩
theorem nk_B_makeStep : zw_YV ny_B_makeStep nc_B_makeStep 2 (some .boolean) 1 := ⟨⟨nw_346, nw_1, by decide +kernel, by decide +kernel, by decide +kernel⟩, nw_345, (List.mem_append_left _ (List.mem_of_getElem? (i := 12) (by decide +kernel)))⟩
theorem nk_B_planOrders : zw_YV ny_B_planOrders nc_B_planOrders 6 none 1 := ⟨⟨nw_350, nw_1, by decide +kernel, by decide +kernel, by decide +kernel⟩, nw_349, (List.mem_append_left _ (List.mem_of_getElem? (i := 13) (by decide +kernel)))⟩
theorem nk_R_dueDate : zw_YV ny_R_dueDate nc_R_dueDate 7 (some .int) 2 := ⟨⟨nw_354, nw_2, by decide +kernel, by decide +kernel, by decide +kernel⟩, nw_352, nw_353⟩
theorem nk_C_dayIn : zw_YS ny_C_dayIn nc_C_dayIn 1 (some .int) 1 := ⟨⟨nw_358, nw_8, by decide +kernel, by decide +kernel, by decide +kernel⟩, nw_357⟩
theorem nk_T_min : zw_YS ny_T_min nc_T_min 2 (some .int) 2 := ⟨⟨nw_361, nw_10, by decide +kernel, by decide +kernel, by decide +kernel⟩, nw_360⟩
theorem nk_B_writeStep : zw_YV ny_B_writeStep nc_B_writeStep 5 (some .boolean) 1 := ⟨⟨nw_366, nw_1, by decide +kernel, by decide +kernel, by decide +kernel⟩, nw_365, (List.mem_append_left _ (List.mem_of_getElem? (i := 14) (by decide +kernel)))⟩
theorem nk_B_carryOutOrders : zw_YV ny_B_carryOutOrders nc_B_carryOutOrders 3 none 0 := ⟨⟨nw_371, nw_1, by decide +kernel, by decide +kernel, by decide +kernel⟩, nw_370, (List.mem_append_left _ (List.mem_of_getElem? (i := 15) (by decide +kernel)))⟩
theorem nk_C_dayCount : zw_YS ny_C_dayCount nc_C_dayCount 3 (some .int) 3 := ⟨⟨nw_374, nw_8, by decide +kernel, by decide +kernel, by decide +kernel⟩, nw_373⟩
theorem nk_C_countByMonths : zw_YS ny_C_countByMonths nc_C_countByMonths 6 (some .int) 2 := ⟨⟨nw_377, nw_8, by decide +kernel, by decide +kernel, by decide +kernel⟩, nw_376⟩
theorem nk_A_accrue : zw_YV ny_A_accrue nc_A_accrue 2 none 1 := ⟨⟨nw_385, nw_4, by decide +kernel, by decide +kernel, by decide +kernel⟩, nw_383, nw_384⟩
theorem nk_C_isLastOfMonth : zw_YS ny_C_isLastOfMonth nc_C_isLastOfMonth 1 (some .boolean) 1 := ⟨⟨nw_388, nw_8, by decide +kernel, by decide +kernel, by decide +kernel⟩, nw_387⟩
theorem nk_A_takeInterest : zw_YV ny_A_takeInterest nc_A_takeInterest 5 (some .long) 0 := ⟨⟨nw_392, nw_4, by decide +kernel, by decide +kernel, by decide +kernel⟩, nw_390, nw_391⟩
theorem nk_C_yearOf : zw_YS ny_C_yearOf nc_C_yearOf 1 (some .int) 1 := ⟨⟨nw_396, nw_8, by decide +kernel, by decide +kernel, by decide +kernel⟩, nw_395⟩
theorem nk_A_nearest : zw_YS ny_A_nearest nc_A_nearest 10 (some .long) 2 := ⟨⟨nw_399, nw_4, by decide +kernel, by decide +kernel, by decide +kernel⟩, nw_398⟩
theorem nk_T_floorDivL : zw_YS ny_T_floorDivL nc_T_floorDivL 6 (some .long) 2 := ⟨⟨nw_402, nw_10, by decide +kernel, by decide +kernel, by decide +kernel⟩, nw_401⟩
theorem nk_B_fuse : zw_YV ny_B_fuse nc_B_fuse 2 (some .boolean) 1 := ⟨⟨nw_407, nw_1, by decide +kernel, by decide +kernel, by decide +kernel⟩, nw_405, nw_406⟩
theorem nk_B_restart : zw_YV ny_B_restart nc_B_restart 1 (some .int) 0 := ⟨⟨nw_411, nw_1, by decide +kernel, by decide +kernel, by decide +kernel⟩, nw_409, nw_410⟩
theorem nk_B_balance : zw_YV ny_B_balance nc_B_balance 3 (some .long) 1 := ⟨⟨nw_415, nw_1, by decide +kernel, by decide +kernel, by decide +kernel⟩, nw_413, nw_414⟩
theorem nk_B_shownAccount : zw_YV ny_B_shownAccount nc_B_shownAccount 2 (some (.object "DayEndBank$Account")) 1 := ⟨⟨nw_419, nw_1, by decide +kernel, by decide +kernel, by decide +kernel⟩, nw_418, (List.mem_append_left _ (List.mem_of_getElem? (i := 16) (by decide +kernel)))⟩
theorem nk_B_available : zw_YV ny_B_available nc_B_available 3 (some .long) 1 := ⟨⟨nw_423, nw_1, by decide +kernel, by decide +kernel, by decide +kernel⟩, nw_421, nw_422⟩
theorem nk_B_accrued : zw_YV ny_B_accrued nc_B_accrued 3 (some .long) 1 := ⟨⟨nw_427, nw_1, by decide +kernel, by decide +kernel, by decide +kernel⟩, nw_425, nw_426⟩
theorem nk_B_mark : zw_YV ny_B_mark nc_B_mark 3 (some .int) 1 := ⟨⟨nw_431, nw_1, by decide +kernel, by decide +kernel, by decide +kernel⟩, nw_429, nw_430⟩
theorem nk_B_ledger : zw_YV ny_B_ledger nc_B_ledger 3 (some .long) 2 := ⟨⟨nw_435, nw_1, by decide +kernel, by decide +kernel, by decide +kernel⟩, nw_433, nw_434⟩
theorem nk_B_sumOfBalances : zw_YV ny_B_sumOfBalances nc_B_sumOfBalances 5 (some .long) 1 := ⟨⟨nw_439, nw_1, by decide +kernel, by decide +kernel, by decide +kernel⟩, nw_438, (List.mem_append_left _ (List.mem_of_getElem? (i := 17) (by decide +kernel)))⟩
theorem nk_B_missed : zw_YV ny_B_missed nc_B_missed 2 (some .int) 1 := ⟨⟨nw_443, nw_1, by decide +kernel, by decide +kernel, by decide +kernel⟩, nw_441, nw_442⟩
theorem nk_B_today : zw_YV ny_B_today nc_B_today 1 (some .int) 0 := ⟨⟨nw_447, nw_1, by decide +kernel, by decide +kernel, by decide +kernel⟩, nw_445, nw_446⟩
theorem nk_B_count : zw_YV ny_B_count nc_B_count 4 (some .int) 3 := ⟨⟨nw_451, nw_1, by decide +kernel, by decide +kernel, by decide +kernel⟩, nw_449, nw_450⟩
theorem nk_B_writes : zw_YV ny_B_writes nc_B_writes 1 (some .int) 0 := ⟨⟨nw_456, nw_1, by decide +kernel, by decide +kernel, by decide +kernel⟩, nw_454, nw_455⟩
theorem nk_B_lines : zw_YV ny_B_lines nc_B_lines 1 (some .int) 0 := ⟨⟨nw_460, nw_1, by decide +kernel, by decide +kernel, by decide +kernel⟩, nw_458, nw_459⟩
theorem nk_M_open : zw_YV ny_M_open nc_M_open 5 (some .int) 4 := ⟨⟨nw_564, nw_7, by decide +kernel, by decide +kernel, by decide +kernel⟩, nw_562, nw_563⟩
theorem nk_M_shut : zw_YV ny_M_shut nc_M_shut 1 (some .int) 0 := ⟨⟨nw_568, nw_7, by decide +kernel, by decide +kernel, by decide +kernel⟩, nw_567, (List.mem_append_left _ (List.mem_of_getElem? (i := 18) (by decide +kernel)))⟩
theorem nk_M_comes : zw_YV ny_M_comes nc_M_comes 5 (some .boolean) 2 := ⟨⟨nw_573, nw_7, by decide +kernel, by decide +kernel, by decide +kernel⟩, nw_572, (List.mem_append_left _ (List.mem_of_getElem? (i := 19) (by decide +kernel)))⟩
theorem nk_M_afford : zw_YV ny_M_afford nc_M_afford 2 (some .boolean) 1 := ⟨⟨nw_577, nw_7, by decide +kernel, by decide +kernel, by decide +kernel⟩, nw_576, (List.mem_append_left _ (List.mem_of_getElem? (i := 20) (by decide +kernel)))⟩
theorem nk_M_spend : zw_YV ny_M_spend nc_M_spend 2 none 1 := ⟨⟨nw_581, nw_7, by decide +kernel, by decide +kernel, by decide +kernel⟩, nw_580, (List.mem_append_left _ (List.mem_of_getElem? (i := 21) (by decide +kernel)))⟩
theorem nk_M_pay : zw_YV ny_M_pay nc_M_pay 4 (some .int) 3 := ⟨⟨nw_585, nw_7, by decide +kernel, by decide +kernel, by decide +kernel⟩, nw_583, nw_584⟩
theorem nk_M_pair : zw_YV ny_M_pair nc_M_pair 4 (some .boolean) 2 := ⟨⟨nw_589, nw_7, by decide +kernel, by decide +kernel, by decide +kernel⟩, nw_588, (List.mem_append_left _ (List.mem_of_getElem? (i := 22) (by decide +kernel)))⟩
theorem nk_M_is : zw_YV ny_M_is nc_M_is 2 (some .boolean) 1 := ⟨⟨nw_593, nw_7, by decide +kernel, by decide +kernel, by decide +kernel⟩, nw_592, (List.mem_append_left _ (List.mem_of_getElem? (i := 23) (by decide +kernel)))⟩
theorem nk_M_amountOk : zw_YV ny_M_amountOk nc_M_amountOk 2 (some .boolean) 1 := ⟨⟨nw_597, nw_7, by decide +kernel, by decide +kernel, by decide +kernel⟩, nw_596, (List.mem_append_left _ (List.mem_of_getElem? (i := 24) (by decide +kernel)))⟩
theorem nk_M_free : zw_YV ny_M_free nc_M_free 5 (some .long) 1 := ⟨⟨nw_601, nw_7, by decide +kernel, by decide +kernel, by decide +kernel⟩, nw_600, (List.mem_append_left _ (List.mem_of_getElem? (i := 25) (by decide +kernel)))⟩
theorem nk_M_linesOf : zw_YV ny_M_linesOf nc_M_linesOf 3 (some .int) 2 := ⟨⟨nw_605, nw_7, by decide +kernel, by decide +kernel, by decide +kernel⟩, nw_604, (List.mem_append_left _ (List.mem_of_getElem? (i := 26) (by decide +kernel)))⟩
theorem nk_M_setOf : zw_YV ny_M_setOf nc_M_setOf 3 (some .int) 2 := ⟨⟨nw_609, nw_7, by decide +kernel, by decide +kernel, by decide +kernel⟩, nw_608, (List.mem_append_left _ (List.mem_of_getElem? (i := 27) (by decide +kernel)))⟩
theorem nk_M_transfer : zw_YV ny_M_transfer nc_M_transfer 4 none 3 := ⟨⟨nw_613, nw_7, by decide +kernel, by decide +kernel, by decide +kernel⟩, nw_612, (List.mem_append_left _ (List.mem_of_getElem? (i := 28) (by decide +kernel)))⟩
theorem nk_M_hold : zw_YV ny_M_hold nc_M_hold 4 (some .int) 2 := ⟨⟨nw_617, nw_7, by decide +kernel, by decide +kernel, by decide +kernel⟩, nw_615, nw_616⟩
theorem nk_M_release : zw_YV ny_M_release nc_M_release 2 (some .int) 1 := ⟨⟨nw_621, nw_7, by decide +kernel, by decide +kernel, by decide +kernel⟩, nw_619, nw_620⟩
theorem nk_M_stands : zw_YV ny_M_stands nc_M_stands 2 (some .boolean) 1 := ⟨⟨nw_625, nw_7, by decide +kernel, by decide +kernel, by decide +kernel⟩, nw_624, (List.mem_append_left _ (List.mem_of_getElem? (i := 29) (by decide +kernel)))⟩
theorem nk_M_settle : zw_YV ny_M_settle nc_M_settle 5 (some .int) 3 := ⟨⟨nw_629, nw_7, by decide +kernel, by decide +kernel, by decide +kernel⟩, nw_627, nw_628⟩
theorem nk_M_order : zw_YV ny_M_order nc_M_order 5 (some .int) 4 := ⟨⟨nw_633, nw_7, by decide +kernel, by decide +kernel, by decide +kernel⟩, nw_631, nw_632⟩
theorem nk_M_rest : zw_YV ny_M_rest nc_M_rest 2 (some .int) 1 := ⟨⟨nw_637, nw_7, by decide +kernel, by decide +kernel, by decide +kernel⟩, nw_635, nw_636⟩
theorem nk_M_resting : zw_YV ny_M_resting nc_M_resting 4 (some .boolean) 1 := ⟨⟨nw_641, nw_7, by decide +kernel, by decide +kernel, by decide +kernel⟩, nw_640, (List.mem_append_left _ (List.mem_of_getElem? (i := 30) (by decide +kernel)))⟩
theorem nk_M_later : zw_YV ny_M_later nc_M_later 3 (some .boolean) 1 := ⟨⟨nw_645, nw_7, by decide +kernel, by decide +kernel, by decide +kernel⟩, nw_644, (List.mem_append_left _ (List.mem_of_getElem? (i := 31) (by decide +kernel)))⟩
theorem nk_M_walk : zw_YV ny_M_walk nc_M_walk 4 none 1 := ⟨⟨nw_649, nw_7, by decide +kernel, by decide +kernel, by decide +kernel⟩, nw_648, (List.mem_append_left _ (List.mem_of_getElem? (i := 32) (by decide +kernel)))⟩
theorem nk_M_leap : zw_YS ny_M_leap nc_M_leap 1 (some .boolean) 1 := ⟨⟨nw_652, nw_7, by decide +kernel, by decide +kernel, by decide +kernel⟩, nw_651⟩
theorem nk_M_length : zw_YS ny_M_length nc_M_length 2 (some .int) 2 := ⟨⟨nw_655, nw_7, by decide +kernel, by decide +kernel, by decide +kernel⟩, nw_654⟩
theorem nk_M_run : zw_YV ny_M_run nc_M_run 3 (some .int) 1 := ⟨⟨nw_659, nw_7, by decide +kernel, by decide +kernel, by decide +kernel⟩, nw_657, nw_658⟩
theorem nk_M_dayEnd : zw_YV ny_M_dayEnd nc_M_dayEnd 2 (some .boolean) 0 := ⟨⟨nw_663, nw_7, by decide +kernel, by decide +kernel, by decide +kernel⟩, nw_662, (List.mem_append_left _ (List.mem_of_getElem? (i := 33) (by decide +kernel)))⟩
theorem nk_M_step : zw_YV ny_M_step nc_M_step 6 (some .boolean) 1 := ⟨⟨nw_667, nw_7, by decide +kernel, by decide +kernel, by decide +kernel⟩, nw_666, (List.mem_append_left _ (List.mem_of_getElem? (i := 34) (by decide +kernel)))⟩
theorem nk_M_paidOrders : zw_YV ny_M_paidOrders nc_M_paidOrders 6 (some .int) 1 := ⟨⟨nw_671, nw_7, by decide +kernel, by decide +kernel, by decide +kernel⟩, nw_670, (List.mem_append_left _ (List.mem_of_getElem? (i := 35) (by decide +kernel)))⟩
theorem nk_M_due : zw_YV ny_M_due nc_M_due 7 (some .boolean) 1 := ⟨⟨nw_675, nw_7, by decide +kernel, by decide +kernel, by decide +kernel⟩, nw_674, (List.mem_append_left _ (List.mem_of_getElem? (i := 36) (by decide +kernel)))⟩
theorem nk_M_grow : zw_YV ny_M_grow nc_M_grow 9 none 1 := ⟨⟨nw_679, nw_7, by decide +kernel, by decide +kernel, by decide +kernel⟩, nw_678, (List.mem_append_left _ (List.mem_of_getElem? (i := 37) (by decide +kernel)))⟩
theorem nk_M_days : zw_YV ny_M_days nc_M_days 8 (some .int) 3 := ⟨⟨nw_683, nw_7, by decide +kernel, by decide +kernel, by decide +kernel⟩, nw_682, (List.mem_append_left _ (List.mem_of_getElem? (i := 38) (by decide +kernel)))⟩
theorem nk_M_fuse : zw_YV ny_M_fuse nc_M_fuse 2 (some .boolean) 1 := ⟨⟨nw_689, nw_7, by decide +kernel, by decide +kernel, by decide +kernel⟩, nw_687, nw_688⟩
theorem nk_M_restart : zw_YV ny_M_restart nc_M_restart 1 (some .int) 0 := ⟨⟨nw_693, nw_7, by decide +kernel, by decide +kernel, by decide +kernel⟩, nw_691, nw_692⟩
theorem nk_M_balance : zw_YV ny_M_balance nc_M_balance 2 (some .long) 1 := ⟨⟨nw_697, nw_7, by decide +kernel, by decide +kernel, by decide +kernel⟩, nw_695, nw_696⟩
theorem nk_M_available : zw_YV ny_M_available nc_M_available 2 (some .long) 1 := ⟨⟨nw_701, nw_7, by decide +kernel, by decide +kernel, by decide +kernel⟩, nw_699, nw_700⟩
theorem nk_M_accrued : zw_YV ny_M_accrued nc_M_accrued 2 (some .long) 1 := ⟨⟨nw_705, nw_7, by decide +kernel, by decide +kernel, by decide +kernel⟩, nw_703, nw_704⟩
theorem nk_M_mark : zw_YV ny_M_mark nc_M_mark 2 (some .int) 1 := ⟨⟨nw_709, nw_7, by decide +kernel, by decide +kernel, by decide +kernel⟩, nw_707, nw_708⟩
theorem nk_M_ledger : zw_YV ny_M_ledger nc_M_ledger 6 (some .long) 2 := ⟨⟨nw_713, nw_7, by decide +kernel, by decide +kernel, by decide +kernel⟩, nw_711, nw_712⟩
theorem nk_M_missed : zw_YV ny_M_missed nc_M_missed 2 (some .int) 1 := ⟨⟨nw_717, nw_7, by decide +kernel, by decide +kernel, by decide +kernel⟩, nw_715, nw_716⟩
theorem nk_M_today : zw_YV ny_M_today nc_M_today 1 (some .int) 0 := ⟨⟨nw_721, nw_7, by decide +kernel, by decide +kernel, by decide +kernel⟩, nw_719, nw_720⟩
theorem nk_M_count : zw_YV ny_M_count nc_M_count 4 (some .int) 3 := ⟨⟨nw_725, nw_7, by decide +kernel, by decide +kernel, by decide +kernel⟩, nw_723, nw_724⟩
theorem nk_M_writes : zw_YV ny_M_writes nc_M_writes 1 (some .int) 0 := ⟨⟨nw_730, nw_7, by decide +kernel, by decide +kernel, by decide +kernel⟩, nw_728, nw_729⟩
theorem nk_M_lines : zw_YV ny_M_lines nc_M_lines 1 (some .int) 0 := ⟨⟨nw_734, nw_7, by decide +kernel, by decide +kernel, by decide +kernel⟩, nw_732, nw_733⟩
theorem zw_inB : ∀ w ∈ u_ws nR_B nT_B 11, w ∈ zw_big := by
  intro w hw
  obtain ⟨k, hk, rfl⟩ := List.mem_map.mp hw
  rw [List.mem_range] at hk
  rcases (show k = 0 ∨ k = 1 ∨ k = 2 ∨ k = 3 ∨ k = 4 ∨ k = 5 ∨ k = 6 ∨ k = 7 ∨ k = 8 ∨ k = 9 ∨ k = 10 by omega) with rfl | rfl | rfl | rfl | rfl | rfl | rfl | rfl | rfl | rfl | rfl
  · exact nw_166
  · exact nw_168
  · exact nw_170
  · exact nw_172
  · exact nw_174
  · exact nw_176
  · exact nw_178
  · exact nw_180
  · exact nw_182
  · exact nw_184
  · exact nw_186
theorem zw_inA : ∀ w ∈ u_ws nR_A nT_A 9, w ∈ zw_big := by
  intro w hw
  obtain ⟨k, hk, rfl⟩ := List.mem_map.mp hw
  rw [List.mem_range] at hk
  rcases (show k = 0 ∨ k = 1 ∨ k = 2 ∨ k = 3 ∨ k = 4 ∨ k = 5 ∨ k = 6 ∨ k = 7 ∨ k = 8 by omega) with rfl | rfl | rfl | rfl | rfl | rfl | rfl | rfl | rfl
  · exact nw_90
  · exact nw_92
  · exact nw_94
  · exact nw_96
  · exact nw_98
  · exact nw_100
  · exact nw_102
  · exact nw_104
  · exact nw_106
theorem zw_inH : ∀ w ∈ u_ws nR_H nT_H 2, w ∈ zw_big := by
  intro w hw
  obtain ⟨k, hk, rfl⟩ := List.mem_map.mp hw
  rw [List.mem_range] at hk
  rcases (show k = 0 ∨ k = 1 by omega) with rfl | rfl
  · exact nw_119
  · exact nw_121
theorem zw_inO : ∀ w ∈ u_ws nR_O nT_O 7, w ∈ zw_big := by
  intro w hw
  obtain ⟨k, hk, rfl⟩ := List.mem_map.mp hw
  rw [List.mem_range] at hk
  rcases (show k = 0 ∨ k = 1 ∨ k = 2 ∨ k = 3 ∨ k = 4 ∨ k = 5 ∨ k = 6 by omega) with rfl | rfl | rfl | rfl | rfl | rfl | rfl
  · exact nw_140
  · exact nw_142
  · exact nw_144
  · exact nw_146
  · exact nw_148
  · exact nw_150
  · exact nw_152
theorem zw_inR : ∀ w ∈ u_ws nR_R nT_R 2, w ∈ zw_big := by
  intro w hw
  obtain ⟨k, hk, rfl⟩ := List.mem_map.mp hw
  rw [List.mem_range] at hk
  rcases (show k = 0 ∨ k = 1 by omega) with rfl | rfl
  · exact nw_33
  · exact nw_35
theorem zw_inD : ∀ w ∈ u_ws nR_D nT_D 6, w ∈ zw_big := by
  intro w hw
  obtain ⟨k, hk, rfl⟩ := List.mem_map.mp hw
  rw [List.mem_range] at hk
  rcases (show k = 0 ∨ k = 1 ∨ k = 2 ∨ k = 3 ∨ k = 4 ∨ k = 5 by omega) with rfl | rfl | rfl | rfl | rfl | rfl
  · exact nw_56
  · exact nw_58
  · exact nw_60
  · exact nw_62
  · exact nw_64
  · exact nw_66
theorem zw_inM : ∀ w ∈ u_ws nR_M nT_M 31, w ∈ zw_big := by
  intro w hw
  obtain ⟨k, hk, rfl⟩ := List.mem_map.mp hw
  rw [List.mem_range] at hk
  rcases (show k = 0 ∨ k = 1 ∨ k = 2 ∨ k = 3 ∨ k = 4 ∨ k = 5 ∨ k = 6 ∨ k = 7 ∨ k = 8 ∨ k = 9 ∨ k = 10 ∨ k = 11 ∨ k = 12 ∨ k = 13 ∨ k = 14 ∨ k = 15 ∨ k = 16 ∨ k = 17 ∨ k = 18 ∨ k = 19 ∨ k = 20 ∨ k = 21 ∨ k = 22 ∨ k = 23 ∨ k = 24 ∨ k = 25 ∨ k = 26 ∨ k = 27 ∨ k = 28 ∨ k = 29 ∨ k = 30 by omega) with rfl | rfl | rfl | rfl | rfl | rfl | rfl | rfl | rfl | rfl | rfl | rfl | rfl | rfl | rfl | rfl | rfl | rfl | rfl | rfl | rfl | rfl | rfl | rfl | rfl | rfl | rfl | rfl | rfl | rfl | rfl
  · exact nw_498
  · exact nw_500
  · exact nw_502
  · exact nw_504
  · exact nw_506
  · exact nw_508
  · exact nw_510
  · exact nw_512
  · exact nw_514
  · exact nw_516
  · exact nw_518
  · exact nw_520
  · exact nw_522
  · exact nw_524
  · exact nw_526
  · exact nw_528
  · exact nw_530
  · exact nw_532
  · exact nw_534
  · exact nw_536
  · exact nw_538
  · exact nw_540
  · exact nw_542
  · exact nw_544
  · exact nw_546
  · exact nw_548
  · exact nw_550
  · exact nw_552
  · exact nw_554
  · exact nw_556
  · exact nw_558
end
section
/-! STATE: what the class (zb) and the reference (zm) hold, as plain tuples; readers zb_x, writers zb_sx; addresses zg_G, zh_G -/
abbrev zb_TA : Type := (Nat → Int32) × (Nat → Int32) × (Nat → Int32) × (Nat → Int32) × (Nat → Int64) × (Nat → Int64) × (Nat → Int64) × (Nat → Int32)
abbrev zb_TH : Type := (Nat → Option Nat) × (Nat → Int32)
abbrev zb_TO : Type := (Nat → Option Nat) × (Nat → Option Nat) × (Nat → Int32) × (Nat → Int32) × (Nat → Int32) × (Nat → Int32) × (Nat → Int32)
abbrev zb_TR : Type := (Nat → Int32) × Int32
abbrev zb_TD : Type := Int32 × Int32 × Int32 × Int32 × Int32 × Int32
abbrev zb_TM : Type := (Nat → Int64) × (Nat → Int64) × Int32 × Int32 × Int32 × Int32
abbrev zb_S : Type := zb_TA × zb_TH × zb_TO × zb_TR × zb_TD × zb_TM
def zb_A (S : zb_S) : zb_TA := S.1
def zb_sA (S : zb_S) (x : zb_TA) : zb_S := (x, S.2.1, S.2.2.1, S.2.2.2.1, S.2.2.2.2.1, S.2.2.2.2.2)
def zbA_cur (x : zb_TA) : Nat → Int32 := x.1
def zb_cur (S : zb_S) : Nat → Int32 := zbA_cur (zb_A S)
def zbA_scur (x : zb_TA) (v : Nat → Int32) : zb_TA := (v, x.2.1, x.2.2.1, x.2.2.2.1, x.2.2.2.2.1, x.2.2.2.2.2.1, x.2.2.2.2.2.2.1, x.2.2.2.2.2.2.2)
def zb_scur (S : zb_S) (v : Nat → Int32) : zb_S := zb_sA S (zbA_scur (zb_A S) v)
def zbA_bas (x : zb_TA) : Nat → Int32 := x.2.1
def zb_bas (S : zb_S) : Nat → Int32 := zbA_bas (zb_A S)
def zbA_sbas (x : zb_TA) (v : Nat → Int32) : zb_TA := (x.1, v, x.2.2.1, x.2.2.2.1, x.2.2.2.2.1, x.2.2.2.2.2.1, x.2.2.2.2.2.2.1, x.2.2.2.2.2.2.2)
def zb_sbas (S : zb_S) (v : Nat → Int32) : zb_S := zb_sA S (zbA_sbas (zb_A S) v)
def zbA_lim (x : zb_TA) : Nat → Int32 := x.2.2.1
def zb_lim (S : zb_S) : Nat → Int32 := zbA_lim (zb_A S)
def zbA_slim (x : zb_TA) (v : Nat → Int32) : zb_TA := (x.1, x.2.1, v, x.2.2.2.1, x.2.2.2.2.1, x.2.2.2.2.2.1, x.2.2.2.2.2.2.1, x.2.2.2.2.2.2.2)
def zb_slim (S : zb_S) (v : Nat → Int32) : zb_S := zb_sA S (zbA_slim (zb_A S) v)
def zbA_rat (x : zb_TA) : Nat → Int32 := x.2.2.2.1
def zb_rat (S : zb_S) : Nat → Int32 := zbA_rat (zb_A S)
def zbA_srat (x : zb_TA) (v : Nat → Int32) : zb_TA := (x.1, x.2.1, x.2.2.1, v, x.2.2.2.2.1, x.2.2.2.2.2.1, x.2.2.2.2.2.2.1, x.2.2.2.2.2.2.2)
def zb_srat (S : zb_S) (v : Nat → Int32) : zb_S := zb_sA S (zbA_srat (zb_A S) v)
def zbA_bal (x : zb_TA) : Nat → Int64 := x.2.2.2.2.1
def zb_bal (S : zb_S) : Nat → Int64 := zbA_bal (zb_A S)
def zbA_sbal (x : zb_TA) (v : Nat → Int64) : zb_TA := (x.1, x.2.1, x.2.2.1, x.2.2.2.1, v, x.2.2.2.2.2.1, x.2.2.2.2.2.2.1, x.2.2.2.2.2.2.2)
def zb_sbal (S : zb_S) (v : Nat → Int64) : zb_S := zb_sA S (zbA_sbal (zb_A S) v)
def zbA_hel (x : zb_TA) : Nat → Int64 := x.2.2.2.2.2.1
def zb_hel (S : zb_S) : Nat → Int64 := zbA_hel (zb_A S)
def zbA_shel (x : zb_TA) (v : Nat → Int64) : zb_TA := (x.1, x.2.1, x.2.2.1, x.2.2.2.1, x.2.2.2.2.1, v, x.2.2.2.2.2.2.1, x.2.2.2.2.2.2.2)
def zb_shel (S : zb_S) (v : Nat → Int64) : zb_S := zb_sA S (zbA_shel (zb_A S) v)
def zbA_acr (x : zb_TA) : Nat → Int64 := x.2.2.2.2.2.2.1
def zb_acr (S : zb_S) : Nat → Int64 := zbA_acr (zb_A S)
def zbA_sacr (x : zb_TA) (v : Nat → Int64) : zb_TA := (x.1, x.2.1, x.2.2.1, x.2.2.2.1, x.2.2.2.2.1, x.2.2.2.2.2.1, v, x.2.2.2.2.2.2.2)
def zb_sacr (S : zb_S) (v : Nat → Int64) : zb_S := zb_sA S (zbA_sacr (zb_A S) v)
def zbA_mrk (x : zb_TA) : Nat → Int32 := x.2.2.2.2.2.2.2
def zb_mrk (S : zb_S) : Nat → Int32 := zbA_mrk (zb_A S)
def zbA_smrk (x : zb_TA) (v : Nat → Int32) : zb_TA := (x.1, x.2.1, x.2.2.1, x.2.2.2.1, x.2.2.2.2.1, x.2.2.2.2.2.1, x.2.2.2.2.2.2.1, v)
def zb_smrk (S : zb_S) (v : Nat → Int32) : zb_S := zb_sA S (zbA_smrk (zb_A S) v)
def zb_H (S : zb_S) : zb_TH := S.2.1
def zb_sH (S : zb_S) (x : zb_TH) : zb_S := (S.1, x, S.2.2.1, S.2.2.2.1, S.2.2.2.2.1, S.2.2.2.2.2)
def zbH_hol (x : zb_TH) : Nat → Option Nat := x.1
def zb_hol (S : zb_S) : Nat → Option Nat := zbH_hol (zb_H S)
def zbH_shol (x : zb_TH) (v : Nat → Option Nat) : zb_TH := (v, x.2)
def zb_shol (S : zb_S) (v : Nat → Option Nat) : zb_S := zb_sH S (zbH_shol (zb_H S) v)
def zbH_ham (x : zb_TH) : Nat → Int32 := x.2
def zb_ham (S : zb_S) : Nat → Int32 := zbH_ham (zb_H S)
def zbH_sham (x : zb_TH) (v : Nat → Int32) : zb_TH := (x.1, v)
def zb_sham (S : zb_S) (v : Nat → Int32) : zb_S := zb_sH S (zbH_sham (zb_H S) v)
def zb_O (S : zb_S) : zb_TO := S.2.2.1
def zb_sO (S : zb_S) (x : zb_TO) : zb_S := (S.1, S.2.1, x, S.2.2.2.1, S.2.2.2.2.1, S.2.2.2.2.2)
def zbO_pyr (x : zb_TO) : Nat → Option Nat := x.1
def zb_pyr (S : zb_S) : Nat → Option Nat := zbO_pyr (zb_O S)
def zbO_spyr (x : zb_TO) (v : Nat → Option Nat) : zb_TO := (v, x.2.1, x.2.2.1, x.2.2.2.1, x.2.2.2.2.1, x.2.2.2.2.2.1, x.2.2.2.2.2.2)
def zb_spyr (S : zb_S) (v : Nat → Option Nat) : zb_S := zb_sO S (zbO_spyr (zb_O S) v)
def zbO_pye (x : zb_TO) : Nat → Option Nat := x.2.1
def zb_pye (S : zb_S) : Nat → Option Nat := zbO_pye (zb_O S)
def zbO_spye (x : zb_TO) (v : Nat → Option Nat) : zb_TO := (x.1, v, x.2.2.1, x.2.2.2.1, x.2.2.2.2.1, x.2.2.2.2.2.1, x.2.2.2.2.2.2)
def zb_spye (S : zb_S) (v : Nat → Option Nat) : zb_S := zb_sO S (zbO_spye (zb_O S) v)
def zbO_oam (x : zb_TO) : Nat → Int32 := x.2.2.1
def zb_oam (S : zb_S) : Nat → Int32 := zbO_oam (zb_O S)
def zbO_soam (x : zb_TO) (v : Nat → Int32) : zb_TO := (x.1, x.2.1, v, x.2.2.2.1, x.2.2.2.2.1, x.2.2.2.2.2.1, x.2.2.2.2.2.2)
def zb_soam (S : zb_S) (v : Nat → Int32) : zb_S := zb_sO S (zbO_soam (zb_O S) v)
def zbO_ody (x : zb_TO) : Nat → Int32 := x.2.2.2.1
def zb_ody (S : zb_S) : Nat → Int32 := zbO_ody (zb_O S)
def zbO_sody (x : zb_TO) (v : Nat → Int32) : zb_TO := (x.1, x.2.1, x.2.2.1, v, x.2.2.2.2.1, x.2.2.2.2.2.1, x.2.2.2.2.2.2)
def zb_sody (S : zb_S) (v : Nat → Int32) : zb_S := zb_sO S (zbO_sody (zb_O S) v)
def zbO_oms (x : zb_TO) : Nat → Int32 := x.2.2.2.2.1
def zb_oms (S : zb_S) : Nat → Int32 := zbO_oms (zb_O S)
def zbO_soms (x : zb_TO) (v : Nat → Int32) : zb_TO := (x.1, x.2.1, x.2.2.1, x.2.2.2.1, v, x.2.2.2.2.2.1, x.2.2.2.2.2.2)
def zb_soms (S : zb_S) (v : Nat → Int32) : zb_S := zb_sO S (zbO_soms (zb_O S) v)
def zbO_odu (x : zb_TO) : Nat → Int32 := x.2.2.2.2.2.1
def zb_odu (S : zb_S) : Nat → Int32 := zbO_odu (zb_O S)
def zbO_sodu (x : zb_TO) (v : Nat → Int32) : zb_TO := (x.1, x.2.1, x.2.2.1, x.2.2.2.1, x.2.2.2.2.1, v, x.2.2.2.2.2.2)
def zb_sodu (S : zb_S) (v : Nat → Int32) : zb_S := zb_sO S (zbO_sodu (zb_O S) v)
def zbO_opd (x : zb_TO) : Nat → Int32 := x.2.2.2.2.2.2
def zb_opd (S : zb_S) : Nat → Int32 := zbO_opd (zb_O S)
def zbO_sopd (x : zb_TO) (v : Nat → Int32) : zb_TO := (x.1, x.2.1, x.2.2.1, x.2.2.2.1, x.2.2.2.2.1, x.2.2.2.2.2.1, v)
def zb_sopd (S : zb_S) (v : Nat → Int32) : zb_S := zb_sO S (zbO_sopd (zb_O S) v)
def zb_R (S : zb_S) : zb_TR := S.2.2.2.1
def zb_sR (S : zb_S) (x : zb_TR) : zb_S := (S.1, S.2.1, S.2.2.1, x, S.2.2.2.2.1, S.2.2.2.2.2)
def zbR_dat (x : zb_TR) : Nat → Int32 := x.1
def zb_dat (S : zb_S) : Nat → Int32 := zbR_dat (zb_R S)
def zbR_sdat (x : zb_TR) (v : Nat → Int32) : zb_TR := (v, x.2)
def zb_sdat (S : zb_S) (v : Nat → Int32) : zb_S := zb_sR S (zbR_sdat (zb_R S) v)
def zbR_dm (x : zb_TR) : Int32 := x.2
def zb_dm (S : zb_S) : Int32 := zbR_dm (zb_R S)
def zbR_sdm (x : zb_TR) (v : Int32) : zb_TR := (x.1, v)
def zb_sdm (S : zb_S) (v : Int32) : zb_S := zb_sR S (zbR_sdm (zb_R S) v)
def zb_D (S : zb_S) : zb_TD := S.2.2.2.2.1
def zb_sD (S : zb_S) (x : zb_TD) : zb_S := (S.1, S.2.1, S.2.2.1, S.2.2.2.1, x, S.2.2.2.2.2)
def zbD_stp (x : zb_TD) : Int32 := x.1
def zb_stp (S : zb_S) : Int32 := zbD_stp (zb_D S)
def zbD_sstp (x : zb_TD) (v : Int32) : zb_TD := (v, x.2.1, x.2.2.1, x.2.2.2.1, x.2.2.2.2.1, x.2.2.2.2.2)
def zb_sstp (S : zb_S) (v : Int32) : zb_S := zb_sD S (zbD_sstp (zb_D S) v)
def zbD_wm (x : zb_TD) : Int32 := x.2.1
def zb_wm (S : zb_S) : Int32 := zbD_wm (zb_D S)
def zbD_swm (x : zb_TD) (v : Int32) : zb_TD := (x.1, v, x.2.2.1, x.2.2.2.1, x.2.2.2.2.1, x.2.2.2.2.2)
def zb_swm (S : zb_S) (v : Int32) : zb_S := zb_sD S (zbD_swm (zb_D S) v)
def zbD_wl (x : zb_TD) : Int32 := x.2.2.1
def zb_wl (S : zb_S) : Int32 := zbD_wl (zb_D S)
def zbD_swl (x : zb_TD) (v : Int32) : zb_TD := (x.1, x.2.1, v, x.2.2.2.1, x.2.2.2.2.1, x.2.2.2.2.2)
def zb_swl (S : zb_S) (v : Int32) : zb_S := zb_sD S (zbD_swl (zb_D S) v)
def zbD_lin (x : zb_TD) : Int32 := x.2.2.2.1
def zb_lin (S : zb_S) : Int32 := zbD_lin (zb_D S)
def zbD_slin (x : zb_TD) (v : Int32) : zb_TD := (x.1, x.2.1, x.2.2.1, v, x.2.2.2.2.1, x.2.2.2.2.2)
def zb_slin (S : zb_S) (v : Int32) : zb_S := zb_sD S (zbD_slin (zb_D S) v)
def zbD_trn (x : zb_TD) : Int32 := x.2.2.2.2.1
def zb_trn (S : zb_S) : Int32 := zbD_trn (zb_D S)
def zbD_strn (x : zb_TD) (v : Int32) : zb_TD := (x.1, x.2.1, x.2.2.1, x.2.2.2.1, v, x.2.2.2.2.2)
def zb_strn (S : zb_S) (v : Int32) : zb_S := zb_sD S (zbD_strn (zb_D S) v)
def zbD_chg (x : zb_TD) : Int32 := x.2.2.2.2.2
def zb_chg (S : zb_S) : Int32 := zbD_chg (zb_D S)
def zbD_schg (x : zb_TD) (v : Int32) : zb_TD := (x.1, x.2.1, x.2.2.1, x.2.2.2.1, x.2.2.2.2.1, v)
def zb_schg (S : zb_S) (v : Int32) : zb_S := zb_sD S (zbD_schg (zb_D S) v)
def zb_M (S : zb_S) : zb_TM := S.2.2.2.2.2
def zb_sM (S : zb_S) (x : zb_TM) : zb_S := (S.1, S.2.1, S.2.2.1, S.2.2.2.1, S.2.2.2.2.1, x)
def zbM_csh (x : zb_TM) : Nat → Int64 := x.1
def zb_csh (S : zb_S) : Nat → Int64 := zbM_csh (zb_M S)
def zbM_scsh (x : zb_TM) (v : Nat → Int64) : zb_TM := (v, x.2.1, x.2.2.1, x.2.2.2.1, x.2.2.2.2.1, x.2.2.2.2.2)
def zb_scsh (S : zb_S) (v : Nat → Int64) : zb_S := zb_sM S (zbM_scsh (zb_M S) v)
def zbM_itr (x : zb_TM) : Nat → Int64 := x.2.1
def zb_itr (S : zb_S) : Nat → Int64 := zbM_itr (zb_M S)
def zbM_sitr (x : zb_TM) (v : Nat → Int64) : zb_TM := (x.1, v, x.2.2.1, x.2.2.2.1, x.2.2.2.2.1, x.2.2.2.2.2)
def zb_sitr (S : zb_S) (v : Nat → Int64) : zb_S := zb_sM S (zbM_sitr (zb_M S) v)
def zbM_n (x : zb_TM) : Int32 := x.2.2.1
def zb_n (S : zb_S) : Int32 := zbM_n (zb_M S)
def zbM_sn (x : zb_TM) (v : Int32) : zb_TM := (x.1, x.2.1, v, x.2.2.2.1, x.2.2.2.2.1, x.2.2.2.2.2)
def zb_sn (S : zb_S) (v : Int32) : zb_S := zb_sM S (zbM_sn (zb_M S) v)
def zbM_o (x : zb_TM) : Int32 := x.2.2.2.1
def zb_o (S : zb_S) : Int32 := zbM_o (zb_M S)
def zbM_so (x : zb_TM) (v : Int32) : zb_TM := (x.1, x.2.1, x.2.2.1, v, x.2.2.2.2.1, x.2.2.2.2.2)
def zb_so (S : zb_S) (v : Int32) : zb_S := zb_sM S (zbM_so (zb_M S) v)
def zbM_bd (x : zb_TM) : Int32 := x.2.2.2.2.1
def zb_bd (S : zb_S) : Int32 := zbM_bd (zb_M S)
def zbM_sbd (x : zb_TM) (v : Int32) : zb_TM := (x.1, x.2.1, x.2.2.1, x.2.2.2.1, v, x.2.2.2.2.2)
def zb_sbd (S : zb_S) (v : Int32) : zb_S := zb_sM S (zbM_sbd (zb_M S) v)
def zbM_de (x : zb_TM) : Int32 := x.2.2.2.2.2
def zb_de (S : zb_S) : Int32 := zbM_de (zb_M S)
def zbM_sde (x : zb_TM) (v : Int32) : zb_TM := (x.1, x.2.1, x.2.2.1, x.2.2.2.1, x.2.2.2.2.1, v)
def zb_sde (S : zb_S) (v : Int32) : zb_S := zb_sM S (zbM_sde (zb_M S) v)
abbrev zm_TA : Type := (Nat → Int32) × (Nat → Int32) × (Nat → Int32) × (Nat → Int32) × (Nat → Int64) × (Nat → Int64) × (Nat → Int32)
abbrev zm_TH : Type := (Nat → Int32) × (Nat → Int32)
abbrev zm_TO : Type := (Nat → Int32) × (Nat → Int32) × (Nat → Int32) × (Nat → Int32) × (Nat → Int32)
abbrev zm_TR : Type := (Nat → Int32) × Int32
abbrev zm_TD : Type := Int32 × Int32 × Int32 × Int32 × Int32 × Int32
abbrev zm_TL : Type := (Nat → Int64) × (Nat → Int64) × Int32 × Int32 × Int32 × Int32
abbrev zm_S : Type := zm_TA × zm_TH × zm_TO × zm_TR × zm_TD × zm_TL
def zm_A (S : zm_S) : zm_TA := S.1
def zm_sA (S : zm_S) (x : zm_TA) : zm_S := (x, S.2.1, S.2.2.1, S.2.2.2.1, S.2.2.2.2.1, S.2.2.2.2.2)
def zmA_cur (x : zm_TA) : Nat → Int32 := x.1
def zm_cur (S : zm_S) : Nat → Int32 := zmA_cur (zm_A S)
def zmA_scur (x : zm_TA) (v : Nat → Int32) : zm_TA := (v, x.2.1, x.2.2.1, x.2.2.2.1, x.2.2.2.2.1, x.2.2.2.2.2.1, x.2.2.2.2.2.2)
def zm_scur (S : zm_S) (v : Nat → Int32) : zm_S := zm_sA S (zmA_scur (zm_A S) v)
def zmA_bas (x : zm_TA) : Nat → Int32 := x.2.1
def zm_bas (S : zm_S) : Nat → Int32 := zmA_bas (zm_A S)
def zmA_sbas (x : zm_TA) (v : Nat → Int32) : zm_TA := (x.1, v, x.2.2.1, x.2.2.2.1, x.2.2.2.2.1, x.2.2.2.2.2.1, x.2.2.2.2.2.2)
def zm_sbas (S : zm_S) (v : Nat → Int32) : zm_S := zm_sA S (zmA_sbas (zm_A S) v)
def zmA_lim (x : zm_TA) : Nat → Int32 := x.2.2.1
def zm_lim (S : zm_S) : Nat → Int32 := zmA_lim (zm_A S)
def zmA_slim (x : zm_TA) (v : Nat → Int32) : zm_TA := (x.1, x.2.1, v, x.2.2.2.1, x.2.2.2.2.1, x.2.2.2.2.2.1, x.2.2.2.2.2.2)
def zm_slim (S : zm_S) (v : Nat → Int32) : zm_S := zm_sA S (zmA_slim (zm_A S) v)
def zmA_rat (x : zm_TA) : Nat → Int32 := x.2.2.2.1
def zm_rat (S : zm_S) : Nat → Int32 := zmA_rat (zm_A S)
def zmA_srat (x : zm_TA) (v : Nat → Int32) : zm_TA := (x.1, x.2.1, x.2.2.1, v, x.2.2.2.2.1, x.2.2.2.2.2.1, x.2.2.2.2.2.2)
def zm_srat (S : zm_S) (v : Nat → Int32) : zm_S := zm_sA S (zmA_srat (zm_A S) v)
def zmA_mon (x : zm_TA) : Nat → Int64 := x.2.2.2.2.1
def zm_mon (S : zm_S) : Nat → Int64 := zmA_mon (zm_A S)
def zmA_smon (x : zm_TA) (v : Nat → Int64) : zm_TA := (x.1, x.2.1, x.2.2.1, x.2.2.2.1, v, x.2.2.2.2.2.1, x.2.2.2.2.2.2)
def zm_smon (S : zm_S) (v : Nat → Int64) : zm_S := zm_sA S (zmA_smon (zm_A S) v)
def zmA_acr (x : zm_TA) : Nat → Int64 := x.2.2.2.2.2.1
def zm_acr (S : zm_S) : Nat → Int64 := zmA_acr (zm_A S)
def zmA_sacr (x : zm_TA) (v : Nat → Int64) : zm_TA := (x.1, x.2.1, x.2.2.1, x.2.2.2.1, x.2.2.2.2.1, v, x.2.2.2.2.2.2)
def zm_sacr (S : zm_S) (v : Nat → Int64) : zm_S := zm_sA S (zmA_sacr (zm_A S) v)
def zmA_mrk (x : zm_TA) : Nat → Int32 := x.2.2.2.2.2.2
def zm_mrk (S : zm_S) : Nat → Int32 := zmA_mrk (zm_A S)
def zmA_smrk (x : zm_TA) (v : Nat → Int32) : zm_TA := (x.1, x.2.1, x.2.2.1, x.2.2.2.1, x.2.2.2.2.1, x.2.2.2.2.2.1, v)
def zm_smrk (S : zm_S) (v : Nat → Int32) : zm_S := zm_sA S (zmA_smrk (zm_A S) v)
def zm_H (S : zm_S) : zm_TH := S.2.1
def zm_sH (S : zm_S) (x : zm_TH) : zm_S := (S.1, x, S.2.2.1, S.2.2.2.1, S.2.2.2.2.1, S.2.2.2.2.2)
def zmH_hof (x : zm_TH) : Nat → Int32 := x.1
def zm_hof (S : zm_S) : Nat → Int32 := zmH_hof (zm_H S)
def zmH_shof (x : zm_TH) (v : Nat → Int32) : zm_TH := (v, x.2)
def zm_shof (S : zm_S) (v : Nat → Int32) : zm_S := zm_sH S (zmH_shof (zm_H S) v)
def zmH_ham (x : zm_TH) : Nat → Int32 := x.2
def zm_ham (S : zm_S) : Nat → Int32 := zmH_ham (zm_H S)
def zmH_sham (x : zm_TH) (v : Nat → Int32) : zm_TH := (x.1, v)
def zm_sham (S : zm_S) (v : Nat → Int32) : zm_S := zm_sH S (zmH_sham (zm_H S) v)
def zm_O (S : zm_S) : zm_TO := S.2.2.1
def zm_sO (S : zm_S) (x : zm_TO) : zm_S := (S.1, S.2.1, x, S.2.2.2.1, S.2.2.2.2.1, S.2.2.2.2.2)
def zmO_pyr (x : zm_TO) : Nat → Int32 := x.1
def zm_pyr (S : zm_S) : Nat → Int32 := zmO_pyr (zm_O S)
def zmO_spyr (x : zm_TO) (v : Nat → Int32) : zm_TO := (v, x.2.1, x.2.2.1, x.2.2.2.1, x.2.2.2.2)
def zm_spyr (S : zm_S) (v : Nat → Int32) : zm_S := zm_sO S (zmO_spyr (zm_O S) v)
def zmO_pye (x : zm_TO) : Nat → Int32 := x.2.1
def zm_pye (S : zm_S) : Nat → Int32 := zmO_pye (zm_O S)
def zmO_spye (x : zm_TO) (v : Nat → Int32) : zm_TO := (x.1, v, x.2.2.1, x.2.2.2.1, x.2.2.2.2)
def zm_spye (S : zm_S) (v : Nat → Int32) : zm_S := zm_sO S (zmO_spye (zm_O S) v)
def zmO_sum (x : zm_TO) : Nat → Int32 := x.2.2.1
def zm_sum (S : zm_S) : Nat → Int32 := zmO_sum (zm_O S)
def zmO_ssum (x : zm_TO) (v : Nat → Int32) : zm_TO := (x.1, x.2.1, v, x.2.2.2.1, x.2.2.2.2)
def zm_ssum (S : zm_S) (v : Nat → Int32) : zm_S := zm_sO S (zmO_ssum (zm_O S) v)
def zmO_ody (x : zm_TO) : Nat → Int32 := x.2.2.2.1
def zm_ody (S : zm_S) : Nat → Int32 := zmO_ody (zm_O S)
def zmO_sody (x : zm_TO) (v : Nat → Int32) : zm_TO := (x.1, x.2.1, x.2.2.1, v, x.2.2.2.2)
def zm_sody (S : zm_S) (v : Nat → Int32) : zm_S := zm_sO S (zmO_sody (zm_O S) v)
def zmO_mis (x : zm_TO) : Nat → Int32 := x.2.2.2.2
def zm_mis (S : zm_S) : Nat → Int32 := zmO_mis (zm_O S)
def zmO_smis (x : zm_TO) (v : Nat → Int32) : zm_TO := (x.1, x.2.1, x.2.2.1, x.2.2.2.1, v)
def zm_smis (S : zm_S) (v : Nat → Int32) : zm_S := zm_sO S (zmO_smis (zm_O S) v)
def zm_R (S : zm_S) : zm_TR := S.2.2.2.1
def zm_sR (S : zm_S) (x : zm_TR) : zm_S := (S.1, S.2.1, S.2.2.1, x, S.2.2.2.2.1, S.2.2.2.2.2)
def zmR_dat (x : zm_TR) : Nat → Int32 := x.1
def zm_dat (S : zm_S) : Nat → Int32 := zmR_dat (zm_R S)
def zmR_sdat (x : zm_TR) (v : Nat → Int32) : zm_TR := (v, x.2)
def zm_sdat (S : zm_S) (v : Nat → Int32) : zm_S := zm_sR S (zmR_sdat (zm_R S) v)
def zmR_rst (x : zm_TR) : Int32 := x.2
def zm_rst (S : zm_S) : Int32 := zmR_rst (zm_R S)
def zmR_srst (x : zm_TR) (v : Int32) : zm_TR := (x.1, v)
def zm_srst (S : zm_S) (v : Int32) : zm_S := zm_sR S (zmR_srst (zm_R S) v)
def zm_D (S : zm_S) : zm_TD := S.2.2.2.2.1
def zm_sD (S : zm_S) (x : zm_TD) : zm_S := (S.1, S.2.1, S.2.2.1, S.2.2.2.1, x, S.2.2.2.2.2)
def zmD_stp (x : zm_TD) : Int32 := x.1
def zm_stp (S : zm_S) : Int32 := zmD_stp (zm_D S)
def zmD_sstp (x : zm_TD) (v : Int32) : zm_TD := (v, x.2.1, x.2.2.1, x.2.2.2.1, x.2.2.2.2.1, x.2.2.2.2.2)
def zm_sstp (S : zm_S) (v : Int32) : zm_S := zm_sD S (zmD_sstp (zm_D S) v)
def zmD_wri (x : zm_TD) : Int32 := x.2.1
def zm_wri (S : zm_S) : Int32 := zmD_wri (zm_D S)
def zmD_swri (x : zm_TD) (v : Int32) : zm_TD := (x.1, v, x.2.2.1, x.2.2.2.1, x.2.2.2.2.1, x.2.2.2.2.2)
def zm_swri (S : zm_S) (v : Int32) : zm_S := zm_sD S (zmD_swri (zm_D S) v)
def zmD_lft (x : zm_TD) : Int32 := x.2.2.1
def zm_lft (S : zm_S) : Int32 := zmD_lft (zm_D S)
def zmD_slft (x : zm_TD) (v : Int32) : zm_TD := (x.1, x.2.1, v, x.2.2.2.1, x.2.2.2.2.1, x.2.2.2.2.2)
def zm_slft (S : zm_S) (v : Int32) : zm_S := zm_sD S (zmD_slft (zm_D S) v)
def zmD_inl (x : zm_TD) : Int32 := x.2.2.2.1
def zm_inl (S : zm_S) : Int32 := zmD_inl (zm_D S)
def zmD_sinl (x : zm_TD) (v : Int32) : zm_TD := (x.1, x.2.1, x.2.2.1, v, x.2.2.2.2.1, x.2.2.2.2.2)
def zm_sinl (S : zm_S) (v : Int32) : zm_S := zm_sD S (zmD_sinl (zm_D S) v)
def zmD_edd (x : zm_TD) : Int32 := x.2.2.2.2.1
def zm_edd (S : zm_S) : Int32 := zmD_edd (zm_D S)
def zmD_sedd (x : zm_TD) (v : Int32) : zm_TD := (x.1, x.2.1, x.2.2.1, x.2.2.2.1, v, x.2.2.2.2.2)
def zm_sedd (S : zm_S) (v : Int32) : zm_S := zm_sD S (zmD_sedd (zm_D S) v)
def zmD_tch (x : zm_TD) : Int32 := x.2.2.2.2.2
def zm_tch (S : zm_S) : Int32 := zmD_tch (zm_D S)
def zmD_stch (x : zm_TD) (v : Int32) : zm_TD := (x.1, x.2.1, x.2.2.1, x.2.2.2.1, x.2.2.2.2.1, v)
def zm_stch (S : zm_S) (v : Int32) : zm_S := zm_sD S (zmD_stch (zm_D S) v)
def zm_L (S : zm_S) : zm_TL := S.2.2.2.2.2
def zm_sL (S : zm_S) (x : zm_TL) : zm_S := (S.1, S.2.1, S.2.2.1, S.2.2.2.1, S.2.2.2.2.1, x)
def zmL_csh (x : zm_TL) : Nat → Int64 := x.1
def zm_csh (S : zm_S) : Nat → Int64 := zmL_csh (zm_L S)
def zmL_scsh (x : zm_TL) (v : Nat → Int64) : zm_TL := (v, x.2.1, x.2.2.1, x.2.2.2.1, x.2.2.2.2.1, x.2.2.2.2.2)
def zm_scsh (S : zm_S) (v : Nat → Int64) : zm_S := zm_sL S (zmL_scsh (zm_L S) v)
def zmL_itr (x : zm_TL) : Nat → Int64 := x.2.1
def zm_itr (S : zm_S) : Nat → Int64 := zmL_itr (zm_L S)
def zmL_sitr (x : zm_TL) (v : Nat → Int64) : zm_TL := (x.1, v, x.2.2.1, x.2.2.2.1, x.2.2.2.2.1, x.2.2.2.2.2)
def zm_sitr (S : zm_S) (v : Nat → Int64) : zm_S := zm_sL S (zmL_sitr (zm_L S) v)
def zmL_acs (x : zm_TL) : Int32 := x.2.2.1
def zm_acs (S : zm_S) : Int32 := zmL_acs (zm_L S)
def zmL_sacs (x : zm_TL) (v : Int32) : zm_TL := (x.1, x.2.1, v, x.2.2.2.1, x.2.2.2.2.1, x.2.2.2.2.2)
def zm_sacs (S : zm_S) (v : Int32) : zm_S := zm_sL S (zmL_sacs (zm_L S) v)
def zmL_ors (x : zm_TL) : Int32 := x.2.2.2.1
def zm_ors (S : zm_S) : Int32 := zmL_ors (zm_L S)
def zmL_sors (x : zm_TL) (v : Int32) : zm_TL := (x.1, x.2.1, x.2.2.1, v, x.2.2.2.2.1, x.2.2.2.2.2)
def zm_sors (S : zm_S) (v : Int32) : zm_S := zm_sL S (zmL_sors (zm_L S) v)
def zmL_now (x : zm_TL) : Int32 := x.2.2.2.2.1
def zm_now (S : zm_S) : Int32 := zmL_now (zm_L S)
def zmL_snow (x : zm_TL) (v : Int32) : zm_TL := (x.1, x.2.1, x.2.2.1, x.2.2.2.1, v, x.2.2.2.2.2)
def zm_snow (S : zm_S) (v : Int32) : zm_S := zm_sL S (zmL_snow (zm_L S) v)
def zmL_end (x : zm_TL) : Int32 := x.2.2.2.2.2
def zm_end (S : zm_S) : Int32 := zmL_end (zm_L S)
def zmL_send (x : zm_TL) (v : Int32) : zm_TL := (x.1, x.2.1, x.2.2.1, x.2.2.2.1, x.2.2.2.2.1, v)
def zm_send (S : zm_S) (v : Int32) : zm_S := zm_sL S (zmL_send (zm_L S) v)
abbrev zm_Y : Type := Int32 × Int32 × Int32
abbrev zg_TP : Type := Nat × Nat × Nat × Nat × Nat × Nat × Nat × Nat × Nat
abbrev zg_TF : Type := (Nat → Nat) × (Nat → Nat) × (Nat → Nat)
abbrev zg_TC : Type := ClassId × ClassId × ClassId × ClassId × ClassId
abbrev zg_G : Type := zg_TP × zg_TF × zg_TC
def zg_P (S : zg_G) : zg_TP := S.1
def zgP_bnk (x : zg_TP) : Nat := x.1
def zg_bnk (S : zg_G) : Nat := zgP_bnk (zg_P S)
def zgP_aac (x : zg_TP) : Nat := x.2.1
def zg_aac (S : zg_G) : Nat := zgP_aac (zg_P S)
def zgP_aho (x : zg_TP) : Nat := x.2.2.1
def zg_aho (S : zg_G) : Nat := zgP_aho (zg_P S)
def zgP_aor (x : zg_TP) : Nat := x.2.2.2.1
def zg_aor (S : zg_G) : Nat := zgP_aor (zg_P S)
def zgP_rst (x : zg_TP) : Nat := x.2.2.2.2.1
def zg_rst (S : zg_G) : Nat := zgP_rst (zg_P S)
def zgP_dsk (x : zg_TP) : Nat := x.2.2.2.2.2.1
def zg_dsk (S : zg_G) : Nat := zgP_dsk (zg_P S)
def zgP_csh (x : zg_TP) : Nat := x.2.2.2.2.2.2.1
def zg_csh (S : zg_G) : Nat := zgP_csh (zg_P S)
def zgP_itr (x : zg_TP) : Nat := x.2.2.2.2.2.2.2.1
def zg_itr (S : zg_G) : Nat := zgP_itr (zg_P S)
def zgP_dat (x : zg_TP) : Nat := x.2.2.2.2.2.2.2.2
def zg_dat (S : zg_G) : Nat := zgP_dat (zg_P S)
def zg_F (S : zg_G) : zg_TF := S.2.1
def zgF_acc (x : zg_TF) : Nat → Nat := x.1
def zg_acc (S : zg_G) : Nat → Nat := zgF_acc (zg_F S)
def zgF_hld (x : zg_TF) : Nat → Nat := x.2.1
def zg_hld (S : zg_G) : Nat → Nat := zgF_hld (zg_F S)
def zgF_ord (x : zg_TF) : Nat → Nat := x.2.2
def zg_ord (S : zg_G) : Nat → Nat := zgF_ord (zg_F S)
def zg_C (S : zg_G) : zg_TC := S.2.2
def zgC_cA (x : zg_TC) : ClassId := x.1
def zg_cA (S : zg_G) : ClassId := zgC_cA (zg_C S)
def zgC_cH (x : zg_TC) : ClassId := x.2.1
def zg_cH (S : zg_G) : ClassId := zgC_cH (zg_C S)
def zgC_cO (x : zg_TC) : ClassId := x.2.2.1
def zg_cO (S : zg_G) : ClassId := zgC_cO (zg_C S)
def zgC_cI (x : zg_TC) : ClassId := x.2.2.2.1
def zg_cI (S : zg_G) : ClassId := zgC_cI (zg_C S)
def zgC_cJ (x : zg_TC) : ClassId := x.2.2.2.2
def zg_cJ (S : zg_G) : ClassId := zgC_cJ (zg_C S)
abbrev zh_TP : Type := Nat × Nat × Nat × Nat × Nat × Nat × Nat × Nat × Nat × Nat × Nat × Nat × Nat × Nat × Nat × Nat × Nat × Nat
abbrev zh_TC : Type := ClassId × ClassId
abbrev zh_G : Type := zh_TP × zh_TC
def zh_P (S : zh_G) : zh_TP := S.1
def zhP_mdl (x : zh_TP) : Nat := x.1
def zh_mdl (S : zh_G) : Nat := zhP_mdl (zh_P S)
def zhP_cur (x : zh_TP) : Nat := x.2.1
def zh_cur (S : zh_G) : Nat := zhP_cur (zh_P S)
def zhP_bas (x : zh_TP) : Nat := x.2.2.1
def zh_bas (S : zh_G) : Nat := zhP_bas (zh_P S)
def zhP_lim (x : zh_TP) : Nat := x.2.2.2.1
def zh_lim (S : zh_G) : Nat := zhP_lim (zh_P S)
def zhP_rat (x : zh_TP) : Nat := x.2.2.2.2.1
def zh_rat (S : zh_G) : Nat := zhP_rat (zh_P S)
def zhP_mrk (x : zh_TP) : Nat := x.2.2.2.2.2.1
def zh_mrk (S : zh_G) : Nat := zhP_mrk (zh_P S)
def zhP_mon (x : zh_TP) : Nat := x.2.2.2.2.2.2.1
def zh_mon (S : zh_G) : Nat := zhP_mon (zh_P S)
def zhP_acr (x : zh_TP) : Nat := x.2.2.2.2.2.2.2.1
def zh_acr (S : zh_G) : Nat := zhP_acr (zh_P S)
def zhP_hof (x : zh_TP) : Nat := x.2.2.2.2.2.2.2.2.1
def zh_hof (S : zh_G) : Nat := zhP_hof (zh_P S)
def zhP_ham (x : zh_TP) : Nat := x.2.2.2.2.2.2.2.2.2.1
def zh_ham (S : zh_G) : Nat := zhP_ham (zh_P S)
def zhP_pyr (x : zh_TP) : Nat := x.2.2.2.2.2.2.2.2.2.2.1
def zh_pyr (S : zh_G) : Nat := zhP_pyr (zh_P S)
def zhP_pye (x : zh_TP) : Nat := x.2.2.2.2.2.2.2.2.2.2.2.1
def zh_pye (S : zh_G) : Nat := zhP_pye (zh_P S)
def zhP_sum (x : zh_TP) : Nat := x.2.2.2.2.2.2.2.2.2.2.2.2.1
def zh_sum (S : zh_G) : Nat := zhP_sum (zh_P S)
def zhP_ody (x : zh_TP) : Nat := x.2.2.2.2.2.2.2.2.2.2.2.2.2.1
def zh_ody (S : zh_G) : Nat := zhP_ody (zh_P S)
def zhP_mis (x : zh_TP) : Nat := x.2.2.2.2.2.2.2.2.2.2.2.2.2.2.1
def zh_mis (S : zh_G) : Nat := zhP_mis (zh_P S)
def zhP_dat (x : zh_TP) : Nat := x.2.2.2.2.2.2.2.2.2.2.2.2.2.2.2.1
def zh_dat (S : zh_G) : Nat := zhP_dat (zh_P S)
def zhP_csh (x : zh_TP) : Nat := x.2.2.2.2.2.2.2.2.2.2.2.2.2.2.2.2.1
def zh_csh (S : zh_G) : Nat := zhP_csh (zh_P S)
def zhP_itr (x : zh_TP) : Nat := x.2.2.2.2.2.2.2.2.2.2.2.2.2.2.2.2.2
def zh_itr (S : zh_G) : Nat := zhP_itr (zh_P S)
def zh_C (S : zh_G) : zh_TC := S.2
def zhC_cI (x : zh_TC) : ClassId := x.1
def zh_cI (S : zh_G) : ClassId := zhC_cI (zh_C S)
def zhC_cJ (x : zh_TC) : ClassId := x.2
def zh_cJ (S : zh_G) : ClassId := zhC_cJ (zh_C S)
end
section
/-! WORLDS: the cells of the class and of the reference; a row for each read and write of a field or an array. -/
def zb_fB (G : zg_G) (S : zb_S) : List Value := [.ref (zg_aac G), .ref (zg_aho G), .ref (zg_aor G), .ref (zg_rst G), .ref (zg_dsk G), .ref (zg_csh G), .ref (zg_itr G), .int (zb_n S), .int (zb_o S), .int (zb_bd S), .int (zb_de S)]
def zb_fA (S : zb_S) (i : Nat) : List Value := [.int (nI i), .int (zb_cur S i), .int (zb_bas S i), .int (zb_lim S i), .int (zb_rat S i), .long (zb_bal S i), .long (zb_hel S i), .long (zb_acr S i), .int (zb_mrk S i)]
def zb_fH (G : zg_G) (S : zb_S) (k : Nat) : List Value := [va_re (zg_acc G) (zb_hol S k), .int (zb_ham S k)]
def zb_fO (G : zg_G) (S : zb_S) (k : Nat) : List Value := [va_re (zg_acc G) (zb_pyr S k), va_re (zg_acc G) (zb_pye S k), .int (zb_oam S k), .int (zb_ody S k), .int (zb_oms S k), .int (zb_odu S k), .int (zb_opd S k)]
def zb_fR (G : zg_G) (S : zb_S) : List Value := [.ref (zg_dat G), .int (zb_dm S)]
def zb_fD (S : zb_S) : List Value := [.int (zb_stp S), .int (zb_wm S), .int (zb_wl S), .int (zb_lin S), .int (zb_trn S), .int (zb_chg S)]
def zb_cells (G : zg_G) (S : zb_S) : va_W := [(zg_bnk G, .inr (0, zb_fB G S)),
  (zg_aac G, .inl (zg_cA G, 6, .inr (.inr (.inr (.inr (fun k => some (zg_acc G k))))))),
  (zg_aho G, .inl (zg_cH G, 8, .inr (.inr (.inr (.inr (fun k => some (zg_hld G k))))))),
  (zg_aor G, .inl (zg_cO G, 6, .inr (.inr (.inr (.inr (fun k => some (zg_ord G k))))))),
  (zg_rst G, .inr (4, zb_fR G S)),
  (zg_dsk G, .inr (5, zb_fD S)),
  (zg_csh G, .inl (zg_cJ G, 3, .inr (.inl (zb_csh S)))),
  (zg_itr G, .inl (zg_cJ G, 3, .inr (.inl (zb_itr S)))),
  (zg_dat G, .inl (zg_cI G, 8, .inl (zb_dat S))),
  (zg_acc G 0, .inr (1, zb_fA S 0)),
  (zg_acc G 1, .inr (1, zb_fA S 1)),
  (zg_acc G 2, .inr (1, zb_fA S 2)),
  (zg_acc G 3, .inr (1, zb_fA S 3)),
  (zg_acc G 4, .inr (1, zb_fA S 4)),
  (zg_acc G 5, .inr (1, zb_fA S 5)),
  (zg_hld G 0, .inr (2, zb_fH G S 0)),
  (zg_hld G 1, .inr (2, zb_fH G S 1)),
  (zg_hld G 2, .inr (2, zb_fH G S 2)),
  (zg_hld G 3, .inr (2, zb_fH G S 3)),
  (zg_hld G 4, .inr (2, zb_fH G S 4)),
  (zg_hld G 5, .inr (2, zb_fH G S 5)),
  (zg_hld G 6, .inr (2, zb_fH G S 6)),
  (zg_hld G 7, .inr (2, zb_fH G S 7)),
  (zg_ord G 0, .inr (3, zb_fO G S 0)),
  (zg_ord G 1, .inr (3, zb_fO G S 1)),
  (zg_ord G 2, .inr (3, zb_fO G S 2)),
  (zg_ord G 3, .inr (3, zb_fO G S 3)),
  (zg_ord G 4, .inr (3, zb_fO G S 4)),
  (zg_ord G 5, .inr (3, zb_fO G S 5))]
def zb_adr (G : zg_G) : List Nat := [zg_bnk G, zg_aac G, zg_aho G, zg_aor G, zg_rst G, zg_dsk G, zg_csh G, zg_itr G, zg_dat G, zg_acc G 0, zg_acc G 1, zg_acc G 2, zg_acc G 3, zg_acc G 4, zg_acc G 5, zg_hld G 0, zg_hld G 1, zg_hld G 2, zg_hld G 3, zg_hld G 4, zg_hld G 5, zg_hld G 6, zg_hld G 7, zg_ord G 0, zg_ord G 1, zg_ord G 2, zg_ord G 3, zg_ord G 4, zg_ord G 5]
theorem zb_cells_adr (G : zg_G) (S : zb_S) : (zb_cells G S).map (·.1) = zb_adr G := rfl
def zb_tys (G : zg_G) : List (ClassId × FieldType) := [(zg_cA G, .object "DayEndBank$Account"), (zg_cH G, .object "DayEndBank$Hold"), (zg_cO G, .object "DayEndBank$Order"), (zg_cI G, .int), (zg_cJ G, .long)]
/-- the addresses are apart -/
def zw_apart (as : List Nat) : Prop := ∀ (i j a : Nat), as[i]? = some a → as[j]? = some a → i = j
theorem zw_D_of {ws : va_W} (h : zw_apart (ws.map (·.1))) : va_D (fun q => q ∈ ws.map (·.1)) ws := by
  refine ⟨fun i j x y hx hy e => h i j x.1 ?_ ?_, fun k q hk => ?_⟩
  · rw [List.getElem?_map, hx]; rfl
  · rw [List.getElem?_map, hy, e]; rfl
  · exact List.mem_of_getElem? (i := k) (by rw [List.getElem?_map, hk]; rfl)
def zb_Ad (G : zg_G) : Nat → Prop := fun q => q ∈ zb_adr G
theorem zb_Dd {G : zg_G} (h : zw_apart (zb_adr G)) (S : zb_S) : va_D (zb_Ad G) (zb_cells G S) := zw_D_of h
theorem zb_atA {G : zg_G} {S : zb_S} {i : Nat} (h : i < 6) : (zb_cells G S)[9 + i]? = some (zg_acc G i, .inr (1, zb_fA S i)) := by
  rcases (show i = 0 ∨ i = 1 ∨ i = 2 ∨ i = 3 ∨ i = 4 ∨ i = 5 by omega) with rfl | rfl | rfl | rfl | rfl | rfl <;> rfl
theorem zb_atH {G : zg_G} {S : zb_S} {i : Nat} (h : i < 8) : (zb_cells G S)[15 + i]? = some (zg_hld G i, .inr (2, zb_fH G S i)) := by
  rcases (show i = 0 ∨ i = 1 ∨ i = 2 ∨ i = 3 ∨ i = 4 ∨ i = 5 ∨ i = 6 ∨ i = 7 by omega) with rfl | rfl | rfl | rfl | rfl | rfl | rfl | rfl <;> rfl
theorem zb_atO {G : zg_G} {S : zb_S} {i : Nat} (h : i < 6) : (zb_cells G S)[23 + i]? = some (zg_ord G i, .inr (3, zb_fO G S i)) := by
  rcases (show i = 0 ∨ i = 1 ∨ i = 2 ∨ i = 3 ∨ i = 4 ∨ i = 5 by omega) with rfl | rfl | rfl | rfl | rfl | rfl <;> rfl
theorem zb_acc_inj {G : zg_G} (h : zw_apart (zb_adr G)) {i j : Nat} (hi : i < 6) (hj : j < 6) (e : zg_acc G i = zg_acc G j) : i = j := by
  have h1 : ∀ k, k < 6 → (zb_adr G)[9 + k]? = some (zg_acc G k) := fun k hk => by
    rcases (show k = 0 ∨ k = 1 ∨ k = 2 ∨ k = 3 ∨ k = 4 ∨ k = 5 by omega) with rfl | rfl | rfl | rfl | rfl | rfl <;> rfl
  have := h (9 + i) (9 + j) _ (h1 i hi) (by rw [e]; exact h1 j hj)
  omega
section ZSET
variable {G : zg_G} {S : zb_S}
theorem zb_set_cur {i : Nat} (h : i < 6) (v : Int32) : (zb_cells G S).set (9 + i) (zg_acc G i, .inr (1, (zb_fA S i).set 1 (.int v))) = zb_cells G (zb_scur S (upd (zb_cur S) i v)) := by
  rcases (show i = 0 ∨ i = 1 ∨ i = 2 ∨ i = 3 ∨ i = 4 ∨ i = 5 by omega) with rfl | rfl | rfl | rfl | rfl | rfl <;> rfl
theorem zb_set_bas {i : Nat} (h : i < 6) (v : Int32) : (zb_cells G S).set (9 + i) (zg_acc G i, .inr (1, (zb_fA S i).set 2 (.int v))) = zb_cells G (zb_sbas S (upd (zb_bas S) i v)) := by
  rcases (show i = 0 ∨ i = 1 ∨ i = 2 ∨ i = 3 ∨ i = 4 ∨ i = 5 by omega) with rfl | rfl | rfl | rfl | rfl | rfl <;> rfl
theorem zb_set_lim {i : Nat} (h : i < 6) (v : Int32) : (zb_cells G S).set (9 + i) (zg_acc G i, .inr (1, (zb_fA S i).set 3 (.int v))) = zb_cells G (zb_slim S (upd (zb_lim S) i v)) := by
  rcases (show i = 0 ∨ i = 1 ∨ i = 2 ∨ i = 3 ∨ i = 4 ∨ i = 5 by omega) with rfl | rfl | rfl | rfl | rfl | rfl <;> rfl
theorem zb_set_rat {i : Nat} (h : i < 6) (v : Int32) : (zb_cells G S).set (9 + i) (zg_acc G i, .inr (1, (zb_fA S i).set 4 (.int v))) = zb_cells G (zb_srat S (upd (zb_rat S) i v)) := by
  rcases (show i = 0 ∨ i = 1 ∨ i = 2 ∨ i = 3 ∨ i = 4 ∨ i = 5 by omega) with rfl | rfl | rfl | rfl | rfl | rfl <;> rfl
theorem zb_set_bal {i : Nat} (h : i < 6) (v : Int64) : (zb_cells G S).set (9 + i) (zg_acc G i, .inr (1, (zb_fA S i).set 5 (.long v))) = zb_cells G (zb_sbal S (vp_updL (zb_bal S) i v)) := by
  rcases (show i = 0 ∨ i = 1 ∨ i = 2 ∨ i = 3 ∨ i = 4 ∨ i = 5 by omega) with rfl | rfl | rfl | rfl | rfl | rfl <;> rfl
theorem zb_set_hel {i : Nat} (h : i < 6) (v : Int64) : (zb_cells G S).set (9 + i) (zg_acc G i, .inr (1, (zb_fA S i).set 6 (.long v))) = zb_cells G (zb_shel S (vp_updL (zb_hel S) i v)) := by
  rcases (show i = 0 ∨ i = 1 ∨ i = 2 ∨ i = 3 ∨ i = 4 ∨ i = 5 by omega) with rfl | rfl | rfl | rfl | rfl | rfl <;> rfl
theorem zb_set_acr {i : Nat} (h : i < 6) (v : Int64) : (zb_cells G S).set (9 + i) (zg_acc G i, .inr (1, (zb_fA S i).set 7 (.long v))) = zb_cells G (zb_sacr S (vp_updL (zb_acr S) i v)) := by
  rcases (show i = 0 ∨ i = 1 ∨ i = 2 ∨ i = 3 ∨ i = 4 ∨ i = 5 by omega) with rfl | rfl | rfl | rfl | rfl | rfl <;> rfl
theorem zb_set_mrk {i : Nat} (h : i < 6) (v : Int32) : (zb_cells G S).set (9 + i) (zg_acc G i, .inr (1, (zb_fA S i).set 8 (.int v))) = zb_cells G (zb_smrk S (upd (zb_mrk S) i v)) := by
  rcases (show i = 0 ∨ i = 1 ∨ i = 2 ∨ i = 3 ∨ i = 4 ∨ i = 5 by omega) with rfl | rfl | rfl | rfl | rfl | rfl <;> rfl
theorem zb_set_hol {i : Nat} (h : i < 8) (v : Option Nat) : (zb_cells G S).set (15 + i) (zg_hld G i, .inr (2, (zb_fH G S i).set 0 (va_re (zg_acc G) v))) = zb_cells G (zb_shol S (va_up (zb_hol S) i v)) := by
  rcases (show i = 0 ∨ i = 1 ∨ i = 2 ∨ i = 3 ∨ i = 4 ∨ i = 5 ∨ i = 6 ∨ i = 7 by omega) with rfl | rfl | rfl | rfl | rfl | rfl | rfl | rfl <;> rfl
theorem zb_set_ham {i : Nat} (h : i < 8) (v : Int32) : (zb_cells G S).set (15 + i) (zg_hld G i, .inr (2, (zb_fH G S i).set 1 (.int v))) = zb_cells G (zb_sham S (upd (zb_ham S) i v)) := by
  rcases (show i = 0 ∨ i = 1 ∨ i = 2 ∨ i = 3 ∨ i = 4 ∨ i = 5 ∨ i = 6 ∨ i = 7 by omega) with rfl | rfl | rfl | rfl | rfl | rfl | rfl | rfl <;> rfl
theorem zb_set_pyr {i : Nat} (h : i < 6) (v : Option Nat) : (zb_cells G S).set (23 + i) (zg_ord G i, .inr (3, (zb_fO G S i).set 0 (va_re (zg_acc G) v))) = zb_cells G (zb_spyr S (va_up (zb_pyr S) i v)) := by
  rcases (show i = 0 ∨ i = 1 ∨ i = 2 ∨ i = 3 ∨ i = 4 ∨ i = 5 by omega) with rfl | rfl | rfl | rfl | rfl | rfl <;> rfl
theorem zb_set_pye {i : Nat} (h : i < 6) (v : Option Nat) : (zb_cells G S).set (23 + i) (zg_ord G i, .inr (3, (zb_fO G S i).set 1 (va_re (zg_acc G) v))) = zb_cells G (zb_spye S (va_up (zb_pye S) i v)) := by
  rcases (show i = 0 ∨ i = 1 ∨ i = 2 ∨ i = 3 ∨ i = 4 ∨ i = 5 by omega) with rfl | rfl | rfl | rfl | rfl | rfl <;> rfl
theorem zb_set_oam {i : Nat} (h : i < 6) (v : Int32) : (zb_cells G S).set (23 + i) (zg_ord G i, .inr (3, (zb_fO G S i).set 2 (.int v))) = zb_cells G (zb_soam S (upd (zb_oam S) i v)) := by
  rcases (show i = 0 ∨ i = 1 ∨ i = 2 ∨ i = 3 ∨ i = 4 ∨ i = 5 by omega) with rfl | rfl | rfl | rfl | rfl | rfl <;> rfl
theorem zb_set_ody {i : Nat} (h : i < 6) (v : Int32) : (zb_cells G S).set (23 + i) (zg_ord G i, .inr (3, (zb_fO G S i).set 3 (.int v))) = zb_cells G (zb_sody S (upd (zb_ody S) i v)) := by
  rcases (show i = 0 ∨ i = 1 ∨ i = 2 ∨ i = 3 ∨ i = 4 ∨ i = 5 by omega) with rfl | rfl | rfl | rfl | rfl | rfl <;> rfl
theorem zb_set_oms {i : Nat} (h : i < 6) (v : Int32) : (zb_cells G S).set (23 + i) (zg_ord G i, .inr (3, (zb_fO G S i).set 4 (.int v))) = zb_cells G (zb_soms S (upd (zb_oms S) i v)) := by
  rcases (show i = 0 ∨ i = 1 ∨ i = 2 ∨ i = 3 ∨ i = 4 ∨ i = 5 by omega) with rfl | rfl | rfl | rfl | rfl | rfl <;> rfl
theorem zb_set_odu {i : Nat} (h : i < 6) (v : Int32) : (zb_cells G S).set (23 + i) (zg_ord G i, .inr (3, (zb_fO G S i).set 5 (.int v))) = zb_cells G (zb_sodu S (upd (zb_odu S) i v)) := by
  rcases (show i = 0 ∨ i = 1 ∨ i = 2 ∨ i = 3 ∨ i = 4 ∨ i = 5 by omega) with rfl | rfl | rfl | rfl | rfl | rfl <;> rfl
theorem zb_set_opd {i : Nat} (h : i < 6) (v : Int32) : (zb_cells G S).set (23 + i) (zg_ord G i, .inr (3, (zb_fO G S i).set 6 (.int v))) = zb_cells G (zb_sopd S (upd (zb_opd S) i v)) := by
  rcases (show i = 0 ∨ i = 1 ∨ i = 2 ∨ i = 3 ∨ i = 4 ∨ i = 5 by omega) with rfl | rfl | rfl | rfl | rfl | rfl <;> rfl
theorem zb_set_dm (v : Int32) : (zb_cells G S).set (4) (zg_rst G, .inr (4, (zb_fR G S).set 1 (.int v))) = zb_cells G (zb_sdm S v) := rfl
theorem zb_set_stp (v : Int32) : (zb_cells G S).set (5) (zg_dsk G, .inr (5, (zb_fD S).set 0 (.int v))) = zb_cells G (zb_sstp S v) := rfl
theorem zb_set_wm (v : Int32) : (zb_cells G S).set (5) (zg_dsk G, .inr (5, (zb_fD S).set 1 (.int v))) = zb_cells G (zb_swm S v) := rfl
theorem zb_set_wl (v : Int32) : (zb_cells G S).set (5) (zg_dsk G, .inr (5, (zb_fD S).set 2 (.int v))) = zb_cells G (zb_swl S v) := rfl
theorem zb_set_lin (v : Int32) : (zb_cells G S).set (5) (zg_dsk G, .inr (5, (zb_fD S).set 3 (.int v))) = zb_cells G (zb_slin S v) := rfl
theorem zb_set_trn (v : Int32) : (zb_cells G S).set (5) (zg_dsk G, .inr (5, (zb_fD S).set 4 (.int v))) = zb_cells G (zb_strn S v) := rfl
theorem zb_set_chg (v : Int32) : (zb_cells G S).set (5) (zg_dsk G, .inr (5, (zb_fD S).set 5 (.int v))) = zb_cells G (zb_schg S v) := rfl
theorem zb_set_n (v : Int32) : (zb_cells G S).set (0) (zg_bnk G, .inr (0, (zb_fB G S).set 7 (.int v))) = zb_cells G (zb_sn S v) := rfl
theorem zb_set_o (v : Int32) : (zb_cells G S).set (0) (zg_bnk G, .inr (0, (zb_fB G S).set 8 (.int v))) = zb_cells G (zb_so S v) := rfl
theorem zb_set_bd (v : Int32) : (zb_cells G S).set (0) (zg_bnk G, .inr (0, (zb_fB G S).set 9 (.int v))) = zb_cells G (zb_sbd S v) := rfl
theorem zb_set_de (v : Int32) : (zb_cells G S).set (0) (zg_bnk G, .inr (0, (zb_fB G S).set 10 (.int v))) = zb_cells G (zb_sde S v) := rfl
theorem zb_set_csh (f : Nat → Int64) : (zb_cells G S).set 6 (zg_csh G, .inl (zg_cJ G, 3, .inr (.inl f))) = zb_cells G (zb_scsh S f) := rfl
theorem zb_set_itr (f : Nat → Int64) : (zb_cells G S).set 7 (zg_itr G, .inl (zg_cJ G, 3, .inr (.inl f))) = zb_cells G (zb_sitr S f) := rfl
theorem zb_set_dat (f : Nat → Int32) : (zb_cells G S).set 8 (zg_dat G, .inl (zg_cI G, 8, .inl f)) = zb_cells G (zb_sdat S f) := rfl
end ZSET
section ZBW
variable {p : Program} {l : Launch} {e : Env} {R : Room} {s : State} {m : MethodId} {args : Array Value} {below : List Frame} {meth : Method} {c : Code} {H : Heap} {locs : List Loc} {cells slots : Nat} {Q : State → Prop}
variable {cc : ByteArray} {pc index : Nat} {ls : Array Slot} {rest : List Value} {D : va_G} {H0 : Heap} {own : String}
variable {G : zg_G} {S : zb_S}
theorem zb_getB (hx : p.tables.exec = Jvm.exec) (hb : c.code = cc) (hts : ∀ w ∈ zw_big, w.before args s = true) (hown : s.vm.findClass own = some m.cls) (hK : va_K D vwCl (zb_tys G) s) (hP : va_P D vwCl (zb_cells G S) H) (k : Nat) (hk : k < 11) (hlink : (Cond.fieldLink own index (nT_B k).1 (nT_B k).2.1 (nT_B k).2.2.1).before args s = true) {v : Value} (hv : (zb_fB G S)[k]? = some v) (hdg : decode cc pc = .ok (.getfield index, 3))
    (kk : W p l e R s m args below meth c H locs cells slots Q (F0 m (pc + 3) ls (v :: rest))) : W p l e R s m args below meth c H locs cells slots Q (F0 m pc ls (.ref (zg_bnk G) :: rest)) :=
  va_get (ci := 0) (C := nR_B) (T := nT_B) (N := 11) hx hb hts zw_inB hown hK hP (0) (rfl) rfl k hk hlink (fun _ h => h) hv hdg kk
theorem zb_getA (hx : p.tables.exec = Jvm.exec) (hb : c.code = cc) (hts : ∀ w ∈ zw_big, w.before args s = true) (hown : s.vm.findClass own = some m.cls) (hK : va_K D vwCl (zb_tys G) s) (hP : va_P D vwCl (zb_cells G S) H) {i : Nat} (hi : i < 6) (k : Nat) (hk : k < 9) (hlink : (Cond.fieldLink own index (nT_A k).1 (nT_A k).2.1 (nT_A k).2.2.1).before args s = true) {v : Value} (hv : (zb_fA S i)[k]? = some v) (hdg : decode cc pc = .ok (.getfield index, 3))
    (kk : W p l e R s m args below meth c H locs cells slots Q (F0 m (pc + 3) ls (v :: rest))) : W p l e R s m args below meth c H locs cells slots Q (F0 m pc ls (.ref (zg_acc G i) :: rest)) :=
  va_get (ci := 1) (C := nR_A) (T := nT_A) (N := 9) hx hb hts zw_inA hown hK hP (9 + i) (zb_atA hi) rfl k hk hlink (fun _ h => h) hv hdg kk
theorem zb_getH (hx : p.tables.exec = Jvm.exec) (hb : c.code = cc) (hts : ∀ w ∈ zw_big, w.before args s = true) (hown : s.vm.findClass own = some m.cls) (hK : va_K D vwCl (zb_tys G) s) (hP : va_P D vwCl (zb_cells G S) H) {i : Nat} (hi : i < 8) (k : Nat) (hk : k < 2) (hlink : (Cond.fieldLink own index (nT_H k).1 (nT_H k).2.1 (nT_H k).2.2.1).before args s = true) {v : Value} (hv : (zb_fH G S i)[k]? = some v) (hdg : decode cc pc = .ok (.getfield index, 3))
    (kk : W p l e R s m args below meth c H locs cells slots Q (F0 m (pc + 3) ls (v :: rest))) : W p l e R s m args below meth c H locs cells slots Q (F0 m pc ls (.ref (zg_hld G i) :: rest)) :=
  va_get (ci := 2) (C := nR_H) (T := nT_H) (N := 2) hx hb hts zw_inH hown hK hP (15 + i) (zb_atH hi) rfl k hk hlink (fun _ h => h) hv hdg kk
theorem zb_getO (hx : p.tables.exec = Jvm.exec) (hb : c.code = cc) (hts : ∀ w ∈ zw_big, w.before args s = true) (hown : s.vm.findClass own = some m.cls) (hK : va_K D vwCl (zb_tys G) s) (hP : va_P D vwCl (zb_cells G S) H) {i : Nat} (hi : i < 6) (k : Nat) (hk : k < 7) (hlink : (Cond.fieldLink own index (nT_O k).1 (nT_O k).2.1 (nT_O k).2.2.1).before args s = true) {v : Value} (hv : (zb_fO G S i)[k]? = some v) (hdg : decode cc pc = .ok (.getfield index, 3))
    (kk : W p l e R s m args below meth c H locs cells slots Q (F0 m (pc + 3) ls (v :: rest))) : W p l e R s m args below meth c H locs cells slots Q (F0 m pc ls (.ref (zg_ord G i) :: rest)) :=
  va_get (ci := 3) (C := nR_O) (T := nT_O) (N := 7) hx hb hts zw_inO hown hK hP (23 + i) (zb_atO hi) rfl k hk hlink (fun _ h => h) hv hdg kk
theorem zb_getR (hx : p.tables.exec = Jvm.exec) (hb : c.code = cc) (hts : ∀ w ∈ zw_big, w.before args s = true) (hown : s.vm.findClass own = some m.cls) (hK : va_K D vwCl (zb_tys G) s) (hP : va_P D vwCl (zb_cells G S) H) (k : Nat) (hk : k < 2) (hlink : (Cond.fieldLink own index (nT_R k).1 (nT_R k).2.1 (nT_R k).2.2.1).before args s = true) {v : Value} (hv : (zb_fR G S)[k]? = some v) (hdg : decode cc pc = .ok (.getfield index, 3))
    (kk : W p l e R s m args below meth c H locs cells slots Q (F0 m (pc + 3) ls (v :: rest))) : W p l e R s m args below meth c H locs cells slots Q (F0 m pc ls (.ref (zg_rst G) :: rest)) :=
  va_get (ci := 4) (C := nR_R) (T := nT_R) (N := 2) hx hb hts zw_inR hown hK hP (4) (rfl) rfl k hk hlink (fun _ h => h) hv hdg kk
theorem zb_getD (hx : p.tables.exec = Jvm.exec) (hb : c.code = cc) (hts : ∀ w ∈ zw_big, w.before args s = true) (hown : s.vm.findClass own = some m.cls) (hK : va_K D vwCl (zb_tys G) s) (hP : va_P D vwCl (zb_cells G S) H) (k : Nat) (hk : k < 6) (hlink : (Cond.fieldLink own index (nT_D k).1 (nT_D k).2.1 (nT_D k).2.2.1).before args s = true) {v : Value} (hv : (zb_fD S)[k]? = some v) (hdg : decode cc pc = .ok (.getfield index, 3))
    (kk : W p l e R s m args below meth c H locs cells slots Q (F0 m (pc + 3) ls (v :: rest))) : W p l e R s m args below meth c H locs cells slots Q (F0 m pc ls (.ref (zg_dsk G) :: rest)) :=
  va_get (ci := 5) (C := nR_D) (T := nT_D) (N := 6) hx hb hts zw_inD hown hK hP (5) (rfl) rfl k hk hlink (fun _ h => h) hv hdg kk
theorem zb_put_cur (hx : p.tables.exec = Jvm.exec) (hb : c.code = cc) (hts : ∀ w ∈ zw_big, w.before args s = true) (hown : s.vm.findClass own = some m.cls) (hK : va_K D vwCl (zb_tys G) s) (hG : zw_apart (zb_adr G)) (hP : va_P D vwCl (zb_cells G S) H) (hS : va_S (zb_Ad G) H0 H locs) {i : Nat} (hi : i < 6) {v : Int32} (hlink : (Cond.fieldLink own index (nT_A 1).1 (nT_A 1).2.1 (nT_A 1).2.2.1).before args s = true) (hdg : decode cc pc = .ok (.putfield index, 3))
    (kk : ∀ (H1 : Heap) (locs1 : List Loc), va_P D vwCl (zb_cells G (zb_scur S (upd (zb_cur S) i v))) H1 → va_S (zb_Ad G) H0 H1 locs1 → W p l e R s m args below meth c H1 locs1 cells slots Q (F0 m (pc + 3) ls rest)) : W p l e R s m args below meth c H locs cells slots Q (F0 m pc ls (.int v :: .ref (zg_acc G i) :: rest)) :=
  va_put (ci := 1) (C := nR_A) (T := nT_A) (N := 9) (ty := .int) hx hb hts zw_inA nt_A zw_tyA zw_nmA hown hK hP (zb_Dd hG S) hS (9 + i) (zb_atA hi) rfl 1 (by decide) hlink (fun _ h => h) rfl (by decide +kernel) rfl rfl (Nat.le_of_ble_eq_true rfl) hdg (fun H1 locs1 hP1 _ hS1 => kk H1 locs1 (by rw [zb_set_cur hi v] at hP1; exact hP1) hS1)
theorem zb_put_bas (hx : p.tables.exec = Jvm.exec) (hb : c.code = cc) (hts : ∀ w ∈ zw_big, w.before args s = true) (hown : s.vm.findClass own = some m.cls) (hK : va_K D vwCl (zb_tys G) s) (hG : zw_apart (zb_adr G)) (hP : va_P D vwCl (zb_cells G S) H) (hS : va_S (zb_Ad G) H0 H locs) {i : Nat} (hi : i < 6) {v : Int32} (hlink : (Cond.fieldLink own index (nT_A 2).1 (nT_A 2).2.1 (nT_A 2).2.2.1).before args s = true) (hdg : decode cc pc = .ok (.putfield index, 3))
    (kk : ∀ (H1 : Heap) (locs1 : List Loc), va_P D vwCl (zb_cells G (zb_sbas S (upd (zb_bas S) i v))) H1 → va_S (zb_Ad G) H0 H1 locs1 → W p l e R s m args below meth c H1 locs1 cells slots Q (F0 m (pc + 3) ls rest)) : W p l e R s m args below meth c H locs cells slots Q (F0 m pc ls (.int v :: .ref (zg_acc G i) :: rest)) :=
  va_put (ci := 1) (C := nR_A) (T := nT_A) (N := 9) (ty := .int) hx hb hts zw_inA nt_A zw_tyA zw_nmA hown hK hP (zb_Dd hG S) hS (9 + i) (zb_atA hi) rfl 2 (by decide) hlink (fun _ h => h) rfl (by decide +kernel) rfl rfl (Nat.le_of_ble_eq_true rfl) hdg (fun H1 locs1 hP1 _ hS1 => kk H1 locs1 (by rw [zb_set_bas hi v] at hP1; exact hP1) hS1)
theorem zb_put_lim (hx : p.tables.exec = Jvm.exec) (hb : c.code = cc) (hts : ∀ w ∈ zw_big, w.before args s = true) (hown : s.vm.findClass own = some m.cls) (hK : va_K D vwCl (zb_tys G) s) (hG : zw_apart (zb_adr G)) (hP : va_P D vwCl (zb_cells G S) H) (hS : va_S (zb_Ad G) H0 H locs) {i : Nat} (hi : i < 6) {v : Int32} (hlink : (Cond.fieldLink own index (nT_A 3).1 (nT_A 3).2.1 (nT_A 3).2.2.1).before args s = true) (hdg : decode cc pc = .ok (.putfield index, 3))
    (kk : ∀ (H1 : Heap) (locs1 : List Loc), va_P D vwCl (zb_cells G (zb_slim S (upd (zb_lim S) i v))) H1 → va_S (zb_Ad G) H0 H1 locs1 → W p l e R s m args below meth c H1 locs1 cells slots Q (F0 m (pc + 3) ls rest)) : W p l e R s m args below meth c H locs cells slots Q (F0 m pc ls (.int v :: .ref (zg_acc G i) :: rest)) :=
  va_put (ci := 1) (C := nR_A) (T := nT_A) (N := 9) (ty := .int) hx hb hts zw_inA nt_A zw_tyA zw_nmA hown hK hP (zb_Dd hG S) hS (9 + i) (zb_atA hi) rfl 3 (by decide) hlink (fun _ h => h) rfl (by decide +kernel) rfl rfl (Nat.le_of_ble_eq_true rfl) hdg (fun H1 locs1 hP1 _ hS1 => kk H1 locs1 (by rw [zb_set_lim hi v] at hP1; exact hP1) hS1)
theorem zb_put_rat (hx : p.tables.exec = Jvm.exec) (hb : c.code = cc) (hts : ∀ w ∈ zw_big, w.before args s = true) (hown : s.vm.findClass own = some m.cls) (hK : va_K D vwCl (zb_tys G) s) (hG : zw_apart (zb_adr G)) (hP : va_P D vwCl (zb_cells G S) H) (hS : va_S (zb_Ad G) H0 H locs) {i : Nat} (hi : i < 6) {v : Int32} (hlink : (Cond.fieldLink own index (nT_A 4).1 (nT_A 4).2.1 (nT_A 4).2.2.1).before args s = true) (hdg : decode cc pc = .ok (.putfield index, 3))
    (kk : ∀ (H1 : Heap) (locs1 : List Loc), va_P D vwCl (zb_cells G (zb_srat S (upd (zb_rat S) i v))) H1 → va_S (zb_Ad G) H0 H1 locs1 → W p l e R s m args below meth c H1 locs1 cells slots Q (F0 m (pc + 3) ls rest)) : W p l e R s m args below meth c H locs cells slots Q (F0 m pc ls (.int v :: .ref (zg_acc G i) :: rest)) :=
  va_put (ci := 1) (C := nR_A) (T := nT_A) (N := 9) (ty := .int) hx hb hts zw_inA nt_A zw_tyA zw_nmA hown hK hP (zb_Dd hG S) hS (9 + i) (zb_atA hi) rfl 4 (by decide) hlink (fun _ h => h) rfl (by decide +kernel) rfl rfl (Nat.le_of_ble_eq_true rfl) hdg (fun H1 locs1 hP1 _ hS1 => kk H1 locs1 (by rw [zb_set_rat hi v] at hP1; exact hP1) hS1)
theorem zb_put_bal (hx : p.tables.exec = Jvm.exec) (hb : c.code = cc) (hts : ∀ w ∈ zw_big, w.before args s = true) (hown : s.vm.findClass own = some m.cls) (hK : va_K D vwCl (zb_tys G) s) (hG : zw_apart (zb_adr G)) (hP : va_P D vwCl (zb_cells G S) H) (hS : va_S (zb_Ad G) H0 H locs) {i : Nat} (hi : i < 6) {v : Int64} (hlink : (Cond.fieldLink own index (nT_A 5).1 (nT_A 5).2.1 (nT_A 5).2.2.1).before args s = true) (hdg : decode cc pc = .ok (.putfield index, 3))
    (kk : ∀ (H1 : Heap) (locs1 : List Loc), va_P D vwCl (zb_cells G (zb_sbal S (vp_updL (zb_bal S) i v))) H1 → va_S (zb_Ad G) H0 H1 locs1 → W p l e R s m args below meth c H1 locs1 cells slots Q (F0 m (pc + 3) ls rest)) : W p l e R s m args below meth c H locs cells slots Q (F0 m pc ls (.long v :: .ref (zg_acc G i) :: rest)) :=
  va_put (ci := 1) (C := nR_A) (T := nT_A) (N := 9) (ty := .long) hx hb hts zw_inA nt_A zw_tyA zw_nmA hown hK hP (zb_Dd hG S) hS (9 + i) (zb_atA hi) rfl 5 (by decide) hlink (fun _ h => h) rfl (by decide +kernel) rfl rfl (Nat.le_of_ble_eq_true rfl) hdg (fun H1 locs1 hP1 _ hS1 => kk H1 locs1 (by rw [zb_set_bal hi v] at hP1; exact hP1) hS1)
theorem zb_put_hel (hx : p.tables.exec = Jvm.exec) (hb : c.code = cc) (hts : ∀ w ∈ zw_big, w.before args s = true) (hown : s.vm.findClass own = some m.cls) (hK : va_K D vwCl (zb_tys G) s) (hG : zw_apart (zb_adr G)) (hP : va_P D vwCl (zb_cells G S) H) (hS : va_S (zb_Ad G) H0 H locs) {i : Nat} (hi : i < 6) {v : Int64} (hlink : (Cond.fieldLink own index (nT_A 6).1 (nT_A 6).2.1 (nT_A 6).2.2.1).before args s = true) (hdg : decode cc pc = .ok (.putfield index, 3))
    (kk : ∀ (H1 : Heap) (locs1 : List Loc), va_P D vwCl (zb_cells G (zb_shel S (vp_updL (zb_hel S) i v))) H1 → va_S (zb_Ad G) H0 H1 locs1 → W p l e R s m args below meth c H1 locs1 cells slots Q (F0 m (pc + 3) ls rest)) : W p l e R s m args below meth c H locs cells slots Q (F0 m pc ls (.long v :: .ref (zg_acc G i) :: rest)) :=
  va_put (ci := 1) (C := nR_A) (T := nT_A) (N := 9) (ty := .long) hx hb hts zw_inA nt_A zw_tyA zw_nmA hown hK hP (zb_Dd hG S) hS (9 + i) (zb_atA hi) rfl 6 (by decide) hlink (fun _ h => h) rfl (by decide +kernel) rfl rfl (Nat.le_of_ble_eq_true rfl) hdg (fun H1 locs1 hP1 _ hS1 => kk H1 locs1 (by rw [zb_set_hel hi v] at hP1; exact hP1) hS1)
theorem zb_put_acr (hx : p.tables.exec = Jvm.exec) (hb : c.code = cc) (hts : ∀ w ∈ zw_big, w.before args s = true) (hown : s.vm.findClass own = some m.cls) (hK : va_K D vwCl (zb_tys G) s) (hG : zw_apart (zb_adr G)) (hP : va_P D vwCl (zb_cells G S) H) (hS : va_S (zb_Ad G) H0 H locs) {i : Nat} (hi : i < 6) {v : Int64} (hlink : (Cond.fieldLink own index (nT_A 7).1 (nT_A 7).2.1 (nT_A 7).2.2.1).before args s = true) (hdg : decode cc pc = .ok (.putfield index, 3))
    (kk : ∀ (H1 : Heap) (locs1 : List Loc), va_P D vwCl (zb_cells G (zb_sacr S (vp_updL (zb_acr S) i v))) H1 → va_S (zb_Ad G) H0 H1 locs1 → W p l e R s m args below meth c H1 locs1 cells slots Q (F0 m (pc + 3) ls rest)) : W p l e R s m args below meth c H locs cells slots Q (F0 m pc ls (.long v :: .ref (zg_acc G i) :: rest)) :=
  va_put (ci := 1) (C := nR_A) (T := nT_A) (N := 9) (ty := .long) hx hb hts zw_inA nt_A zw_tyA zw_nmA hown hK hP (zb_Dd hG S) hS (9 + i) (zb_atA hi) rfl 7 (by decide) hlink (fun _ h => h) rfl (by decide +kernel) rfl rfl (Nat.le_of_ble_eq_true rfl) hdg (fun H1 locs1 hP1 _ hS1 => kk H1 locs1 (by rw [zb_set_acr hi v] at hP1; exact hP1) hS1)
theorem zb_put_mrk (hx : p.tables.exec = Jvm.exec) (hb : c.code = cc) (hts : ∀ w ∈ zw_big, w.before args s = true) (hown : s.vm.findClass own = some m.cls) (hK : va_K D vwCl (zb_tys G) s) (hG : zw_apart (zb_adr G)) (hP : va_P D vwCl (zb_cells G S) H) (hS : va_S (zb_Ad G) H0 H locs) {i : Nat} (hi : i < 6) {v : Int32} (hlink : (Cond.fieldLink own index (nT_A 8).1 (nT_A 8).2.1 (nT_A 8).2.2.1).before args s = true) (hdg : decode cc pc = .ok (.putfield index, 3))
    (kk : ∀ (H1 : Heap) (locs1 : List Loc), va_P D vwCl (zb_cells G (zb_smrk S (upd (zb_mrk S) i v))) H1 → va_S (zb_Ad G) H0 H1 locs1 → W p l e R s m args below meth c H1 locs1 cells slots Q (F0 m (pc + 3) ls rest)) : W p l e R s m args below meth c H locs cells slots Q (F0 m pc ls (.int v :: .ref (zg_acc G i) :: rest)) :=
  va_put (ci := 1) (C := nR_A) (T := nT_A) (N := 9) (ty := .int) hx hb hts zw_inA nt_A zw_tyA zw_nmA hown hK hP (zb_Dd hG S) hS (9 + i) (zb_atA hi) rfl 8 (by decide) hlink (fun _ h => h) rfl (by decide +kernel) rfl rfl (Nat.le_of_ble_eq_true rfl) hdg (fun H1 locs1 hP1 _ hS1 => kk H1 locs1 (by rw [zb_set_mrk hi v] at hP1; exact hP1) hS1)
theorem zb_put_hol (hx : p.tables.exec = Jvm.exec) (hb : c.code = cc) (hts : ∀ w ∈ zw_big, w.before args s = true) (hown : s.vm.findClass own = some m.cls) (hK : va_K D vwCl (zb_tys G) s) (hG : zw_apart (zb_adr G)) (hP : va_P D vwCl (zb_cells G S) H) (hS : va_S (zb_Ad G) H0 H locs) {i : Nat} (hi : i < 8) {v : Option Nat} (hlink : (Cond.fieldLink own index (nT_H 0).1 (nT_H 0).2.1 (nT_H 0).2.2.1).before args s = true) (hdg : decode cc pc = .ok (.putfield index, 3))
    (kk : ∀ (H1 : Heap) (locs1 : List Loc), va_P D vwCl (zb_cells G (zb_shol S (va_up (zb_hol S) i v))) H1 → va_S (zb_Ad G) H0 H1 locs1 → W p l e R s m args below meth c H1 locs1 cells slots Q (F0 m (pc + 3) ls rest)) : W p l e R s m args below meth c H locs cells slots Q (F0 m pc ls (va_re (zg_acc G) v :: .ref (zg_hld G i) :: rest)) :=
  va_put (ci := 2) (C := nR_H) (T := nT_H) (N := 2) (ty := .object "DayEndBank$Account") hx hb hts zw_inH nt_H zw_tyH zw_nmH hown hK hP (zb_Dd hG S) hS (15 + i) (zb_atH hi) rfl 0 (by decide) hlink (fun _ h => h) rfl (by decide +kernel) (by cases v <;> rfl) (by cases v <;> rfl) (Nat.le_of_ble_eq_true rfl) hdg (fun H1 locs1 hP1 _ hS1 => kk H1 locs1 (by rw [zb_set_hol hi v] at hP1; exact hP1) hS1)
theorem zb_put_ham (hx : p.tables.exec = Jvm.exec) (hb : c.code = cc) (hts : ∀ w ∈ zw_big, w.before args s = true) (hown : s.vm.findClass own = some m.cls) (hK : va_K D vwCl (zb_tys G) s) (hG : zw_apart (zb_adr G)) (hP : va_P D vwCl (zb_cells G S) H) (hS : va_S (zb_Ad G) H0 H locs) {i : Nat} (hi : i < 8) {v : Int32} (hlink : (Cond.fieldLink own index (nT_H 1).1 (nT_H 1).2.1 (nT_H 1).2.2.1).before args s = true) (hdg : decode cc pc = .ok (.putfield index, 3))
    (kk : ∀ (H1 : Heap) (locs1 : List Loc), va_P D vwCl (zb_cells G (zb_sham S (upd (zb_ham S) i v))) H1 → va_S (zb_Ad G) H0 H1 locs1 → W p l e R s m args below meth c H1 locs1 cells slots Q (F0 m (pc + 3) ls rest)) : W p l e R s m args below meth c H locs cells slots Q (F0 m pc ls (.int v :: .ref (zg_hld G i) :: rest)) :=
  va_put (ci := 2) (C := nR_H) (T := nT_H) (N := 2) (ty := .int) hx hb hts zw_inH nt_H zw_tyH zw_nmH hown hK hP (zb_Dd hG S) hS (15 + i) (zb_atH hi) rfl 1 (by decide) hlink (fun _ h => h) rfl (by decide +kernel) rfl rfl (Nat.le_of_ble_eq_true rfl) hdg (fun H1 locs1 hP1 _ hS1 => kk H1 locs1 (by rw [zb_set_ham hi v] at hP1; exact hP1) hS1)
theorem zb_put_pyr (hx : p.tables.exec = Jvm.exec) (hb : c.code = cc) (hts : ∀ w ∈ zw_big, w.before args s = true) (hown : s.vm.findClass own = some m.cls) (hK : va_K D vwCl (zb_tys G) s) (hG : zw_apart (zb_adr G)) (hP : va_P D vwCl (zb_cells G S) H) (hS : va_S (zb_Ad G) H0 H locs) {i : Nat} (hi : i < 6) {v : Option Nat} (hlink : (Cond.fieldLink own index (nT_O 0).1 (nT_O 0).2.1 (nT_O 0).2.2.1).before args s = true) (hdg : decode cc pc = .ok (.putfield index, 3))
    (kk : ∀ (H1 : Heap) (locs1 : List Loc), va_P D vwCl (zb_cells G (zb_spyr S (va_up (zb_pyr S) i v))) H1 → va_S (zb_Ad G) H0 H1 locs1 → W p l e R s m args below meth c H1 locs1 cells slots Q (F0 m (pc + 3) ls rest)) : W p l e R s m args below meth c H locs cells slots Q (F0 m pc ls (va_re (zg_acc G) v :: .ref (zg_ord G i) :: rest)) :=
  va_put (ci := 3) (C := nR_O) (T := nT_O) (N := 7) (ty := .object "DayEndBank$Account") hx hb hts zw_inO nt_O zw_tyO zw_nmO hown hK hP (zb_Dd hG S) hS (23 + i) (zb_atO hi) rfl 0 (by decide) hlink (fun _ h => h) rfl (by decide +kernel) (by cases v <;> rfl) (by cases v <;> rfl) (Nat.le_of_ble_eq_true rfl) hdg (fun H1 locs1 hP1 _ hS1 => kk H1 locs1 (by rw [zb_set_pyr hi v] at hP1; exact hP1) hS1)
theorem zb_put_pye (hx : p.tables.exec = Jvm.exec) (hb : c.code = cc) (hts : ∀ w ∈ zw_big, w.before args s = true) (hown : s.vm.findClass own = some m.cls) (hK : va_K D vwCl (zb_tys G) s) (hG : zw_apart (zb_adr G)) (hP : va_P D vwCl (zb_cells G S) H) (hS : va_S (zb_Ad G) H0 H locs) {i : Nat} (hi : i < 6) {v : Option Nat} (hlink : (Cond.fieldLink own index (nT_O 1).1 (nT_O 1).2.1 (nT_O 1).2.2.1).before args s = true) (hdg : decode cc pc = .ok (.putfield index, 3))
    (kk : ∀ (H1 : Heap) (locs1 : List Loc), va_P D vwCl (zb_cells G (zb_spye S (va_up (zb_pye S) i v))) H1 → va_S (zb_Ad G) H0 H1 locs1 → W p l e R s m args below meth c H1 locs1 cells slots Q (F0 m (pc + 3) ls rest)) : W p l e R s m args below meth c H locs cells slots Q (F0 m pc ls (va_re (zg_acc G) v :: .ref (zg_ord G i) :: rest)) :=
  va_put (ci := 3) (C := nR_O) (T := nT_O) (N := 7) (ty := .object "DayEndBank$Account") hx hb hts zw_inO nt_O zw_tyO zw_nmO hown hK hP (zb_Dd hG S) hS (23 + i) (zb_atO hi) rfl 1 (by decide) hlink (fun _ h => h) rfl (by decide +kernel) (by cases v <;> rfl) (by cases v <;> rfl) (Nat.le_of_ble_eq_true rfl) hdg (fun H1 locs1 hP1 _ hS1 => kk H1 locs1 (by rw [zb_set_pye hi v] at hP1; exact hP1) hS1)
theorem zb_put_oam (hx : p.tables.exec = Jvm.exec) (hb : c.code = cc) (hts : ∀ w ∈ zw_big, w.before args s = true) (hown : s.vm.findClass own = some m.cls) (hK : va_K D vwCl (zb_tys G) s) (hG : zw_apart (zb_adr G)) (hP : va_P D vwCl (zb_cells G S) H) (hS : va_S (zb_Ad G) H0 H locs) {i : Nat} (hi : i < 6) {v : Int32} (hlink : (Cond.fieldLink own index (nT_O 2).1 (nT_O 2).2.1 (nT_O 2).2.2.1).before args s = true) (hdg : decode cc pc = .ok (.putfield index, 3))
    (kk : ∀ (H1 : Heap) (locs1 : List Loc), va_P D vwCl (zb_cells G (zb_soam S (upd (zb_oam S) i v))) H1 → va_S (zb_Ad G) H0 H1 locs1 → W p l e R s m args below meth c H1 locs1 cells slots Q (F0 m (pc + 3) ls rest)) : W p l e R s m args below meth c H locs cells slots Q (F0 m pc ls (.int v :: .ref (zg_ord G i) :: rest)) :=
  va_put (ci := 3) (C := nR_O) (T := nT_O) (N := 7) (ty := .int) hx hb hts zw_inO nt_O zw_tyO zw_nmO hown hK hP (zb_Dd hG S) hS (23 + i) (zb_atO hi) rfl 2 (by decide) hlink (fun _ h => h) rfl (by decide +kernel) rfl rfl (Nat.le_of_ble_eq_true rfl) hdg (fun H1 locs1 hP1 _ hS1 => kk H1 locs1 (by rw [zb_set_oam hi v] at hP1; exact hP1) hS1)
theorem zb_put_ody (hx : p.tables.exec = Jvm.exec) (hb : c.code = cc) (hts : ∀ w ∈ zw_big, w.before args s = true) (hown : s.vm.findClass own = some m.cls) (hK : va_K D vwCl (zb_tys G) s) (hG : zw_apart (zb_adr G)) (hP : va_P D vwCl (zb_cells G S) H) (hS : va_S (zb_Ad G) H0 H locs) {i : Nat} (hi : i < 6) {v : Int32} (hlink : (Cond.fieldLink own index (nT_O 3).1 (nT_O 3).2.1 (nT_O 3).2.2.1).before args s = true) (hdg : decode cc pc = .ok (.putfield index, 3))
    (kk : ∀ (H1 : Heap) (locs1 : List Loc), va_P D vwCl (zb_cells G (zb_sody S (upd (zb_ody S) i v))) H1 → va_S (zb_Ad G) H0 H1 locs1 → W p l e R s m args below meth c H1 locs1 cells slots Q (F0 m (pc + 3) ls rest)) : W p l e R s m args below meth c H locs cells slots Q (F0 m pc ls (.int v :: .ref (zg_ord G i) :: rest)) :=
  va_put (ci := 3) (C := nR_O) (T := nT_O) (N := 7) (ty := .int) hx hb hts zw_inO nt_O zw_tyO zw_nmO hown hK hP (zb_Dd hG S) hS (23 + i) (zb_atO hi) rfl 3 (by decide) hlink (fun _ h => h) rfl (by decide +kernel) rfl rfl (Nat.le_of_ble_eq_true rfl) hdg (fun H1 locs1 hP1 _ hS1 => kk H1 locs1 (by rw [zb_set_ody hi v] at hP1; exact hP1) hS1)
theorem zb_put_oms (hx : p.tables.exec = Jvm.exec) (hb : c.code = cc) (hts : ∀ w ∈ zw_big, w.before args s = true) (hown : s.vm.findClass own = some m.cls) (hK : va_K D vwCl (zb_tys G) s) (hG : zw_apart (zb_adr G)) (hP : va_P D vwCl (zb_cells G S) H) (hS : va_S (zb_Ad G) H0 H locs) {i : Nat} (hi : i < 6) {v : Int32} (hlink : (Cond.fieldLink own index (nT_O 4).1 (nT_O 4).2.1 (nT_O 4).2.2.1).before args s = true) (hdg : decode cc pc = .ok (.putfield index, 3))
    (kk : ∀ (H1 : Heap) (locs1 : List Loc), va_P D vwCl (zb_cells G (zb_soms S (upd (zb_oms S) i v))) H1 → va_S (zb_Ad G) H0 H1 locs1 → W p l e R s m args below meth c H1 locs1 cells slots Q (F0 m (pc + 3) ls rest)) : W p l e R s m args below meth c H locs cells slots Q (F0 m pc ls (.int v :: .ref (zg_ord G i) :: rest)) :=
  va_put (ci := 3) (C := nR_O) (T := nT_O) (N := 7) (ty := .int) hx hb hts zw_inO nt_O zw_tyO zw_nmO hown hK hP (zb_Dd hG S) hS (23 + i) (zb_atO hi) rfl 4 (by decide) hlink (fun _ h => h) rfl (by decide +kernel) rfl rfl (Nat.le_of_ble_eq_true rfl) hdg (fun H1 locs1 hP1 _ hS1 => kk H1 locs1 (by rw [zb_set_oms hi v] at hP1; exact hP1) hS1)
theorem zb_put_odu (hx : p.tables.exec = Jvm.exec) (hb : c.code = cc) (hts : ∀ w ∈ zw_big, w.before args s = true) (hown : s.vm.findClass own = some m.cls) (hK : va_K D vwCl (zb_tys G) s) (hG : zw_apart (zb_adr G)) (hP : va_P D vwCl (zb_cells G S) H) (hS : va_S (zb_Ad G) H0 H locs) {i : Nat} (hi : i < 6) {v : Int32} (hv : v = 0 ∨ v = 1) (hlink : (Cond.fieldLink own index (nT_O 5).1 (nT_O 5).2.1 (nT_O 5).2.2.1).before args s = true) (hdg : decode cc pc = .ok (.putfield index, 3))
    (kk : ∀ (H1 : Heap) (locs1 : List Loc), va_P D vwCl (zb_cells G (zb_sodu S (upd (zb_odu S) i v))) H1 → va_S (zb_Ad G) H0 H1 locs1 → W p l e R s m args below meth c H1 locs1 cells slots Q (F0 m (pc + 3) ls rest)) : W p l e R s m args below meth c H locs cells slots Q (F0 m pc ls (.int v :: .ref (zg_ord G i) :: rest)) :=
  va_put (ci := 3) (C := nR_O) (T := nT_O) (N := 7) (ty := .boolean) hx hb hts zw_inO nt_O zw_tyO zw_nmO hown hK hP (zb_Dd hG S) hS (23 + i) (zb_atO hi) rfl 5 (by decide) hlink (fun _ h => h) rfl (by decide +kernel) (by rcases hv with rfl | rfl <;> rfl) (by rcases hv with rfl | rfl <;> rfl) (Nat.le_of_ble_eq_true rfl) hdg (fun H1 locs1 hP1 _ hS1 => kk H1 locs1 (by rw [zb_set_odu hi v] at hP1; exact hP1) hS1)
theorem zb_put_opd (hx : p.tables.exec = Jvm.exec) (hb : c.code = cc) (hts : ∀ w ∈ zw_big, w.before args s = true) (hown : s.vm.findClass own = some m.cls) (hK : va_K D vwCl (zb_tys G) s) (hG : zw_apart (zb_adr G)) (hP : va_P D vwCl (zb_cells G S) H) (hS : va_S (zb_Ad G) H0 H locs) {i : Nat} (hi : i < 6) {v : Int32} (hv : v = 0 ∨ v = 1) (hlink : (Cond.fieldLink own index (nT_O 6).1 (nT_O 6).2.1 (nT_O 6).2.2.1).before args s = true) (hdg : decode cc pc = .ok (.putfield index, 3))
    (kk : ∀ (H1 : Heap) (locs1 : List Loc), va_P D vwCl (zb_cells G (zb_sopd S (upd (zb_opd S) i v))) H1 → va_S (zb_Ad G) H0 H1 locs1 → W p l e R s m args below meth c H1 locs1 cells slots Q (F0 m (pc + 3) ls rest)) : W p l e R s m args below meth c H locs cells slots Q (F0 m pc ls (.int v :: .ref (zg_ord G i) :: rest)) :=
  va_put (ci := 3) (C := nR_O) (T := nT_O) (N := 7) (ty := .boolean) hx hb hts zw_inO nt_O zw_tyO zw_nmO hown hK hP (zb_Dd hG S) hS (23 + i) (zb_atO hi) rfl 6 (by decide) hlink (fun _ h => h) rfl (by decide +kernel) (by rcases hv with rfl | rfl <;> rfl) (by rcases hv with rfl | rfl <;> rfl) (Nat.le_of_ble_eq_true rfl) hdg (fun H1 locs1 hP1 _ hS1 => kk H1 locs1 (by rw [zb_set_opd hi v] at hP1; exact hP1) hS1)
theorem zb_put_dm (hx : p.tables.exec = Jvm.exec) (hb : c.code = cc) (hts : ∀ w ∈ zw_big, w.before args s = true) (hown : s.vm.findClass own = some m.cls) (hK : va_K D vwCl (zb_tys G) s) (hG : zw_apart (zb_adr G)) (hP : va_P D vwCl (zb_cells G S) H) (hS : va_S (zb_Ad G) H0 H locs) {v : Int32} (hlink : (Cond.fieldLink own index (nT_R 1).1 (nT_R 1).2.1 (nT_R 1).2.2.1).before args s = true) (hdg : decode cc pc = .ok (.putfield index, 3))
    (kk : ∀ (H1 : Heap) (locs1 : List Loc), va_P D vwCl (zb_cells G (zb_sdm S v)) H1 → va_S (zb_Ad G) H0 H1 locs1 → W p l e R s m args below meth c H1 locs1 cells slots Q (F0 m (pc + 3) ls rest)) : W p l e R s m args below meth c H locs cells slots Q (F0 m pc ls (.int v :: .ref (zg_rst G) :: rest)) :=
  va_put (ci := 4) (C := nR_R) (T := nT_R) (N := 2) (ty := .int) hx hb hts zw_inR nt_R zw_tyR zw_nmR hown hK hP (zb_Dd hG S) hS (4) (rfl) rfl 1 (by decide) hlink (fun _ h => h) rfl (by decide +kernel) rfl rfl (Nat.le_of_ble_eq_true rfl) hdg (fun H1 locs1 hP1 _ hS1 => kk H1 locs1 (by rw [zb_set_dm v] at hP1; exact hP1) hS1)
theorem zb_put_stp (hx : p.tables.exec = Jvm.exec) (hb : c.code = cc) (hts : ∀ w ∈ zw_big, w.before args s = true) (hown : s.vm.findClass own = some m.cls) (hK : va_K D vwCl (zb_tys G) s) (hG : zw_apart (zb_adr G)) (hP : va_P D vwCl (zb_cells G S) H) (hS : va_S (zb_Ad G) H0 H locs) {v : Int32} (hv : v = 0 ∨ v = 1) (hlink : (Cond.fieldLink own index (nT_D 0).1 (nT_D 0).2.1 (nT_D 0).2.2.1).before args s = true) (hdg : decode cc pc = .ok (.putfield index, 3))
    (kk : ∀ (H1 : Heap) (locs1 : List Loc), va_P D vwCl (zb_cells G (zb_sstp S v)) H1 → va_S (zb_Ad G) H0 H1 locs1 → W p l e R s m args below meth c H1 locs1 cells slots Q (F0 m (pc + 3) ls rest)) : W p l e R s m args below meth c H locs cells slots Q (F0 m pc ls (.int v :: .ref (zg_dsk G) :: rest)) :=
  va_put (ci := 5) (C := nR_D) (T := nT_D) (N := 6) (ty := .boolean) hx hb hts zw_inD nt_D zw_tyD zw_nmD hown hK hP (zb_Dd hG S) hS (5) (rfl) rfl 0 (by decide) hlink (fun _ h => h) rfl (by decide +kernel) (by rcases hv with rfl | rfl <;> rfl) (by rcases hv with rfl | rfl <;> rfl) (Nat.le_of_ble_eq_true rfl) hdg (fun H1 locs1 hP1 _ hS1 => kk H1 locs1 (by rw [zb_set_stp v] at hP1; exact hP1) hS1)
theorem zb_put_wm (hx : p.tables.exec = Jvm.exec) (hb : c.code = cc) (hts : ∀ w ∈ zw_big, w.before args s = true) (hown : s.vm.findClass own = some m.cls) (hK : va_K D vwCl (zb_tys G) s) (hG : zw_apart (zb_adr G)) (hP : va_P D vwCl (zb_cells G S) H) (hS : va_S (zb_Ad G) H0 H locs) {v : Int32} (hlink : (Cond.fieldLink own index (nT_D 1).1 (nT_D 1).2.1 (nT_D 1).2.2.1).before args s = true) (hdg : decode cc pc = .ok (.putfield index, 3))
    (kk : ∀ (H1 : Heap) (locs1 : List Loc), va_P D vwCl (zb_cells G (zb_swm S v)) H1 → va_S (zb_Ad G) H0 H1 locs1 → W p l e R s m args below meth c H1 locs1 cells slots Q (F0 m (pc + 3) ls rest)) : W p l e R s m args below meth c H locs cells slots Q (F0 m pc ls (.int v :: .ref (zg_dsk G) :: rest)) :=
  va_put (ci := 5) (C := nR_D) (T := nT_D) (N := 6) (ty := .int) hx hb hts zw_inD nt_D zw_tyD zw_nmD hown hK hP (zb_Dd hG S) hS (5) (rfl) rfl 1 (by decide) hlink (fun _ h => h) rfl (by decide +kernel) rfl rfl (Nat.le_of_ble_eq_true rfl) hdg (fun H1 locs1 hP1 _ hS1 => kk H1 locs1 (by rw [zb_set_wm v] at hP1; exact hP1) hS1)
theorem zb_put_wl (hx : p.tables.exec = Jvm.exec) (hb : c.code = cc) (hts : ∀ w ∈ zw_big, w.before args s = true) (hown : s.vm.findClass own = some m.cls) (hK : va_K D vwCl (zb_tys G) s) (hG : zw_apart (zb_adr G)) (hP : va_P D vwCl (zb_cells G S) H) (hS : va_S (zb_Ad G) H0 H locs) {v : Int32} (hlink : (Cond.fieldLink own index (nT_D 2).1 (nT_D 2).2.1 (nT_D 2).2.2.1).before args s = true) (hdg : decode cc pc = .ok (.putfield index, 3))
    (kk : ∀ (H1 : Heap) (locs1 : List Loc), va_P D vwCl (zb_cells G (zb_swl S v)) H1 → va_S (zb_Ad G) H0 H1 locs1 → W p l e R s m args below meth c H1 locs1 cells slots Q (F0 m (pc + 3) ls rest)) : W p l e R s m args below meth c H locs cells slots Q (F0 m pc ls (.int v :: .ref (zg_dsk G) :: rest)) :=
  va_put (ci := 5) (C := nR_D) (T := nT_D) (N := 6) (ty := .int) hx hb hts zw_inD nt_D zw_tyD zw_nmD hown hK hP (zb_Dd hG S) hS (5) (rfl) rfl 2 (by decide) hlink (fun _ h => h) rfl (by decide +kernel) rfl rfl (Nat.le_of_ble_eq_true rfl) hdg (fun H1 locs1 hP1 _ hS1 => kk H1 locs1 (by rw [zb_set_wl v] at hP1; exact hP1) hS1)
theorem zb_put_lin (hx : p.tables.exec = Jvm.exec) (hb : c.code = cc) (hts : ∀ w ∈ zw_big, w.before args s = true) (hown : s.vm.findClass own = some m.cls) (hK : va_K D vwCl (zb_tys G) s) (hG : zw_apart (zb_adr G)) (hP : va_P D vwCl (zb_cells G S) H) (hS : va_S (zb_Ad G) H0 H locs) {v : Int32} (hlink : (Cond.fieldLink own index (nT_D 3).1 (nT_D 3).2.1 (nT_D 3).2.2.1).before args s = true) (hdg : decode cc pc = .ok (.putfield index, 3))
    (kk : ∀ (H1 : Heap) (locs1 : List Loc), va_P D vwCl (zb_cells G (zb_slin S v)) H1 → va_S (zb_Ad G) H0 H1 locs1 → W p l e R s m args below meth c H1 locs1 cells slots Q (F0 m (pc + 3) ls rest)) : W p l e R s m args below meth c H locs cells slots Q (F0 m pc ls (.int v :: .ref (zg_dsk G) :: rest)) :=
  va_put (ci := 5) (C := nR_D) (T := nT_D) (N := 6) (ty := .int) hx hb hts zw_inD nt_D zw_tyD zw_nmD hown hK hP (zb_Dd hG S) hS (5) (rfl) rfl 3 (by decide) hlink (fun _ h => h) rfl (by decide +kernel) rfl rfl (Nat.le_of_ble_eq_true rfl) hdg (fun H1 locs1 hP1 _ hS1 => kk H1 locs1 (by rw [zb_set_lin v] at hP1; exact hP1) hS1)
theorem zb_put_trn (hx : p.tables.exec = Jvm.exec) (hb : c.code = cc) (hts : ∀ w ∈ zw_big, w.before args s = true) (hown : s.vm.findClass own = some m.cls) (hK : va_K D vwCl (zb_tys G) s) (hG : zw_apart (zb_adr G)) (hP : va_P D vwCl (zb_cells G S) H) (hS : va_S (zb_Ad G) H0 H locs) {v : Int32} (hlink : (Cond.fieldLink own index (nT_D 4).1 (nT_D 4).2.1 (nT_D 4).2.2.1).before args s = true) (hdg : decode cc pc = .ok (.putfield index, 3))
    (kk : ∀ (H1 : Heap) (locs1 : List Loc), va_P D vwCl (zb_cells G (zb_strn S v)) H1 → va_S (zb_Ad G) H0 H1 locs1 → W p l e R s m args below meth c H1 locs1 cells slots Q (F0 m (pc + 3) ls rest)) : W p l e R s m args below meth c H locs cells slots Q (F0 m pc ls (.int v :: .ref (zg_dsk G) :: rest)) :=
  va_put (ci := 5) (C := nR_D) (T := nT_D) (N := 6) (ty := .int) hx hb hts zw_inD nt_D zw_tyD zw_nmD hown hK hP (zb_Dd hG S) hS (5) (rfl) rfl 4 (by decide) hlink (fun _ h => h) rfl (by decide +kernel) rfl rfl (Nat.le_of_ble_eq_true rfl) hdg (fun H1 locs1 hP1 _ hS1 => kk H1 locs1 (by rw [zb_set_trn v] at hP1; exact hP1) hS1)
theorem zb_put_chg (hx : p.tables.exec = Jvm.exec) (hb : c.code = cc) (hts : ∀ w ∈ zw_big, w.before args s = true) (hown : s.vm.findClass own = some m.cls) (hK : va_K D vwCl (zb_tys G) s) (hG : zw_apart (zb_adr G)) (hP : va_P D vwCl (zb_cells G S) H) (hS : va_S (zb_Ad G) H0 H locs) {v : Int32} (hlink : (Cond.fieldLink own index (nT_D 5).1 (nT_D 5).2.1 (nT_D 5).2.2.1).before args s = true) (hdg : decode cc pc = .ok (.putfield index, 3))
    (kk : ∀ (H1 : Heap) (locs1 : List Loc), va_P D vwCl (zb_cells G (zb_schg S v)) H1 → va_S (zb_Ad G) H0 H1 locs1 → W p l e R s m args below meth c H1 locs1 cells slots Q (F0 m (pc + 3) ls rest)) : W p l e R s m args below meth c H locs cells slots Q (F0 m pc ls (.int v :: .ref (zg_dsk G) :: rest)) :=
  va_put (ci := 5) (C := nR_D) (T := nT_D) (N := 6) (ty := .int) hx hb hts zw_inD nt_D zw_tyD zw_nmD hown hK hP (zb_Dd hG S) hS (5) (rfl) rfl 5 (by decide) hlink (fun _ h => h) rfl (by decide +kernel) rfl rfl (Nat.le_of_ble_eq_true rfl) hdg (fun H1 locs1 hP1 _ hS1 => kk H1 locs1 (by rw [zb_set_chg v] at hP1; exact hP1) hS1)
theorem zb_put_n (hx : p.tables.exec = Jvm.exec) (hb : c.code = cc) (hts : ∀ w ∈ zw_big, w.before args s = true) (hown : s.vm.findClass own = some m.cls) (hK : va_K D vwCl (zb_tys G) s) (hG : zw_apart (zb_adr G)) (hP : va_P D vwCl (zb_cells G S) H) (hS : va_S (zb_Ad G) H0 H locs) {v : Int32} (hlink : (Cond.fieldLink own index (nT_B 7).1 (nT_B 7).2.1 (nT_B 7).2.2.1).before args s = true) (hdg : decode cc pc = .ok (.putfield index, 3))
    (kk : ∀ (H1 : Heap) (locs1 : List Loc), va_P D vwCl (zb_cells G (zb_sn S v)) H1 → va_S (zb_Ad G) H0 H1 locs1 → W p l e R s m args below meth c H1 locs1 cells slots Q (F0 m (pc + 3) ls rest)) : W p l e R s m args below meth c H locs cells slots Q (F0 m pc ls (.int v :: .ref (zg_bnk G) :: rest)) :=
  va_put (ci := 0) (C := nR_B) (T := nT_B) (N := 11) (ty := .int) hx hb hts zw_inB nt_B zw_tyB zw_nmB hown hK hP (zb_Dd hG S) hS (0) (rfl) rfl 7 (by decide) hlink (fun _ h => h) rfl (by decide +kernel) rfl rfl (Nat.le_of_ble_eq_true rfl) hdg (fun H1 locs1 hP1 _ hS1 => kk H1 locs1 (by rw [zb_set_n v] at hP1; exact hP1) hS1)
theorem zb_put_o (hx : p.tables.exec = Jvm.exec) (hb : c.code = cc) (hts : ∀ w ∈ zw_big, w.before args s = true) (hown : s.vm.findClass own = some m.cls) (hK : va_K D vwCl (zb_tys G) s) (hG : zw_apart (zb_adr G)) (hP : va_P D vwCl (zb_cells G S) H) (hS : va_S (zb_Ad G) H0 H locs) {v : Int32} (hlink : (Cond.fieldLink own index (nT_B 8).1 (nT_B 8).2.1 (nT_B 8).2.2.1).before args s = true) (hdg : decode cc pc = .ok (.putfield index, 3))
    (kk : ∀ (H1 : Heap) (locs1 : List Loc), va_P D vwCl (zb_cells G (zb_so S v)) H1 → va_S (zb_Ad G) H0 H1 locs1 → W p l e R s m args below meth c H1 locs1 cells slots Q (F0 m (pc + 3) ls rest)) : W p l e R s m args below meth c H locs cells slots Q (F0 m pc ls (.int v :: .ref (zg_bnk G) :: rest)) :=
  va_put (ci := 0) (C := nR_B) (T := nT_B) (N := 11) (ty := .int) hx hb hts zw_inB nt_B zw_tyB zw_nmB hown hK hP (zb_Dd hG S) hS (0) (rfl) rfl 8 (by decide) hlink (fun _ h => h) rfl (by decide +kernel) rfl rfl (Nat.le_of_ble_eq_true rfl) hdg (fun H1 locs1 hP1 _ hS1 => kk H1 locs1 (by rw [zb_set_o v] at hP1; exact hP1) hS1)
theorem zb_put_bd (hx : p.tables.exec = Jvm.exec) (hb : c.code = cc) (hts : ∀ w ∈ zw_big, w.before args s = true) (hown : s.vm.findClass own = some m.cls) (hK : va_K D vwCl (zb_tys G) s) (hG : zw_apart (zb_adr G)) (hP : va_P D vwCl (zb_cells G S) H) (hS : va_S (zb_Ad G) H0 H locs) {v : Int32} (hlink : (Cond.fieldLink own index (nT_B 9).1 (nT_B 9).2.1 (nT_B 9).2.2.1).before args s = true) (hdg : decode cc pc = .ok (.putfield index, 3))
    (kk : ∀ (H1 : Heap) (locs1 : List Loc), va_P D vwCl (zb_cells G (zb_sbd S v)) H1 → va_S (zb_Ad G) H0 H1 locs1 → W p l e R s m args below meth c H1 locs1 cells slots Q (F0 m (pc + 3) ls rest)) : W p l e R s m args below meth c H locs cells slots Q (F0 m pc ls (.int v :: .ref (zg_bnk G) :: rest)) :=
  va_put (ci := 0) (C := nR_B) (T := nT_B) (N := 11) (ty := .int) hx hb hts zw_inB nt_B zw_tyB zw_nmB hown hK hP (zb_Dd hG S) hS (0) (rfl) rfl 9 (by decide) hlink (fun _ h => h) rfl (by decide +kernel) rfl rfl (Nat.le_of_ble_eq_true rfl) hdg (fun H1 locs1 hP1 _ hS1 => kk H1 locs1 (by rw [zb_set_bd v] at hP1; exact hP1) hS1)
theorem zb_put_de (hx : p.tables.exec = Jvm.exec) (hb : c.code = cc) (hts : ∀ w ∈ zw_big, w.before args s = true) (hown : s.vm.findClass own = some m.cls) (hK : va_K D vwCl (zb_tys G) s) (hG : zw_apart (zb_adr G)) (hP : va_P D vwCl (zb_cells G S) H) (hS : va_S (zb_Ad G) H0 H locs) {v : Int32} (hv : v = 0 ∨ v = 1) (hlink : (Cond.fieldLink own index (nT_B 10).1 (nT_B 10).2.1 (nT_B 10).2.2.1).before args s = true) (hdg : decode cc pc = .ok (.putfield index, 3))
    (kk : ∀ (H1 : Heap) (locs1 : List Loc), va_P D vwCl (zb_cells G (zb_sde S v)) H1 → va_S (zb_Ad G) H0 H1 locs1 → W p l e R s m args below meth c H1 locs1 cells slots Q (F0 m (pc + 3) ls rest)) : W p l e R s m args below meth c H locs cells slots Q (F0 m pc ls (.int v :: .ref (zg_bnk G) :: rest)) :=
  va_put (ci := 0) (C := nR_B) (T := nT_B) (N := 11) (ty := .boolean) hx hb hts zw_inB nt_B zw_tyB zw_nmB hown hK hP (zb_Dd hG S) hS (0) (rfl) rfl 10 (by decide) hlink (fun _ h => h) rfl (by decide +kernel) (by rcases hv with rfl | rfl <;> rfl) (by rcases hv with rfl | rfl <;> rfl) (Nat.le_of_ble_eq_true rfl) hdg (fun H1 locs1 hP1 _ hS1 => kk H1 locs1 (by rw [zb_set_de v] at hP1; exact hP1) hS1)
theorem zb_ald_acc (hx : p.tables.exec = Jvm.exec) (hb : c.code = cc) (hK : va_K D vwCl (zb_tys G) s) (hP : va_P D vwCl (zb_cells G S) H) {i : Int32} (hin : vp_in i 6) (hdg : decode cc pc = .ok (.aaload, 1))
    (kk : W p l e R s m args below meth c H locs cells slots Q (F0 m (pc + 1) ls (.ref (zg_acc G i.toNatClampNeg) :: rest))) : W p l e R s m args below meth c H locs cells slots Q (F0 m pc ls (.int i :: .ref (zg_aac G) :: rest)) := va_aldq hx hb hK hP 1 0 rfl rfl hin hdg kk
theorem zb_ald_hld (hx : p.tables.exec = Jvm.exec) (hb : c.code = cc) (hK : va_K D vwCl (zb_tys G) s) (hP : va_P D vwCl (zb_cells G S) H) {i : Int32} (hin : vp_in i 8) (hdg : decode cc pc = .ok (.aaload, 1))
    (kk : W p l e R s m args below meth c H locs cells slots Q (F0 m (pc + 1) ls (.ref (zg_hld G i.toNatClampNeg) :: rest))) : W p l e R s m args below meth c H locs cells slots Q (F0 m pc ls (.int i :: .ref (zg_aho G) :: rest)) := va_aldq hx hb hK hP 2 1 rfl rfl hin hdg kk
theorem zb_ald_ord (hx : p.tables.exec = Jvm.exec) (hb : c.code = cc) (hK : va_K D vwCl (zb_tys G) s) (hP : va_P D vwCl (zb_cells G S) H) {i : Int32} (hin : vp_in i 6) (hdg : decode cc pc = .ok (.aaload, 1))
    (kk : W p l e R s m args below meth c H locs cells slots Q (F0 m (pc + 1) ls (.ref (zg_ord G i.toNatClampNeg) :: rest))) : W p l e R s m args below meth c H locs cells slots Q (F0 m pc ls (.int i :: .ref (zg_aor G) :: rest)) := va_aldq hx hb hK hP 3 2 rfl rfl hin hdg kk
theorem zb_ald_csh (hx : p.tables.exec = Jvm.exec) (hb : c.code = cc) (hK : va_K D vwCl (zb_tys G) s) (hP : va_P D vwCl (zb_cells G S) H) {i : Int32} (hin : vp_in i 3) (hdg : decode cc pc = .ok (.laload, 1))
    (kk : W p l e R s m args below meth c H locs cells slots Q (F0 m (pc + 1) ls (.long (zb_csh S i.toNatClampNeg) :: rest))) : W p l e R s m args below meth c H locs cells slots Q (F0 m pc ls (.int i :: .ref (zg_csh G) :: rest)) := va_lald hx hb hK hP 6 4 rfl rfl hin hdg kk
theorem zb_ald_itr (hx : p.tables.exec = Jvm.exec) (hb : c.code = cc) (hK : va_K D vwCl (zb_tys G) s) (hP : va_P D vwCl (zb_cells G S) H) {i : Int32} (hin : vp_in i 3) (hdg : decode cc pc = .ok (.laload, 1))
    (kk : W p l e R s m args below meth c H locs cells slots Q (F0 m (pc + 1) ls (.long (zb_itr S i.toNatClampNeg) :: rest))) : W p l e R s m args below meth c H locs cells slots Q (F0 m pc ls (.int i :: .ref (zg_itr G) :: rest)) := va_lald hx hb hK hP 7 4 rfl rfl hin hdg kk
theorem zb_ald_dat (hx : p.tables.exec = Jvm.exec) (hb : c.code = cc) (hK : va_K D vwCl (zb_tys G) s) (hP : va_P D vwCl (zb_cells G S) H) {i : Int32} (hin : vp_in i 8) (hdg : decode cc pc = .ok (.iaload, 1))
    (kk : W p l e R s m args below meth c H locs cells slots Q (F0 m (pc + 1) ls (.int (zb_dat S i.toNatClampNeg) :: rest))) : W p l e R s m args below meth c H locs cells slots Q (F0 m pc ls (.int i :: .ref (zg_dat G) :: rest)) := va_iald hx hb hK hP 8 3 rfl rfl hin hdg kk
theorem zb_ast_csh (hx : p.tables.exec = Jvm.exec) (hb : c.code = cc) (hK : va_K D vwCl (zb_tys G) s) (hG : zw_apart (zb_adr G)) (hP : va_P D vwCl (zb_cells G S) H) (hS : va_S (zb_Ad G) H0 H locs) {i : Int32} {x : Int64} (hin : vp_in i 3) (hdg : decode cc pc = .ok (.lastore, 1))
    (kk : ∀ (H1 : Heap) (locs1 : List Loc), va_P D vwCl (zb_cells G (zb_scsh S (vp_updL (zb_csh S) i.toNatClampNeg x))) H1 → va_S (zb_Ad G) H0 H1 locs1 → W p l e R s m args below meth c H1 locs1 cells slots Q (F0 m (pc + 1) ls rest)) : W p l e R s m args below meth c H locs cells slots Q (F0 m pc ls (.long x :: .int i :: .ref (zg_csh G) :: rest)) :=
  va_last hx hb hK hP (zb_Dd hG S) hS 6 4 rfl rfl hin hdg (fun H1 locs1 hP1 _ hS1 => kk H1 locs1 hP1 hS1)
theorem zb_ast_itr (hx : p.tables.exec = Jvm.exec) (hb : c.code = cc) (hK : va_K D vwCl (zb_tys G) s) (hG : zw_apart (zb_adr G)) (hP : va_P D vwCl (zb_cells G S) H) (hS : va_S (zb_Ad G) H0 H locs) {i : Int32} {x : Int64} (hin : vp_in i 3) (hdg : decode cc pc = .ok (.lastore, 1))
    (kk : ∀ (H1 : Heap) (locs1 : List Loc), va_P D vwCl (zb_cells G (zb_sitr S (vp_updL (zb_itr S) i.toNatClampNeg x))) H1 → va_S (zb_Ad G) H0 H1 locs1 → W p l e R s m args below meth c H1 locs1 cells slots Q (F0 m (pc + 1) ls rest)) : W p l e R s m args below meth c H locs cells slots Q (F0 m pc ls (.long x :: .int i :: .ref (zg_itr G) :: rest)) :=
  va_last hx hb hK hP (zb_Dd hG S) hS 7 4 rfl rfl hin hdg (fun H1 locs1 hP1 _ hS1 => kk H1 locs1 hP1 hS1)
theorem zb_ast_dat (hx : p.tables.exec = Jvm.exec) (hb : c.code = cc) (hK : va_K D vwCl (zb_tys G) s) (hG : zw_apart (zb_adr G)) (hP : va_P D vwCl (zb_cells G S) H) (hS : va_S (zb_Ad G) H0 H locs) {i : Int32} {x : Int32} (hin : vp_in i 8) (hdg : decode cc pc = .ok (.iastore, 1))
    (kk : ∀ (H1 : Heap) (locs1 : List Loc), va_P D vwCl (zb_cells G (zb_sdat S (upd (zb_dat S) i.toNatClampNeg x))) H1 → va_S (zb_Ad G) H0 H1 locs1 → W p l e R s m args below meth c H1 locs1 cells slots Q (F0 m (pc + 1) ls rest)) : W p l e R s m args below meth c H locs cells slots Q (F0 m pc ls (.int x :: .int i :: .ref (zg_dat G) :: rest)) :=
  va_iast hx hb hK hP (zb_Dd hG S) hS 8 3 rfl rfl hin hdg (fun H1 locs1 hP1 _ hS1 => kk H1 locs1 hP1 hS1)
end ZBW
end
section
/-! WORLD OF THE REFERENCE -/
def zm_fM (G : zh_G) (T : zm_S) (Y : zm_Y) : List Value := [.int (zm_acs T), .ref (zh_cur G), .ref (zh_bas G), .ref (zh_lim G), .ref (zh_rat G), .ref (zh_mrk G), .ref (zh_mon G), .ref (zh_acr G), .ref (zh_hof G), .ref (zh_ham G), .int (zm_ors T), .ref (zh_pyr G), .ref (zh_pye G), .ref (zh_sum G), .ref (zh_ody G), .ref (zh_mis G), .int (zm_rst T), .ref (zh_dat G), .ref (zh_csh G), .ref (zh_itr G), .int (zm_now T), .int (zm_end T), .int (zm_stp T), .int (zm_lft T), .int (zm_wri T), .int (zm_inl T), .int (zm_edd T), .int (zm_tch T), .int Y.1, .int Y.2.1, .int Y.2.2]
def zm_cells (G : zh_G) (T : zm_S) (Y : zm_Y) : va_W := [(zh_mdl G, .inr (6, zm_fM G T Y)),
  (zh_cur G, .inl (zh_cI G, 6, .inl (zm_cur T))),
  (zh_bas G, .inl (zh_cI G, 6, .inl (zm_bas T))),
  (zh_lim G, .inl (zh_cI G, 6, .inl (zm_lim T))),
  (zh_rat G, .inl (zh_cI G, 6, .inl (zm_rat T))),
  (zh_mrk G, .inl (zh_cI G, 6, .inl (zm_mrk T))),
  (zh_mon G, .inl (zh_cJ G, 6, .inr (.inl (zm_mon T)))),
  (zh_acr G, .inl (zh_cJ G, 6, .inr (.inl (zm_acr T)))),
  (zh_hof G, .inl (zh_cI G, 8, .inl (zm_hof T))),
  (zh_ham G, .inl (zh_cI G, 8, .inl (zm_ham T))),
  (zh_pyr G, .inl (zh_cI G, 6, .inl (zm_pyr T))),
  (zh_pye G, .inl (zh_cI G, 6, .inl (zm_pye T))),
  (zh_sum G, .inl (zh_cI G, 6, .inl (zm_sum T))),
  (zh_ody G, .inl (zh_cI G, 6, .inl (zm_ody T))),
  (zh_mis G, .inl (zh_cI G, 6, .inl (zm_mis T))),
  (zh_dat G, .inl (zh_cI G, 8, .inl (zm_dat T))),
  (zh_csh G, .inl (zh_cJ G, 3, .inr (.inl (zm_csh T)))),
  (zh_itr G, .inl (zh_cJ G, 3, .inr (.inl (zm_itr T))))]
def zm_adr (G : zh_G) : List Nat := [zh_mdl G, zh_cur G, zh_bas G, zh_lim G, zh_rat G, zh_mrk G, zh_mon G, zh_acr G, zh_hof G, zh_ham G, zh_pyr G, zh_pye G, zh_sum G, zh_ody G, zh_mis G, zh_dat G, zh_csh G, zh_itr G]
theorem zm_cells_adr (G : zh_G) (T : zm_S) (Y : zm_Y) : (zm_cells G T Y).map (·.1) = zm_adr G := rfl
def zm_tys (G : zh_G) : List (ClassId × FieldType) := [(zh_cI G, .int), (zh_cJ G, .long)]
def zm_Ad (G : zh_G) : Nat → Prop := fun q => q ∈ zm_adr G
theorem zm_Dd {G : zh_G} (h : zw_apart (zm_adr G)) (T : zm_S) (Y : zm_Y) : va_D (zm_Ad G) (zm_cells G T Y) := zw_D_of h
section ZMW
variable {p : Program} {l : Launch} {e : Env} {R : Room} {s : State} {m : MethodId} {args : Array Value} {below : List Frame} {meth : Method} {c : Code} {H : Heap} {locs : List Loc} {cells slots : Nat} {Q : State → Prop}
variable {cc : ByteArray} {pc index : Nat} {ls : Array Slot} {rest : List Value} {D : va_G} {H0 : Heap} {own : String}
variable {G : zh_G} {T : zm_S} {Y : zm_Y}
theorem zm_get (hx : p.tables.exec = Jvm.exec) (hb : c.code = cc) (hts : ∀ w ∈ zw_big, w.before args s = true) (hown : s.vm.findClass own = some m.cls) (hK : va_K D vwCl (zm_tys G) s) (hP : va_P D vwCl (zm_cells G T Y) H) (k : Nat) (hk : k < 31) (hlink : (Cond.fieldLink own index (nT_M k).1 (nT_M k).2.1 (nT_M k).2.2.1).before args s = true) {v : Value} (hv : (zm_fM G T Y)[k]? = some v) (hdg : decode cc pc = .ok (.getfield index, 3))
    (kk : W p l e R s m args below meth c H locs cells slots Q (F0 m (pc + 3) ls (v :: rest))) : W p l e R s m args below meth c H locs cells slots Q (F0 m pc ls (.ref (zh_mdl G) :: rest)) :=
  va_get (ci := 6) (C := nR_M) (T := nT_M) (N := 31) hx hb hts zw_inM hown hK hP 0 rfl rfl k hk hlink (fun _ h => h) hv hdg kk
theorem zm_put_acs (hx : p.tables.exec = Jvm.exec) (hb : c.code = cc) (hts : ∀ w ∈ zw_big, w.before args s = true) (hown : s.vm.findClass own = some m.cls) (hK : va_K D vwCl (zm_tys G) s) (hG : zw_apart (zm_adr G)) (hP : va_P D vwCl (zm_cells G T Y) H) (hS : va_S (zm_Ad G) H0 H locs) {v : Int32} (hlink : (Cond.fieldLink own index (nT_M 0).1 (nT_M 0).2.1 (nT_M 0).2.2.1).before args s = true) (hdg : decode cc pc = .ok (.putfield index, 3))
    (kk : ∀ (H1 : Heap) (locs1 : List Loc), va_P D vwCl (zm_cells G (zm_sacs T v) Y) H1 → va_S (zm_Ad G) H0 H1 locs1 → W p l e R s m args below meth c H1 locs1 cells slots Q (F0 m (pc + 3) ls rest)) : W p l e R s m args below meth c H locs cells slots Q (F0 m pc ls (.int v :: .ref (zh_mdl G) :: rest)) :=
  va_put (ci := 6) (C := nR_M) (T := nT_M) (N := 31) (ty := .int) hx hb hts zw_inM nt_M zw_tyM zw_nmM hown hK hP (zm_Dd hG T Y) hS 0 rfl rfl 0 (by decide) hlink (fun _ h => h) rfl (by decide +kernel) rfl rfl (Nat.le_of_ble_eq_true rfl) hdg (fun H1 locs1 hP1 _ hS1 => kk H1 locs1 hP1 hS1)
theorem zm_put_ors (hx : p.tables.exec = Jvm.exec) (hb : c.code = cc) (hts : ∀ w ∈ zw_big, w.before args s = true) (hown : s.vm.findClass own = some m.cls) (hK : va_K D vwCl (zm_tys G) s) (hG : zw_apart (zm_adr G)) (hP : va_P D vwCl (zm_cells G T Y) H) (hS : va_S (zm_Ad G) H0 H locs) {v : Int32} (hlink : (Cond.fieldLink own index (nT_M 10).1 (nT_M 10).2.1 (nT_M 10).2.2.1).before args s = true) (hdg : decode cc pc = .ok (.putfield index, 3))
    (kk : ∀ (H1 : Heap) (locs1 : List Loc), va_P D vwCl (zm_cells G (zm_sors T v) Y) H1 → va_S (zm_Ad G) H0 H1 locs1 → W p l e R s m args below meth c H1 locs1 cells slots Q (F0 m (pc + 3) ls rest)) : W p l e R s m args below meth c H locs cells slots Q (F0 m pc ls (.int v :: .ref (zh_mdl G) :: rest)) :=
  va_put (ci := 6) (C := nR_M) (T := nT_M) (N := 31) (ty := .int) hx hb hts zw_inM nt_M zw_tyM zw_nmM hown hK hP (zm_Dd hG T Y) hS 0 rfl rfl 10 (by decide) hlink (fun _ h => h) rfl (by decide +kernel) rfl rfl (Nat.le_of_ble_eq_true rfl) hdg (fun H1 locs1 hP1 _ hS1 => kk H1 locs1 hP1 hS1)
theorem zm_put_rst (hx : p.tables.exec = Jvm.exec) (hb : c.code = cc) (hts : ∀ w ∈ zw_big, w.before args s = true) (hown : s.vm.findClass own = some m.cls) (hK : va_K D vwCl (zm_tys G) s) (hG : zw_apart (zm_adr G)) (hP : va_P D vwCl (zm_cells G T Y) H) (hS : va_S (zm_Ad G) H0 H locs) {v : Int32} (hlink : (Cond.fieldLink own index (nT_M 16).1 (nT_M 16).2.1 (nT_M 16).2.2.1).before args s = true) (hdg : decode cc pc = .ok (.putfield index, 3))
    (kk : ∀ (H1 : Heap) (locs1 : List Loc), va_P D vwCl (zm_cells G (zm_srst T v) Y) H1 → va_S (zm_Ad G) H0 H1 locs1 → W p l e R s m args below meth c H1 locs1 cells slots Q (F0 m (pc + 3) ls rest)) : W p l e R s m args below meth c H locs cells slots Q (F0 m pc ls (.int v :: .ref (zh_mdl G) :: rest)) :=
  va_put (ci := 6) (C := nR_M) (T := nT_M) (N := 31) (ty := .int) hx hb hts zw_inM nt_M zw_tyM zw_nmM hown hK hP (zm_Dd hG T Y) hS 0 rfl rfl 16 (by decide) hlink (fun _ h => h) rfl (by decide +kernel) rfl rfl (Nat.le_of_ble_eq_true rfl) hdg (fun H1 locs1 hP1 _ hS1 => kk H1 locs1 hP1 hS1)
theorem zm_put_now (hx : p.tables.exec = Jvm.exec) (hb : c.code = cc) (hts : ∀ w ∈ zw_big, w.before args s = true) (hown : s.vm.findClass own = some m.cls) (hK : va_K D vwCl (zm_tys G) s) (hG : zw_apart (zm_adr G)) (hP : va_P D vwCl (zm_cells G T Y) H) (hS : va_S (zm_Ad G) H0 H locs) {v : Int32} (hlink : (Cond.fieldLink own index (nT_M 20).1 (nT_M 20).2.1 (nT_M 20).2.2.1).before args s = true) (hdg : decode cc pc = .ok (.putfield index, 3))
    (kk : ∀ (H1 : Heap) (locs1 : List Loc), va_P D vwCl (zm_cells G (zm_snow T v) Y) H1 → va_S (zm_Ad G) H0 H1 locs1 → W p l e R s m args below meth c H1 locs1 cells slots Q (F0 m (pc + 3) ls rest)) : W p l e R s m args below meth c H locs cells slots Q (F0 m pc ls (.int v :: .ref (zh_mdl G) :: rest)) :=
  va_put (ci := 6) (C := nR_M) (T := nT_M) (N := 31) (ty := .int) hx hb hts zw_inM nt_M zw_tyM zw_nmM hown hK hP (zm_Dd hG T Y) hS 0 rfl rfl 20 (by decide) hlink (fun _ h => h) rfl (by decide +kernel) rfl rfl (Nat.le_of_ble_eq_true rfl) hdg (fun H1 locs1 hP1 _ hS1 => kk H1 locs1 hP1 hS1)
theorem zm_put_end (hx : p.tables.exec = Jvm.exec) (hb : c.code = cc) (hts : ∀ w ∈ zw_big, w.before args s = true) (hown : s.vm.findClass own = some m.cls) (hK : va_K D vwCl (zm_tys G) s) (hG : zw_apart (zm_adr G)) (hP : va_P D vwCl (zm_cells G T Y) H) (hS : va_S (zm_Ad G) H0 H locs) {v : Int32} (hv : v = 0 ∨ v = 1) (hlink : (Cond.fieldLink own index (nT_M 21).1 (nT_M 21).2.1 (nT_M 21).2.2.1).before args s = true) (hdg : decode cc pc = .ok (.putfield index, 3))
    (kk : ∀ (H1 : Heap) (locs1 : List Loc), va_P D vwCl (zm_cells G (zm_send T v) Y) H1 → va_S (zm_Ad G) H0 H1 locs1 → W p l e R s m args below meth c H1 locs1 cells slots Q (F0 m (pc + 3) ls rest)) : W p l e R s m args below meth c H locs cells slots Q (F0 m pc ls (.int v :: .ref (zh_mdl G) :: rest)) :=
  va_put (ci := 6) (C := nR_M) (T := nT_M) (N := 31) (ty := .boolean) hx hb hts zw_inM nt_M zw_tyM zw_nmM hown hK hP (zm_Dd hG T Y) hS 0 rfl rfl 21 (by decide) hlink (fun _ h => h) rfl (by decide +kernel) (by rcases hv with rfl | rfl <;> rfl) (by rcases hv with rfl | rfl <;> rfl) (Nat.le_of_ble_eq_true rfl) hdg (fun H1 locs1 hP1 _ hS1 => kk H1 locs1 hP1 hS1)
theorem zm_put_stp (hx : p.tables.exec = Jvm.exec) (hb : c.code = cc) (hts : ∀ w ∈ zw_big, w.before args s = true) (hown : s.vm.findClass own = some m.cls) (hK : va_K D vwCl (zm_tys G) s) (hG : zw_apart (zm_adr G)) (hP : va_P D vwCl (zm_cells G T Y) H) (hS : va_S (zm_Ad G) H0 H locs) {v : Int32} (hv : v = 0 ∨ v = 1) (hlink : (Cond.fieldLink own index (nT_M 22).1 (nT_M 22).2.1 (nT_M 22).2.2.1).before args s = true) (hdg : decode cc pc = .ok (.putfield index, 3))
    (kk : ∀ (H1 : Heap) (locs1 : List Loc), va_P D vwCl (zm_cells G (zm_sstp T v) Y) H1 → va_S (zm_Ad G) H0 H1 locs1 → W p l e R s m args below meth c H1 locs1 cells slots Q (F0 m (pc + 3) ls rest)) : W p l e R s m args below meth c H locs cells slots Q (F0 m pc ls (.int v :: .ref (zh_mdl G) :: rest)) :=
  va_put (ci := 6) (C := nR_M) (T := nT_M) (N := 31) (ty := .boolean) hx hb hts zw_inM nt_M zw_tyM zw_nmM hown hK hP (zm_Dd hG T Y) hS 0 rfl rfl 22 (by decide) hlink (fun _ h => h) rfl (by decide +kernel) (by rcases hv with rfl | rfl <;> rfl) (by rcases hv with rfl | rfl <;> rfl) (Nat.le_of_ble_eq_true rfl) hdg (fun H1 locs1 hP1 _ hS1 => kk H1 locs1 hP1 hS1)
theorem zm_put_lft (hx : p.tables.exec = Jvm.exec) (hb : c.code = cc) (hts : ∀ w ∈ zw_big, w.before args s = true) (hown : s.vm.findClass own = some m.cls) (hK : va_K D vwCl (zm_tys G) s) (hG : zw_apart (zm_adr G)) (hP : va_P D vwCl (zm_cells G T Y) H) (hS : va_S (zm_Ad G) H0 H locs) {v : Int32} (hlink : (Cond.fieldLink own index (nT_M 23).1 (nT_M 23).2.1 (nT_M 23).2.2.1).before args s = true) (hdg : decode cc pc = .ok (.putfield index, 3))
    (kk : ∀ (H1 : Heap) (locs1 : List Loc), va_P D vwCl (zm_cells G (zm_slft T v) Y) H1 → va_S (zm_Ad G) H0 H1 locs1 → W p l e R s m args below meth c H1 locs1 cells slots Q (F0 m (pc + 3) ls rest)) : W p l e R s m args below meth c H locs cells slots Q (F0 m pc ls (.int v :: .ref (zh_mdl G) :: rest)) :=
  va_put (ci := 6) (C := nR_M) (T := nT_M) (N := 31) (ty := .int) hx hb hts zw_inM nt_M zw_tyM zw_nmM hown hK hP (zm_Dd hG T Y) hS 0 rfl rfl 23 (by decide) hlink (fun _ h => h) rfl (by decide +kernel) rfl rfl (Nat.le_of_ble_eq_true rfl) hdg (fun H1 locs1 hP1 _ hS1 => kk H1 locs1 hP1 hS1)
theorem zm_put_wri (hx : p.tables.exec = Jvm.exec) (hb : c.code = cc) (hts : ∀ w ∈ zw_big, w.before args s = true) (hown : s.vm.findClass own = some m.cls) (hK : va_K D vwCl (zm_tys G) s) (hG : zw_apart (zm_adr G)) (hP : va_P D vwCl (zm_cells G T Y) H) (hS : va_S (zm_Ad G) H0 H locs) {v : Int32} (hlink : (Cond.fieldLink own index (nT_M 24).1 (nT_M 24).2.1 (nT_M 24).2.2.1).before args s = true) (hdg : decode cc pc = .ok (.putfield index, 3))
    (kk : ∀ (H1 : Heap) (locs1 : List Loc), va_P D vwCl (zm_cells G (zm_swri T v) Y) H1 → va_S (zm_Ad G) H0 H1 locs1 → W p l e R s m args below meth c H1 locs1 cells slots Q (F0 m (pc + 3) ls rest)) : W p l e R s m args below meth c H locs cells slots Q (F0 m pc ls (.int v :: .ref (zh_mdl G) :: rest)) :=
  va_put (ci := 6) (C := nR_M) (T := nT_M) (N := 31) (ty := .int) hx hb hts zw_inM nt_M zw_tyM zw_nmM hown hK hP (zm_Dd hG T Y) hS 0 rfl rfl 24 (by decide) hlink (fun _ h => h) rfl (by decide +kernel) rfl rfl (Nat.le_of_ble_eq_true rfl) hdg (fun H1 locs1 hP1 _ hS1 => kk H1 locs1 hP1 hS1)
theorem zm_put_inl (hx : p.tables.exec = Jvm.exec) (hb : c.code = cc) (hts : ∀ w ∈ zw_big, w.before args s = true) (hown : s.vm.findClass own = some m.cls) (hK : va_K D vwCl (zm_tys G) s) (hG : zw_apart (zm_adr G)) (hP : va_P D vwCl (zm_cells G T Y) H) (hS : va_S (zm_Ad G) H0 H locs) {v : Int32} (hlink : (Cond.fieldLink own index (nT_M 25).1 (nT_M 25).2.1 (nT_M 25).2.2.1).before args s = true) (hdg : decode cc pc = .ok (.putfield index, 3))
    (kk : ∀ (H1 : Heap) (locs1 : List Loc), va_P D vwCl (zm_cells G (zm_sinl T v) Y) H1 → va_S (zm_Ad G) H0 H1 locs1 → W p l e R s m args below meth c H1 locs1 cells slots Q (F0 m (pc + 3) ls rest)) : W p l e R s m args below meth c H locs cells slots Q (F0 m pc ls (.int v :: .ref (zh_mdl G) :: rest)) :=
  va_put (ci := 6) (C := nR_M) (T := nT_M) (N := 31) (ty := .int) hx hb hts zw_inM nt_M zw_tyM zw_nmM hown hK hP (zm_Dd hG T Y) hS 0 rfl rfl 25 (by decide) hlink (fun _ h => h) rfl (by decide +kernel) rfl rfl (Nat.le_of_ble_eq_true rfl) hdg (fun H1 locs1 hP1 _ hS1 => kk H1 locs1 hP1 hS1)
theorem zm_put_edd (hx : p.tables.exec = Jvm.exec) (hb : c.code = cc) (hts : ∀ w ∈ zw_big, w.before args s = true) (hown : s.vm.findClass own = some m.cls) (hK : va_K D vwCl (zm_tys G) s) (hG : zw_apart (zm_adr G)) (hP : va_P D vwCl (zm_cells G T Y) H) (hS : va_S (zm_Ad G) H0 H locs) {v : Int32} (hlink : (Cond.fieldLink own index (nT_M 26).1 (nT_M 26).2.1 (nT_M 26).2.2.1).before args s = true) (hdg : decode cc pc = .ok (.putfield index, 3))
    (kk : ∀ (H1 : Heap) (locs1 : List Loc), va_P D vwCl (zm_cells G (zm_sedd T v) Y) H1 → va_S (zm_Ad G) H0 H1 locs1 → W p l e R s m args below meth c H1 locs1 cells slots Q (F0 m (pc + 3) ls rest)) : W p l e R s m args below meth c H locs cells slots Q (F0 m pc ls (.int v :: .ref (zh_mdl G) :: rest)) :=
  va_put (ci := 6) (C := nR_M) (T := nT_M) (N := 31) (ty := .int) hx hb hts zw_inM nt_M zw_tyM zw_nmM hown hK hP (zm_Dd hG T Y) hS 0 rfl rfl 26 (by decide) hlink (fun _ h => h) rfl (by decide +kernel) rfl rfl (Nat.le_of_ble_eq_true rfl) hdg (fun H1 locs1 hP1 _ hS1 => kk H1 locs1 hP1 hS1)
theorem zm_put_tch (hx : p.tables.exec = Jvm.exec) (hb : c.code = cc) (hts : ∀ w ∈ zw_big, w.before args s = true) (hown : s.vm.findClass own = some m.cls) (hK : va_K D vwCl (zm_tys G) s) (hG : zw_apart (zm_adr G)) (hP : va_P D vwCl (zm_cells G T Y) H) (hS : va_S (zm_Ad G) H0 H locs) {v : Int32} (hlink : (Cond.fieldLink own index (nT_M 27).1 (nT_M 27).2.1 (nT_M 27).2.2.1).before args s = true) (hdg : decode cc pc = .ok (.putfield index, 3))
    (kk : ∀ (H1 : Heap) (locs1 : List Loc), va_P D vwCl (zm_cells G (zm_stch T v) Y) H1 → va_S (zm_Ad G) H0 H1 locs1 → W p l e R s m args below meth c H1 locs1 cells slots Q (F0 m (pc + 3) ls rest)) : W p l e R s m args below meth c H locs cells slots Q (F0 m pc ls (.int v :: .ref (zh_mdl G) :: rest)) :=
  va_put (ci := 6) (C := nR_M) (T := nT_M) (N := 31) (ty := .int) hx hb hts zw_inM nt_M zw_tyM zw_nmM hown hK hP (zm_Dd hG T Y) hS 0 rfl rfl 27 (by decide) hlink (fun _ h => h) rfl (by decide +kernel) rfl rfl (Nat.le_of_ble_eq_true rfl) hdg (fun H1 locs1 hP1 _ hS1 => kk H1 locs1 hP1 hS1)
theorem zm_put_yr (hx : p.tables.exec = Jvm.exec) (hb : c.code = cc) (hts : ∀ w ∈ zw_big, w.before args s = true) (hown : s.vm.findClass own = some m.cls) (hK : va_K D vwCl (zm_tys G) s) (hG : zw_apart (zm_adr G)) (hP : va_P D vwCl (zm_cells G T Y) H) (hS : va_S (zm_Ad G) H0 H locs) {v : Int32} (hlink : (Cond.fieldLink own index (nT_M 28).1 (nT_M 28).2.1 (nT_M 28).2.2.1).before args s = true) (hdg : decode cc pc = .ok (.putfield index, 3))
    (kk : ∀ (H1 : Heap) (locs1 : List Loc), va_P D vwCl (zm_cells G T (v, Y.2.1, Y.2.2)) H1 → va_S (zm_Ad G) H0 H1 locs1 → W p l e R s m args below meth c H1 locs1 cells slots Q (F0 m (pc + 3) ls rest)) : W p l e R s m args below meth c H locs cells slots Q (F0 m pc ls (.int v :: .ref (zh_mdl G) :: rest)) :=
  va_put (ci := 6) (C := nR_M) (T := nT_M) (N := 31) (ty := .int) hx hb hts zw_inM nt_M zw_tyM zw_nmM hown hK hP (zm_Dd hG T Y) hS 0 rfl rfl 28 (by decide) hlink (fun _ h => h) rfl (by decide +kernel) rfl rfl (Nat.le_of_ble_eq_true rfl) hdg (fun H1 locs1 hP1 _ hS1 => kk H1 locs1 hP1 hS1)
theorem zm_put_mo (hx : p.tables.exec = Jvm.exec) (hb : c.code = cc) (hts : ∀ w ∈ zw_big, w.before args s = true) (hown : s.vm.findClass own = some m.cls) (hK : va_K D vwCl (zm_tys G) s) (hG : zw_apart (zm_adr G)) (hP : va_P D vwCl (zm_cells G T Y) H) (hS : va_S (zm_Ad G) H0 H locs) {v : Int32} (hlink : (Cond.fieldLink own index (nT_M 29).1 (nT_M 29).2.1 (nT_M 29).2.2.1).before args s = true) (hdg : decode cc pc = .ok (.putfield index, 3))
    (kk : ∀ (H1 : Heap) (locs1 : List Loc), va_P D vwCl (zm_cells G T (Y.1, v, Y.2.2)) H1 → va_S (zm_Ad G) H0 H1 locs1 → W p l e R s m args below meth c H1 locs1 cells slots Q (F0 m (pc + 3) ls rest)) : W p l e R s m args below meth c H locs cells slots Q (F0 m pc ls (.int v :: .ref (zh_mdl G) :: rest)) :=
  va_put (ci := 6) (C := nR_M) (T := nT_M) (N := 31) (ty := .int) hx hb hts zw_inM nt_M zw_tyM zw_nmM hown hK hP (zm_Dd hG T Y) hS 0 rfl rfl 29 (by decide) hlink (fun _ h => h) rfl (by decide +kernel) rfl rfl (Nat.le_of_ble_eq_true rfl) hdg (fun H1 locs1 hP1 _ hS1 => kk H1 locs1 hP1 hS1)
theorem zm_put_dy (hx : p.tables.exec = Jvm.exec) (hb : c.code = cc) (hts : ∀ w ∈ zw_big, w.before args s = true) (hown : s.vm.findClass own = some m.cls) (hK : va_K D vwCl (zm_tys G) s) (hG : zw_apart (zm_adr G)) (hP : va_P D vwCl (zm_cells G T Y) H) (hS : va_S (zm_Ad G) H0 H locs) {v : Int32} (hlink : (Cond.fieldLink own index (nT_M 30).1 (nT_M 30).2.1 (nT_M 30).2.2.1).before args s = true) (hdg : decode cc pc = .ok (.putfield index, 3))
    (kk : ∀ (H1 : Heap) (locs1 : List Loc), va_P D vwCl (zm_cells G T (Y.1, Y.2.1, v)) H1 → va_S (zm_Ad G) H0 H1 locs1 → W p l e R s m args below meth c H1 locs1 cells slots Q (F0 m (pc + 3) ls rest)) : W p l e R s m args below meth c H locs cells slots Q (F0 m pc ls (.int v :: .ref (zh_mdl G) :: rest)) :=
  va_put (ci := 6) (C := nR_M) (T := nT_M) (N := 31) (ty := .int) hx hb hts zw_inM nt_M zw_tyM zw_nmM hown hK hP (zm_Dd hG T Y) hS 0 rfl rfl 30 (by decide) hlink (fun _ h => h) rfl (by decide +kernel) rfl rfl (Nat.le_of_ble_eq_true rfl) hdg (fun H1 locs1 hP1 _ hS1 => kk H1 locs1 hP1 hS1)
theorem zm_ald_cur (hx : p.tables.exec = Jvm.exec) (hb : c.code = cc) (hK : va_K D vwCl (zm_tys G) s) (hP : va_P D vwCl (zm_cells G T Y) H) {i : Int32} (hin : vp_in i 6) (hdg : decode cc pc = .ok (.iaload, 1))
    (kk : W p l e R s m args below meth c H locs cells slots Q (F0 m (pc + 1) ls (.int (zm_cur T i.toNatClampNeg) :: rest))) : W p l e R s m args below meth c H locs cells slots Q (F0 m pc ls (.int i :: .ref (zh_cur G) :: rest)) := va_iald hx hb hK hP 1 0 rfl rfl hin hdg kk
theorem zm_ast_cur (hx : p.tables.exec = Jvm.exec) (hb : c.code = cc) (hK : va_K D vwCl (zm_tys G) s) (hG : zw_apart (zm_adr G)) (hP : va_P D vwCl (zm_cells G T Y) H) (hS : va_S (zm_Ad G) H0 H locs) {i : Int32} {x : Int32} (hin : vp_in i 6) (hdg : decode cc pc = .ok (.iastore, 1))
    (kk : ∀ (H1 : Heap) (locs1 : List Loc), va_P D vwCl (zm_cells G (zm_scur T (upd (zm_cur T) i.toNatClampNeg x)) Y) H1 → va_S (zm_Ad G) H0 H1 locs1 → W p l e R s m args below meth c H1 locs1 cells slots Q (F0 m (pc + 1) ls rest)) : W p l e R s m args below meth c H locs cells slots Q (F0 m pc ls (.int x :: .int i :: .ref (zh_cur G) :: rest)) :=
  va_iast hx hb hK hP (zm_Dd hG T Y) hS 1 0 rfl rfl hin hdg (fun H1 locs1 hP1 _ hS1 => kk H1 locs1 hP1 hS1)
theorem zm_ald_bas (hx : p.tables.exec = Jvm.exec) (hb : c.code = cc) (hK : va_K D vwCl (zm_tys G) s) (hP : va_P D vwCl (zm_cells G T Y) H) {i : Int32} (hin : vp_in i 6) (hdg : decode cc pc = .ok (.iaload, 1))
    (kk : W p l e R s m args below meth c H locs cells slots Q (F0 m (pc + 1) ls (.int (zm_bas T i.toNatClampNeg) :: rest))) : W p l e R s m args below meth c H locs cells slots Q (F0 m pc ls (.int i :: .ref (zh_bas G) :: rest)) := va_iald hx hb hK hP 2 0 rfl rfl hin hdg kk
theorem zm_ast_bas (hx : p.tables.exec = Jvm.exec) (hb : c.code = cc) (hK : va_K D vwCl (zm_tys G) s) (hG : zw_apart (zm_adr G)) (hP : va_P D vwCl (zm_cells G T Y) H) (hS : va_S (zm_Ad G) H0 H locs) {i : Int32} {x : Int32} (hin : vp_in i 6) (hdg : decode cc pc = .ok (.iastore, 1))
    (kk : ∀ (H1 : Heap) (locs1 : List Loc), va_P D vwCl (zm_cells G (zm_sbas T (upd (zm_bas T) i.toNatClampNeg x)) Y) H1 → va_S (zm_Ad G) H0 H1 locs1 → W p l e R s m args below meth c H1 locs1 cells slots Q (F0 m (pc + 1) ls rest)) : W p l e R s m args below meth c H locs cells slots Q (F0 m pc ls (.int x :: .int i :: .ref (zh_bas G) :: rest)) :=
  va_iast hx hb hK hP (zm_Dd hG T Y) hS 2 0 rfl rfl hin hdg (fun H1 locs1 hP1 _ hS1 => kk H1 locs1 hP1 hS1)
theorem zm_ald_lim (hx : p.tables.exec = Jvm.exec) (hb : c.code = cc) (hK : va_K D vwCl (zm_tys G) s) (hP : va_P D vwCl (zm_cells G T Y) H) {i : Int32} (hin : vp_in i 6) (hdg : decode cc pc = .ok (.iaload, 1))
    (kk : W p l e R s m args below meth c H locs cells slots Q (F0 m (pc + 1) ls (.int (zm_lim T i.toNatClampNeg) :: rest))) : W p l e R s m args below meth c H locs cells slots Q (F0 m pc ls (.int i :: .ref (zh_lim G) :: rest)) := va_iald hx hb hK hP 3 0 rfl rfl hin hdg kk
theorem zm_ast_lim (hx : p.tables.exec = Jvm.exec) (hb : c.code = cc) (hK : va_K D vwCl (zm_tys G) s) (hG : zw_apart (zm_adr G)) (hP : va_P D vwCl (zm_cells G T Y) H) (hS : va_S (zm_Ad G) H0 H locs) {i : Int32} {x : Int32} (hin : vp_in i 6) (hdg : decode cc pc = .ok (.iastore, 1))
    (kk : ∀ (H1 : Heap) (locs1 : List Loc), va_P D vwCl (zm_cells G (zm_slim T (upd (zm_lim T) i.toNatClampNeg x)) Y) H1 → va_S (zm_Ad G) H0 H1 locs1 → W p l e R s m args below meth c H1 locs1 cells slots Q (F0 m (pc + 1) ls rest)) : W p l e R s m args below meth c H locs cells slots Q (F0 m pc ls (.int x :: .int i :: .ref (zh_lim G) :: rest)) :=
  va_iast hx hb hK hP (zm_Dd hG T Y) hS 3 0 rfl rfl hin hdg (fun H1 locs1 hP1 _ hS1 => kk H1 locs1 hP1 hS1)
theorem zm_ald_rat (hx : p.tables.exec = Jvm.exec) (hb : c.code = cc) (hK : va_K D vwCl (zm_tys G) s) (hP : va_P D vwCl (zm_cells G T Y) H) {i : Int32} (hin : vp_in i 6) (hdg : decode cc pc = .ok (.iaload, 1))
    (kk : W p l e R s m args below meth c H locs cells slots Q (F0 m (pc + 1) ls (.int (zm_rat T i.toNatClampNeg) :: rest))) : W p l e R s m args below meth c H locs cells slots Q (F0 m pc ls (.int i :: .ref (zh_rat G) :: rest)) := va_iald hx hb hK hP 4 0 rfl rfl hin hdg kk
theorem zm_ast_rat (hx : p.tables.exec = Jvm.exec) (hb : c.code = cc) (hK : va_K D vwCl (zm_tys G) s) (hG : zw_apart (zm_adr G)) (hP : va_P D vwCl (zm_cells G T Y) H) (hS : va_S (zm_Ad G) H0 H locs) {i : Int32} {x : Int32} (hin : vp_in i 6) (hdg : decode cc pc = .ok (.iastore, 1))
    (kk : ∀ (H1 : Heap) (locs1 : List Loc), va_P D vwCl (zm_cells G (zm_srat T (upd (zm_rat T) i.toNatClampNeg x)) Y) H1 → va_S (zm_Ad G) H0 H1 locs1 → W p l e R s m args below meth c H1 locs1 cells slots Q (F0 m (pc + 1) ls rest)) : W p l e R s m args below meth c H locs cells slots Q (F0 m pc ls (.int x :: .int i :: .ref (zh_rat G) :: rest)) :=
  va_iast hx hb hK hP (zm_Dd hG T Y) hS 4 0 rfl rfl hin hdg (fun H1 locs1 hP1 _ hS1 => kk H1 locs1 hP1 hS1)
theorem zm_ald_mrk (hx : p.tables.exec = Jvm.exec) (hb : c.code = cc) (hK : va_K D vwCl (zm_tys G) s) (hP : va_P D vwCl (zm_cells G T Y) H) {i : Int32} (hin : vp_in i 6) (hdg : decode cc pc = .ok (.iaload, 1))
    (kk : W p l e R s m args below meth c H locs cells slots Q (F0 m (pc + 1) ls (.int (zm_mrk T i.toNatClampNeg) :: rest))) : W p l e R s m args below meth c H locs cells slots Q (F0 m pc ls (.int i :: .ref (zh_mrk G) :: rest)) := va_iald hx hb hK hP 5 0 rfl rfl hin hdg kk
theorem zm_ast_mrk (hx : p.tables.exec = Jvm.exec) (hb : c.code = cc) (hK : va_K D vwCl (zm_tys G) s) (hG : zw_apart (zm_adr G)) (hP : va_P D vwCl (zm_cells G T Y) H) (hS : va_S (zm_Ad G) H0 H locs) {i : Int32} {x : Int32} (hin : vp_in i 6) (hdg : decode cc pc = .ok (.iastore, 1))
    (kk : ∀ (H1 : Heap) (locs1 : List Loc), va_P D vwCl (zm_cells G (zm_smrk T (upd (zm_mrk T) i.toNatClampNeg x)) Y) H1 → va_S (zm_Ad G) H0 H1 locs1 → W p l e R s m args below meth c H1 locs1 cells slots Q (F0 m (pc + 1) ls rest)) : W p l e R s m args below meth c H locs cells slots Q (F0 m pc ls (.int x :: .int i :: .ref (zh_mrk G) :: rest)) :=
  va_iast hx hb hK hP (zm_Dd hG T Y) hS 5 0 rfl rfl hin hdg (fun H1 locs1 hP1 _ hS1 => kk H1 locs1 hP1 hS1)
theorem zm_ald_mon (hx : p.tables.exec = Jvm.exec) (hb : c.code = cc) (hK : va_K D vwCl (zm_tys G) s) (hP : va_P D vwCl (zm_cells G T Y) H) {i : Int32} (hin : vp_in i 6) (hdg : decode cc pc = .ok (.laload, 1))
    (kk : W p l e R s m args below meth c H locs cells slots Q (F0 m (pc + 1) ls (.long (zm_mon T i.toNatClampNeg) :: rest))) : W p l e R s m args below meth c H locs cells slots Q (F0 m pc ls (.int i :: .ref (zh_mon G) :: rest)) := va_lald hx hb hK hP 6 1 rfl rfl hin hdg kk
theorem zm_ast_mon (hx : p.tables.exec = Jvm.exec) (hb : c.code = cc) (hK : va_K D vwCl (zm_tys G) s) (hG : zw_apart (zm_adr G)) (hP : va_P D vwCl (zm_cells G T Y) H) (hS : va_S (zm_Ad G) H0 H locs) {i : Int32} {x : Int64} (hin : vp_in i 6) (hdg : decode cc pc = .ok (.lastore, 1))
    (kk : ∀ (H1 : Heap) (locs1 : List Loc), va_P D vwCl (zm_cells G (zm_smon T (vp_updL (zm_mon T) i.toNatClampNeg x)) Y) H1 → va_S (zm_Ad G) H0 H1 locs1 → W p l e R s m args below meth c H1 locs1 cells slots Q (F0 m (pc + 1) ls rest)) : W p l e R s m args below meth c H locs cells slots Q (F0 m pc ls (.long x :: .int i :: .ref (zh_mon G) :: rest)) :=
  va_last hx hb hK hP (zm_Dd hG T Y) hS 6 1 rfl rfl hin hdg (fun H1 locs1 hP1 _ hS1 => kk H1 locs1 hP1 hS1)
theorem zm_ald_acr (hx : p.tables.exec = Jvm.exec) (hb : c.code = cc) (hK : va_K D vwCl (zm_tys G) s) (hP : va_P D vwCl (zm_cells G T Y) H) {i : Int32} (hin : vp_in i 6) (hdg : decode cc pc = .ok (.laload, 1))
    (kk : W p l e R s m args below meth c H locs cells slots Q (F0 m (pc + 1) ls (.long (zm_acr T i.toNatClampNeg) :: rest))) : W p l e R s m args below meth c H locs cells slots Q (F0 m pc ls (.int i :: .ref (zh_acr G) :: rest)) := va_lald hx hb hK hP 7 1 rfl rfl hin hdg kk
theorem zm_ast_acr (hx : p.tables.exec = Jvm.exec) (hb : c.code = cc) (hK : va_K D vwCl (zm_tys G) s) (hG : zw_apart (zm_adr G)) (hP : va_P D vwCl (zm_cells G T Y) H) (hS : va_S (zm_Ad G) H0 H locs) {i : Int32} {x : Int64} (hin : vp_in i 6) (hdg : decode cc pc = .ok (.lastore, 1))
    (kk : ∀ (H1 : Heap) (locs1 : List Loc), va_P D vwCl (zm_cells G (zm_sacr T (vp_updL (zm_acr T) i.toNatClampNeg x)) Y) H1 → va_S (zm_Ad G) H0 H1 locs1 → W p l e R s m args below meth c H1 locs1 cells slots Q (F0 m (pc + 1) ls rest)) : W p l e R s m args below meth c H locs cells slots Q (F0 m pc ls (.long x :: .int i :: .ref (zh_acr G) :: rest)) :=
  va_last hx hb hK hP (zm_Dd hG T Y) hS 7 1 rfl rfl hin hdg (fun H1 locs1 hP1 _ hS1 => kk H1 locs1 hP1 hS1)
theorem zm_ald_hof (hx : p.tables.exec = Jvm.exec) (hb : c.code = cc) (hK : va_K D vwCl (zm_tys G) s) (hP : va_P D vwCl (zm_cells G T Y) H) {i : Int32} (hin : vp_in i 8) (hdg : decode cc pc = .ok (.iaload, 1))
    (kk : W p l e R s m args below meth c H locs cells slots Q (F0 m (pc + 1) ls (.int (zm_hof T i.toNatClampNeg) :: rest))) : W p l e R s m args below meth c H locs cells slots Q (F0 m pc ls (.int i :: .ref (zh_hof G) :: rest)) := va_iald hx hb hK hP 8 0 rfl rfl hin hdg kk
theorem zm_ast_hof (hx : p.tables.exec = Jvm.exec) (hb : c.code = cc) (hK : va_K D vwCl (zm_tys G) s) (hG : zw_apart (zm_adr G)) (hP : va_P D vwCl (zm_cells G T Y) H) (hS : va_S (zm_Ad G) H0 H locs) {i : Int32} {x : Int32} (hin : vp_in i 8) (hdg : decode cc pc = .ok (.iastore, 1))
    (kk : ∀ (H1 : Heap) (locs1 : List Loc), va_P D vwCl (zm_cells G (zm_shof T (upd (zm_hof T) i.toNatClampNeg x)) Y) H1 → va_S (zm_Ad G) H0 H1 locs1 → W p l e R s m args below meth c H1 locs1 cells slots Q (F0 m (pc + 1) ls rest)) : W p l e R s m args below meth c H locs cells slots Q (F0 m pc ls (.int x :: .int i :: .ref (zh_hof G) :: rest)) :=
  va_iast hx hb hK hP (zm_Dd hG T Y) hS 8 0 rfl rfl hin hdg (fun H1 locs1 hP1 _ hS1 => kk H1 locs1 hP1 hS1)
theorem zm_ald_ham (hx : p.tables.exec = Jvm.exec) (hb : c.code = cc) (hK : va_K D vwCl (zm_tys G) s) (hP : va_P D vwCl (zm_cells G T Y) H) {i : Int32} (hin : vp_in i 8) (hdg : decode cc pc = .ok (.iaload, 1))
    (kk : W p l e R s m args below meth c H locs cells slots Q (F0 m (pc + 1) ls (.int (zm_ham T i.toNatClampNeg) :: rest))) : W p l e R s m args below meth c H locs cells slots Q (F0 m pc ls (.int i :: .ref (zh_ham G) :: rest)) := va_iald hx hb hK hP 9 0 rfl rfl hin hdg kk
theorem zm_ast_ham (hx : p.tables.exec = Jvm.exec) (hb : c.code = cc) (hK : va_K D vwCl (zm_tys G) s) (hG : zw_apart (zm_adr G)) (hP : va_P D vwCl (zm_cells G T Y) H) (hS : va_S (zm_Ad G) H0 H locs) {i : Int32} {x : Int32} (hin : vp_in i 8) (hdg : decode cc pc = .ok (.iastore, 1))
    (kk : ∀ (H1 : Heap) (locs1 : List Loc), va_P D vwCl (zm_cells G (zm_sham T (upd (zm_ham T) i.toNatClampNeg x)) Y) H1 → va_S (zm_Ad G) H0 H1 locs1 → W p l e R s m args below meth c H1 locs1 cells slots Q (F0 m (pc + 1) ls rest)) : W p l e R s m args below meth c H locs cells slots Q (F0 m pc ls (.int x :: .int i :: .ref (zh_ham G) :: rest)) :=
  va_iast hx hb hK hP (zm_Dd hG T Y) hS 9 0 rfl rfl hin hdg (fun H1 locs1 hP1 _ hS1 => kk H1 locs1 hP1 hS1)
theorem zm_ald_pyr (hx : p.tables.exec = Jvm.exec) (hb : c.code = cc) (hK : va_K D vwCl (zm_tys G) s) (hP : va_P D vwCl (zm_cells G T Y) H) {i : Int32} (hin : vp_in i 6) (hdg : decode cc pc = .ok (.iaload, 1))
    (kk : W p l e R s m args below meth c H locs cells slots Q (F0 m (pc + 1) ls (.int (zm_pyr T i.toNatClampNeg) :: rest))) : W p l e R s m args below meth c H locs cells slots Q (F0 m pc ls (.int i :: .ref (zh_pyr G) :: rest)) := va_iald hx hb hK hP 10 0 rfl rfl hin hdg kk
theorem zm_ast_pyr (hx : p.tables.exec = Jvm.exec) (hb : c.code = cc) (hK : va_K D vwCl (zm_tys G) s) (hG : zw_apart (zm_adr G)) (hP : va_P D vwCl (zm_cells G T Y) H) (hS : va_S (zm_Ad G) H0 H locs) {i : Int32} {x : Int32} (hin : vp_in i 6) (hdg : decode cc pc = .ok (.iastore, 1))
    (kk : ∀ (H1 : Heap) (locs1 : List Loc), va_P D vwCl (zm_cells G (zm_spyr T (upd (zm_pyr T) i.toNatClampNeg x)) Y) H1 → va_S (zm_Ad G) H0 H1 locs1 → W p l e R s m args below meth c H1 locs1 cells slots Q (F0 m (pc + 1) ls rest)) : W p l e R s m args below meth c H locs cells slots Q (F0 m pc ls (.int x :: .int i :: .ref (zh_pyr G) :: rest)) :=
  va_iast hx hb hK hP (zm_Dd hG T Y) hS 10 0 rfl rfl hin hdg (fun H1 locs1 hP1 _ hS1 => kk H1 locs1 hP1 hS1)
theorem zm_ald_pye (hx : p.tables.exec = Jvm.exec) (hb : c.code = cc) (hK : va_K D vwCl (zm_tys G) s) (hP : va_P D vwCl (zm_cells G T Y) H) {i : Int32} (hin : vp_in i 6) (hdg : decode cc pc = .ok (.iaload, 1))
    (kk : W p l e R s m args below meth c H locs cells slots Q (F0 m (pc + 1) ls (.int (zm_pye T i.toNatClampNeg) :: rest))) : W p l e R s m args below meth c H locs cells slots Q (F0 m pc ls (.int i :: .ref (zh_pye G) :: rest)) := va_iald hx hb hK hP 11 0 rfl rfl hin hdg kk
theorem zm_ast_pye (hx : p.tables.exec = Jvm.exec) (hb : c.code = cc) (hK : va_K D vwCl (zm_tys G) s) (hG : zw_apart (zm_adr G)) (hP : va_P D vwCl (zm_cells G T Y) H) (hS : va_S (zm_Ad G) H0 H locs) {i : Int32} {x : Int32} (hin : vp_in i 6) (hdg : decode cc pc = .ok (.iastore, 1))
    (kk : ∀ (H1 : Heap) (locs1 : List Loc), va_P D vwCl (zm_cells G (zm_spye T (upd (zm_pye T) i.toNatClampNeg x)) Y) H1 → va_S (zm_Ad G) H0 H1 locs1 → W p l e R s m args below meth c H1 locs1 cells slots Q (F0 m (pc + 1) ls rest)) : W p l e R s m args below meth c H locs cells slots Q (F0 m pc ls (.int x :: .int i :: .ref (zh_pye G) :: rest)) :=
  va_iast hx hb hK hP (zm_Dd hG T Y) hS 11 0 rfl rfl hin hdg (fun H1 locs1 hP1 _ hS1 => kk H1 locs1 hP1 hS1)
theorem zm_ald_sum (hx : p.tables.exec = Jvm.exec) (hb : c.code = cc) (hK : va_K D vwCl (zm_tys G) s) (hP : va_P D vwCl (zm_cells G T Y) H) {i : Int32} (hin : vp_in i 6) (hdg : decode cc pc = .ok (.iaload, 1))
    (kk : W p l e R s m args below meth c H locs cells slots Q (F0 m (pc + 1) ls (.int (zm_sum T i.toNatClampNeg) :: rest))) : W p l e R s m args below meth c H locs cells slots Q (F0 m pc ls (.int i :: .ref (zh_sum G) :: rest)) := va_iald hx hb hK hP 12 0 rfl rfl hin hdg kk
theorem zm_ast_sum (hx : p.tables.exec = Jvm.exec) (hb : c.code = cc) (hK : va_K D vwCl (zm_tys G) s) (hG : zw_apart (zm_adr G)) (hP : va_P D vwCl (zm_cells G T Y) H) (hS : va_S (zm_Ad G) H0 H locs) {i : Int32} {x : Int32} (hin : vp_in i 6) (hdg : decode cc pc = .ok (.iastore, 1))
    (kk : ∀ (H1 : Heap) (locs1 : List Loc), va_P D vwCl (zm_cells G (zm_ssum T (upd (zm_sum T) i.toNatClampNeg x)) Y) H1 → va_S (zm_Ad G) H0 H1 locs1 → W p l e R s m args below meth c H1 locs1 cells slots Q (F0 m (pc + 1) ls rest)) : W p l e R s m args below meth c H locs cells slots Q (F0 m pc ls (.int x :: .int i :: .ref (zh_sum G) :: rest)) :=
  va_iast hx hb hK hP (zm_Dd hG T Y) hS 12 0 rfl rfl hin hdg (fun H1 locs1 hP1 _ hS1 => kk H1 locs1 hP1 hS1)
theorem zm_ald_ody (hx : p.tables.exec = Jvm.exec) (hb : c.code = cc) (hK : va_K D vwCl (zm_tys G) s) (hP : va_P D vwCl (zm_cells G T Y) H) {i : Int32} (hin : vp_in i 6) (hdg : decode cc pc = .ok (.iaload, 1))
    (kk : W p l e R s m args below meth c H locs cells slots Q (F0 m (pc + 1) ls (.int (zm_ody T i.toNatClampNeg) :: rest))) : W p l e R s m args below meth c H locs cells slots Q (F0 m pc ls (.int i :: .ref (zh_ody G) :: rest)) := va_iald hx hb hK hP 13 0 rfl rfl hin hdg kk
theorem zm_ast_ody (hx : p.tables.exec = Jvm.exec) (hb : c.code = cc) (hK : va_K D vwCl (zm_tys G) s) (hG : zw_apart (zm_adr G)) (hP : va_P D vwCl (zm_cells G T Y) H) (hS : va_S (zm_Ad G) H0 H locs) {i : Int32} {x : Int32} (hin : vp_in i 6) (hdg : decode cc pc = .ok (.iastore, 1))
    (kk : ∀ (H1 : Heap) (locs1 : List Loc), va_P D vwCl (zm_cells G (zm_sody T (upd (zm_ody T) i.toNatClampNeg x)) Y) H1 → va_S (zm_Ad G) H0 H1 locs1 → W p l e R s m args below meth c H1 locs1 cells slots Q (F0 m (pc + 1) ls rest)) : W p l e R s m args below meth c H locs cells slots Q (F0 m pc ls (.int x :: .int i :: .ref (zh_ody G) :: rest)) :=
  va_iast hx hb hK hP (zm_Dd hG T Y) hS 13 0 rfl rfl hin hdg (fun H1 locs1 hP1 _ hS1 => kk H1 locs1 hP1 hS1)
theorem zm_ald_mis (hx : p.tables.exec = Jvm.exec) (hb : c.code = cc) (hK : va_K D vwCl (zm_tys G) s) (hP : va_P D vwCl (zm_cells G T Y) H) {i : Int32} (hin : vp_in i 6) (hdg : decode cc pc = .ok (.iaload, 1))
    (kk : W p l e R s m args below meth c H locs cells slots Q (F0 m (pc + 1) ls (.int (zm_mis T i.toNatClampNeg) :: rest))) : W p l e R s m args below meth c H locs cells slots Q (F0 m pc ls (.int i :: .ref (zh_mis G) :: rest)) := va_iald hx hb hK hP 14 0 rfl rfl hin hdg kk
theorem zm_ast_mis (hx : p.tables.exec = Jvm.exec) (hb : c.code = cc) (hK : va_K D vwCl (zm_tys G) s) (hG : zw_apart (zm_adr G)) (hP : va_P D vwCl (zm_cells G T Y) H) (hS : va_S (zm_Ad G) H0 H locs) {i : Int32} {x : Int32} (hin : vp_in i 6) (hdg : decode cc pc = .ok (.iastore, 1))
    (kk : ∀ (H1 : Heap) (locs1 : List Loc), va_P D vwCl (zm_cells G (zm_smis T (upd (zm_mis T) i.toNatClampNeg x)) Y) H1 → va_S (zm_Ad G) H0 H1 locs1 → W p l e R s m args below meth c H1 locs1 cells slots Q (F0 m (pc + 1) ls rest)) : W p l e R s m args below meth c H locs cells slots Q (F0 m pc ls (.int x :: .int i :: .ref (zh_mis G) :: rest)) :=
  va_iast hx hb hK hP (zm_Dd hG T Y) hS 14 0 rfl rfl hin hdg (fun H1 locs1 hP1 _ hS1 => kk H1 locs1 hP1 hS1)
theorem zm_ald_dat (hx : p.tables.exec = Jvm.exec) (hb : c.code = cc) (hK : va_K D vwCl (zm_tys G) s) (hP : va_P D vwCl (zm_cells G T Y) H) {i : Int32} (hin : vp_in i 8) (hdg : decode cc pc = .ok (.iaload, 1))
    (kk : W p l e R s m args below meth c H locs cells slots Q (F0 m (pc + 1) ls (.int (zm_dat T i.toNatClampNeg) :: rest))) : W p l e R s m args below meth c H locs cells slots Q (F0 m pc ls (.int i :: .ref (zh_dat G) :: rest)) := va_iald hx hb hK hP 15 0 rfl rfl hin hdg kk
theorem zm_ast_dat (hx : p.tables.exec = Jvm.exec) (hb : c.code = cc) (hK : va_K D vwCl (zm_tys G) s) (hG : zw_apart (zm_adr G)) (hP : va_P D vwCl (zm_cells G T Y) H) (hS : va_S (zm_Ad G) H0 H locs) {i : Int32} {x : Int32} (hin : vp_in i 8) (hdg : decode cc pc = .ok (.iastore, 1))
    (kk : ∀ (H1 : Heap) (locs1 : List Loc), va_P D vwCl (zm_cells G (zm_sdat T (upd (zm_dat T) i.toNatClampNeg x)) Y) H1 → va_S (zm_Ad G) H0 H1 locs1 → W p l e R s m args below meth c H1 locs1 cells slots Q (F0 m (pc + 1) ls rest)) : W p l e R s m args below meth c H locs cells slots Q (F0 m pc ls (.int x :: .int i :: .ref (zh_dat G) :: rest)) :=
  va_iast hx hb hK hP (zm_Dd hG T Y) hS 15 0 rfl rfl hin hdg (fun H1 locs1 hP1 _ hS1 => kk H1 locs1 hP1 hS1)
theorem zm_ald_csh (hx : p.tables.exec = Jvm.exec) (hb : c.code = cc) (hK : va_K D vwCl (zm_tys G) s) (hP : va_P D vwCl (zm_cells G T Y) H) {i : Int32} (hin : vp_in i 3) (hdg : decode cc pc = .ok (.laload, 1))
    (kk : W p l e R s m args below meth c H locs cells slots Q (F0 m (pc + 1) ls (.long (zm_csh T i.toNatClampNeg) :: rest))) : W p l e R s m args below meth c H locs cells slots Q (F0 m pc ls (.int i :: .ref (zh_csh G) :: rest)) := va_lald hx hb hK hP 16 1 rfl rfl hin hdg kk
theorem zm_ast_csh (hx : p.tables.exec = Jvm.exec) (hb : c.code = cc) (hK : va_K D vwCl (zm_tys G) s) (hG : zw_apart (zm_adr G)) (hP : va_P D vwCl (zm_cells G T Y) H) (hS : va_S (zm_Ad G) H0 H locs) {i : Int32} {x : Int64} (hin : vp_in i 3) (hdg : decode cc pc = .ok (.lastore, 1))
    (kk : ∀ (H1 : Heap) (locs1 : List Loc), va_P D vwCl (zm_cells G (zm_scsh T (vp_updL (zm_csh T) i.toNatClampNeg x)) Y) H1 → va_S (zm_Ad G) H0 H1 locs1 → W p l e R s m args below meth c H1 locs1 cells slots Q (F0 m (pc + 1) ls rest)) : W p l e R s m args below meth c H locs cells slots Q (F0 m pc ls (.long x :: .int i :: .ref (zh_csh G) :: rest)) :=
  va_last hx hb hK hP (zm_Dd hG T Y) hS 16 1 rfl rfl hin hdg (fun H1 locs1 hP1 _ hS1 => kk H1 locs1 hP1 hS1)
theorem zm_ald_itr (hx : p.tables.exec = Jvm.exec) (hb : c.code = cc) (hK : va_K D vwCl (zm_tys G) s) (hP : va_P D vwCl (zm_cells G T Y) H) {i : Int32} (hin : vp_in i 3) (hdg : decode cc pc = .ok (.laload, 1))
    (kk : W p l e R s m args below meth c H locs cells slots Q (F0 m (pc + 1) ls (.long (zm_itr T i.toNatClampNeg) :: rest))) : W p l e R s m args below meth c H locs cells slots Q (F0 m pc ls (.int i :: .ref (zh_itr G) :: rest)) := va_lald hx hb hK hP 17 1 rfl rfl hin hdg kk
theorem zm_ast_itr (hx : p.tables.exec = Jvm.exec) (hb : c.code = cc) (hK : va_K D vwCl (zm_tys G) s) (hG : zw_apart (zm_adr G)) (hP : va_P D vwCl (zm_cells G T Y) H) (hS : va_S (zm_Ad G) H0 H locs) {i : Int32} {x : Int64} (hin : vp_in i 3) (hdg : decode cc pc = .ok (.lastore, 1))
    (kk : ∀ (H1 : Heap) (locs1 : List Loc), va_P D vwCl (zm_cells G (zm_sitr T (vp_updL (zm_itr T) i.toNatClampNeg x)) Y) H1 → va_S (zm_Ad G) H0 H1 locs1 → W p l e R s m args below meth c H1 locs1 cells slots Q (F0 m (pc + 1) ls rest)) : W p l e R s m args below meth c H locs cells slots Q (F0 m pc ls (.long x :: .int i :: .ref (zh_itr G) :: rest)) :=
  va_last hx hb hK hP (zm_Dd hG T Y) hS 17 1 rfl rfl hin hdg (fun H1 locs1 hP1 _ hS1 => kk H1 locs1 hP1 hS1)
end ZMW
end
section
/-! ENDS of the methods that write, on either side. -/
def zb_Qi (D : va_G) (G : zg_G) (F : Int32 × zb_S) : Array Value → State → Outcome → State → Prop := zw_Q (some (.int F.1)) (va_P D vwCl (zb_cells G F.2)) (zb_Ad G)
def zb_Ql (D : va_G) (G : zg_G) (F : Int64 × zb_S) : Array Value → State → Outcome → State → Prop := zw_Q (some (.long F.1)) (va_P D vwCl (zb_cells G F.2)) (zb_Ad G)
def zb_Qv (D : va_G) (G : zg_G) (F : zb_S) : Array Value → State → Outcome → State → Prop := zw_Q none (va_P D vwCl (zb_cells G F)) (zb_Ad G)
def zm_PX (D : va_G) (G : zh_G) (T : zm_S) (H : Heap) : Prop := ∃ Y : zm_Y, va_P D vwCl (zm_cells G T Y) H
def zm_Qi (D : va_G) (G : zh_G) (F : Int32 × zm_S) : Array Value → State → Outcome → State → Prop := zw_Q (some (.int F.1)) (zm_PX D G F.2) (zm_Ad G)
def zm_Ql (D : va_G) (G : zh_G) (F : Int64 × zm_S) : Array Value → State → Outcome → State → Prop := zw_Q (some (.long F.1)) (zm_PX D G F.2) (zm_Ad G)
def zm_Qv (D : va_G) (G : zh_G) (F : zm_S) : Array Value → State → Outcome → State → Prop := zw_Q none (zm_PX D G F) (zm_Ad G)
section ZE
variable {p : Program} {l : Launch} {e : Env} {R : Room} {s : State} {m : MethodId} {args : Array Value} {below : List Frame} {meth : Method} {c : Code} {H : Heap} {locs : List Loc} {cells slots : Nat}
variable {cc : ByteArray} {pc : Nat} {ls : Array Slot} {D : va_G} {G : zg_G} {S1 : zb_S} {K : zh_G} {T1 : zm_S} {Y1 : zm_Y}
theorem zb_iret {v2 : Int32} {F : Int32 × zb_S} (hx : p.tables.exec = Jvm.exec) (hb : c.code = cc) (hr : meth.sig.returnType = some .int) (hlk : meth.locks = false) (hdg : decode cc pc = .ok (.ireturn, 1)) (hP : va_P D vwCl (zb_cells G S1) H) (hS : va_S (zb_Ad G) s.heap H locs) (hF : F = (v2, S1)) :
    W p l e R s m args below meth c H locs cells slots (MQ below (zb_Qi D G F) args s cells slots (zb_Ad G)) (F0 m pc ls [.int v2]) := by
  subst hF
  exact W.iret hx hb hr (fun t ht _ => ⟨rfl, by rw [ht]; exact hP, hS.F ht⟩) hS.2.2 hdg hlk
theorem zb_zret {v2 : Int32} {F : Int32 × zb_S} (hx : p.tables.exec = Jvm.exec) (hb : c.code = cc) (hr : meth.sig.returnType = some .boolean) (hlk : meth.locks = false) (hdg : decode cc pc = .ok (.ireturn, 1)) (hP : va_P D vwCl (zb_cells G S1) H) (hS : va_S (zb_Ad G) s.heap H locs) (hn : v2 = 0 ∨ v2 = 1) (hF : F = (v2, S1)) :
    W p l e R s m args below meth c H locs cells slots (MQ below (zb_Qi D G F) args s cells slots (zb_Ad G)) (F0 m pc ls [.int v2]) := by
  subst hF
  exact W.zret hx hb hr (by rcases hn with rfl | rfl <;> rfl) (fun t ht _ => ⟨rfl, by rw [ht]; exact hP, hS.F ht⟩) hS.2.2 hdg hlk
theorem zb_lret {v2 : Int64} {F : Int64 × zb_S} (hx : p.tables.exec = Jvm.exec) (hb : c.code = cc) (hr : meth.sig.returnType = some .long) (hlk : meth.locks = false) (hdg : decode cc pc = .ok (.lreturn, 1)) (hP : va_P D vwCl (zb_cells G S1) H) (hS : va_S (zb_Ad G) s.heap H locs) (hF : F = (v2, S1)) :
    W p l e R s m args below meth c H locs cells slots (MQ below (zb_Ql D G F) args s cells slots (zb_Ad G)) (F0 m pc ls [.long v2]) := by
  subst hF
  exact W.lret hx hb hr (fun t ht _ => ⟨rfl, by rw [ht]; exact hP, hS.F ht⟩) hS.2.2 hdg hlk
theorem zb_vret {F : zb_S} (hx : p.tables.exec = Jvm.exec) (hb : c.code = cc) (hr : meth.sig.returnType = none) (hlk : meth.locks = false) (hdg : decode cc pc = .ok (.return_, 1)) (hP : va_P D vwCl (zb_cells G S1) H) (hS : va_S (zb_Ad G) s.heap H locs) (hF : F = S1) :
    W p l e R s m args below meth c H locs cells slots (MQ below (zb_Qv D G F) args s cells slots (zb_Ad G)) (F0 m pc ls []) := by
  subst hF
  exact W.vret hx hb hr (fun t ht _ => ⟨rfl, by rw [ht]; exact hP, hS.F ht⟩) hS.2.2 hdg hlk
theorem zm_iret {v2 : Int32} {F : Int32 × zm_S} (hx : p.tables.exec = Jvm.exec) (hb : c.code = cc) (hr : meth.sig.returnType = some .int) (hlk : meth.locks = false) (hdg : decode cc pc = .ok (.ireturn, 1)) (hP : va_P D vwCl (zm_cells K T1 Y1) H) (hS : va_S (zm_Ad K) s.heap H locs) (hF : F = (v2, T1)) :
    W p l e R s m args below meth c H locs cells slots (MQ below (zm_Qi D K F) args s cells slots (zm_Ad K)) (F0 m pc ls [.int v2]) := by
  subst hF
  exact W.iret hx hb hr (fun t ht _ => ⟨rfl, ⟨Y1, by rw [ht]; exact hP⟩, hS.F ht⟩) hS.2.2 hdg hlk
theorem zm_zret {v2 : Int32} {F : Int32 × zm_S} (hx : p.tables.exec = Jvm.exec) (hb : c.code = cc) (hr : meth.sig.returnType = some .boolean) (hlk : meth.locks = false) (hdg : decode cc pc = .ok (.ireturn, 1)) (hP : va_P D vwCl (zm_cells K T1 Y1) H) (hS : va_S (zm_Ad K) s.heap H locs) (hn : v2 = 0 ∨ v2 = 1) (hF : F = (v2, T1)) :
    W p l e R s m args below meth c H locs cells slots (MQ below (zm_Qi D K F) args s cells slots (zm_Ad K)) (F0 m pc ls [.int v2]) := by
  subst hF
  exact W.zret hx hb hr (by rcases hn with rfl | rfl <;> rfl) (fun t ht _ => ⟨rfl, ⟨Y1, by rw [ht]; exact hP⟩, hS.F ht⟩) hS.2.2 hdg hlk
theorem zm_lret {v2 : Int64} {F : Int64 × zm_S} (hx : p.tables.exec = Jvm.exec) (hb : c.code = cc) (hr : meth.sig.returnType = some .long) (hlk : meth.locks = false) (hdg : decode cc pc = .ok (.lreturn, 1)) (hP : va_P D vwCl (zm_cells K T1 Y1) H) (hS : va_S (zm_Ad K) s.heap H locs) (hF : F = (v2, T1)) :
    W p l e R s m args below meth c H locs cells slots (MQ below (zm_Ql D K F) args s cells slots (zm_Ad K)) (F0 m pc ls [.long v2]) := by
  subst hF
  exact W.lret hx hb hr (fun t ht _ => ⟨rfl, ⟨Y1, by rw [ht]; exact hP⟩, hS.F ht⟩) hS.2.2 hdg hlk
theorem zm_vret {F : zm_S} (hx : p.tables.exec = Jvm.exec) (hb : c.code = cc) (hr : meth.sig.returnType = none) (hlk : meth.locks = false) (hdg : decode cc pc = .ok (.return_, 1)) (hP : va_P D vwCl (zm_cells K T1 Y1) H) (hS : va_S (zm_Ad K) s.heap H locs) (hF : F = T1) :
    W p l e R s m args below meth c H locs cells slots (MQ below (zm_Qv D K F) args s cells slots (zm_Ad K)) (F0 m pc ls []) := by
  subst hF
  exact W.vret hx hb hr (fun t ht _ => ⟨rfl, ⟨Y1, by rw [ht]; exact hP⟩, hS.F ht⟩) hS.2.2 hdg hlk
end ZE
section ZC
variable {p : Program} {l : Launch} {e : Env} {R : Room} {s : State} {m : MethodId} {args : Array Value} {below : List Frame} {meth : Method} {c : Code} {H : Heap} {locs : List Loc} {cells slots : Nat} {Q : State → Prop}
variable {cc bytes : ByteArray} {pc nL maxL index n : Nat} {ls : Array Slot} {rest st0 As : List Value} {own : String} {y : MethodName} {ret : Option FieldType} {rm : Room} {b : Nat} {H0 : Heap} {Pc : Array Value → State → Prop} {D : va_G}
theorem zb_vWi {G : zg_G} {F1 : Int32 × zb_S} (F : CallFix p m c cc nL s args zw_big own) (hM : Met l y (Cond.code y bytes maxL ret :: zw_big) rm Pc (zb_Qi D G F1) 0 0 (zb_Ad G)) (hp : PreV s H y.cls b Pc As) (hY : zw_YV y bytes maxL ret n) (hl : Cond.methodLink own index y ∈ zw_big) (hrm : rm.cells = 0 ∧ rm.slots = 0 ∧ rm.frames + 1 ≤ R.frames ∧ 8 + (maxL + 11) + rm.locals ≤ R.locals) (hn : As.length = n) (hz : ls.size = nL) (hst : st0 = As.reverse ++ .ref b :: rest) (hW : (rest.map fun v => v.category).sum ≤ 8) (hc : cells ≤ R.cells ∧ slots ≤ R.slots) (hdg : decode cc pc = .ok (.invokevirtual index, 3)) (hS : va_S (zb_Ad G) H0 H locs)
    (kk : ∀ (H1 : Heap) (locs1 : List Loc), va_P D vwCl (zb_cells G F1.2) H1 → va_S (zb_Ad G) H0 H1 locs1 → W p l e R s m args below meth c H1 locs1 cells slots Q (F0 m (pc + 3) ls (.int F1.1 :: rest))) : W p l e R s m args below meth c H locs cells slots Q (F0 m pc ls st0) :=
  zw_vW F hM hp hY hl hrm hn hz hst hW hc hdg hS kk
theorem zb_vWl {G : zg_G} {F1 : Int64 × zb_S} (F : CallFix p m c cc nL s args zw_big own) (hM : Met l y (Cond.code y bytes maxL ret :: zw_big) rm Pc (zb_Ql D G F1) 0 0 (zb_Ad G)) (hp : PreV s H y.cls b Pc As) (hY : zw_YV y bytes maxL ret n) (hl : Cond.methodLink own index y ∈ zw_big) (hrm : rm.cells = 0 ∧ rm.slots = 0 ∧ rm.frames + 1 ≤ R.frames ∧ 8 + (maxL + 11) + rm.locals ≤ R.locals) (hn : As.length = n) (hz : ls.size = nL) (hst : st0 = As.reverse ++ .ref b :: rest) (hW : (rest.map fun v => v.category).sum ≤ 8) (hc : cells ≤ R.cells ∧ slots ≤ R.slots) (hdg : decode cc pc = .ok (.invokevirtual index, 3)) (hS : va_S (zb_Ad G) H0 H locs)
    (kk : ∀ (H1 : Heap) (locs1 : List Loc), va_P D vwCl (zb_cells G F1.2) H1 → va_S (zb_Ad G) H0 H1 locs1 → W p l e R s m args below meth c H1 locs1 cells slots Q (F0 m (pc + 3) ls (.long F1.1 :: rest))) : W p l e R s m args below meth c H locs cells slots Q (F0 m pc ls st0) :=
  zw_vW F hM hp hY hl hrm hn hz hst hW hc hdg hS kk
theorem zb_vWv {G : zg_G} {F1 : zb_S} (F : CallFix p m c cc nL s args zw_big own) (hM : Met l y (Cond.code y bytes maxL ret :: zw_big) rm Pc (zb_Qv D G F1) 0 0 (zb_Ad G)) (hp : PreV s H y.cls b Pc As) (hY : zw_YV y bytes maxL ret n) (hl : Cond.methodLink own index y ∈ zw_big) (hrm : rm.cells = 0 ∧ rm.slots = 0 ∧ rm.frames + 1 ≤ R.frames ∧ 8 + (maxL + 11) + rm.locals ≤ R.locals) (hn : As.length = n) (hz : ls.size = nL) (hst : st0 = As.reverse ++ .ref b :: rest) (hW : (rest.map fun v => v.category).sum ≤ 8) (hc : cells ≤ R.cells ∧ slots ≤ R.slots) (hdg : decode cc pc = .ok (.invokevirtual index, 3)) (hS : va_S (zb_Ad G) H0 H locs)
    (kk : ∀ (H1 : Heap) (locs1 : List Loc), va_P D vwCl (zb_cells G F1) H1 → va_S (zb_Ad G) H0 H1 locs1 → W p l e R s m args below meth c H1 locs1 cells slots Q (F0 m (pc + 3) ls (rest))) : W p l e R s m args below meth c H locs cells slots Q (F0 m pc ls st0) :=
  zw_vW F hM hp hY hl hrm hn hz hst hW hc hdg hS kk
theorem zm_vWi {G : zh_G} {F1 : Int32 × zm_S} (F : CallFix p m c cc nL s args zw_big own) (hM : Met l y (Cond.code y bytes maxL ret :: zw_big) rm Pc (zm_Qi D G F1) 0 0 (zm_Ad G)) (hp : PreV s H y.cls b Pc As) (hY : zw_YV y bytes maxL ret n) (hl : Cond.methodLink own index y ∈ zw_big) (hrm : rm.cells = 0 ∧ rm.slots = 0 ∧ rm.frames + 1 ≤ R.frames ∧ 8 + (maxL + 11) + rm.locals ≤ R.locals) (hn : As.length = n) (hz : ls.size = nL) (hst : st0 = As.reverse ++ .ref b :: rest) (hW : (rest.map fun v => v.category).sum ≤ 8) (hc : cells ≤ R.cells ∧ slots ≤ R.slots) (hdg : decode cc pc = .ok (.invokevirtual index, 3)) (hS : va_S (zm_Ad G) H0 H locs)
    (kk : ∀ (Y1 : zm_Y) (H1 : Heap) (locs1 : List Loc), va_P D vwCl (zm_cells G F1.2 Y1) H1 → va_S (zm_Ad G) H0 H1 locs1 → W p l e R s m args below meth c H1 locs1 cells slots Q (F0 m (pc + 3) ls (.int F1.1 :: rest))) : W p l e R s m args below meth c H locs cells slots Q (F0 m pc ls st0) :=
  zw_vW F hM hp hY hl hrm hn hz hst hW hc hdg hS (fun H1 locs1 hP1 hS1 => by obtain ⟨Y1, hP1⟩ := hP1; exact kk Y1 H1 locs1 hP1 hS1)
theorem zm_vWl {G : zh_G} {F1 : Int64 × zm_S} (F : CallFix p m c cc nL s args zw_big own) (hM : Met l y (Cond.code y bytes maxL ret :: zw_big) rm Pc (zm_Ql D G F1) 0 0 (zm_Ad G)) (hp : PreV s H y.cls b Pc As) (hY : zw_YV y bytes maxL ret n) (hl : Cond.methodLink own index y ∈ zw_big) (hrm : rm.cells = 0 ∧ rm.slots = 0 ∧ rm.frames + 1 ≤ R.frames ∧ 8 + (maxL + 11) + rm.locals ≤ R.locals) (hn : As.length = n) (hz : ls.size = nL) (hst : st0 = As.reverse ++ .ref b :: rest) (hW : (rest.map fun v => v.category).sum ≤ 8) (hc : cells ≤ R.cells ∧ slots ≤ R.slots) (hdg : decode cc pc = .ok (.invokevirtual index, 3)) (hS : va_S (zm_Ad G) H0 H locs)
    (kk : ∀ (Y1 : zm_Y) (H1 : Heap) (locs1 : List Loc), va_P D vwCl (zm_cells G F1.2 Y1) H1 → va_S (zm_Ad G) H0 H1 locs1 → W p l e R s m args below meth c H1 locs1 cells slots Q (F0 m (pc + 3) ls (.long F1.1 :: rest))) : W p l e R s m args below meth c H locs cells slots Q (F0 m pc ls st0) :=
  zw_vW F hM hp hY hl hrm hn hz hst hW hc hdg hS (fun H1 locs1 hP1 hS1 => by obtain ⟨Y1, hP1⟩ := hP1; exact kk Y1 H1 locs1 hP1 hS1)
theorem zm_vWv {G : zh_G} {F1 : zm_S} (F : CallFix p m c cc nL s args zw_big own) (hM : Met l y (Cond.code y bytes maxL ret :: zw_big) rm Pc (zm_Qv D G F1) 0 0 (zm_Ad G)) (hp : PreV s H y.cls b Pc As) (hY : zw_YV y bytes maxL ret n) (hl : Cond.methodLink own index y ∈ zw_big) (hrm : rm.cells = 0 ∧ rm.slots = 0 ∧ rm.frames + 1 ≤ R.frames ∧ 8 + (maxL + 11) + rm.locals ≤ R.locals) (hn : As.length = n) (hz : ls.size = nL) (hst : st0 = As.reverse ++ .ref b :: rest) (hW : (rest.map fun v => v.category).sum ≤ 8) (hc : cells ≤ R.cells ∧ slots ≤ R.slots) (hdg : decode cc pc = .ok (.invokevirtual index, 3)) (hS : va_S (zm_Ad G) H0 H locs)
    (kk : ∀ (Y1 : zm_Y) (H1 : Heap) (locs1 : List Loc), va_P D vwCl (zm_cells G F1 Y1) H1 → va_S (zm_Ad G) H0 H1 locs1 → W p l e R s m args below meth c H1 locs1 cells slots Q (F0 m (pc + 3) ls (rest))) : W p l e R s m args below meth c H locs cells slots Q (F0 m pc ls st0) :=
  zw_vW F hM hp hY hl hrm hn hz hst hW hc hdg hS (fun H1 locs1 hP1 hS1 => by obtain ⟨Y1, hP1⟩ := hP1; exact kk Y1 H1 locs1 hP1 hS1)
end ZC
end
