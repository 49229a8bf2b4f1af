section
-- ===== PART A: goes FIRST, ahead of the names: the tables' words, and 'selects' of the private methods out of them =====
/-- a private method of a class that the tables say can be made, by its rows of tables_1 -/
def lw_okq (q : MethodName × Nat) : Prop := (q.1.cls ≠ "java/lang/invoke/MethodHandle" ∧ q.1.cls ≠ "java/lang/invoke/VarHandle") ∧ Cond.instantiable q.1.cls q.2 ∈ tables_1 ∧ Cond.privateMethod q.1 ∈ tables_1 ∧ Cond.instanceMethod q.1 ∈ tables_1
theorem lw_p0 : lw_okq (⟨"DayEndBank", "refusalOfChange", "()I"⟩, 11) := ⟨⟨by decide +kernel, by decide +kernel⟩, List.mem_of_getElem? (i := 12) (by decide +kernel), List.mem_of_getElem? (i := 194) (by decide +kernel), List.mem_of_getElem? (i := 195) (by decide +kernel)⟩
theorem lw_p1 : lw_okq (⟨"DayEndBank$Disk", "makeCheckpoint", "()Z"⟩, 6) := ⟨⟨by decide +kernel, by decide +kernel⟩, List.mem_of_getElem? (i := 40) (by decide +kernel), List.mem_of_getElem? (i := 225) (by decide +kernel), List.mem_of_getElem? (i := 226) (by decide +kernel)⟩
theorem lw_p2 : lw_okq (⟨"DayEndBank$Disk", "writeOnce", "()Z"⟩, 6) := ⟨⟨by decide +kernel, by decide +kernel⟩, List.mem_of_getElem? (i := 40) (by decide +kernel), List.mem_of_getElem? (i := 229) (by decide +kernel), List.mem_of_getElem? (i := 230) (by decide +kernel)⟩
theorem lw_p3 : lw_okq (⟨"DayEndBank", "isPayable", "(II)Z"⟩, 11) := ⟨⟨by decide +kernel, by decide +kernel⟩, List.mem_of_getElem? (i := 12) (by decide +kernel), List.mem_of_getElem? (i := 237) (by decide +kernel), List.mem_of_getElem? (i := 238) (by decide +kernel)⟩
theorem lw_p4 : lw_okq (⟨"DayEndBank", "isParty", "(I)Z"⟩, 11) := ⟨⟨by decide +kernel, by decide +kernel⟩, List.mem_of_getElem? (i := 12) (by decide +kernel), List.mem_of_getElem? (i := 241) (by decide +kernel), List.mem_of_getElem? (i := 242) (by decide +kernel)⟩
theorem lw_p5 : lw_okq (⟨"DayEndBank", "accountOf", "(I)LDayEndBank$Account;"⟩, 11) := ⟨⟨by decide +kernel, by decide +kernel⟩, List.mem_of_getElem? (i := 12) (by decide +kernel), List.mem_of_getElem? (i := 245) (by decide +kernel), List.mem_of_getElem? (i := 246) (by decide +kernel)⟩
theorem lw_p6 : lw_okq (⟨"DayEndBank", "transfer", "(LDayEndBank$Account;LDayEndBank$Account;I)V"⟩, 11) := ⟨⟨by decide +kernel, by decide +kernel⟩, List.mem_of_getElem? (i := 12) (by decide +kernel), List.mem_of_getElem? (i := 256) (by decide +kernel), List.mem_of_getElem? (i := 257) (by decide +kernel)⟩
theorem lw_p7 : lw_okq (⟨"DayEndBank", "leastFreeHold", "()I"⟩, 11) := ⟨⟨by decide +kernel, by decide +kernel⟩, List.mem_of_getElem? (i := 12) (by decide +kernel), List.mem_of_getElem? (i := 264) (by decide +kernel), List.mem_of_getElem? (i := 265) (by decide +kernel)⟩
theorem lw_p8 : lw_okq (⟨"DayEndBank", "standingHold", "(I)LDayEndBank$Hold;"⟩, 11) := ⟨⟨by decide +kernel, by decide +kernel⟩, List.mem_of_getElem? (i := 12) (by decide +kernel), List.mem_of_getElem? (i := 276) (by decide +kernel), List.mem_of_getElem? (i := 277) (by decide +kernel)⟩
theorem lw_p9 : lw_okq (⟨"DayEndBank$RestDays", "wasMade", "(I)Z"⟩, 2) := ⟨⟨by decide +kernel, by decide +kernel⟩, List.mem_of_getElem? (i := 26) (by decide +kernel), List.mem_of_getElem? (i := 304) (by decide +kernel), List.mem_of_getElem? (i := 305) (by decide +kernel)⟩
theorem lw_p10 : lw_okq (⟨"DayEndBank", "isInLaterMonth", "(I)Z"⟩, 11) := ⟨⟨by decide +kernel, by decide +kernel⟩, List.mem_of_getElem? (i := 12) (by decide +kernel), List.mem_of_getElem? (i := 308) (by decide +kernel), List.mem_of_getElem? (i := 309) (by decide +kernel)⟩
theorem lw_p11 : lw_okq (⟨"DayEndBank", "makeDayEnd", "()Z"⟩, 11) := ⟨⟨by decide +kernel, by decide +kernel⟩, List.mem_of_getElem? (i := 12) (by decide +kernel), List.mem_of_getElem? (i := 340) (by decide +kernel), List.mem_of_getElem? (i := 341) (by decide +kernel)⟩
theorem lw_p12 : lw_okq (⟨"DayEndBank", "makeStep", "(LDayEndBank$Account;)Z"⟩, 11) := ⟨⟨by decide +kernel, by decide +kernel⟩, List.mem_of_getElem? (i := 12) (by decide +kernel), List.mem_of_getElem? (i := 344) (by decide +kernel), List.mem_of_getElem? (i := 345) (by decide +kernel)⟩
theorem lw_p13 : lw_okq (⟨"DayEndBank", "planOrders", "(LDayEndBank$Account;)V"⟩, 11) := ⟨⟨by decide +kernel, by decide +kernel⟩, List.mem_of_getElem? (i := 12) (by decide +kernel), List.mem_of_getElem? (i := 348) (by decide +kernel), List.mem_of_getElem? (i := 349) (by decide +kernel)⟩
theorem lw_p14 : lw_okq (⟨"DayEndBank", "writeStep", "(LDayEndBank$Account;)Z"⟩, 11) := ⟨⟨by decide +kernel, by decide +kernel⟩, List.mem_of_getElem? (i := 12) (by decide +kernel), List.mem_of_getElem? (i := 364) (by decide +kernel), List.mem_of_getElem? (i := 365) (by decide +kernel)⟩
theorem lw_p15 : lw_okq (⟨"DayEndBank", "carryOutOrders", "()V"⟩, 11) := ⟨⟨by decide +kernel, by decide +kernel⟩, List.mem_of_getElem? (i := 12) (by decide +kernel), List.mem_of_getElem? (i := 369) (by decide +kernel), List.mem_of_getElem? (i := 370) (by decide +kernel)⟩
def lw_privs_1 : List (MethodName × Nat) := [(⟨"DayEndBank", "refusalOfChange", "()I"⟩, 11), (⟨"DayEndBank$Disk", "makeCheckpoint", "()Z"⟩, 6), (⟨"DayEndBank$Disk", "writeOnce", "()Z"⟩, 6), (⟨"DayEndBank", "isPayable", "(II)Z"⟩, 11), (⟨"DayEndBank", "isParty", "(I)Z"⟩, 11), (⟨"DayEndBank", "accountOf", "(I)LDayEndBank$Account;"⟩, 11), (⟨"DayEndBank", "transfer", "(LDayEndBank$Account;LDayEndBank$Account;I)V"⟩, 11), (⟨"DayEndBank", "leastFreeHold", "()I"⟩, 11), (⟨"DayEndBank", "standingHold", "(I)LDayEndBank$Hold;"⟩, 11), (⟨"DayEndBank$RestDays", "wasMade", "(I)Z"⟩, 2), (⟨"DayEndBank", "isInLaterMonth", "(I)Z"⟩, 11), (⟨"DayEndBank", "makeDayEnd", "()Z"⟩, 11), (⟨"DayEndBank", "makeStep", "(LDayEndBank$Account;)Z"⟩, 11), (⟨"DayEndBank", "planOrders", "(LDayEndBank$Account;)V"⟩, 11), (⟨"DayEndBank", "writeStep", "(LDayEndBank$Account;)Z"⟩, 11), (⟨"DayEndBank", "carryOutOrders", "()V"⟩, 11)]
theorem lw_r1 : ∀ q ∈ lw_privs_1, lw_okq q := List.forall_mem_cons.mpr ⟨lw_p0, List.forall_mem_cons.mpr ⟨lw_p1, List.forall_mem_cons.mpr ⟨lw_p2, List.forall_mem_cons.mpr ⟨lw_p3, List.forall_mem_cons.mpr ⟨lw_p4, List.forall_mem_cons.mpr ⟨lw_p5, List.forall_mem_cons.mpr ⟨lw_p6, List.forall_mem_cons.mpr ⟨lw_p7, List.forall_mem_cons.mpr ⟨lw_p8, List.forall_mem_cons.mpr ⟨lw_p9, List.forall_mem_cons.mpr ⟨lw_p10, List.forall_mem_cons.mpr ⟨lw_p11, List.forall_mem_cons.mpr ⟨lw_p12, List.forall_mem_cons.mpr ⟨lw_p13, List.forall_mem_cons.mpr ⟨lw_p14, List.forall_mem_cons.mpr ⟨lw_p15, fun _ h => absurd h List.not_mem_nil⟩⟩⟩⟩⟩⟩⟩⟩⟩⟩⟩⟩⟩⟩⟩⟩
theorem lw_p16 : lw_okq (⟨"DayEndBank", "shownAccount", "(I)LDayEndBank$Account;"⟩, 11) := ⟨⟨by decide +kernel, by decide +kernel⟩, List.mem_of_getElem? (i := 12) (by decide +kernel), List.mem_of_getElem? (i := 417) (by decide +kernel), List.mem_of_getElem? (i := 418) (by decide +kernel)⟩
theorem lw_p17 : lw_okq (⟨"DayEndBank", "sumOfBalances", "(I)J"⟩, 11) := ⟨⟨by decide +kernel, by decide +kernel⟩, List.mem_of_getElem? (i := 12) (by decide +kernel), List.mem_of_getElem? (i := 437) (by decide +kernel), List.mem_of_getElem? (i := 438) (by decide +kernel)⟩
theorem lw_p18 : lw_okq (⟨"DayEndBankModel", "shut", "()I"⟩, 31) := ⟨⟨by decide +kernel, by decide +kernel⟩, List.mem_of_getElem? (i := 462) (by decide +kernel), List.mem_of_getElem? (i := 566) (by decide +kernel), List.mem_of_getElem? (i := 567) (by decide +kernel)⟩
theorem lw_p19 : lw_okq (⟨"DayEndBankModel", "comes", "(II)Z"⟩, 31) := ⟨⟨by decide +kernel, by decide +kernel⟩, List.mem_of_getElem? (i := 462) (by decide +kernel), List.mem_of_getElem? (i := 571) (by decide +kernel), List.mem_of_getElem? (i := 572) (by decide +kernel)⟩
theorem lw_p20 : lw_okq (⟨"DayEndBankModel", "afford", "(I)Z"⟩, 31) := ⟨⟨by decide +kernel, by decide +kernel⟩, List.mem_of_getElem? (i := 462) (by decide +kernel), List.mem_of_getElem? (i := 575) (by decide +kernel), List.mem_of_getElem? (i := 576) (by decide +kernel)⟩
theorem lw_p21 : lw_okq (⟨"DayEndBankModel", "spend", "(I)V"⟩, 31) := ⟨⟨by decide +kernel, by decide +kernel⟩, List.mem_of_getElem? (i := 462) (by decide +kernel), List.mem_of_getElem? (i := 579) (by decide +kernel), List.mem_of_getElem? (i := 580) (by decide +kernel)⟩
theorem lw_p22 : lw_okq (⟨"DayEndBankModel", "pair", "(II)Z"⟩, 31) := ⟨⟨by decide +kernel, by decide +kernel⟩, List.mem_of_getElem? (i := 462) (by decide +kernel), List.mem_of_getElem? (i := 587) (by decide +kernel), List.mem_of_getElem? (i := 588) (by decide +kernel)⟩
theorem lw_p23 : lw_okq (⟨"DayEndBankModel", "is", "(I)Z"⟩, 31) := ⟨⟨by decide +kernel, by decide +kernel⟩, List.mem_of_getElem? (i := 462) (by decide +kernel), List.mem_of_getElem? (i := 591) (by decide +kernel), List.mem_of_getElem? (i := 592) (by decide +kernel)⟩
theorem lw_p24 : lw_okq (⟨"DayEndBankModel", "amountOk", "(I)Z"⟩, 31) := ⟨⟨by decide +kernel, by decide +kernel⟩, List.mem_of_getElem? (i := 462) (by decide +kernel), List.mem_of_getElem? (i := 595) (by decide +kernel), List.mem_of_getElem? (i := 596) (by decide +kernel)⟩
theorem lw_p25 : lw_okq (⟨"DayEndBankModel", "free", "(I)J"⟩, 31) := ⟨⟨by decide +kernel, by decide +kernel⟩, List.mem_of_getElem? (i := 462) (by decide +kernel), List.mem_of_getElem? (i := 599) (by decide +kernel), List.mem_of_getElem? (i := 600) (by decide +kernel)⟩
theorem lw_p26 : lw_okq (⟨"DayEndBankModel", "linesOf", "(II)I"⟩, 31) := ⟨⟨by decide +kernel, by decide +kernel⟩, List.mem_of_getElem? (i := 462) (by decide +kernel), List.mem_of_getElem? (i := 603) (by decide +kernel), List.mem_of_getElem? (i := 604) (by decide +kernel)⟩
theorem lw_p27 : lw_okq (⟨"DayEndBankModel", "setOf", "(II)I"⟩, 31) := ⟨⟨by decide +kernel, by decide +kernel⟩, List.mem_of_getElem? (i := 462) (by decide +kernel), List.mem_of_getElem? (i := 607) (by decide +kernel), List.mem_of_getElem? (i := 608) (by decide +kernel)⟩
theorem lw_p28 : lw_okq (⟨"DayEndBankModel", "transfer", "(III)V"⟩, 31) := ⟨⟨by decide +kernel, by decide +kernel⟩, List.mem_of_getElem? (i := 462) (by decide +kernel), List.mem_of_getElem? (i := 611) (by decide +kernel), List.mem_of_getElem? (i := 612) (by decide +kernel)⟩
theorem lw_p29 : lw_okq (⟨"DayEndBankModel", "stands", "(I)Z"⟩, 31) := ⟨⟨by decide +kernel, by decide +kernel⟩, List.mem_of_getElem? (i := 462) (by decide +kernel), List.mem_of_getElem? (i := 623) (by decide +kernel), List.mem_of_getElem? (i := 624) (by decide +kernel)⟩
theorem lw_p30 : lw_okq (⟨"DayEndBankModel", "resting", "(I)Z"⟩, 31) := ⟨⟨by decide +kernel, by decide +kernel⟩, List.mem_of_getElem? (i := 462) (by decide +kernel), List.mem_of_getElem? (i := 639) (by decide +kernel), List.mem_of_getElem? (i := 640) (by decide +kernel)⟩
theorem lw_p31 : lw_okq (⟨"DayEndBankModel", "later", "(I)Z"⟩, 31) := ⟨⟨by decide +kernel, by decide +kernel⟩, List.mem_of_getElem? (i := 462) (by decide +kernel), List.mem_of_getElem? (i := 643) (by decide +kernel), List.mem_of_getElem? (i := 644) (by decide +kernel)⟩
def lw_privs_2 : List (MethodName × Nat) := [(⟨"DayEndBank", "shownAccount", "(I)LDayEndBank$Account;"⟩, 11), (⟨"DayEndBank", "sumOfBalances", "(I)J"⟩, 11), (⟨"DayEndBankModel", "shut", "()I"⟩, 31), (⟨"DayEndBankModel", "comes", "(II)Z"⟩, 31), (⟨"DayEndBankModel", "afford", "(I)Z"⟩, 31), (⟨"DayEndBankModel", "spend", "(I)V"⟩, 31), (⟨"DayEndBankModel", "pair", "(II)Z"⟩, 31), (⟨"DayEndBankModel", "is", "(I)Z"⟩, 31), (⟨"DayEndBankModel", "amountOk", "(I)Z"⟩, 31), (⟨"DayEndBankModel", "free", "(I)J"⟩, 31), (⟨"DayEndBankModel", "linesOf", "(II)I"⟩, 31), (⟨"DayEndBankModel", "setOf", "(II)I"⟩, 31), (⟨"DayEndBankModel", "transfer", "(III)V"⟩, 31), (⟨"DayEndBankModel", "stands", "(I)Z"⟩, 31), (⟨"DayEndBankModel", "resting", "(I)Z"⟩, 31), (⟨"DayEndBankModel", "later", "(I)Z"⟩, 31)]
theorem lw_r2 : ∀ q ∈ lw_privs_2, lw_okq q := List.forall_mem_cons.mpr ⟨lw_p16, List.forall_mem_cons.mpr ⟨lw_p17, List.forall_mem_cons.mpr ⟨lw_p18, List.forall_mem_cons.mpr ⟨lw_p19, List.forall_mem_cons.mpr ⟨lw_p20, List.forall_mem_cons.mpr ⟨lw_p21, List.forall_mem_cons.mpr ⟨lw_p22, List.forall_mem_cons.mpr ⟨lw_p23, List.forall_mem_cons.mpr ⟨lw_p24, List.forall_mem_cons.mpr ⟨lw_p25, List.forall_mem_cons.mpr ⟨lw_p26, List.forall_mem_cons.mpr ⟨lw_p27, List.forall_mem_cons.mpr ⟨lw_p28, List.forall_mem_cons.mpr ⟨lw_p29, List.forall_mem_cons.mpr ⟨lw_p30, List.forall_mem_cons.mpr ⟨lw_p31, fun _ h => absurd h List.not_mem_nil⟩⟩⟩⟩⟩⟩⟩⟩⟩⟩⟩⟩⟩⟩⟩⟩
theorem lw_p32 : lw_okq (⟨"DayEndBankModel", "walk", "(I)V"⟩, 31) := ⟨⟨by decide +kernel, by decide +kernel⟩, List.mem_of_getElem? (i := 462) (by decide +kernel), List.mem_of_getElem? (i := 647) (by decide +kernel), List.mem_of_getElem? (i := 648) (by decide +kernel)⟩
theorem lw_p33 : lw_okq (⟨"DayEndBankModel", "dayEnd", "()Z"⟩, 31) := ⟨⟨by decide +kernel, by decide +kernel⟩, List.mem_of_getElem? (i := 462) (by decide +kernel), List.mem_of_getElem? (i := 661) (by decide +kernel), List.mem_of_getElem? (i := 662) (by decide +kernel)⟩
theorem lw_p34 : lw_okq (⟨"DayEndBankModel", "step", "(I)Z"⟩, 31) := ⟨⟨by decide +kernel, by decide +kernel⟩, List.mem_of_getElem? (i := 462) (by decide +kernel), List.mem_of_getElem? (i := 665) (by decide +kernel), List.mem_of_getElem? (i := 666) (by decide +kernel)⟩
theorem lw_p35 : lw_okq (⟨"DayEndBankModel", "paidOrders", "(I)I"⟩, 31) := ⟨⟨by decide +kernel, by decide +kernel⟩, List.mem_of_getElem? (i := 462) (by decide +kernel), List.mem_of_getElem? (i := 669) (by decide +kernel), List.mem_of_getElem? (i := 670) (by decide +kernel)⟩
theorem lw_p36 : lw_okq (⟨"DayEndBankModel", "due", "(I)Z"⟩, 31) := ⟨⟨by decide +kernel, by decide +kernel⟩, List.mem_of_getElem? (i := 462) (by decide +kernel), List.mem_of_getElem? (i := 673) (by decide +kernel), List.mem_of_getElem? (i := 674) (by decide +kernel)⟩
theorem lw_p37 : lw_okq (⟨"DayEndBankModel", "grow", "(I)V"⟩, 31) := ⟨⟨by decide +kernel, by decide +kernel⟩, List.mem_of_getElem? (i := 462) (by decide +kernel), List.mem_of_getElem? (i := 677) (by decide +kernel), List.mem_of_getElem? (i := 678) (by decide +kernel)⟩
theorem lw_p38 : lw_okq (⟨"DayEndBankModel", "days", "(III)I"⟩, 31) := ⟨⟨by decide +kernel, by decide +kernel⟩, List.mem_of_getElem? (i := 462) (by decide +kernel), List.mem_of_getElem? (i := 681) (by decide +kernel), List.mem_of_getElem? (i := 682) (by decide +kernel)⟩
def lw_privs_3 : List (MethodName × Nat) := [(⟨"DayEndBankModel", "walk", "(I)V"⟩, 31), (⟨"DayEndBankModel", "dayEnd", "()Z"⟩, 31), (⟨"DayEndBankModel", "step", "(I)Z"⟩, 31), (⟨"DayEndBankModel", "paidOrders", "(I)I"⟩, 31), (⟨"DayEndBankModel", "due", "(I)Z"⟩, 31), (⟨"DayEndBankModel", "grow", "(I)V"⟩, 31), (⟨"DayEndBankModel", "days", "(III)I"⟩, 31)]
theorem lw_r3 : ∀ q ∈ lw_privs_3, lw_okq q := List.forall_mem_cons.mpr ⟨lw_p32, List.forall_mem_cons.mpr ⟨lw_p33, List.forall_mem_cons.mpr ⟨lw_p34, List.forall_mem_cons.mpr ⟨lw_p35, List.forall_mem_cons.mpr ⟨lw_p36, List.forall_mem_cons.mpr ⟨lw_p37, List.forall_mem_cons.mpr ⟨lw_p38, fun _ h => absurd h List.not_mem_nil⟩⟩⟩⟩⟩⟩⟩
def lw_privs : List (MethodName × Nat) := lw_privs_1 ++ (lw_privs_2 ++ (lw_privs_3))
def lw_tbl : List Cond := k2_sels lw_privs ++ tables_1
theorem lw_privs_ok : ∀ q ∈ lw_privs, lw_okq q := by
  show ∀ q ∈ lw_privs_1 ++ (lw_privs_2 ++ (lw_privs_3)), lw_okq q
  exact List.forall_mem_append.mpr ⟨lw_r1, List.forall_mem_append.mpr ⟨lw_r2, lw_r3⟩⟩
end
section
/-! NAMES (by program: names.py, out of claim/Statement.lean) -/
def nR_B : String := "DayEndBank"
def nR_A : String := "DayEndBank$Account"
def nR_H : String := "DayEndBank$Hold"
def nR_O : String := "DayEndBank$Order"
def nR_R : String := "DayEndBank$RestDays"
def nR_D : String := "DayEndBank$Disk"
def nR_M : String := "DayEndBankModel"
def nR_C : String := "DayEndBank$Calendar"
def nR_I : String := "java/lang/Integer"
def nR_T : String := "java/lang/Math"
def nR_L : String := "DayEndBankLaw"
def nT_B : u_T := fun k => match k with
  | 0 => ("DayEndBank", "accounts", "[LDayEndBank$Account;", true)
  | 1 => ("DayEndBank", "holds", "[LDayEndBank$Hold;", true)
  | 2 => ("DayEndBank", "orders", "[LDayEndBank$Order;", true)
  | 3 => ("DayEndBank", "restDays", "LDayEndBank$RestDays;", true)
  | 4 => ("DayEndBank", "disk", "LDayEndBank$Disk;", true)
  | 5 => ("DayEndBank", "cash", "[J", true)
  | 6 => ("DayEndBank", "interest", "[J", true)
  | 7 => ("DayEndBank", "accountsOpened", "I", false)
  | 8 => ("DayEndBank", "ordersMade", "I", false)
  | 9 => ("DayEndBank", "bookDate", "I", false)
  | _ => ("DayEndBank", "dayEndOpen", "Z", false)
def nt_B : Nat → FieldType := fun k => match k with
  | 0 => .array (.object "DayEndBank$Account")
  | 1 => .array (.object "DayEndBank$Hold")
  | 2 => .array (.object "DayEndBank$Order")
  | 3 => .object "DayEndBank$RestDays"
  | 4 => .object "DayEndBank$Disk"
  | 5 => .array (.long)
  | 6 => .array (.long)
  | 7 => .int
  | 8 => .int
  | 9 => .int
  | _ => .boolean
theorem zw_nmB : ∀ a, a < 11 → ∀ b, b < 11 → a ≠ b → (nT_B a).2.1 ≠ (nT_B b).2.1 := by decide +kernel
theorem zw_tyB : ∀ k, k < 11 → parseFieldDescriptor (nT_B k).2.2.1 = some (nt_B k) := by decide +kernel
def nT_A : u_T := fun k => match k with
  | 0 => ("DayEndBank$Account", "number", "I", true)
  | 1 => ("DayEndBank$Account", "currency", "I", false)
  | 2 => ("DayEndBank$Account", "basis", "I", false)
  | 3 => ("DayEndBank$Account", "limit", "I", false)
  | 4 => ("DayEndBank$Account", "rate", "I", false)
  | 5 => ("DayEndBank$Account", "balance", "J", false)
  | 6 => ("DayEndBank$Account", "held", "J", false)
  | 7 => ("DayEndBank$Account", "accrual", "J", false)
  | _ => ("DayEndBank$Account", "mark", "I", false)
def nt_A : Nat → FieldType := fun k => match k with
  | 0 => .int
  | 1 => .int
  | 2 => .int
  | 3 => .int
  | 4 => .int
  | 5 => .long
  | 6 => .long
  | 7 => .long
  | _ => .int
theorem zw_nmA : ∀ a, a < 9 → ∀ b, b < 9 → a ≠ b → (nT_A a).2.1 ≠ (nT_A b).2.1 := by decide +kernel
theorem zw_tyA : ∀ k, k < 9 → parseFieldDescriptor (nT_A k).2.2.1 = some (nt_A k) := by decide +kernel
def nT_H : u_T := fun k => match k with
  | 0 => ("DayEndBank$Hold", "holder", "LDayEndBank$Account;", false)
  | _ => ("DayEndBank$Hold", "amount", "I", false)
def nt_H : Nat → FieldType := fun k => match k with
  | 0 => .object "DayEndBank$Account"
  | _ => .int
theorem zw_nmH : ∀ a, a < 2 → ∀ b, b < 2 → a ≠ b → (nT_H a).2.1 ≠ (nT_H b).2.1 := by decide +kernel
theorem zw_tyH : ∀ k, k < 2 → parseFieldDescriptor (nT_H k).2.2.1 = some (nt_H k) := by decide +kernel
def nT_O : u_T := fun k => match k with
  | 0 => ("DayEndBank$Order", "payer", "LDayEndBank$Account;", false)
  | 1 => ("DayEndBank$Order", "payee", "LDayEndBank$Account;", false)
  | 2 => ("DayEndBank$Order", "amount", "I", false)
  | 3 => ("DayEndBank$Order", "day", "I", false)
  | 4 => ("DayEndBank$Order", "misses", "I", false)
  | 5 => ("DayEndBank$Order", "isDue", "Z", false)
  | _ => ("DayEndBank$Order", "isPaid", "Z", false)
def nt_O : Nat → FieldType := fun k => match k with
  | 0 => .object "DayEndBank$Account"
  | 1 => .object "DayEndBank$Account"
  | 2 => .int
  | 3 => .int
  | 4 => .int
  | 5 => .boolean
  | _ => .boolean
theorem zw_nmO : ∀ a, a < 7 → ∀ b, b < 7 → a ≠ b → (nT_O a).2.1 ≠ (nT_O b).2.1 := by decide +kernel
theorem zw_tyO : ∀ k, k < 7 → parseFieldDescriptor (nT_O k).2.2.1 = some (nt_O k) := by decide +kernel
def nT_R : u_T := fun k => match k with
  | 0 => ("DayEndBank$RestDays", "dates", "[I", true)
  | _ => ("DayEndBank$RestDays", "datesMade", "I", false)
def nt_R : Nat → FieldType := fun k => match k with
  | 0 => .array (.int)
  | _ => .int
theorem zw_nmR : ∀ a, a < 2 → ∀ b, b < 2 → a ≠ b → (nT_R a).2.1 ≠ (nT_R b).2.1 := by decide +kernel
theorem zw_tyR : ∀ k, k < 2 → parseFieldDescriptor (nT_R k).2.2.1 = some (nt_R k) := by decide +kernel
def nT_D : u_T := fun k => match k with
  | 0 => ("DayEndBank$Disk", "stopped", "Z", false)
  | 1 => ("DayEndBank$Disk", "writesMade", "I", false)
  | 2 => ("DayEndBank$Disk", "writesLeft", "I", false)
  | 3 => ("DayEndBank$Disk", "linesInLog", "I", false)
  | 4 => ("DayEndBank$Disk", "transactionsInLog", "I", false)
  | _ => ("DayEndBank$Disk", "changedInLog", "I", false)
def nt_D : Nat → FieldType := fun k => match k with
  | 0 => .boolean
  | 1 => .int
  | 2 => .int
  | 3 => .int
  | 4 => .int
  | _ => .int
theorem zw_nmD : ∀ a, a < 6 → ∀ b, b < 6 → a ≠ b → (nT_D a).2.1 ≠ (nT_D b).2.1 := by decide +kernel
theorem zw_tyD : ∀ k, k < 6 → parseFieldDescriptor (nT_D k).2.2.1 = some (nt_D k) := by decide +kernel
def nT_M : u_T := fun k => match k with
  | 0 => ("DayEndBankModel", "accounts", "I", false)
  | 1 => ("DayEndBankModel", "currency", "[I", true)
  | 2 => ("DayEndBankModel", "basis", "[I", true)
  | 3 => ("DayEndBankModel", "limit", "[I", true)
  | 4 => ("DayEndBankModel", "rate", "[I", true)
  | 5 => ("DayEndBankModel", "marked", "[I", true)
  | 6 => ("DayEndBankModel", "money", "[J", true)
  | 7 => ("DayEndBankModel", "accrual", "[J", true)
  | 8 => ("DayEndBankModel", "holdOf", "[I", true)
  | 9 => ("DayEndBankModel", "holdAmount", "[I", true)
  | 10 => ("DayEndBankModel", "orders", "I", false)
  | 11 => ("DayEndBankModel", "payer", "[I", true)
  | 12 => ("DayEndBankModel", "payee", "[I", true)
  | 13 => ("DayEndBankModel", "sum", "[I", true)
  | 14 => ("DayEndBankModel", "dayOf", "[I", true)
  | 15 => ("DayEndBankModel", "misses", "[I", true)
  | 16 => ("DayEndBankModel", "rests", "I", false)
  | 17 => ("DayEndBankModel", "restDate", "[I", true)
  | 18 => ("DayEndBankModel", "cash", "[J", true)
  | 19 => ("DayEndBankModel", "interest", "[J", true)
  | 20 => ("DayEndBankModel", "now", "I", false)
  | 21 => ("DayEndBankModel", "ending", "Z", false)
  | 22 => ("DayEndBankModel", "stopped", "Z", false)
  | 23 => ("DayEndBankModel", "left", "I", false)
  | 24 => ("DayEndBankModel", "written", "I", false)
  | 25 => ("DayEndBankModel", "inLog", "I", false)
  | 26 => ("DayEndBankModel", "ended", "I", false)
  | 27 => ("DayEndBankModel", "touched", "I", false)
  | 28 => ("DayEndBankModel", "year", "I", false)
  | 29 => ("DayEndBankModel", "month", "I", false)
  | _ => ("DayEndBankModel", "day", "I", false)
def nt_M : Nat → FieldType := fun k => match k with
  | 0 => .int
  | 1 => .array (.int)
  | 2 => .array (.int)
  | 3 => .array (.int)
  | 4 => .array (.int)
  | 5 => .array (.int)
  | 6 => .array (.long)
  | 7 => .array (.long)
  | 8 => .array (.int)
  | 9 => .array (.int)
  | 10 => .int
  | 11 => .array (.int)
  | 12 => .array (.int)
  | 13 => .array (.int)
  | 14 => .array (.int)
  | 15 => .array (.int)
  | 16 => .int
  | 17 => .array (.int)
  | 18 => .array (.long)
  | 19 => .array (.long)
  | 20 => .int
  | 21 => .boolean
  | 22 => .boolean
  | 23 => .int
  | 24 => .int
  | 25 => .int
  | 26 => .int
  | 27 => .int
  | 28 => .int
  | 29 => .int
  | _ => .int
theorem zw_nmM : ∀ a, a < 31 → ∀ b, b < 31 → a ≠ b → (nT_M a).2.1 ≠ (nT_M b).2.1 := by decide +kernel
theorem zw_tyM : ∀ k, k < 31 → parseFieldDescriptor (nT_M k).2.2.1 = some (nt_M k) := by decide +kernel
abbrev vwCl : List vw_C := [(nR_B, nT_B, 11), (nR_A, nT_A, 9), (nR_H, nT_H, 2), (nR_O, nT_O, 7), (nR_R, nT_R, 2), (nR_D, nT_D, 6), (nR_M, nT_M, 31)]
abbrev nc_B_init : ByteArray := prog_1_method_1_code
def ny_B_init : MethodName := ⟨"DayEndBank", "<init>", "()V"⟩
abbrev nc_R_init : ByteArray := prog_7_method_1_code
def ny_R_init : MethodName := ⟨"DayEndBank$RestDays", "<init>", "()V"⟩
abbrev nc_D_init : ByteArray := prog_4_method_1_code
def ny_D_init : MethodName := ⟨"DayEndBank$Disk", "<init>", "()V"⟩
abbrev nc_A_init : ByteArray := prog_2_method_1_code
def ny_A_init : MethodName := ⟨"DayEndBank$Account", "<init>", "(I)V"⟩
abbrev nc_H_init : ByteArray := prog_5_method_1_code
def ny_H_init : MethodName := ⟨"DayEndBank$Hold", "<init>", "()V"⟩
abbrev nc_O_init : ByteArray := prog_6_method_1_code
def ny_O_init : MethodName := ⟨"DayEndBank$Order", "<init>", "()V"⟩
abbrev nc_B_open : ByteArray := prog_1_method_2_code
def ny_B_open : MethodName := ⟨"DayEndBank", "open", "(IIII)I"⟩
abbrev nc_B_refusalOfChange : ByteArray := prog_1_method_26_code
def ny_B_refusalOfChange : MethodName := ⟨"DayEndBank", "refusalOfChange", "()I"⟩
abbrev nc_B_isCurrency : ByteArray := prog_1_method_23_code
def ny_B_isCurrency : MethodName := ⟨"DayEndBank", "isCurrency", "(I)Z"⟩
abbrev nc_B_isWithin : ByteArray := prog_1_method_22_code
def ny_B_isWithin : MethodName := ⟨"DayEndBank", "isWithin", "(III)Z"⟩
abbrev nc_C_isBasis : ByteArray := prog_3_method_2_code
def ny_C_isBasis : MethodName := ⟨"DayEndBank$Calendar", "isBasis", "(I)Z"⟩
abbrev nc_B_bitOf : ByteArray := prog_1_method_25_code
def ny_B_bitOf : MethodName := ⟨"DayEndBank", "bitOf", "(LDayEndBank$Account;)I"⟩
abbrev nc_D_writeTransaction : ByteArray := prog_4_method_2_code
def ny_D_writeTransaction : MethodName := ⟨"DayEndBank$Disk", "writeTransaction", "(I)Z"⟩
abbrev nc_I_bitCount : ByteArray := prog_10_method_49_code
def ny_I_bitCount : MethodName := ⟨"java/lang/Integer", "bitCount", "(I)I"⟩
abbrev nc_D_writeLines : ByteArray := prog_4_method_3_code
def ny_D_writeLines : MethodName := ⟨"DayEndBank$Disk", "writeLines", "(II)Z"⟩
abbrev nc_D_makeCheckpoint : ByteArray := prog_4_method_4_code
def ny_D_makeCheckpoint : MethodName := ⟨"DayEndBank$Disk", "makeCheckpoint", "()Z"⟩
abbrev nc_D_writeOnce : ByteArray := prog_4_method_5_code
def ny_D_writeOnce : MethodName := ⟨"DayEndBank$Disk", "writeOnce", "()Z"⟩
abbrev nc_B_pay : ByteArray := prog_1_method_3_code
def ny_B_pay : MethodName := ⟨"DayEndBank", "pay", "(III)I"⟩
abbrev nc_B_isPayable : ByteArray := prog_1_method_31_code
def ny_B_isPayable : MethodName := ⟨"DayEndBank", "isPayable", "(II)Z"⟩
abbrev nc_B_isParty : ByteArray := prog_1_method_32_code
def ny_B_isParty : MethodName := ⟨"DayEndBank", "isParty", "(I)Z"⟩
abbrev nc_B_accountOf : ByteArray := prog_1_method_27_code
def ny_B_accountOf : MethodName := ⟨"DayEndBank", "accountOf", "(I)LDayEndBank$Account;"⟩
abbrev nc_B_isAmount : ByteArray := prog_1_method_24_code
def ny_B_isAmount : MethodName := ⟨"DayEndBank", "isAmount", "(I)Z"⟩
abbrev nc_A_spendable : ByteArray := prog_2_method_2_code
def ny_A_spendable : MethodName := ⟨"DayEndBank$Account", "spendable", "()J"⟩
abbrev nc_B_transfer : ByteArray := prog_1_method_34_code
def ny_B_transfer : MethodName := ⟨"DayEndBank", "transfer", "(LDayEndBank$Account;LDayEndBank$Account;I)V"⟩
abbrev nc_B_hold : ByteArray := prog_1_method_4_code
def ny_B_hold : MethodName := ⟨"DayEndBank", "hold", "(II)I"⟩
abbrev nc_B_leastFreeHold : ByteArray := prog_1_method_30_code
def ny_B_leastFreeHold : MethodName := ⟨"DayEndBank", "leastFreeHold", "()I"⟩
abbrev nc_H_begin : ByteArray := prog_5_method_2_code
def ny_H_begin : MethodName := ⟨"DayEndBank$Hold", "begin", "(LDayEndBank$Account;I)V"⟩
abbrev nc_B_release : ByteArray := prog_1_method_5_code
def ny_B_release : MethodName := ⟨"DayEndBank", "release", "(I)I"⟩
abbrev nc_B_standingHold : ByteArray := prog_1_method_29_code
def ny_B_standingHold : MethodName := ⟨"DayEndBank", "standingHold", "(I)LDayEndBank$Hold;"⟩
abbrev nc_H_end : ByteArray := prog_5_method_3_code
def ny_H_end : MethodName := ⟨"DayEndBank$Hold", "end", "()V"⟩
abbrev nc_B_settle : ByteArray := prog_1_method_6_code
def ny_B_settle : MethodName := ⟨"DayEndBank", "settle", "(III)I"⟩
abbrev nc_B_order : ByteArray := prog_1_method_7_code
def ny_B_order : MethodName := ⟨"DayEndBank", "order", "(IIII)I"⟩
abbrev nc_O_make : ByteArray := prog_6_method_2_code
def ny_O_make : MethodName := ⟨"DayEndBank$Order", "make", "(LDayEndBank$Account;LDayEndBank$Account;II)V"⟩
abbrev nc_B_rest : ByteArray := prog_1_method_8_code
def ny_B_rest : MethodName := ⟨"DayEndBank", "rest", "(I)I"⟩
abbrev nc_R_isRest : ByteArray := prog_7_method_4_code
def ny_R_isRest : MethodName := ⟨"DayEndBank$RestDays", "isRest", "(I)Z"⟩
abbrev nc_R_wasMade : ByteArray := prog_7_method_5_code
def ny_R_wasMade : MethodName := ⟨"DayEndBank$RestDays", "wasMade", "(I)Z"⟩
abbrev nc_B_isInLaterMonth : ByteArray := prog_1_method_33_code
def ny_B_isInLaterMonth : MethodName := ⟨"DayEndBank", "isInLaterMonth", "(I)Z"⟩
abbrev nc_C_monthAndDay : ByteArray := prog_3_method_9_code
def ny_C_monthAndDay : MethodName := ⟨"DayEndBank$Calendar", "monthAndDay", "(I)I"⟩
abbrev nc_T_floorDiv : ByteArray := prog_11_method_47_code
def ny_T_floorDiv : MethodName := ⟨"java/lang/Math", "floorDiv", "(II)I"⟩
abbrev nc_T_floorMod : ByteArray := prog_11_method_50_code
def ny_T_floorMod : MethodName := ⟨"java/lang/Math", "floorMod", "(II)I"⟩
abbrev nc_C_monthIn : ByteArray := prog_3_method_7_code
def ny_C_monthIn : MethodName := ⟨"DayEndBank$Calendar", "monthIn", "(I)I"⟩
abbrev nc_R_isFull : ByteArray := prog_7_method_2_code
def ny_R_isFull : MethodName := ⟨"DayEndBank$RestDays", "isFull", "()Z"⟩
abbrev nc_R_add : ByteArray := prog_7_method_3_code
def ny_R_add : MethodName := ⟨"DayEndBank$RestDays", "add", "(I)V"⟩
abbrev nc_B_run : ByteArray := prog_1_method_9_code
def ny_B_run : MethodName := ⟨"DayEndBank", "run", "(I)I"⟩
abbrev nc_B_makeDayEnd : ByteArray := prog_1_method_36_code
def ny_B_makeDayEnd : MethodName := ⟨"DayEndBank", "makeDayEnd", "()Z"⟩
abbrev nc_B_makeStep : ByteArray := prog_1_method_37_code
def ny_B_makeStep : MethodName := ⟨"DayEndBank", "makeStep", "(LDayEndBank$Account;)Z"⟩
abbrev nc_B_planOrders : ByteArray := prog_1_method_38_code
def ny_B_planOrders : MethodName := ⟨"DayEndBank", "planOrders", "(LDayEndBank$Account;)V"⟩
abbrev nc_R_dueDate : ByteArray := prog_7_method_6_code
def ny_R_dueDate : MethodName := ⟨"DayEndBank$RestDays", "dueDate", "(II)I"⟩
abbrev nc_C_dayIn : ByteArray := prog_3_method_8_code
def ny_C_dayIn : MethodName := ⟨"DayEndBank$Calendar", "dayIn", "(I)I"⟩
abbrev nc_T_min : ByteArray := prog_11_method_69_code
def ny_T_min : MethodName := ⟨"java/lang/Math", "min", "(II)I"⟩
abbrev nc_B_writeStep : ByteArray := prog_1_method_39_code
def ny_B_writeStep : MethodName := ⟨"DayEndBank", "writeStep", "(LDayEndBank$Account;)Z"⟩
abbrev nc_B_carryOutOrders : ByteArray := prog_1_method_40_code
def ny_B_carryOutOrders : MethodName := ⟨"DayEndBank", "carryOutOrders", "()V"⟩
abbrev nc_C_dayCount : ByteArray := prog_3_method_4_code
def ny_C_dayCount : MethodName := ⟨"DayEndBank$Calendar", "dayCount", "(III)I"⟩
abbrev nc_C_countByMonths : ByteArray := prog_3_method_5_code
def ny_C_countByMonths : MethodName := ⟨"DayEndBank$Calendar", "countByMonths", "(II)I"⟩
abbrev nc_A_accrue : ByteArray := prog_2_method_3_code
def ny_A_accrue : MethodName := ⟨"DayEndBank$Account", "accrue", "(I)V"⟩
abbrev nc_C_isLastOfMonth : ByteArray := prog_3_method_6_code
def ny_C_isLastOfMonth : MethodName := ⟨"DayEndBank$Calendar", "isLastOfMonth", "(I)Z"⟩
abbrev nc_A_takeInterest : ByteArray := prog_2_method_4_code
def ny_A_takeInterest : MethodName := ⟨"DayEndBank$Account", "takeInterest", "()J"⟩
abbrev nc_C_yearOf : ByteArray := prog_3_method_3_code
def ny_C_yearOf : MethodName := ⟨"DayEndBank$Calendar", "yearOf", "(I)I"⟩
abbrev nc_A_nearest : ByteArray := prog_2_method_5_code
def ny_A_nearest : MethodName := ⟨"DayEndBank$Account", "nearest", "(JJ)J"⟩
abbrev nc_T_floorDivL : ByteArray := prog_11_method_49_code
def ny_T_floorDivL : MethodName := ⟨"java/lang/Math", "floorDiv", "(JJ)J"⟩
abbrev nc_B_fuse : ByteArray := prog_1_method_10_code
def ny_B_fuse : MethodName := ⟨"DayEndBank", "fuse", "(I)Z"⟩
abbrev nc_B_restart : ByteArray := prog_1_method_11_code
def ny_B_restart : MethodName := ⟨"DayEndBank", "restart", "()I"⟩
abbrev nc_B_balance : ByteArray := prog_1_method_12_code
def ny_B_balance : MethodName := ⟨"DayEndBank", "balance", "(I)J"⟩
abbrev nc_B_shownAccount : ByteArray := prog_1_method_28_code
def ny_B_shownAccount : MethodName := ⟨"DayEndBank", "shownAccount", "(I)LDayEndBank$Account;"⟩
abbrev nc_B_available : ByteArray := prog_1_method_13_code
def ny_B_available : MethodName := ⟨"DayEndBank", "available", "(I)J"⟩
abbrev nc_B_accrued : ByteArray := prog_1_method_14_code
def ny_B_accrued : MethodName := ⟨"DayEndBank", "accrued", "(I)J"⟩
abbrev nc_B_mark : ByteArray := prog_1_method_15_code
def ny_B_mark : MethodName := ⟨"DayEndBank", "mark", "(I)I"⟩
abbrev nc_B_ledger : ByteArray := prog_1_method_16_code
def ny_B_ledger : MethodName := ⟨"DayEndBank", "ledger", "(II)J"⟩
abbrev nc_B_sumOfBalances : ByteArray := prog_1_method_35_code
def ny_B_sumOfBalances : MethodName := ⟨"DayEndBank", "sumOfBalances", "(I)J"⟩
abbrev nc_B_missed : ByteArray := prog_1_method_17_code
def ny_B_missed : MethodName := ⟨"DayEndBank", "missed", "(I)I"⟩
abbrev nc_B_today : ByteArray := prog_1_method_18_code
def ny_B_today : MethodName := ⟨"DayEndBank", "today", "()I"⟩
abbrev nc_B_count : ByteArray := prog_1_method_19_code
def ny_B_count : MethodName := ⟨"DayEndBank", "count", "(III)I"⟩
abbrev nc_B_writes : ByteArray := prog_1_method_20_code
def ny_B_writes : MethodName := ⟨"DayEndBank", "writes", "()I"⟩
abbrev nc_B_lines : ByteArray := prog_1_method_21_code
def ny_B_lines : MethodName := ⟨"DayEndBank", "lines", "()I"⟩
abbrev nc_M_init : ByteArray := prog_9_method_1_code
def ny_M_init : MethodName := ⟨"DayEndBankModel", "<init>", "()V"⟩
abbrev nc_M_open : ByteArray := prog_9_method_15_code
def ny_M_open : MethodName := ⟨"DayEndBankModel", "open", "(IIII)I"⟩
abbrev nc_M_shut : ByteArray := prog_9_method_11_code
def ny_M_shut : MethodName := ⟨"DayEndBankModel", "shut", "()I"⟩
abbrev nc_M_comes : ByteArray := prog_9_method_10_code
def ny_M_comes : MethodName := ⟨"DayEndBankModel", "comes", "(II)Z"⟩
abbrev nc_M_afford : ByteArray := prog_9_method_9_code
def ny_M_afford : MethodName := ⟨"DayEndBankModel", "afford", "(I)Z"⟩
abbrev nc_M_spend : ByteArray := prog_9_method_8_code
def ny_M_spend : MethodName := ⟨"DayEndBankModel", "spend", "(I)V"⟩
abbrev nc_M_pay : ByteArray := prog_9_method_20_code
def ny_M_pay : MethodName := ⟨"DayEndBankModel", "pay", "(III)I"⟩
abbrev nc_M_pair : ByteArray := prog_9_method_16_code
def ny_M_pair : MethodName := ⟨"DayEndBankModel", "pair", "(II)Z"⟩
abbrev nc_M_is : ByteArray := prog_9_method_12_code
def ny_M_is : MethodName := ⟨"DayEndBankModel", "is", "(I)Z"⟩
abbrev nc_M_amountOk : ByteArray := prog_9_method_13_code
def ny_M_amountOk : MethodName := ⟨"DayEndBankModel", "amountOk", "(I)Z"⟩
abbrev nc_M_free : ByteArray := prog_9_method_14_code
def ny_M_free : MethodName := ⟨"DayEndBankModel", "free", "(I)J"⟩
abbrev nc_M_linesOf : ByteArray := prog_9_method_17_code
def ny_M_linesOf : MethodName := ⟨"DayEndBankModel", "linesOf", "(II)I"⟩
abbrev nc_M_setOf : ByteArray := prog_9_method_18_code
def ny_M_setOf : MethodName := ⟨"DayEndBankModel", "setOf", "(II)I"⟩
abbrev nc_M_transfer : ByteArray := prog_9_method_19_code
def ny_M_transfer : MethodName := ⟨"DayEndBankModel", "transfer", "(III)V"⟩
abbrev nc_M_hold : ByteArray := prog_9_method_21_code
def ny_M_hold : MethodName := ⟨"DayEndBankModel", "hold", "(II)I"⟩
abbrev nc_M_release : ByteArray := prog_9_method_23_code
def ny_M_release : MethodName := ⟨"DayEndBankModel", "release", "(I)I"⟩
abbrev nc_M_stands : ByteArray := prog_9_method_22_code
def ny_M_stands : MethodName := ⟨"DayEndBankModel", "stands", "(I)Z"⟩
abbrev nc_M_settle : ByteArray := prog_9_method_24_code
def ny_M_settle : MethodName := ⟨"DayEndBankModel", "settle", "(III)I"⟩
abbrev nc_M_order : ByteArray := prog_9_method_25_code
def ny_M_order : MethodName := ⟨"DayEndBankModel", "order", "(IIII)I"⟩
abbrev nc_M_rest : ByteArray := prog_9_method_27_code
def ny_M_rest : MethodName := ⟨"DayEndBankModel", "rest", "(I)I"⟩
abbrev nc_M_resting : ByteArray := prog_9_method_6_code
def ny_M_resting : MethodName := ⟨"DayEndBankModel", "resting", "(I)Z"⟩
abbrev nc_M_later : ByteArray := prog_9_method_26_code
def ny_M_later : MethodName := ⟨"DayEndBankModel", "later", "(I)Z"⟩
abbrev nc_M_walk : ByteArray := prog_9_method_4_code
def ny_M_walk : MethodName := ⟨"DayEndBankModel", "walk", "(I)V"⟩
abbrev nc_M_leap : ByteArray := prog_9_method_2_code
def ny_M_leap : MethodName := ⟨"DayEndBankModel", "leap", "(I)Z"⟩
abbrev nc_M_length : ByteArray := prog_9_method_3_code
def ny_M_length : MethodName := ⟨"DayEndBankModel", "length", "(II)I"⟩
abbrev nc_M_run : ByteArray := prog_9_method_32_code
def ny_M_run : MethodName := ⟨"DayEndBankModel", "run", "(I)I"⟩
abbrev nc_M_dayEnd : ByteArray := prog_9_method_31_code
def ny_M_dayEnd : MethodName := ⟨"DayEndBankModel", "dayEnd", "()Z"⟩
abbrev nc_M_step : ByteArray := prog_9_method_29_code
def ny_M_step : MethodName := ⟨"DayEndBankModel", "step", "(I)Z"⟩
abbrev nc_M_paidOrders : ByteArray := prog_9_method_28_code
def ny_M_paidOrders : MethodName := ⟨"DayEndBankModel", "paidOrders", "(I)I"⟩
abbrev nc_M_due : ByteArray := prog_9_method_7_code
def ny_M_due : MethodName := ⟨"DayEndBankModel", "due", "(I)Z"⟩
abbrev nc_M_grow : ByteArray := prog_9_method_30_code
def ny_M_grow : MethodName := ⟨"DayEndBankModel", "grow", "(I)V"⟩
abbrev nc_M_days : ByteArray := prog_9_method_5_code
def ny_M_days : MethodName := ⟨"DayEndBankModel", "days", "(III)I"⟩
abbrev nc_M_fuse : ByteArray := prog_9_method_33_code
def ny_M_fuse : MethodName := ⟨"DayEndBankModel", "fuse", "(I)Z"⟩
abbrev nc_M_restart : ByteArray := prog_9_method_34_code
def ny_M_restart : MethodName := ⟨"DayEndBankModel", "restart", "()I"⟩
abbrev nc_M_balance : ByteArray := prog_9_method_35_code
def ny_M_balance : MethodName := ⟨"DayEndBankModel", "balance", "(I)J"⟩
abbrev nc_M_available : ByteArray := prog_9_method_36_code
def ny_M_available : MethodName := ⟨"DayEndBankModel", "available", "(I)J"⟩
abbrev nc_M_accrued : ByteArray := prog_9_method_37_code
def ny_M_accrued : MethodName := ⟨"DayEndBankModel", "accrued", "(I)J"⟩
abbrev nc_M_mark : ByteArray := prog_9_method_38_code
def ny_M_mark : MethodName := ⟨"DayEndBankModel", "mark", "(I)I"⟩
abbrev nc_M_ledger : ByteArray := prog_9_method_39_code
def ny_M_ledger : MethodName := ⟨"DayEndBankModel", "ledger", "(II)J"⟩
abbrev nc_M_missed : ByteArray := prog_9_method_40_code
def ny_M_missed : MethodName := ⟨"DayEndBankModel", "missed", "(I)I"⟩
abbrev nc_M_today : ByteArray := prog_9_method_41_code
def ny_M_today : MethodName := ⟨"DayEndBankModel", "today", "()I"⟩
abbrev nc_M_count : ByteArray := prog_9_method_42_code
def ny_M_count : MethodName := ⟨"DayEndBankModel", "count", "(III)I"⟩
abbrev nc_M_writes : ByteArray := prog_9_method_43_code
def ny_M_writes : MethodName := ⟨"DayEndBankModel", "writes", "()I"⟩
abbrev nc_M_lines : ByteArray := prog_9_method_44_code
def ny_M_lines : MethodName := ⟨"DayEndBankModel", "lines", "()I"⟩
abbrev nc_L_law : ByteArray := code
def ny_L_law : MethodName := ⟨"DayEndBankLaw", "law", "([I)Z"⟩
def zw_tb : List Cond := tables_1.filter goodWord
def zw_big : List Cond := k2_sels lw_privs ++ zw_tb
theorem zw_selgood : (k2_sels lw_privs).all goodWord = true := by decide +kernel
theorem zw_allgood : zw_big.all goodWord = true := List.all_eq_true.mpr (fun w hw => (List.mem_append.mp hw).elim (fun h => List.all_eq_true.mp zw_selgood w h) (fun h => (List.mem_filter.mp h).2))
theorem zw_in_tbl : ∀ w ∈ zw_big, w ∈ lw_tbl := by
  intro w hw
  rcases List.mem_append.mp hw with h | h
  · exact List.mem_append_left _ h
  · exact List.mem_append_right _ (List.mem_filter.mp h).1
theorem zw_mem {w : Cond} (h : w ∈ tables_1) (hg : goodWord w = true) : w ∈ zw_big := List.mem_append_right _ (List.mem_filter.mpr ⟨h, hg⟩)
end
section
theorem nw_0 : Cond.initialized "DayEndBankLaw" ∈ zw_big := zw_mem (List.mem_append_left _ (List.mem_of_getElem? (i := 0) (by decide +kernel))) (by decide +kernel)
theorem nw_1 : Cond.initialized "DayEndBank" ∈ zw_big := zw_mem (List.mem_append_left _ (List.mem_of_getElem? (i := 1) (by decide +kernel))) (by decide +kernel)
theorem nw_2 : Cond.initialized "DayEndBank$RestDays" ∈ zw_big := zw_mem (List.mem_append_left _ (List.mem_of_getElem? (i := 2) (by decide +kernel))) (by decide +kernel)
theorem nw_3 : Cond.initialized "DayEndBank$Disk" ∈ zw_big := zw_mem (List.mem_append_left _ (List.mem_of_getElem? (i := 3) (by decide +kernel))) (by decide +kernel)
theorem nw_4 : Cond.initialized "DayEndBank$Account" ∈ zw_big := zw_mem (List.mem_append_left _ (List.mem_of_getElem? (i := 4) (by decide +kernel))) (by decide +kernel)
theorem nw_5 : Cond.initialized "DayEndBank$Hold" ∈ zw_big := zw_mem (List.mem_append_left _ (List.mem_of_getElem? (i := 5) (by decide +kernel))) (by decide +kernel)
theorem nw_6 : Cond.initialized "DayEndBank$Order" ∈ zw_big := zw_mem (List.mem_append_left _ (List.mem_of_getElem? (i := 6) (by decide +kernel))) (by decide +kernel)
theorem nw_7 : Cond.initialized "DayEndBankModel" ∈ zw_big := zw_mem (List.mem_append_left _ (List.mem_of_getElem? (i := 7) (by decide +kernel))) (by decide +kernel)
theorem nw_8 : Cond.initialized "DayEndBank$Calendar" ∈ zw_big := zw_mem (List.mem_append_left _ (List.mem_of_getElem? (i := 8) (by decide +kernel))) (by decide +kernel)
theorem nw_9 : Cond.initialized "java/lang/Integer" ∈ zw_big := zw_mem (List.mem_append_left _ (List.mem_of_getElem? (i := 9) (by decide +kernel))) (by decide +kernel)
theorem nw_10 : Cond.initialized "java/lang/Math" ∈ zw_big := zw_mem (List.mem_append_left _ (List.mem_of_getElem? (i := 10) (by decide +kernel))) (by decide +kernel)
theorem nw_13 : Cond.methodLink "DayEndBankLaw" 9 ny_B_init ∈ zw_big := zw_mem (List.mem_append_left _ (List.mem_of_getElem? (i := 13) (by decide +kernel))) (by decide +kernel)
theorem nw_14 : Cond.instanceMethod ny_B_init ∈ zw_big := zw_mem (List.mem_append_left _ (List.mem_of_getElem? (i := 14) (by decide +kernel))) (by decide +kernel)
theorem nw_15 : Cond.code ny_B_init nc_B_init 2 none ∈ zw_big := zw_mem (List.mem_append_left _ (List.mem_of_getElem? (i := 15) (by decide +kernel))) (by decide +kernel)
theorem nw_28 : Cond.instanceMethod ny_R_init ∈ zw_big := zw_mem (List.mem_append_left _ (List.mem_of_getElem? (i := 28) (by decide +kernel))) (by decide +kernel)
theorem nw_29 : Cond.code ny_R_init nc_R_init 1 none ∈ zw_big := zw_mem (List.mem_append_left _ (List.mem_of_getElem? (i := 29) (by decide +kernel))) (by decide +kernel)
theorem nw_31 : Cond.fieldLink "DayEndBank$RestDays" 9 "DayEndBank$RestDays" "dates" "[I" ∈ zw_big := zw_mem (List.mem_append_left _ (List.mem_of_getElem? (i := 31) (by decide +kernel))) (by decide +kernel)
theorem nw_32 : Cond.fieldLink "DayEndBank$RestDays" 13 "DayEndBank$RestDays" "datesMade" "I" ∈ zw_big := zw_mem (List.mem_append_left _ (List.mem_of_getElem? (i := 32) (by decide +kernel))) (by decide +kernel)
theorem nw_33 : Cond.laysFinal "DayEndBank$RestDays" "DayEndBank$RestDays" "dates" "[I" ∈ zw_big := zw_mem (List.mem_append_left _ (List.mem_of_getElem? (i := 33) (by decide +kernel))) (by decide +kernel)
theorem nw_35 : Cond.lays "DayEndBank$RestDays" "DayEndBank$RestDays" "datesMade" "I" ∈ zw_big := zw_mem (List.mem_append_left _ (List.mem_of_getElem? (i := 35) (by decide +kernel))) (by decide +kernel)
theorem nw_42 : Cond.instanceMethod ny_D_init ∈ zw_big := zw_mem (List.mem_append_left _ (List.mem_of_getElem? (i := 42) (by decide +kernel))) (by decide +kernel)
theorem nw_43 : Cond.code ny_D_init nc_D_init 1 none ∈ zw_big := zw_mem (List.mem_append_left _ (List.mem_of_getElem? (i := 43) (by decide +kernel))) (by decide +kernel)
theorem nw_45 : Cond.fieldLink "DayEndBank$Disk" 39 "DayEndBank$Disk" "stopped" "Z" ∈ zw_big := zw_mem (List.mem_append_left _ (List.mem_of_getElem? (i := 45) (by decide +kernel))) (by decide +kernel)
theorem nw_46 : Cond.fieldLink "DayEndBank" 163 "DayEndBank$Disk" "stopped" "Z" ∈ zw_big := zw_mem (List.mem_append_left _ (List.mem_of_getElem? (i := 46) (by decide +kernel))) (by decide +kernel)
theorem nw_47 : Cond.fieldLink "DayEndBank$Disk" 43 "DayEndBank$Disk" "writesMade" "I" ∈ zw_big := zw_mem (List.mem_append_left _ (List.mem_of_getElem? (i := 47) (by decide +kernel))) (by decide +kernel)
theorem nw_48 : Cond.fieldLink "DayEndBank" 198 "DayEndBank$Disk" "writesMade" "I" ∈ zw_big := zw_mem (List.mem_append_left _ (List.mem_of_getElem? (i := 48) (by decide +kernel))) (by decide +kernel)
theorem nw_49 : Cond.fieldLink "DayEndBank$Disk" 9 "DayEndBank$Disk" "writesLeft" "I" ∈ zw_big := zw_mem (List.mem_append_left _ (List.mem_of_getElem? (i := 49) (by decide +kernel))) (by decide +kernel)
theorem nw_50 : Cond.fieldLink "DayEndBank" 170 "DayEndBank$Disk" "writesLeft" "I" ∈ zw_big := zw_mem (List.mem_append_left _ (List.mem_of_getElem? (i := 50) (by decide +kernel))) (by decide +kernel)
theorem nw_51 : Cond.fieldLink "DayEndBank$Disk" 23 "DayEndBank$Disk" "linesInLog" "I" ∈ zw_big := zw_mem (List.mem_append_left _ (List.mem_of_getElem? (i := 51) (by decide +kernel))) (by decide +kernel)
theorem nw_52 : Cond.fieldLink "DayEndBank" 201 "DayEndBank$Disk" "linesInLog" "I" ∈ zw_big := zw_mem (List.mem_append_left _ (List.mem_of_getElem? (i := 52) (by decide +kernel))) (by decide +kernel)
theorem nw_53 : Cond.fieldLink "DayEndBank$Disk" 33 "DayEndBank$Disk" "transactionsInLog" "I" ∈ zw_big := zw_mem (List.mem_append_left _ (List.mem_of_getElem? (i := 53) (by decide +kernel))) (by decide +kernel)
theorem nw_54 : Cond.fieldLink "DayEndBank" 173 "DayEndBank$Disk" "transactionsInLog" "I" ∈ zw_big := zw_mem (List.mem_append_left _ (List.mem_of_getElem? (i := 54) (by decide +kernel))) (by decide +kernel)
theorem nw_55 : Cond.fieldLink "DayEndBank$Disk" 36 "DayEndBank$Disk" "changedInLog" "I" ∈ zw_big := zw_mem (List.mem_append_left _ (List.mem_of_getElem? (i := 55) (by decide +kernel))) (by decide +kernel)
theorem nw_56 : Cond.lays "DayEndBank$Disk" "DayEndBank$Disk" "stopped" "Z" ∈ zw_big := zw_mem (List.mem_append_left _ (List.mem_of_getElem? (i := 56) (by decide +kernel))) (by decide +kernel)
theorem nw_58 : Cond.lays "DayEndBank$Disk" "DayEndBank$Disk" "writesMade" "I" ∈ zw_big := zw_mem (List.mem_append_left _ (List.mem_of_getElem? (i := 58) (by decide +kernel))) (by decide +kernel)
theorem nw_60 : Cond.lays "DayEndBank$Disk" "DayEndBank$Disk" "writesLeft" "I" ∈ zw_big := zw_mem (List.mem_append_left _ (List.mem_of_getElem? (i := 60) (by decide +kernel))) (by decide +kernel)
theorem nw_62 : Cond.lays "DayEndBank$Disk" "DayEndBank$Disk" "linesInLog" "I" ∈ zw_big := zw_mem (List.mem_append_left _ (List.mem_of_getElem? (i := 62) (by decide +kernel))) (by decide +kernel)
theorem nw_64 : Cond.lays "DayEndBank$Disk" "DayEndBank$Disk" "transactionsInLog" "I" ∈ zw_big := zw_mem (List.mem_append_left _ (List.mem_of_getElem? (i := 64) (by decide +kernel))) (by decide +kernel)
theorem nw_66 : Cond.lays "DayEndBank$Disk" "DayEndBank$Disk" "changedInLog" "I" ∈ zw_big := zw_mem (List.mem_append_left _ (List.mem_of_getElem? (i := 66) (by decide +kernel))) (by decide +kernel)
theorem nw_70 : Cond.methodLink "DayEndBank" 48 ny_A_init ∈ zw_big := zw_mem (List.mem_append_left _ (List.mem_of_getElem? (i := 70) (by decide +kernel))) (by decide +kernel)
theorem nw_71 : Cond.instanceMethod ny_A_init ∈ zw_big := zw_mem (List.mem_append_left _ (List.mem_of_getElem? (i := 71) (by decide +kernel))) (by decide +kernel)
theorem nw_72 : Cond.code ny_A_init nc_A_init 2 none ∈ zw_big := zw_mem (List.mem_append_left _ (List.mem_of_getElem? (i := 72) (by decide +kernel))) (by decide +kernel)
theorem nw_74 : Cond.fieldLink "DayEndBank$Account" 7 "DayEndBank$Account" "number" "I" ∈ zw_big := zw_mem (List.mem_append_left _ (List.mem_of_getElem? (i := 74) (by decide +kernel))) (by decide +kernel)
theorem nw_75 : Cond.fieldLink "DayEndBank" 100 "DayEndBank$Account" "number" "I" ∈ zw_big := zw_mem (List.mem_append_left _ (List.mem_of_getElem? (i := 75) (by decide +kernel))) (by decide +kernel)
theorem nw_76 : Cond.fieldLink "DayEndBank" 82 "DayEndBank$Account" "currency" "I" ∈ zw_big := zw_mem (List.mem_append_left _ (List.mem_of_getElem? (i := 76) (by decide +kernel))) (by decide +kernel)
theorem nw_77 : Cond.fieldLink "DayEndBank" 85 "DayEndBank$Account" "basis" "I" ∈ zw_big := zw_mem (List.mem_append_left _ (List.mem_of_getElem? (i := 77) (by decide +kernel))) (by decide +kernel)
theorem nw_78 : Cond.fieldLink "DayEndBank$Account" 31 "DayEndBank$Account" "basis" "I" ∈ zw_big := zw_mem (List.mem_append_left _ (List.mem_of_getElem? (i := 78) (by decide +kernel))) (by decide +kernel)
theorem nw_79 : Cond.fieldLink "DayEndBank$Account" 17 "DayEndBank$Account" "limit" "I" ∈ zw_big := zw_mem (List.mem_append_left _ (List.mem_of_getElem? (i := 79) (by decide +kernel))) (by decide +kernel)
theorem nw_80 : Cond.fieldLink "DayEndBank" 88 "DayEndBank$Account" "limit" "I" ∈ zw_big := zw_mem (List.mem_append_left _ (List.mem_of_getElem? (i := 80) (by decide +kernel))) (by decide +kernel)
theorem nw_81 : Cond.fieldLink "DayEndBank" 91 "DayEndBank$Account" "rate" "I" ∈ zw_big := zw_mem (List.mem_append_left _ (List.mem_of_getElem? (i := 81) (by decide +kernel))) (by decide +kernel)
theorem nw_82 : Cond.fieldLink "DayEndBank$Account" 26 "DayEndBank$Account" "rate" "I" ∈ zw_big := zw_mem (List.mem_append_left _ (List.mem_of_getElem? (i := 82) (by decide +kernel))) (by decide +kernel)
theorem nw_83 : Cond.fieldLink "DayEndBank$Account" 13 "DayEndBank$Account" "balance" "J" ∈ zw_big := zw_mem (List.mem_append_left _ (List.mem_of_getElem? (i := 83) (by decide +kernel))) (by decide +kernel)
theorem nw_84 : Cond.fieldLink "DayEndBank" 179 "DayEndBank$Account" "balance" "J" ∈ zw_big := zw_mem (List.mem_append_left _ (List.mem_of_getElem? (i := 84) (by decide +kernel))) (by decide +kernel)
theorem nw_85 : Cond.fieldLink "DayEndBank$Account" 20 "DayEndBank$Account" "held" "J" ∈ zw_big := zw_mem (List.mem_append_left _ (List.mem_of_getElem? (i := 85) (by decide +kernel))) (by decide +kernel)
theorem nw_86 : Cond.fieldLink "DayEndBank$Hold" 17 "DayEndBank$Account" "held" "J" ∈ zw_big := zw_mem (List.mem_append_left _ (List.mem_of_getElem? (i := 86) (by decide +kernel))) (by decide +kernel)
theorem nw_87 : Cond.fieldLink "DayEndBank$Account" 23 "DayEndBank$Account" "accrual" "J" ∈ zw_big := zw_mem (List.mem_append_left _ (List.mem_of_getElem? (i := 87) (by decide +kernel))) (by decide +kernel)
theorem nw_88 : Cond.fieldLink "DayEndBank" 183 "DayEndBank$Account" "accrual" "J" ∈ zw_big := zw_mem (List.mem_append_left _ (List.mem_of_getElem? (i := 88) (by decide +kernel))) (by decide +kernel)
theorem nw_89 : Cond.fieldLink "DayEndBank" 97 "DayEndBank$Account" "mark" "I" ∈ zw_big := zw_mem (List.mem_append_left _ (List.mem_of_getElem? (i := 89) (by decide +kernel))) (by decide +kernel)
theorem nw_90 : Cond.laysFinal "DayEndBank$Account" "DayEndBank$Account" "number" "I" ∈ zw_big := zw_mem (List.mem_append_left _ (List.mem_of_getElem? (i := 90) (by decide +kernel))) (by decide +kernel)
theorem nw_92 : Cond.lays "DayEndBank$Account" "DayEndBank$Account" "currency" "I" ∈ zw_big := zw_mem (List.mem_append_left _ (List.mem_of_getElem? (i := 92) (by decide +kernel))) (by decide +kernel)
theorem nw_94 : Cond.lays "DayEndBank$Account" "DayEndBank$Account" "basis" "I" ∈ zw_big := zw_mem (List.mem_append_left _ (List.mem_of_getElem? (i := 94) (by decide +kernel))) (by decide +kernel)
theorem nw_96 : Cond.lays "DayEndBank$Account" "DayEndBank$Account" "limit" "I" ∈ zw_big := zw_mem (List.mem_append_left _ (List.mem_of_getElem? (i := 96) (by decide +kernel))) (by decide +kernel)
theorem nw_98 : Cond.lays "DayEndBank$Account" "DayEndBank$Account" "rate" "I" ∈ zw_big := zw_mem (List.mem_append_left _ (List.mem_of_getElem? (i := 98) (by decide +kernel))) (by decide +kernel)
theorem nw_100 : Cond.lays "DayEndBank$Account" "DayEndBank$Account" "balance" "J" ∈ zw_big := zw_mem (List.mem_append_left _ (List.mem_of_getElem? (i := 100) (by decide +kernel))) (by decide +kernel)
theorem nw_102 : Cond.lays "DayEndBank$Account" "DayEndBank$Account" "held" "J" ∈ zw_big := zw_mem (List.mem_append_left _ (List.mem_of_getElem? (i := 102) (by decide +kernel))) (by decide +kernel)
theorem nw_104 : Cond.lays "DayEndBank$Account" "DayEndBank$Account" "accrual" "J" ∈ zw_big := zw_mem (List.mem_append_left _ (List.mem_of_getElem? (i := 104) (by decide +kernel))) (by decide +kernel)
theorem nw_106 : Cond.lays "DayEndBank$Account" "DayEndBank$Account" "mark" "I" ∈ zw_big := zw_mem (List.mem_append_left _ (List.mem_of_getElem? (i := 106) (by decide +kernel))) (by decide +kernel)
theorem nw_112 : Cond.instanceMethod ny_H_init ∈ zw_big := zw_mem (List.mem_append_left _ (List.mem_of_getElem? (i := 112) (by decide +kernel))) (by decide +kernel)
theorem nw_113 : Cond.code ny_H_init nc_H_init 1 none ∈ zw_big := zw_mem (List.mem_append_left _ (List.mem_of_getElem? (i := 113) (by decide +kernel))) (by decide +kernel)
theorem nw_115 : Cond.fieldLink "DayEndBank$Hold" 7 "DayEndBank$Hold" "holder" "LDayEndBank$Account;" ∈ zw_big := zw_mem (List.mem_append_left _ (List.mem_of_getElem? (i := 115) (by decide +kernel))) (by decide +kernel)
theorem nw_116 : Cond.fieldLink "DayEndBank" 133 "DayEndBank$Hold" "holder" "LDayEndBank$Account;" ∈ zw_big := zw_mem (List.mem_append_left _ (List.mem_of_getElem? (i := 116) (by decide +kernel))) (by decide +kernel)
theorem nw_117 : Cond.fieldLink "DayEndBank$Hold" 13 "DayEndBank$Hold" "amount" "I" ∈ zw_big := zw_mem (List.mem_append_left _ (List.mem_of_getElem? (i := 117) (by decide +kernel))) (by decide +kernel)
theorem nw_118 : Cond.fieldLink "DayEndBank" 140 "DayEndBank$Hold" "amount" "I" ∈ zw_big := zw_mem (List.mem_append_left _ (List.mem_of_getElem? (i := 118) (by decide +kernel))) (by decide +kernel)
theorem nw_119 : Cond.lays "DayEndBank$Hold" "DayEndBank$Hold" "holder" "LDayEndBank$Account;" ∈ zw_big := zw_mem (List.mem_append_left _ (List.mem_of_getElem? (i := 119) (by decide +kernel))) (by decide +kernel)
theorem nw_121 : Cond.lays "DayEndBank$Hold" "DayEndBank$Hold" "amount" "I" ∈ zw_big := zw_mem (List.mem_append_left _ (List.mem_of_getElem? (i := 121) (by decide +kernel))) (by decide +kernel)
theorem nw_126 : Cond.instanceMethod ny_O_init ∈ zw_big := zw_mem (List.mem_append_left _ (List.mem_of_getElem? (i := 126) (by decide +kernel))) (by decide +kernel)
theorem nw_127 : Cond.code ny_O_init nc_O_init 1 none ∈ zw_big := zw_mem (List.mem_append_left _ (List.mem_of_getElem? (i := 127) (by decide +kernel))) (by decide +kernel)
theorem nw_129 : Cond.fieldLink "DayEndBank$Order" 7 "DayEndBank$Order" "payer" "LDayEndBank$Account;" ∈ zw_big := zw_mem (List.mem_append_left _ (List.mem_of_getElem? (i := 129) (by decide +kernel))) (by decide +kernel)
theorem nw_130 : Cond.fieldLink "DayEndBank" 240 "DayEndBank$Order" "payer" "LDayEndBank$Account;" ∈ zw_big := zw_mem (List.mem_append_left _ (List.mem_of_getElem? (i := 130) (by decide +kernel))) (by decide +kernel)
theorem nw_131 : Cond.fieldLink "DayEndBank$Order" 13 "DayEndBank$Order" "payee" "LDayEndBank$Account;" ∈ zw_big := zw_mem (List.mem_append_left _ (List.mem_of_getElem? (i := 131) (by decide +kernel))) (by decide +kernel)
theorem nw_132 : Cond.fieldLink "DayEndBank" 257 "DayEndBank$Order" "payee" "LDayEndBank$Account;" ∈ zw_big := zw_mem (List.mem_append_left _ (List.mem_of_getElem? (i := 132) (by decide +kernel))) (by decide +kernel)
theorem nw_133 : Cond.fieldLink "DayEndBank$Order" 16 "DayEndBank$Order" "amount" "I" ∈ zw_big := zw_mem (List.mem_append_left _ (List.mem_of_getElem? (i := 133) (by decide +kernel))) (by decide +kernel)
theorem nw_134 : Cond.fieldLink "DayEndBank" 253 "DayEndBank$Order" "amount" "I" ∈ zw_big := zw_mem (List.mem_append_left _ (List.mem_of_getElem? (i := 134) (by decide +kernel))) (by decide +kernel)
theorem nw_135 : Cond.fieldLink "DayEndBank$Order" 20 "DayEndBank$Order" "day" "I" ∈ zw_big := zw_mem (List.mem_append_left _ (List.mem_of_getElem? (i := 135) (by decide +kernel))) (by decide +kernel)
theorem nw_136 : Cond.fieldLink "DayEndBank" 243 "DayEndBank$Order" "day" "I" ∈ zw_big := zw_mem (List.mem_append_left _ (List.mem_of_getElem? (i := 136) (by decide +kernel))) (by decide +kernel)
theorem nw_137 : Cond.fieldLink "DayEndBank" 190 "DayEndBank$Order" "misses" "I" ∈ zw_big := zw_mem (List.mem_append_left _ (List.mem_of_getElem? (i := 137) (by decide +kernel))) (by decide +kernel)
theorem nw_138 : Cond.fieldLink "DayEndBank" 250 "DayEndBank$Order" "isDue" "Z" ∈ zw_big := zw_mem (List.mem_append_left _ (List.mem_of_getElem? (i := 138) (by decide +kernel))) (by decide +kernel)
theorem nw_139 : Cond.fieldLink "DayEndBank" 254 "DayEndBank$Order" "isPaid" "Z" ∈ zw_big := zw_mem (List.mem_append_left _ (List.mem_of_getElem? (i := 139) (by decide +kernel))) (by decide +kernel)
theorem nw_140 : Cond.lays "DayEndBank$Order" "DayEndBank$Order" "payer" "LDayEndBank$Account;" ∈ zw_big := zw_mem (List.mem_append_left _ (List.mem_of_getElem? (i := 140) (by decide +kernel))) (by decide +kernel)
theorem nw_142 : Cond.lays "DayEndBank$Order" "DayEndBank$Order" "payee" "LDayEndBank$Account;" ∈ zw_big := zw_mem (List.mem_append_left _ (List.mem_of_getElem? (i := 142) (by decide +kernel))) (by decide +kernel)
theorem nw_144 : Cond.lays "DayEndBank$Order" "DayEndBank$Order" "amount" "I" ∈ zw_big := zw_mem (List.mem_append_left _ (List.mem_of_getElem? (i := 144) (by decide +kernel))) (by decide +kernel)
theorem nw_146 : Cond.lays "DayEndBank$Order" "DayEndBank$Order" "day" "I" ∈ zw_big := zw_mem (List.mem_append_left _ (List.mem_of_getElem? (i := 146) (by decide +kernel))) (by decide +kernel)
theorem nw_148 : Cond.lays "DayEndBank$Order" "DayEndBank$Order" "misses" "I" ∈ zw_big := zw_mem (List.mem_append_left _ (List.mem_of_getElem? (i := 148) (by decide +kernel))) (by decide +kernel)
theorem nw_150 : Cond.lays "DayEndBank$Order" "DayEndBank$Order" "isDue" "Z" ∈ zw_big := zw_mem (List.mem_append_left _ (List.mem_of_getElem? (i := 150) (by decide +kernel))) (by decide +kernel)
theorem nw_152 : Cond.lays "DayEndBank$Order" "DayEndBank$Order" "isPaid" "Z" ∈ zw_big := zw_mem (List.mem_append_left _ (List.mem_of_getElem? (i := 152) (by decide +kernel))) (by decide +kernel)
theorem nw_155 : Cond.fieldLink "DayEndBank" 11 "DayEndBank" "accounts" "[LDayEndBank$Account;" ∈ zw_big := zw_mem (List.mem_append_left _ (List.mem_of_getElem? (i := 155) (by decide +kernel))) (by decide +kernel)
theorem nw_156 : Cond.fieldLink "DayEndBank" 17 "DayEndBank" "holds" "[LDayEndBank$Hold;" ∈ zw_big := zw_mem (List.mem_append_left _ (List.mem_of_getElem? (i := 156) (by decide +kernel))) (by decide +kernel)
theorem nw_157 : Cond.fieldLink "DayEndBank" 23 "DayEndBank" "orders" "[LDayEndBank$Order;" ∈ zw_big := zw_mem (List.mem_append_left _ (List.mem_of_getElem? (i := 157) (by decide +kernel))) (by decide +kernel)
theorem nw_158 : Cond.fieldLink "DayEndBank" 30 "DayEndBank" "restDays" "LDayEndBank$RestDays;" ∈ zw_big := zw_mem (List.mem_append_left _ (List.mem_of_getElem? (i := 158) (by decide +kernel))) (by decide +kernel)
theorem nw_159 : Cond.fieldLink "DayEndBank" 37 "DayEndBank" "disk" "LDayEndBank$Disk;" ∈ zw_big := zw_mem (List.mem_append_left _ (List.mem_of_getElem? (i := 159) (by decide +kernel))) (by decide +kernel)
theorem nw_160 : Cond.fieldLink "DayEndBank" 41 "DayEndBank" "cash" "[J" ∈ zw_big := zw_mem (List.mem_append_left _ (List.mem_of_getElem? (i := 160) (by decide +kernel))) (by decide +kernel)
theorem nw_161 : Cond.fieldLink "DayEndBank" 45 "DayEndBank" "interest" "[J" ∈ zw_big := zw_mem (List.mem_append_left _ (List.mem_of_getElem? (i := 161) (by decide +kernel))) (by decide +kernel)
theorem nw_162 : Cond.fieldLink "DayEndBank" 71 "DayEndBank" "accountsOpened" "I" ∈ zw_big := zw_mem (List.mem_append_left _ (List.mem_of_getElem? (i := 162) (by decide +kernel))) (by decide +kernel)
theorem nw_163 : Cond.fieldLink "DayEndBank" 143 "DayEndBank" "ordersMade" "I" ∈ zw_big := zw_mem (List.mem_append_left _ (List.mem_of_getElem? (i := 163) (by decide +kernel))) (by decide +kernel)
theorem nw_164 : Cond.fieldLink "DayEndBank" 94 "DayEndBank" "bookDate" "I" ∈ zw_big := zw_mem (List.mem_append_left _ (List.mem_of_getElem? (i := 164) (by decide +kernel))) (by decide +kernel)
theorem nw_165 : Cond.fieldLink "DayEndBank" 204 "DayEndBank" "dayEndOpen" "Z" ∈ zw_big := zw_mem (List.mem_append_left _ (List.mem_of_getElem? (i := 165) (by decide +kernel))) (by decide +kernel)
theorem nw_166 : Cond.laysFinal "DayEndBank" "DayEndBank" "accounts" "[LDayEndBank$Account;" ∈ zw_big := zw_mem (List.mem_append_left _ (List.mem_of_getElem? (i := 166) (by decide +kernel))) (by decide +kernel)
theorem nw_168 : Cond.laysFinal "DayEndBank" "DayEndBank" "holds" "[LDayEndBank$Hold;" ∈ zw_big := zw_mem (List.mem_append_left _ (List.mem_of_getElem? (i := 168) (by decide +kernel))) (by decide +kernel)
theorem nw_170 : Cond.laysFinal "DayEndBank" "DayEndBank" "orders" "[LDayEndBank$Order;" ∈ zw_big := zw_mem (List.mem_append_left _ (List.mem_of_getElem? (i := 170) (by decide +kernel))) (by decide +kernel)
theorem nw_172 : Cond.laysFinal "DayEndBank" "DayEndBank" "restDays" "LDayEndBank$RestDays;" ∈ zw_big := zw_mem (List.mem_append_left _ (List.mem_of_getElem? (i := 172) (by decide +kernel))) (by decide +kernel)
theorem nw_174 : Cond.laysFinal "DayEndBank" "DayEndBank" "disk" "LDayEndBank$Disk;" ∈ zw_big := zw_mem (List.mem_append_left _ (List.mem_of_getElem? (i := 174) (by decide +kernel))) (by decide +kernel)
theorem nw_176 : Cond.laysFinal "DayEndBank" "DayEndBank" "cash" "[J" ∈ zw_big := zw_mem (List.mem_append_left _ (List.mem_of_getElem? (i := 176) (by decide +kernel))) (by decide +kernel)
theorem nw_178 : Cond.laysFinal "DayEndBank" "DayEndBank" "interest" "[J" ∈ zw_big := zw_mem (List.mem_append_left _ (List.mem_of_getElem? (i := 178) (by decide +kernel))) (by decide +kernel)
theorem nw_180 : Cond.lays "DayEndBank" "DayEndBank" "accountsOpened" "I" ∈ zw_big := zw_mem (List.mem_append_left _ (List.mem_of_getElem? (i := 180) (by decide +kernel))) (by decide +kernel)
theorem nw_182 : Cond.lays "DayEndBank" "DayEndBank" "ordersMade" "I" ∈ zw_big := zw_mem (List.mem_append_left _ (List.mem_of_getElem? (i := 182) (by decide +kernel))) (by decide +kernel)
theorem nw_184 : Cond.lays "DayEndBank" "DayEndBank" "bookDate" "I" ∈ zw_big := zw_mem (List.mem_append_left _ (List.mem_of_getElem? (i := 184) (by decide +kernel))) (by decide +kernel)
theorem nw_186 : Cond.lays "DayEndBank" "DayEndBank" "dayEndOpen" "Z" ∈ zw_big := zw_mem (List.mem_append_left _ (List.mem_of_getElem? (i := 186) (by decide +kernel))) (by decide +kernel)
theorem nw_189 : Cond.methodLink "DayEndBankLaw" 13 ny_B_open ∈ zw_big := zw_mem (List.mem_append_left _ (List.mem_of_getElem? (i := 189) (by decide +kernel))) (by decide +kernel)
theorem nw_190 : Cond.instanceMethod ny_B_open ∈ zw_big := zw_mem (List.mem_append_left _ (List.mem_of_getElem? (i := 190) (by decide +kernel))) (by decide +kernel)
theorem nw_191 : Cond.selects "DayEndBank" ny_B_open ny_B_open ∈ zw_big := zw_mem (List.mem_append_left _ (List.mem_of_getElem? (i := 191) (by decide +kernel))) (by decide +kernel)
theorem nw_192 : Cond.code ny_B_open nc_B_open 7 (some .int) ∈ zw_big := zw_mem (List.mem_append_left _ (List.mem_of_getElem? (i := 192) (by decide +kernel))) (by decide +kernel)
theorem nw_193 : Cond.methodLink "DayEndBank" 53 ny_B_refusalOfChange ∈ zw_big := zw_mem (List.mem_append_left _ (List.mem_of_getElem? (i := 193) (by decide +kernel))) (by decide +kernel)
theorem nw_195 : Cond.instanceMethod ny_B_refusalOfChange ∈ zw_big := zw_mem (List.mem_append_left _ (List.mem_of_getElem? (i := 195) (by decide +kernel))) (by decide +kernel)
theorem nw_196 : Cond.code ny_B_refusalOfChange nc_B_refusalOfChange 1 (some .int) ∈ zw_big := zw_mem (List.mem_append_left _ (List.mem_of_getElem? (i := 196) (by decide +kernel))) (by decide +kernel)
theorem nw_197 : Cond.methodLink "DayEndBank" 57 ny_B_isCurrency ∈ zw_big := zw_mem (List.mem_append_left _ (List.mem_of_getElem? (i := 197) (by decide +kernel))) (by decide +kernel)
theorem nw_198 : Cond.static ny_B_isCurrency ∈ zw_big := zw_mem (List.mem_append_left _ (List.mem_of_getElem? (i := 198) (by decide +kernel))) (by decide +kernel)
theorem nw_199 : Cond.code ny_B_isCurrency nc_B_isCurrency 1 (some .boolean) ∈ zw_big := zw_mem (List.mem_append_left _ (List.mem_of_getElem? (i := 199) (by decide +kernel))) (by decide +kernel)
theorem nw_200 : Cond.methodLink "DayEndBank" 67 ny_B_isWithin ∈ zw_big := zw_mem (List.mem_append_left _ (List.mem_of_getElem? (i := 200) (by decide +kernel))) (by decide +kernel)
theorem nw_201 : Cond.static ny_B_isWithin ∈ zw_big := zw_mem (List.mem_append_left _ (List.mem_of_getElem? (i := 201) (by decide +kernel))) (by decide +kernel)
theorem nw_202 : Cond.code ny_B_isWithin nc_B_isWithin 3 (some .boolean) ∈ zw_big := zw_mem (List.mem_append_left _ (List.mem_of_getElem? (i := 202) (by decide +kernel))) (by decide +kernel)
theorem nw_203 : Cond.methodLink "DayEndBank" 61 ny_C_isBasis ∈ zw_big := zw_mem (List.mem_append_left _ (List.mem_of_getElem? (i := 203) (by decide +kernel))) (by decide +kernel)
theorem nw_204 : Cond.static ny_C_isBasis ∈ zw_big := zw_mem (List.mem_append_left _ (List.mem_of_getElem? (i := 204) (by decide +kernel))) (by decide +kernel)
theorem nw_205 : Cond.code ny_C_isBasis nc_C_isBasis 1 (some .boolean) ∈ zw_big := zw_mem (List.mem_append_left _ (List.mem_of_getElem? (i := 205) (by decide +kernel))) (by decide +kernel)
theorem nw_206 : Cond.constant "DayEndBank" 66 (1000000) ∈ zw_big := zw_mem (List.mem_append_left _ (List.mem_of_getElem? (i := 206) (by decide +kernel))) (by decide +kernel)
theorem nw_207 : Cond.methodLink "DayEndBank" 75 ny_B_bitOf ∈ zw_big := zw_mem (List.mem_append_left _ (List.mem_of_getElem? (i := 207) (by decide +kernel))) (by decide +kernel)
theorem nw_208 : Cond.static ny_B_bitOf ∈ zw_big := zw_mem (List.mem_append_left _ (List.mem_of_getElem? (i := 208) (by decide +kernel))) (by decide +kernel)
theorem nw_209 : Cond.code ny_B_bitOf nc_B_bitOf 1 (some .int) ∈ zw_big := zw_mem (List.mem_append_left _ (List.mem_of_getElem? (i := 209) (by decide +kernel))) (by decide +kernel)
theorem nw_210 : Cond.methodLink "DayEndBank" 79 ny_D_writeTransaction ∈ zw_big := zw_mem (List.mem_append_left _ (List.mem_of_getElem? (i := 210) (by decide +kernel))) (by decide +kernel)
theorem nw_211 : Cond.instanceMethod ny_D_writeTransaction ∈ zw_big := zw_mem (List.mem_append_left _ (List.mem_of_getElem? (i := 211) (by decide +kernel))) (by decide +kernel)
theorem nw_212 : Cond.selects "DayEndBank$Disk" ny_D_writeTransaction ny_D_writeTransaction ∈ zw_big := zw_mem (List.mem_append_left _ (List.mem_of_getElem? (i := 212) (by decide +kernel))) (by decide +kernel)
theorem nw_213 : Cond.code ny_D_writeTransaction nc_D_writeTransaction 2 (some .boolean) ∈ zw_big := zw_mem (List.mem_append_left _ (List.mem_of_getElem? (i := 213) (by decide +kernel))) (by decide +kernel)
theorem nw_214 : Cond.methodLink "DayEndBank$Disk" 13 ny_I_bitCount ∈ zw_big := zw_mem (List.mem_append_left _ (List.mem_of_getElem? (i := 214) (by decide +kernel))) (by decide +kernel)
theorem nw_215 : Cond.static ny_I_bitCount ∈ zw_big := zw_mem (List.mem_append_left _ (List.mem_of_getElem? (i := 215) (by decide +kernel))) (by decide +kernel)
theorem nw_216 : Cond.code ny_I_bitCount nc_I_bitCount 1 (some .int) ∈ zw_big := zw_mem (List.mem_append_left _ (List.mem_of_getElem? (i := 216) (by decide +kernel))) (by decide +kernel)
theorem nw_217 : Cond.constant "java/lang/Integer" 265 (1431655765) ∈ zw_big := zw_mem (List.mem_append_left _ (List.mem_of_getElem? (i := 217) (by decide +kernel))) (by decide +kernel)
theorem nw_218 : Cond.constant "java/lang/Integer" 266 (858993459) ∈ zw_big := zw_mem (List.mem_append_left _ (List.mem_of_getElem? (i := 218) (by decide +kernel))) (by decide +kernel)
theorem nw_219 : Cond.constant "java/lang/Integer" 267 (252645135) ∈ zw_big := zw_mem (List.mem_append_left _ (List.mem_of_getElem? (i := 219) (by decide +kernel))) (by decide +kernel)
theorem nw_220 : Cond.methodLink "DayEndBank$Disk" 19 ny_D_writeLines ∈ zw_big := zw_mem (List.mem_append_left _ (List.mem_of_getElem? (i := 220) (by decide +kernel))) (by decide +kernel)
theorem nw_221 : Cond.instanceMethod ny_D_writeLines ∈ zw_big := zw_mem (List.mem_append_left _ (List.mem_of_getElem? (i := 221) (by decide +kernel))) (by decide +kernel)
theorem nw_222 : Cond.selects "DayEndBank$Disk" ny_D_writeLines ny_D_writeLines ∈ zw_big := zw_mem (List.mem_append_left _ (List.mem_of_getElem? (i := 222) (by decide +kernel))) (by decide +kernel)
theorem nw_223 : Cond.code ny_D_writeLines nc_D_writeLines 4 (some .boolean) ∈ zw_big := zw_mem (List.mem_append_left _ (List.mem_of_getElem? (i := 223) (by decide +kernel))) (by decide +kernel)
theorem nw_224 : Cond.methodLink "DayEndBank$Disk" 26 ny_D_makeCheckpoint ∈ zw_big := zw_mem (List.mem_append_left _ (List.mem_of_getElem? (i := 224) (by decide +kernel))) (by decide +kernel)
theorem nw_226 : Cond.instanceMethod ny_D_makeCheckpoint ∈ zw_big := zw_mem (List.mem_append_left _ (List.mem_of_getElem? (i := 226) (by decide +kernel))) (by decide +kernel)
theorem nw_227 : Cond.code ny_D_makeCheckpoint nc_D_makeCheckpoint 3 (some .boolean) ∈ zw_big := zw_mem (List.mem_append_left _ (List.mem_of_getElem? (i := 227) (by decide +kernel))) (by decide +kernel)
theorem nw_228 : Cond.methodLink "DayEndBank$Disk" 30 ny_D_writeOnce ∈ zw_big := zw_mem (List.mem_append_left _ (List.mem_of_getElem? (i := 228) (by decide +kernel))) (by decide +kernel)
theorem nw_230 : Cond.instanceMethod ny_D_writeOnce ∈ zw_big := zw_mem (List.mem_append_left _ (List.mem_of_getElem? (i := 230) (by decide +kernel))) (by decide +kernel)
theorem nw_231 : Cond.code ny_D_writeOnce nc_D_writeOnce 1 (some .boolean) ∈ zw_big := zw_mem (List.mem_append_left _ (List.mem_of_getElem? (i := 231) (by decide +kernel))) (by decide +kernel)
theorem nw_232 : Cond.methodLink "DayEndBankLaw" 18 ny_B_pay ∈ zw_big := zw_mem (List.mem_append_left _ (List.mem_of_getElem? (i := 232) (by decide +kernel))) (by decide +kernel)
theorem nw_233 : Cond.instanceMethod ny_B_pay ∈ zw_big := zw_mem (List.mem_append_left _ (List.mem_of_getElem? (i := 233) (by decide +kernel))) (by decide +kernel)
theorem nw_234 : Cond.selects "DayEndBank" ny_B_pay ny_B_pay ∈ zw_big := zw_mem (List.mem_append_left _ (List.mem_of_getElem? (i := 234) (by decide +kernel))) (by decide +kernel)
theorem nw_235 : Cond.code ny_B_pay nc_B_pay 7 (some .int) ∈ zw_big := zw_mem (List.mem_append_left _ (List.mem_of_getElem? (i := 235) (by decide +kernel))) (by decide +kernel)
theorem nw_236 : Cond.methodLink "DayEndBank" 103 ny_B_isPayable ∈ zw_big := zw_mem (List.mem_append_left _ (List.mem_of_getElem? (i := 236) (by decide +kernel))) (by decide +kernel)
theorem nw_238 : Cond.instanceMethod ny_B_isPayable ∈ zw_big := zw_mem (List.mem_append_left _ (List.mem_of_getElem? (i := 238) (by decide +kernel))) (by decide +kernel)
theorem nw_239 : Cond.code ny_B_isPayable nc_B_isPayable 5 (some .boolean) ∈ zw_big := zw_mem (List.mem_append_left _ (List.mem_of_getElem? (i := 239) (by decide +kernel))) (by decide +kernel)
theorem nw_240 : Cond.methodLink "DayEndBank" 207 ny_B_isParty ∈ zw_big := zw_mem (List.mem_append_right _ (List.mem_append_left _ (List.mem_of_getElem? (i := 0) (by decide +kernel)))) (by decide +kernel)
theorem nw_242 : Cond.instanceMethod ny_B_isParty ∈ zw_big := zw_mem (List.mem_append_right _ (List.mem_append_left _ (List.mem_of_getElem? (i := 2) (by decide +kernel)))) (by decide +kernel)
theorem nw_243 : Cond.code ny_B_isParty nc_B_isParty 2 (some .boolean) ∈ zw_big := zw_mem (List.mem_append_right _ (List.mem_append_left _ (List.mem_of_getElem? (i := 3) (by decide +kernel)))) (by decide +kernel)
theorem nw_244 : Cond.methodLink "DayEndBank" 110 ny_B_accountOf ∈ zw_big := zw_mem (List.mem_append_right _ (List.mem_append_left _ (List.mem_of_getElem? (i := 4) (by decide +kernel)))) (by decide +kernel)
theorem nw_246 : Cond.instanceMethod ny_B_accountOf ∈ zw_big := zw_mem (List.mem_append_right _ (List.mem_append_left _ (List.mem_of_getElem? (i := 6) (by decide +kernel)))) (by decide +kernel)
theorem nw_247 : Cond.code ny_B_accountOf nc_B_accountOf 2 (some (.object "DayEndBank$Account")) ∈ zw_big := zw_mem (List.mem_append_right _ (List.mem_append_left _ (List.mem_of_getElem? (i := 7) (by decide +kernel)))) (by decide +kernel)
theorem nw_248 : Cond.methodLink "DayEndBank" 107 ny_B_isAmount ∈ zw_big := zw_mem (List.mem_append_right _ (List.mem_append_left _ (List.mem_of_getElem? (i := 8) (by decide +kernel)))) (by decide +kernel)
theorem nw_249 : Cond.static ny_B_isAmount ∈ zw_big := zw_mem (List.mem_append_right _ (List.mem_append_left _ (List.mem_of_getElem? (i := 9) (by decide +kernel)))) (by decide +kernel)
theorem nw_250 : Cond.code ny_B_isAmount nc_B_isAmount 1 (some .boolean) ∈ zw_big := zw_mem (List.mem_append_right _ (List.mem_append_left _ (List.mem_of_getElem? (i := 10) (by decide +kernel)))) (by decide +kernel)
theorem nw_251 : Cond.methodLink "DayEndBank" 114 ny_A_spendable ∈ zw_big := zw_mem (List.mem_append_right _ (List.mem_append_left _ (List.mem_of_getElem? (i := 11) (by decide +kernel)))) (by decide +kernel)
theorem nw_252 : Cond.instanceMethod ny_A_spendable ∈ zw_big := zw_mem (List.mem_append_right _ (List.mem_append_left _ (List.mem_of_getElem? (i := 12) (by decide +kernel)))) (by decide +kernel)
theorem nw_253 : Cond.selects "DayEndBank$Account" ny_A_spendable ny_A_spendable ∈ zw_big := zw_mem (List.mem_append_right _ (List.mem_append_left _ (List.mem_of_getElem? (i := 13) (by decide +kernel)))) (by decide +kernel)
theorem nw_254 : Cond.code ny_A_spendable nc_A_spendable 1 (some .long) ∈ zw_big := zw_mem (List.mem_append_right _ (List.mem_append_left _ (List.mem_of_getElem? (i := 14) (by decide +kernel)))) (by decide +kernel)
theorem nw_255 : Cond.methodLink "DayEndBank" 118 ny_B_transfer ∈ zw_big := zw_mem (List.mem_append_right _ (List.mem_append_left _ (List.mem_of_getElem? (i := 15) (by decide +kernel)))) (by decide +kernel)
theorem nw_257 : Cond.instanceMethod ny_B_transfer ∈ zw_big := zw_mem (List.mem_append_right _ (List.mem_append_left _ (List.mem_of_getElem? (i := 17) (by decide +kernel)))) (by decide +kernel)
theorem nw_258 : Cond.code ny_B_transfer nc_B_transfer 4 none ∈ zw_big := zw_mem (List.mem_append_right _ (List.mem_append_left _ (List.mem_of_getElem? (i := 18) (by decide +kernel)))) (by decide +kernel)
theorem nw_259 : Cond.methodLink "DayEndBankLaw" 23 ny_B_hold ∈ zw_big := zw_mem (List.mem_append_right _ (List.mem_append_left _ (List.mem_of_getElem? (i := 19) (by decide +kernel)))) (by decide +kernel)
theorem nw_260 : Cond.instanceMethod ny_B_hold ∈ zw_big := zw_mem (List.mem_append_right _ (List.mem_append_left _ (List.mem_of_getElem? (i := 20) (by decide +kernel)))) (by decide +kernel)
theorem nw_261 : Cond.selects "DayEndBank" ny_B_hold ny_B_hold ∈ zw_big := zw_mem (List.mem_append_right _ (List.mem_append_left _ (List.mem_of_getElem? (i := 21) (by decide +kernel)))) (by decide +kernel)
theorem nw_262 : Cond.code ny_B_hold nc_B_hold 6 (some .int) ∈ zw_big := zw_mem (List.mem_append_right _ (List.mem_append_left _ (List.mem_of_getElem? (i := 22) (by decide +kernel)))) (by decide +kernel)
theorem nw_263 : Cond.methodLink "DayEndBank" 122 ny_B_leastFreeHold ∈ zw_big := zw_mem (List.mem_append_right _ (List.mem_append_left _ (List.mem_of_getElem? (i := 23) (by decide +kernel)))) (by decide +kernel)
theorem nw_265 : Cond.instanceMethod ny_B_leastFreeHold ∈ zw_big := zw_mem (List.mem_append_right _ (List.mem_append_left _ (List.mem_of_getElem? (i := 25) (by decide +kernel)))) (by decide +kernel)
theorem nw_266 : Cond.code ny_B_leastFreeHold nc_B_leastFreeHold 2 (some .int) ∈ zw_big := zw_mem (List.mem_append_right _ (List.mem_append_left _ (List.mem_of_getElem? (i := 26) (by decide +kernel)))) (by decide +kernel)
theorem nw_267 : Cond.methodLink "DayEndBank" 125 ny_H_begin ∈ zw_big := zw_mem (List.mem_append_right _ (List.mem_append_left _ (List.mem_of_getElem? (i := 27) (by decide +kernel)))) (by decide +kernel)
theorem nw_268 : Cond.instanceMethod ny_H_begin ∈ zw_big := zw_mem (List.mem_append_right _ (List.mem_append_left _ (List.mem_of_getElem? (i := 28) (by decide +kernel)))) (by decide +kernel)
theorem nw_269 : Cond.selects "DayEndBank$Hold" ny_H_begin ny_H_begin ∈ zw_big := zw_mem (List.mem_append_right _ (List.mem_append_left _ (List.mem_of_getElem? (i := 29) (by decide +kernel)))) (by decide +kernel)
theorem nw_270 : Cond.code ny_H_begin nc_H_begin 3 none ∈ zw_big := zw_mem (List.mem_append_right _ (List.mem_append_left _ (List.mem_of_getElem? (i := 30) (by decide +kernel)))) (by decide +kernel)
theorem nw_271 : Cond.methodLink "DayEndBankLaw" 28 ny_B_release ∈ zw_big := zw_mem (List.mem_append_right _ (List.mem_append_left _ (List.mem_of_getElem? (i := 31) (by decide +kernel)))) (by decide +kernel)
theorem nw_272 : Cond.instanceMethod ny_B_release ∈ zw_big := zw_mem (List.mem_append_right _ (List.mem_append_left _ (List.mem_of_getElem? (i := 32) (by decide +kernel)))) (by decide +kernel)
theorem nw_273 : Cond.selects "DayEndBank" ny_B_release ny_B_release ∈ zw_big := zw_mem (List.mem_append_right _ (List.mem_append_left _ (List.mem_of_getElem? (i := 33) (by decide +kernel)))) (by decide +kernel)
theorem nw_274 : Cond.code ny_B_release nc_B_release 4 (some .int) ∈ zw_big := zw_mem (List.mem_append_right _ (List.mem_append_left _ (List.mem_of_getElem? (i := 34) (by decide +kernel)))) (by decide +kernel)
theorem nw_275 : Cond.methodLink "DayEndBank" 129 ny_B_standingHold ∈ zw_big := zw_mem (List.mem_append_right _ (List.mem_append_left _ (List.mem_of_getElem? (i := 35) (by decide +kernel)))) (by decide +kernel)
theorem nw_277 : Cond.instanceMethod ny_B_standingHold ∈ zw_big := zw_mem (List.mem_append_right _ (List.mem_append_left _ (List.mem_of_getElem? (i := 37) (by decide +kernel)))) (by decide +kernel)
theorem nw_278 : Cond.code ny_B_standingHold nc_B_standingHold 2 (some (.object "DayEndBank$Hold")) ∈ zw_big := zw_mem (List.mem_append_right _ (List.mem_append_left _ (List.mem_of_getElem? (i := 38) (by decide +kernel)))) (by decide +kernel)
theorem nw_279 : Cond.methodLink "DayEndBank" 137 ny_H_end ∈ zw_big := zw_mem (List.mem_append_right _ (List.mem_append_left _ (List.mem_of_getElem? (i := 39) (by decide +kernel)))) (by decide +kernel)
theorem nw_280 : Cond.instanceMethod ny_H_end ∈ zw_big := zw_mem (List.mem_append_right _ (List.mem_append_left _ (List.mem_of_getElem? (i := 40) (by decide +kernel)))) (by decide +kernel)
theorem nw_281 : Cond.selects "DayEndBank$Hold" ny_H_end ny_H_end ∈ zw_big := zw_mem (List.mem_append_right _ (List.mem_append_left _ (List.mem_of_getElem? (i := 41) (by decide +kernel)))) (by decide +kernel)
theorem nw_282 : Cond.code ny_H_end nc_H_end 1 none ∈ zw_big := zw_mem (List.mem_append_right _ (List.mem_append_left _ (List.mem_of_getElem? (i := 42) (by decide +kernel)))) (by decide +kernel)
theorem nw_283 : Cond.methodLink "DayEndBankLaw" 33 ny_B_settle ∈ zw_big := zw_mem (List.mem_append_right _ (List.mem_append_left _ (List.mem_of_getElem? (i := 43) (by decide +kernel)))) (by decide +kernel)
theorem nw_284 : Cond.instanceMethod ny_B_settle ∈ zw_big := zw_mem (List.mem_append_right _ (List.mem_append_left _ (List.mem_of_getElem? (i := 44) (by decide +kernel)))) (by decide +kernel)
theorem nw_285 : Cond.selects "DayEndBank" ny_B_settle ny_B_settle ∈ zw_big := zw_mem (List.mem_append_right _ (List.mem_append_left _ (List.mem_of_getElem? (i := 45) (by decide +kernel)))) (by decide +kernel)
theorem nw_286 : Cond.code ny_B_settle nc_B_settle 8 (some .int) ∈ zw_big := zw_mem (List.mem_append_right _ (List.mem_append_left _ (List.mem_of_getElem? (i := 46) (by decide +kernel)))) (by decide +kernel)
theorem nw_287 : Cond.methodLink "DayEndBankLaw" 37 ny_B_order ∈ zw_big := zw_mem (List.mem_append_right _ (List.mem_append_left _ (List.mem_of_getElem? (i := 47) (by decide +kernel)))) (by decide +kernel)
theorem nw_288 : Cond.instanceMethod ny_B_order ∈ zw_big := zw_mem (List.mem_append_right _ (List.mem_append_left _ (List.mem_of_getElem? (i := 48) (by decide +kernel)))) (by decide +kernel)
theorem nw_289 : Cond.selects "DayEndBank" ny_B_order ny_B_order ∈ zw_big := zw_mem (List.mem_append_right _ (List.mem_append_left _ (List.mem_of_getElem? (i := 49) (by decide +kernel)))) (by decide +kernel)
theorem nw_290 : Cond.code ny_B_order nc_B_order 8 (some .int) ∈ zw_big := zw_mem (List.mem_append_right _ (List.mem_append_left _ (List.mem_of_getElem? (i := 50) (by decide +kernel)))) (by decide +kernel)
theorem nw_291 : Cond.methodLink "DayEndBank" 146 ny_O_make ∈ zw_big := zw_mem (List.mem_append_right _ (List.mem_append_left _ (List.mem_of_getElem? (i := 51) (by decide +kernel)))) (by decide +kernel)
theorem nw_292 : Cond.instanceMethod ny_O_make ∈ zw_big := zw_mem (List.mem_append_right _ (List.mem_append_left _ (List.mem_of_getElem? (i := 52) (by decide +kernel)))) (by decide +kernel)
theorem nw_293 : Cond.selects "DayEndBank$Order" ny_O_make ny_O_make ∈ zw_big := zw_mem (List.mem_append_right _ (List.mem_append_left _ (List.mem_of_getElem? (i := 53) (by decide +kernel)))) (by decide +kernel)
theorem nw_294 : Cond.code ny_O_make nc_O_make 5 none ∈ zw_big := zw_mem (List.mem_append_right _ (List.mem_append_left _ (List.mem_of_getElem? (i := 54) (by decide +kernel)))) (by decide +kernel)
theorem nw_295 : Cond.methodLink "DayEndBankLaw" 41 ny_B_rest ∈ zw_big := zw_mem (List.mem_append_right _ (List.mem_append_left _ (List.mem_of_getElem? (i := 55) (by decide +kernel)))) (by decide +kernel)
theorem nw_296 : Cond.instanceMethod ny_B_rest ∈ zw_big := zw_mem (List.mem_append_right _ (List.mem_append_left _ (List.mem_of_getElem? (i := 56) (by decide +kernel)))) (by decide +kernel)
theorem nw_297 : Cond.selects "DayEndBank" ny_B_rest ny_B_rest ∈ zw_big := zw_mem (List.mem_append_right _ (List.mem_append_left _ (List.mem_of_getElem? (i := 57) (by decide +kernel)))) (by decide +kernel)
theorem nw_298 : Cond.code ny_B_rest nc_B_rest 3 (some .int) ∈ zw_big := zw_mem (List.mem_append_right _ (List.mem_append_left _ (List.mem_of_getElem? (i := 58) (by decide +kernel)))) (by decide +kernel)
theorem nw_299 : Cond.methodLink "DayEndBank" 150 ny_R_isRest ∈ zw_big := zw_mem (List.mem_append_right _ (List.mem_append_left _ (List.mem_of_getElem? (i := 59) (by decide +kernel)))) (by decide +kernel)
theorem nw_300 : Cond.instanceMethod ny_R_isRest ∈ zw_big := zw_mem (List.mem_append_right _ (List.mem_append_left _ (List.mem_of_getElem? (i := 60) (by decide +kernel)))) (by decide +kernel)
theorem nw_301 : Cond.selects "DayEndBank$RestDays" ny_R_isRest ny_R_isRest ∈ zw_big := zw_mem (List.mem_append_right _ (List.mem_append_left _ (List.mem_of_getElem? (i := 61) (by decide +kernel)))) (by decide +kernel)
theorem nw_302 : Cond.code ny_R_isRest nc_R_isRest 3 (some .boolean) ∈ zw_big := zw_mem (List.mem_append_right _ (List.mem_append_left _ (List.mem_of_getElem? (i := 62) (by decide +kernel)))) (by decide +kernel)
theorem nw_303 : Cond.methodLink "DayEndBank$RestDays" 21 ny_R_wasMade ∈ zw_big := zw_mem (List.mem_append_right _ (List.mem_append_left _ (List.mem_of_getElem? (i := 63) (by decide +kernel)))) (by decide +kernel)
theorem nw_305 : Cond.instanceMethod ny_R_wasMade ∈ zw_big := zw_mem (List.mem_append_right _ (List.mem_append_left _ (List.mem_of_getElem? (i := 65) (by decide +kernel)))) (by decide +kernel)
theorem nw_306 : Cond.code ny_R_wasMade nc_R_wasMade 3 (some .boolean) ∈ zw_big := zw_mem (List.mem_append_right _ (List.mem_append_left _ (List.mem_of_getElem? (i := 66) (by decide +kernel)))) (by decide +kernel)
theorem nw_307 : Cond.methodLink "DayEndBank" 153 ny_B_isInLaterMonth ∈ zw_big := zw_mem (List.mem_append_right _ (List.mem_append_left _ (List.mem_of_getElem? (i := 67) (by decide +kernel)))) (by decide +kernel)
theorem nw_309 : Cond.instanceMethod ny_B_isInLaterMonth ∈ zw_big := zw_mem (List.mem_append_right _ (List.mem_append_left _ (List.mem_of_getElem? (i := 69) (by decide +kernel)))) (by decide +kernel)
theorem nw_310 : Cond.code ny_B_isInLaterMonth nc_B_isInLaterMonth 3 (some .boolean) ∈ zw_big := zw_mem (List.mem_append_right _ (List.mem_append_left _ (List.mem_of_getElem? (i := 70) (by decide +kernel)))) (by decide +kernel)
theorem nw_311 : Cond.methodLink "DayEndBank" 210 ny_C_monthAndDay ∈ zw_big := zw_mem (List.mem_append_right _ (List.mem_append_left _ (List.mem_of_getElem? (i := 71) (by decide +kernel)))) (by decide +kernel)
theorem nw_312 : Cond.static ny_C_monthAndDay ∈ zw_big := zw_mem (List.mem_append_right _ (List.mem_append_left _ (List.mem_of_getElem? (i := 72) (by decide +kernel)))) (by decide +kernel)
theorem nw_313 : Cond.code ny_C_monthAndDay nc_C_monthAndDay 10 (some .int) ∈ zw_big := zw_mem (List.mem_append_right _ (List.mem_append_left _ (List.mem_of_getElem? (i := 73) (by decide +kernel)))) (by decide +kernel)
theorem nw_314 : Cond.constant "DayEndBank$Calendar" 28 (146097) ∈ zw_big := zw_mem (List.mem_append_right _ (List.mem_append_left _ (List.mem_of_getElem? (i := 74) (by decide +kernel)))) (by decide +kernel)
theorem nw_315 : Cond.methodLink "DayEndBank$Calendar" 29 ny_T_floorDiv ∈ zw_big := zw_mem (List.mem_append_right _ (List.mem_append_left _ (List.mem_of_getElem? (i := 75) (by decide +kernel)))) (by decide +kernel)
theorem nw_316 : Cond.static ny_T_floorDiv ∈ zw_big := zw_mem (List.mem_append_right _ (List.mem_append_left _ (List.mem_of_getElem? (i := 76) (by decide +kernel)))) (by decide +kernel)
theorem nw_317 : Cond.code ny_T_floorDiv nc_T_floorDiv 3 (some .int) ∈ zw_big := zw_mem (List.mem_append_right _ (List.mem_append_left _ (List.mem_of_getElem? (i := 77) (by decide +kernel)))) (by decide +kernel)
theorem nw_318 : Cond.methodLink "DayEndBank$Calendar" 32 ny_T_floorMod ∈ zw_big := zw_mem (List.mem_append_right _ (List.mem_append_left _ (List.mem_of_getElem? (i := 78) (by decide +kernel)))) (by decide +kernel)
theorem nw_319 : Cond.static ny_T_floorMod ∈ zw_big := zw_mem (List.mem_append_right _ (List.mem_append_left _ (List.mem_of_getElem? (i := 79) (by decide +kernel)))) (by decide +kernel)
theorem nw_320 : Cond.code ny_T_floorMod nc_T_floorMod 3 (some .int) ∈ zw_big := zw_mem (List.mem_append_right _ (List.mem_append_left _ (List.mem_of_getElem? (i := 80) (by decide +kernel)))) (by decide +kernel)
theorem nw_321 : Cond.constant "DayEndBank$Calendar" 35 (36524) ∈ zw_big := zw_mem (List.mem_append_right _ (List.mem_append_left _ (List.mem_of_getElem? (i := 81) (by decide +kernel)))) (by decide +kernel)
theorem nw_322 : Cond.constant "DayEndBank$Calendar" 36 (146096) ∈ zw_big := zw_mem (List.mem_append_right _ (List.mem_append_left _ (List.mem_of_getElem? (i := 82) (by decide +kernel)))) (by decide +kernel)
theorem nw_323 : Cond.methodLink "DayEndBank" 214 ny_C_monthIn ∈ zw_big := zw_mem (List.mem_append_right _ (List.mem_append_left _ (List.mem_of_getElem? (i := 83) (by decide +kernel)))) (by decide +kernel)
theorem nw_324 : Cond.static ny_C_monthIn ∈ zw_big := zw_mem (List.mem_append_right _ (List.mem_append_left _ (List.mem_of_getElem? (i := 84) (by decide +kernel)))) (by decide +kernel)
theorem nw_325 : Cond.code ny_C_monthIn nc_C_monthIn 1 (some .int) ∈ zw_big := zw_mem (List.mem_append_right _ (List.mem_append_left _ (List.mem_of_getElem? (i := 85) (by decide +kernel)))) (by decide +kernel)
theorem nw_326 : Cond.methodLink "DayEndBank" 156 ny_R_isFull ∈ zw_big := zw_mem (List.mem_append_right _ (List.mem_append_left _ (List.mem_of_getElem? (i := 86) (by decide +kernel)))) (by decide +kernel)
theorem nw_327 : Cond.instanceMethod ny_R_isFull ∈ zw_big := zw_mem (List.mem_append_right _ (List.mem_append_left _ (List.mem_of_getElem? (i := 87) (by decide +kernel)))) (by decide +kernel)
theorem nw_328 : Cond.selects "DayEndBank$RestDays" ny_R_isFull ny_R_isFull ∈ zw_big := zw_mem (List.mem_append_right _ (List.mem_append_left _ (List.mem_of_getElem? (i := 88) (by decide +kernel)))) (by decide +kernel)
theorem nw_329 : Cond.code ny_R_isFull nc_R_isFull 1 (some .boolean) ∈ zw_big := zw_mem (List.mem_append_right _ (List.mem_append_left _ (List.mem_of_getElem? (i := 89) (by decide +kernel)))) (by decide +kernel)
theorem nw_330 : Cond.methodLink "DayEndBank" 160 ny_R_add ∈ zw_big := zw_mem (List.mem_append_right _ (List.mem_append_left _ (List.mem_of_getElem? (i := 90) (by decide +kernel)))) (by decide +kernel)
theorem nw_331 : Cond.instanceMethod ny_R_add ∈ zw_big := zw_mem (List.mem_append_right _ (List.mem_append_left _ (List.mem_of_getElem? (i := 91) (by decide +kernel)))) (by decide +kernel)
theorem nw_332 : Cond.selects "DayEndBank$RestDays" ny_R_add ny_R_add ∈ zw_big := zw_mem (List.mem_append_right _ (List.mem_append_left _ (List.mem_of_getElem? (i := 92) (by decide +kernel)))) (by decide +kernel)
theorem nw_333 : Cond.code ny_R_add nc_R_add 2 none ∈ zw_big := zw_mem (List.mem_append_right _ (List.mem_append_left _ (List.mem_of_getElem? (i := 93) (by decide +kernel)))) (by decide +kernel)
theorem nw_334 : Cond.methodLink "DayEndBank$RestDays" 17 ny_R_isFull ∈ zw_big := zw_mem (List.mem_append_right _ (List.mem_append_left _ (List.mem_of_getElem? (i := 94) (by decide +kernel)))) (by decide +kernel)
theorem nw_335 : Cond.methodLink "DayEndBankLaw" 45 ny_B_run ∈ zw_big := zw_mem (List.mem_append_right _ (List.mem_append_left _ (List.mem_of_getElem? (i := 95) (by decide +kernel)))) (by decide +kernel)
theorem nw_336 : Cond.instanceMethod ny_B_run ∈ zw_big := zw_mem (List.mem_append_right _ (List.mem_append_left _ (List.mem_of_getElem? (i := 96) (by decide +kernel)))) (by decide +kernel)
theorem nw_337 : Cond.selects "DayEndBank" ny_B_run ny_B_run ∈ zw_big := zw_mem (List.mem_append_right _ (List.mem_append_left _ (List.mem_of_getElem? (i := 97) (by decide +kernel)))) (by decide +kernel)
theorem nw_338 : Cond.code ny_B_run nc_B_run 3 (some .int) ∈ zw_big := zw_mem (List.mem_append_right _ (List.mem_append_left _ (List.mem_of_getElem? (i := 98) (by decide +kernel)))) (by decide +kernel)
theorem nw_339 : Cond.methodLink "DayEndBank" 167 ny_B_makeDayEnd ∈ zw_big := zw_mem (List.mem_append_right _ (List.mem_append_left _ (List.mem_of_getElem? (i := 99) (by decide +kernel)))) (by decide +kernel)
theorem nw_341 : Cond.instanceMethod ny_B_makeDayEnd ∈ zw_big := zw_mem (List.mem_append_right _ (List.mem_append_left _ (List.mem_of_getElem? (i := 101) (by decide +kernel)))) (by decide +kernel)
theorem nw_342 : Cond.code ny_B_makeDayEnd nc_B_makeDayEnd 2 (some .boolean) ∈ zw_big := zw_mem (List.mem_append_right _ (List.mem_append_left _ (List.mem_of_getElem? (i := 102) (by decide +kernel)))) (by decide +kernel)
theorem nw_343 : Cond.methodLink "DayEndBank" 217 ny_B_makeStep ∈ zw_big := zw_mem (List.mem_append_right _ (List.mem_append_left _ (List.mem_of_getElem? (i := 103) (by decide +kernel)))) (by decide +kernel)
theorem nw_345 : Cond.instanceMethod ny_B_makeStep ∈ zw_big := zw_mem (List.mem_append_right _ (List.mem_append_left _ (List.mem_of_getElem? (i := 105) (by decide +kernel)))) (by decide +kernel)
theorem nw_346 : Cond.code ny_B_makeStep nc_B_makeStep 2 (some .boolean) ∈ zw_big := zw_mem (List.mem_append_right _ (List.mem_append_left _ (List.mem_of_getElem? (i := 106) (by decide +kernel)))) (by decide +kernel)
theorem nw_347 : Cond.methodLink "DayEndBank" 221 ny_B_planOrders ∈ zw_big := zw_mem (List.mem_append_right _ (List.mem_append_left _ (List.mem_of_getElem? (i := 107) (by decide +kernel)))) (by decide +kernel)
theorem nw_349 : Cond.instanceMethod ny_B_planOrders ∈ zw_big := zw_mem (List.mem_append_right _ (List.mem_append_left _ (List.mem_of_getElem? (i := 109) (by decide +kernel)))) (by decide +kernel)
theorem nw_350 : Cond.code ny_B_planOrders nc_B_planOrders 6 none ∈ zw_big := zw_mem (List.mem_append_right _ (List.mem_append_left _ (List.mem_of_getElem? (i := 110) (by decide +kernel)))) (by decide +kernel)
theorem nw_351 : Cond.methodLink "DayEndBank" 246 ny_R_dueDate ∈ zw_big := zw_mem (List.mem_append_right _ (List.mem_append_left _ (List.mem_of_getElem? (i := 111) (by decide +kernel)))) (by decide +kernel)
theorem nw_352 : Cond.instanceMethod ny_R_dueDate ∈ zw_big := zw_mem (List.mem_append_right _ (List.mem_append_left _ (List.mem_of_getElem? (i := 112) (by decide +kernel)))) (by decide +kernel)
theorem nw_353 : Cond.selects "DayEndBank$RestDays" ny_R_dueDate ny_R_dueDate ∈ zw_big := zw_mem (List.mem_append_right _ (List.mem_append_left _ (List.mem_of_getElem? (i := 113) (by decide +kernel)))) (by decide +kernel)
theorem nw_354 : Cond.code ny_R_dueDate nc_R_dueDate 7 (some .int) ∈ zw_big := zw_mem (List.mem_append_right _ (List.mem_append_left _ (List.mem_of_getElem? (i := 114) (by decide +kernel)))) (by decide +kernel)
theorem nw_355 : Cond.methodLink "DayEndBank$RestDays" 25 ny_C_monthAndDay ∈ zw_big := zw_mem (List.mem_append_right _ (List.mem_append_left _ (List.mem_of_getElem? (i := 115) (by decide +kernel)))) (by decide +kernel)
theorem nw_356 : Cond.methodLink "DayEndBank$RestDays" 31 ny_C_dayIn ∈ zw_big := zw_mem (List.mem_append_right _ (List.mem_append_left _ (List.mem_of_getElem? (i := 116) (by decide +kernel)))) (by decide +kernel)
theorem nw_357 : Cond.static ny_C_dayIn ∈ zw_big := zw_mem (List.mem_append_right _ (List.mem_append_left _ (List.mem_of_getElem? (i := 117) (by decide +kernel)))) (by decide +kernel)
theorem nw_358 : Cond.code ny_C_dayIn nc_C_dayIn 1 (some .int) ∈ zw_big := zw_mem (List.mem_append_right _ (List.mem_append_left _ (List.mem_of_getElem? (i := 118) (by decide +kernel)))) (by decide +kernel)
theorem nw_359 : Cond.methodLink "DayEndBank$RestDays" 34 ny_T_min ∈ zw_big := zw_mem (List.mem_append_right _ (List.mem_append_left _ (List.mem_of_getElem? (i := 119) (by decide +kernel)))) (by decide +kernel)
theorem nw_360 : Cond.static ny_T_min ∈ zw_big := zw_mem (List.mem_append_right _ (List.mem_append_left _ (List.mem_of_getElem? (i := 120) (by decide +kernel)))) (by decide +kernel)
theorem nw_361 : Cond.code ny_T_min nc_T_min 2 (some .int) ∈ zw_big := zw_mem (List.mem_append_right _ (List.mem_append_left _ (List.mem_of_getElem? (i := 121) (by decide +kernel)))) (by decide +kernel)
theorem nw_362 : Cond.methodLink "DayEndBank$RestDays" 40 ny_R_isRest ∈ zw_big := zw_mem (List.mem_append_right _ (List.mem_append_left _ (List.mem_of_getElem? (i := 122) (by decide +kernel)))) (by decide +kernel)
theorem nw_363 : Cond.methodLink "DayEndBank" 225 ny_B_writeStep ∈ zw_big := zw_mem (List.mem_append_right _ (List.mem_append_left _ (List.mem_of_getElem? (i := 123) (by decide +kernel)))) (by decide +kernel)
theorem nw_365 : Cond.instanceMethod ny_B_writeStep ∈ zw_big := zw_mem (List.mem_append_right _ (List.mem_append_left _ (List.mem_of_getElem? (i := 125) (by decide +kernel)))) (by decide +kernel)
theorem nw_366 : Cond.code ny_B_writeStep nc_B_writeStep 5 (some .boolean) ∈ zw_big := zw_mem (List.mem_append_right _ (List.mem_append_left _ (List.mem_of_getElem? (i := 126) (by decide +kernel)))) (by decide +kernel)
theorem nw_367 : Cond.methodLink "DayEndBank" 260 ny_D_writeLines ∈ zw_big := zw_mem (List.mem_append_right _ (List.mem_append_left _ (List.mem_of_getElem? (i := 127) (by decide +kernel)))) (by decide +kernel)
theorem nw_368 : Cond.methodLink "DayEndBank" 228 ny_B_carryOutOrders ∈ zw_big := zw_mem (List.mem_append_right _ (List.mem_append_left _ (List.mem_of_getElem? (i := 128) (by decide +kernel)))) (by decide +kernel)
theorem nw_370 : Cond.instanceMethod ny_B_carryOutOrders ∈ zw_big := zw_mem (List.mem_append_right _ (List.mem_append_left _ (List.mem_of_getElem? (i := 130) (by decide +kernel)))) (by decide +kernel)
theorem nw_371 : Cond.code ny_B_carryOutOrders nc_B_carryOutOrders 3 none ∈ zw_big := zw_mem (List.mem_append_right _ (List.mem_append_left _ (List.mem_of_getElem? (i := 131) (by decide +kernel)))) (by decide +kernel)
theorem nw_372 : Cond.methodLink "DayEndBank" 194 ny_C_dayCount ∈ zw_big := zw_mem (List.mem_append_right _ (List.mem_append_left _ (List.mem_of_getElem? (i := 132) (by decide +kernel)))) (by decide +kernel)
theorem nw_373 : Cond.static ny_C_dayCount ∈ zw_big := zw_mem (List.mem_append_right _ (List.mem_append_left _ (List.mem_of_getElem? (i := 133) (by decide +kernel)))) (by decide +kernel)
theorem nw_374 : Cond.code ny_C_dayCount nc_C_dayCount 3 (some .int) ∈ zw_big := zw_mem (List.mem_append_right _ (List.mem_append_left _ (List.mem_of_getElem? (i := 134) (by decide +kernel)))) (by decide +kernel)
theorem nw_375 : Cond.methodLink "DayEndBank$Calendar" 9 ny_C_countByMonths ∈ zw_big := zw_mem (List.mem_append_right _ (List.mem_append_left _ (List.mem_of_getElem? (i := 135) (by decide +kernel)))) (by decide +kernel)
theorem nw_376 : Cond.static ny_C_countByMonths ∈ zw_big := zw_mem (List.mem_append_right _ (List.mem_append_left _ (List.mem_of_getElem? (i := 136) (by decide +kernel)))) (by decide +kernel)
theorem nw_377 : Cond.code ny_C_countByMonths nc_C_countByMonths 6 (some .int) ∈ zw_big := zw_mem (List.mem_append_right _ (List.mem_append_left _ (List.mem_of_getElem? (i := 137) (by decide +kernel)))) (by decide +kernel)
theorem nw_378 : Cond.methodLink "DayEndBank$Calendar" 13 ny_C_monthAndDay ∈ zw_big := zw_mem (List.mem_append_right _ (List.mem_append_left _ (List.mem_of_getElem? (i := 138) (by decide +kernel)))) (by decide +kernel)
theorem nw_379 : Cond.methodLink "DayEndBank$Calendar" 17 ny_C_dayIn ∈ zw_big := zw_mem (List.mem_append_right _ (List.mem_append_left _ (List.mem_of_getElem? (i := 139) (by decide +kernel)))) (by decide +kernel)
theorem nw_380 : Cond.methodLink "DayEndBank$Calendar" 20 ny_T_min ∈ zw_big := zw_mem (List.mem_append_right _ (List.mem_append_left _ (List.mem_of_getElem? (i := 140) (by decide +kernel)))) (by decide +kernel)
theorem nw_381 : Cond.methodLink "DayEndBank$Calendar" 25 ny_C_monthIn ∈ zw_big := zw_mem (List.mem_append_right _ (List.mem_append_left _ (List.mem_of_getElem? (i := 141) (by decide +kernel)))) (by decide +kernel)
theorem nw_382 : Cond.methodLink "DayEndBank" 231 ny_A_accrue ∈ zw_big := zw_mem (List.mem_append_right _ (List.mem_append_left _ (List.mem_of_getElem? (i := 142) (by decide +kernel)))) (by decide +kernel)
theorem nw_383 : Cond.instanceMethod ny_A_accrue ∈ zw_big := zw_mem (List.mem_append_right _ (List.mem_append_left _ (List.mem_of_getElem? (i := 143) (by decide +kernel)))) (by decide +kernel)
theorem nw_384 : Cond.selects "DayEndBank$Account" ny_A_accrue ny_A_accrue ∈ zw_big := zw_mem (List.mem_append_right _ (List.mem_append_left _ (List.mem_of_getElem? (i := 144) (by decide +kernel)))) (by decide +kernel)
theorem nw_385 : Cond.code ny_A_accrue nc_A_accrue 2 none ∈ zw_big := zw_mem (List.mem_append_right _ (List.mem_append_left _ (List.mem_of_getElem? (i := 145) (by decide +kernel)))) (by decide +kernel)
theorem nw_386 : Cond.methodLink "DayEndBank" 234 ny_C_isLastOfMonth ∈ zw_big := zw_mem (List.mem_append_right _ (List.mem_append_left _ (List.mem_of_getElem? (i := 146) (by decide +kernel)))) (by decide +kernel)
theorem nw_387 : Cond.static ny_C_isLastOfMonth ∈ zw_big := zw_mem (List.mem_append_right _ (List.mem_append_left _ (List.mem_of_getElem? (i := 147) (by decide +kernel)))) (by decide +kernel)
theorem nw_388 : Cond.code ny_C_isLastOfMonth nc_C_isLastOfMonth 1 (some .boolean) ∈ zw_big := zw_mem (List.mem_append_right _ (List.mem_append_left _ (List.mem_of_getElem? (i := 148) (by decide +kernel)))) (by decide +kernel)
theorem nw_389 : Cond.methodLink "DayEndBank" 237 ny_A_takeInterest ∈ zw_big := zw_mem (List.mem_append_right _ (List.mem_append_left _ (List.mem_of_getElem? (i := 149) (by decide +kernel)))) (by decide +kernel)
theorem nw_390 : Cond.instanceMethod ny_A_takeInterest ∈ zw_big := zw_mem (List.mem_append_right _ (List.mem_append_left _ (List.mem_of_getElem? (i := 150) (by decide +kernel)))) (by decide +kernel)
theorem nw_391 : Cond.selects "DayEndBank$Account" ny_A_takeInterest ny_A_takeInterest ∈ zw_big := zw_mem (List.mem_append_right _ (List.mem_append_left _ (List.mem_of_getElem? (i := 151) (by decide +kernel)))) (by decide +kernel)
theorem nw_392 : Cond.code ny_A_takeInterest nc_A_takeInterest 5 (some .long) ∈ zw_big := zw_mem (List.mem_append_right _ (List.mem_append_left _ (List.mem_of_getElem? (i := 152) (by decide +kernel)))) (by decide +kernel)
theorem nw_393 : Cond.constantLong "DayEndBank$Account" 29 (10000) ∈ zw_big := zw_mem (List.mem_append_right _ (List.mem_append_left _ (List.mem_of_getElem? (i := 153) (by decide +kernel)))) (by decide +kernel)
theorem nw_394 : Cond.methodLink "DayEndBank$Account" 34 ny_C_yearOf ∈ zw_big := zw_mem (List.mem_append_right _ (List.mem_append_left _ (List.mem_of_getElem? (i := 154) (by decide +kernel)))) (by decide +kernel)
theorem nw_395 : Cond.static ny_C_yearOf ∈ zw_big := zw_mem (List.mem_append_right _ (List.mem_append_left _ (List.mem_of_getElem? (i := 155) (by decide +kernel)))) (by decide +kernel)
theorem nw_396 : Cond.code ny_C_yearOf nc_C_yearOf 1 (some .int) ∈ zw_big := zw_mem (List.mem_append_right _ (List.mem_append_left _ (List.mem_of_getElem? (i := 156) (by decide +kernel)))) (by decide +kernel)
theorem nw_397 : Cond.methodLink "DayEndBank$Account" 40 ny_A_nearest ∈ zw_big := zw_mem (List.mem_append_right _ (List.mem_append_left _ (List.mem_of_getElem? (i := 157) (by decide +kernel)))) (by decide +kernel)
theorem nw_398 : Cond.static ny_A_nearest ∈ zw_big := zw_mem (List.mem_append_right _ (List.mem_append_left _ (List.mem_of_getElem? (i := 158) (by decide +kernel)))) (by decide +kernel)
theorem nw_399 : Cond.code ny_A_nearest nc_A_nearest 10 (some .long) ∈ zw_big := zw_mem (List.mem_append_right _ (List.mem_append_left _ (List.mem_of_getElem? (i := 159) (by decide +kernel)))) (by decide +kernel)
theorem nw_400 : Cond.methodLink "DayEndBank$Account" 44 ny_T_floorDivL ∈ zw_big := zw_mem (List.mem_append_right _ (List.mem_append_left _ (List.mem_of_getElem? (i := 160) (by decide +kernel)))) (by decide +kernel)
theorem nw_401 : Cond.static ny_T_floorDivL ∈ zw_big := zw_mem (List.mem_append_right _ (List.mem_append_left _ (List.mem_of_getElem? (i := 161) (by decide +kernel)))) (by decide +kernel)
theorem nw_402 : Cond.code ny_T_floorDivL nc_T_floorDivL 6 (some .long) ∈ zw_big := zw_mem (List.mem_append_right _ (List.mem_append_left _ (List.mem_of_getElem? (i := 162) (by decide +kernel)))) (by decide +kernel)
theorem nw_403 : Cond.constantLong "DayEndBank$Account" 49 (2) ∈ zw_big := zw_mem (List.mem_append_right _ (List.mem_append_left _ (List.mem_of_getElem? (i := 163) (by decide +kernel)))) (by decide +kernel)
theorem nw_404 : Cond.methodLink "DayEndBankLaw" 49 ny_B_fuse ∈ zw_big := zw_mem (List.mem_append_right _ (List.mem_append_left _ (List.mem_of_getElem? (i := 164) (by decide +kernel)))) (by decide +kernel)
theorem nw_405 : Cond.instanceMethod ny_B_fuse ∈ zw_big := zw_mem (List.mem_append_right _ (List.mem_append_left _ (List.mem_of_getElem? (i := 165) (by decide +kernel)))) (by decide +kernel)
theorem nw_406 : Cond.selects "DayEndBank" ny_B_fuse ny_B_fuse ∈ zw_big := zw_mem (List.mem_append_right _ (List.mem_append_left _ (List.mem_of_getElem? (i := 166) (by decide +kernel)))) (by decide +kernel)
theorem nw_407 : Cond.code ny_B_fuse nc_B_fuse 2 (some .boolean) ∈ zw_big := zw_mem (List.mem_append_right _ (List.mem_append_left _ (List.mem_of_getElem? (i := 167) (by decide +kernel)))) (by decide +kernel)
theorem nw_408 : Cond.methodLink "DayEndBankLaw" 54 ny_B_restart ∈ zw_big := zw_mem (List.mem_append_right _ (List.mem_append_left _ (List.mem_of_getElem? (i := 168) (by decide +kernel)))) (by decide +kernel)
theorem nw_409 : Cond.instanceMethod ny_B_restart ∈ zw_big := zw_mem (List.mem_append_right _ (List.mem_append_left _ (List.mem_of_getElem? (i := 169) (by decide +kernel)))) (by decide +kernel)
theorem nw_410 : Cond.selects "DayEndBank" ny_B_restart ny_B_restart ∈ zw_big := zw_mem (List.mem_append_right _ (List.mem_append_left _ (List.mem_of_getElem? (i := 170) (by decide +kernel)))) (by decide +kernel)
theorem nw_411 : Cond.code ny_B_restart nc_B_restart 1 (some .int) ∈ zw_big := zw_mem (List.mem_append_right _ (List.mem_append_left _ (List.mem_of_getElem? (i := 171) (by decide +kernel)))) (by decide +kernel)
theorem nw_412 : Cond.methodLink "DayEndBankLaw" 59 ny_B_balance ∈ zw_big := zw_mem (List.mem_append_right _ (List.mem_append_left _ (List.mem_of_getElem? (i := 172) (by decide +kernel)))) (by decide +kernel)
theorem nw_413 : Cond.instanceMethod ny_B_balance ∈ zw_big := zw_mem (List.mem_append_right _ (List.mem_append_left _ (List.mem_of_getElem? (i := 173) (by decide +kernel)))) (by decide +kernel)
theorem nw_414 : Cond.selects "DayEndBank" ny_B_balance ny_B_balance ∈ zw_big := zw_mem (List.mem_append_right _ (List.mem_append_left _ (List.mem_of_getElem? (i := 174) (by decide +kernel)))) (by decide +kernel)
theorem nw_415 : Cond.code ny_B_balance nc_B_balance 3 (some .long) ∈ zw_big := zw_mem (List.mem_append_right _ (List.mem_append_left _ (List.mem_of_getElem? (i := 175) (by decide +kernel)))) (by decide +kernel)
theorem nw_416 : Cond.methodLink "DayEndBank" 176 ny_B_shownAccount ∈ zw_big := zw_mem (List.mem_append_right _ (List.mem_append_left _ (List.mem_of_getElem? (i := 176) (by decide +kernel)))) (by decide +kernel)
theorem nw_418 : Cond.instanceMethod ny_B_shownAccount ∈ zw_big := zw_mem (List.mem_append_right _ (List.mem_append_left _ (List.mem_of_getElem? (i := 178) (by decide +kernel)))) (by decide +kernel)
theorem nw_419 : Cond.code ny_B_shownAccount nc_B_shownAccount 2 (some (.object "DayEndBank$Account")) ∈ zw_big := zw_mem (List.mem_append_right _ (List.mem_append_left _ (List.mem_of_getElem? (i := 179) (by decide +kernel)))) (by decide +kernel)
theorem nw_420 : Cond.methodLink "DayEndBankLaw" 64 ny_B_available ∈ zw_big := zw_mem (List.mem_append_right _ (List.mem_append_left _ (List.mem_of_getElem? (i := 180) (by decide +kernel)))) (by decide +kernel)
theorem nw_421 : Cond.instanceMethod ny_B_available ∈ zw_big := zw_mem (List.mem_append_right _ (List.mem_append_left _ (List.mem_of_getElem? (i := 181) (by decide +kernel)))) (by decide +kernel)
theorem nw_422 : Cond.selects "DayEndBank" ny_B_available ny_B_available ∈ zw_big := zw_mem (List.mem_append_right _ (List.mem_append_left _ (List.mem_of_getElem? (i := 182) (by decide +kernel)))) (by decide +kernel)
theorem nw_423 : Cond.code ny_B_available nc_B_available 3 (some .long) ∈ zw_big := zw_mem (List.mem_append_right _ (List.mem_append_left _ (List.mem_of_getElem? (i := 183) (by decide +kernel)))) (by decide +kernel)
theorem nw_424 : Cond.methodLink "DayEndBankLaw" 68 ny_B_accrued ∈ zw_big := zw_mem (List.mem_append_right _ (List.mem_append_left _ (List.mem_of_getElem? (i := 184) (by decide +kernel)))) (by decide +kernel)
theorem nw_425 : Cond.instanceMethod ny_B_accrued ∈ zw_big := zw_mem (List.mem_append_right _ (List.mem_append_left _ (List.mem_of_getElem? (i := 185) (by decide +kernel)))) (by decide +kernel)
theorem nw_426 : Cond.selects "DayEndBank" ny_B_accrued ny_B_accrued ∈ zw_big := zw_mem (List.mem_append_right _ (List.mem_append_left _ (List.mem_of_getElem? (i := 186) (by decide +kernel)))) (by decide +kernel)
theorem nw_427 : Cond.code ny_B_accrued nc_B_accrued 3 (some .long) ∈ zw_big := zw_mem (List.mem_append_right _ (List.mem_append_left _ (List.mem_of_getElem? (i := 187) (by decide +kernel)))) (by decide +kernel)
theorem nw_428 : Cond.methodLink "DayEndBankLaw" 72 ny_B_mark ∈ zw_big := zw_mem (List.mem_append_right _ (List.mem_append_left _ (List.mem_of_getElem? (i := 188) (by decide +kernel)))) (by decide +kernel)
theorem nw_429 : Cond.instanceMethod ny_B_mark ∈ zw_big := zw_mem (List.mem_append_right _ (List.mem_append_left _ (List.mem_of_getElem? (i := 189) (by decide +kernel)))) (by decide +kernel)
theorem nw_430 : Cond.selects "DayEndBank" ny_B_mark ny_B_mark ∈ zw_big := zw_mem (List.mem_append_right _ (List.mem_append_left _ (List.mem_of_getElem? (i := 190) (by decide +kernel)))) (by decide +kernel)
theorem nw_431 : Cond.code ny_B_mark nc_B_mark 3 (some .int) ∈ zw_big := zw_mem (List.mem_append_right _ (List.mem_append_left _ (List.mem_of_getElem? (i := 191) (by decide +kernel)))) (by decide +kernel)
theorem nw_432 : Cond.methodLink "DayEndBankLaw" 76 ny_B_ledger ∈ zw_big := zw_mem (List.mem_append_right _ (List.mem_append_left _ (List.mem_of_getElem? (i := 192) (by decide +kernel)))) (by decide +kernel)
theorem nw_433 : Cond.instanceMethod ny_B_ledger ∈ zw_big := zw_mem (List.mem_append_right _ (List.mem_append_left _ (List.mem_of_getElem? (i := 193) (by decide +kernel)))) (by decide +kernel)
theorem nw_434 : Cond.selects "DayEndBank" ny_B_ledger ny_B_ledger ∈ zw_big := zw_mem (List.mem_append_right _ (List.mem_append_left _ (List.mem_of_getElem? (i := 194) (by decide +kernel)))) (by decide +kernel)
theorem nw_435 : Cond.code ny_B_ledger nc_B_ledger 3 (some .long) ∈ zw_big := zw_mem (List.mem_append_right _ (List.mem_append_left _ (List.mem_of_getElem? (i := 195) (by decide +kernel)))) (by decide +kernel)
theorem nw_436 : Cond.methodLink "DayEndBank" 186 ny_B_sumOfBalances ∈ zw_big := zw_mem (List.mem_append_right _ (List.mem_append_left _ (List.mem_of_getElem? (i := 196) (by decide +kernel)))) (by decide +kernel)
theorem nw_438 : Cond.instanceMethod ny_B_sumOfBalances ∈ zw_big := zw_mem (List.mem_append_right _ (List.mem_append_left _ (List.mem_of_getElem? (i := 198) (by decide +kernel)))) (by decide +kernel)
theorem nw_439 : Cond.code ny_B_sumOfBalances nc_B_sumOfBalances 5 (some .long) ∈ zw_big := zw_mem (List.mem_append_right _ (List.mem_append_left _ (List.mem_of_getElem? (i := 199) (by decide +kernel)))) (by decide +kernel)
theorem nw_440 : Cond.methodLink "DayEndBankLaw" 81 ny_B_missed ∈ zw_big := zw_mem (List.mem_append_right _ (List.mem_append_left _ (List.mem_of_getElem? (i := 200) (by decide +kernel)))) (by decide +kernel)
theorem nw_441 : Cond.instanceMethod ny_B_missed ∈ zw_big := zw_mem (List.mem_append_right _ (List.mem_append_left _ (List.mem_of_getElem? (i := 201) (by decide +kernel)))) (by decide +kernel)
theorem nw_442 : Cond.selects "DayEndBank" ny_B_missed ny_B_missed ∈ zw_big := zw_mem (List.mem_append_right _ (List.mem_append_left _ (List.mem_of_getElem? (i := 202) (by decide +kernel)))) (by decide +kernel)
theorem nw_443 : Cond.code ny_B_missed nc_B_missed 2 (some .int) ∈ zw_big := zw_mem (List.mem_append_right _ (List.mem_append_left _ (List.mem_of_getElem? (i := 203) (by decide +kernel)))) (by decide +kernel)
theorem nw_444 : Cond.methodLink "DayEndBankLaw" 85 ny_B_today ∈ zw_big := zw_mem (List.mem_append_right _ (List.mem_append_left _ (List.mem_of_getElem? (i := 204) (by decide +kernel)))) (by decide +kernel)
theorem nw_445 : Cond.instanceMethod ny_B_today ∈ zw_big := zw_mem (List.mem_append_right _ (List.mem_append_left _ (List.mem_of_getElem? (i := 205) (by decide +kernel)))) (by decide +kernel)
theorem nw_446 : Cond.selects "DayEndBank" ny_B_today ny_B_today ∈ zw_big := zw_mem (List.mem_append_right _ (List.mem_append_left _ (List.mem_of_getElem? (i := 206) (by decide +kernel)))) (by decide +kernel)
theorem nw_447 : Cond.code ny_B_today nc_B_today 1 (some .int) ∈ zw_big := zw_mem (List.mem_append_right _ (List.mem_append_left _ (List.mem_of_getElem? (i := 207) (by decide +kernel)))) (by decide +kernel)
theorem nw_448 : Cond.methodLink "DayEndBankLaw" 89 ny_B_count ∈ zw_big := zw_mem (List.mem_append_right _ (List.mem_append_left _ (List.mem_of_getElem? (i := 208) (by decide +kernel)))) (by decide +kernel)
theorem nw_449 : Cond.instanceMethod ny_B_count ∈ zw_big := zw_mem (List.mem_append_right _ (List.mem_append_left _ (List.mem_of_getElem? (i := 209) (by decide +kernel)))) (by decide +kernel)
theorem nw_450 : Cond.selects "DayEndBank" ny_B_count ny_B_count ∈ zw_big := zw_mem (List.mem_append_right _ (List.mem_append_left _ (List.mem_of_getElem? (i := 210) (by decide +kernel)))) (by decide +kernel)
theorem nw_451 : Cond.code ny_B_count nc_B_count 4 (some .int) ∈ zw_big := zw_mem (List.mem_append_right _ (List.mem_append_left _ (List.mem_of_getElem? (i := 211) (by decide +kernel)))) (by decide +kernel)
theorem nw_452 : Cond.constant "DayEndBank" 193 (99999) ∈ zw_big := zw_mem (List.mem_append_right _ (List.mem_append_left _ (List.mem_of_getElem? (i := 212) (by decide +kernel)))) (by decide +kernel)
theorem nw_453 : Cond.methodLink "DayEndBankLaw" 93 ny_B_writes ∈ zw_big := zw_mem (List.mem_append_right _ (List.mem_append_left _ (List.mem_of_getElem? (i := 213) (by decide +kernel)))) (by decide +kernel)
theorem nw_454 : Cond.instanceMethod ny_B_writes ∈ zw_big := zw_mem (List.mem_append_right _ (List.mem_append_left _ (List.mem_of_getElem? (i := 214) (by decide +kernel)))) (by decide +kernel)
theorem nw_455 : Cond.selects "DayEndBank" ny_B_writes ny_B_writes ∈ zw_big := zw_mem (List.mem_append_right _ (List.mem_append_left _ (List.mem_of_getElem? (i := 215) (by decide +kernel)))) (by decide +kernel)
theorem nw_456 : Cond.code ny_B_writes nc_B_writes 1 (some .int) ∈ zw_big := zw_mem (List.mem_append_right _ (List.mem_append_left _ (List.mem_of_getElem? (i := 216) (by decide +kernel)))) (by decide +kernel)
theorem nw_457 : Cond.methodLink "DayEndBankLaw" 97 ny_B_lines ∈ zw_big := zw_mem (List.mem_append_right _ (List.mem_append_left _ (List.mem_of_getElem? (i := 217) (by decide +kernel)))) (by decide +kernel)
theorem nw_458 : Cond.instanceMethod ny_B_lines ∈ zw_big := zw_mem (List.mem_append_right _ (List.mem_append_left _ (List.mem_of_getElem? (i := 218) (by decide +kernel)))) (by decide +kernel)
theorem nw_459 : Cond.selects "DayEndBank" ny_B_lines ny_B_lines ∈ zw_big := zw_mem (List.mem_append_right _ (List.mem_append_left _ (List.mem_of_getElem? (i := 219) (by decide +kernel)))) (by decide +kernel)
theorem nw_460 : Cond.code ny_B_lines nc_B_lines 1 (some .int) ∈ zw_big := zw_mem (List.mem_append_right _ (List.mem_append_left _ (List.mem_of_getElem? (i := 220) (by decide +kernel)))) (by decide +kernel)
theorem nw_463 : Cond.methodLink "DayEndBankLaw" 12 ny_M_init ∈ zw_big := zw_mem (List.mem_append_right _ (List.mem_append_left _ (List.mem_of_getElem? (i := 223) (by decide +kernel)))) (by decide +kernel)
theorem nw_464 : Cond.instanceMethod ny_M_init ∈ zw_big := zw_mem (List.mem_append_right _ (List.mem_append_left _ (List.mem_of_getElem? (i := 224) (by decide +kernel)))) (by decide +kernel)
theorem nw_465 : Cond.code ny_M_init nc_M_init 1 none ∈ zw_big := zw_mem (List.mem_append_right _ (List.mem_append_left _ (List.mem_of_getElem? (i := 225) (by decide +kernel)))) (by decide +kernel)
theorem nw_467 : Cond.fieldLink "DayEndBankModel" 121 "DayEndBankModel" "accounts" "I" ∈ zw_big := zw_mem (List.mem_append_right _ (List.mem_append_left _ (List.mem_of_getElem? (i := 227) (by decide +kernel)))) (by decide +kernel)
theorem nw_468 : Cond.fieldLink "DayEndBankModel" 7 "DayEndBankModel" "currency" "[I" ∈ zw_big := zw_mem (List.mem_append_right _ (List.mem_append_left _ (List.mem_of_getElem? (i := 228) (by decide +kernel)))) (by decide +kernel)
theorem nw_469 : Cond.fieldLink "DayEndBankModel" 13 "DayEndBankModel" "basis" "[I" ∈ zw_big := zw_mem (List.mem_append_right _ (List.mem_append_left _ (List.mem_of_getElem? (i := 229) (by decide +kernel)))) (by decide +kernel)
theorem nw_470 : Cond.fieldLink "DayEndBankModel" 16 "DayEndBankModel" "limit" "[I" ∈ zw_big := zw_mem (List.mem_append_right _ (List.mem_append_left _ (List.mem_of_getElem? (i := 230) (by decide +kernel)))) (by decide +kernel)
theorem nw_471 : Cond.fieldLink "DayEndBankModel" 19 "DayEndBankModel" "rate" "[I" ∈ zw_big := zw_mem (List.mem_append_right _ (List.mem_append_left _ (List.mem_of_getElem? (i := 231) (by decide +kernel)))) (by decide +kernel)
theorem nw_472 : Cond.fieldLink "DayEndBankModel" 22 "DayEndBankModel" "marked" "[I" ∈ zw_big := zw_mem (List.mem_append_right _ (List.mem_append_left _ (List.mem_of_getElem? (i := 232) (by decide +kernel)))) (by decide +kernel)
theorem nw_473 : Cond.fieldLink "DayEndBankModel" 25 "DayEndBankModel" "money" "[J" ∈ zw_big := zw_mem (List.mem_append_right _ (List.mem_append_left _ (List.mem_of_getElem? (i := 233) (by decide +kernel)))) (by decide +kernel)
theorem nw_474 : Cond.fieldLink "DayEndBankModel" 29 "DayEndBankModel" "accrual" "[J" ∈ zw_big := zw_mem (List.mem_append_right _ (List.mem_append_left _ (List.mem_of_getElem? (i := 234) (by decide +kernel)))) (by decide +kernel)
theorem nw_475 : Cond.fieldLink "DayEndBankModel" 32 "DayEndBankModel" "holdOf" "[I" ∈ zw_big := zw_mem (List.mem_append_right _ (List.mem_append_left _ (List.mem_of_getElem? (i := 235) (by decide +kernel)))) (by decide +kernel)
theorem nw_476 : Cond.fieldLink "DayEndBankModel" 35 "DayEndBankModel" "holdAmount" "[I" ∈ zw_big := zw_mem (List.mem_append_right _ (List.mem_append_left _ (List.mem_of_getElem? (i := 236) (by decide +kernel)))) (by decide +kernel)
theorem nw_477 : Cond.fieldLink "DayEndBankModel" 159 "DayEndBankModel" "orders" "I" ∈ zw_big := zw_mem (List.mem_append_right _ (List.mem_append_left _ (List.mem_of_getElem? (i := 237) (by decide +kernel)))) (by decide +kernel)
theorem nw_478 : Cond.fieldLink "DayEndBankModel" 38 "DayEndBankModel" "payer" "[I" ∈ zw_big := zw_mem (List.mem_append_right _ (List.mem_append_left _ (List.mem_of_getElem? (i := 238) (by decide +kernel)))) (by decide +kernel)
theorem nw_479 : Cond.fieldLink "DayEndBankModel" 41 "DayEndBankModel" "payee" "[I" ∈ zw_big := zw_mem (List.mem_append_right _ (List.mem_append_left _ (List.mem_of_getElem? (i := 239) (by decide +kernel)))) (by decide +kernel)
theorem nw_480 : Cond.fieldLink "DayEndBankModel" 44 "DayEndBankModel" "sum" "[I" ∈ zw_big := zw_mem (List.mem_append_right _ (List.mem_append_right _ (List.mem_append_left _ (List.mem_of_getElem? (i := 0) (by decide +kernel))))) (by decide +kernel)
theorem nw_481 : Cond.fieldLink "DayEndBankModel" 47 "DayEndBankModel" "dayOf" "[I" ∈ zw_big := zw_mem (List.mem_append_right _ (List.mem_append_right _ (List.mem_append_left _ (List.mem_of_getElem? (i := 1) (by decide +kernel))))) (by decide +kernel)
theorem nw_482 : Cond.fieldLink "DayEndBankModel" 50 "DayEndBankModel" "misses" "[I" ∈ zw_big := zw_mem (List.mem_append_right _ (List.mem_append_right _ (List.mem_append_left _ (List.mem_of_getElem? (i := 2) (by decide +kernel))))) (by decide +kernel)
theorem nw_483 : Cond.fieldLink "DayEndBankModel" 87 "DayEndBankModel" "rests" "I" ∈ zw_big := zw_mem (List.mem_append_right _ (List.mem_append_right _ (List.mem_append_left _ (List.mem_of_getElem? (i := 3) (by decide +kernel))))) (by decide +kernel)
theorem nw_484 : Cond.fieldLink "DayEndBankModel" 53 "DayEndBankModel" "restDate" "[I" ∈ zw_big := zw_mem (List.mem_append_right _ (List.mem_append_right _ (List.mem_append_left _ (List.mem_of_getElem? (i := 4) (by decide +kernel))))) (by decide +kernel)
theorem nw_485 : Cond.fieldLink "DayEndBankModel" 56 "DayEndBankModel" "cash" "[J" ∈ zw_big := zw_mem (List.mem_append_right _ (List.mem_append_right _ (List.mem_append_left _ (List.mem_of_getElem? (i := 5) (by decide +kernel))))) (by decide +kernel)
theorem nw_486 : Cond.fieldLink "DayEndBankModel" 59 "DayEndBankModel" "interest" "[J" ∈ zw_big := zw_mem (List.mem_append_right _ (List.mem_append_right _ (List.mem_append_left _ (List.mem_of_getElem? (i := 6) (by decide +kernel))))) (by decide +kernel)
theorem nw_487 : Cond.fieldLink "DayEndBankModel" 90 "DayEndBankModel" "now" "I" ∈ zw_big := zw_mem (List.mem_append_right _ (List.mem_append_right _ (List.mem_append_left _ (List.mem_of_getElem? (i := 7) (by decide +kernel))))) (by decide +kernel)
theorem nw_488 : Cond.fieldLink "DayEndBankModel" 118 "DayEndBankModel" "ending" "Z" ∈ zw_big := zw_mem (List.mem_append_right _ (List.mem_append_right _ (List.mem_append_left _ (List.mem_of_getElem? (i := 8) (by decide +kernel))))) (by decide +kernel)
theorem nw_489 : Cond.fieldLink "DayEndBankModel" 102 "DayEndBankModel" "stopped" "Z" ∈ zw_big := zw_mem (List.mem_append_right _ (List.mem_append_right _ (List.mem_append_left _ (List.mem_of_getElem? (i := 9) (by decide +kernel))))) (by decide +kernel)
theorem nw_490 : Cond.fieldLink "DayEndBankModel" 62 "DayEndBankModel" "left" "I" ∈ zw_big := zw_mem (List.mem_append_right _ (List.mem_append_right _ (List.mem_append_left _ (List.mem_of_getElem? (i := 10) (by decide +kernel))))) (by decide +kernel)
theorem nw_491 : Cond.fieldLink "DayEndBankModel" 96 "DayEndBankModel" "written" "I" ∈ zw_big := zw_mem (List.mem_append_right _ (List.mem_append_right _ (List.mem_append_left _ (List.mem_of_getElem? (i := 11) (by decide +kernel))))) (by decide +kernel)
theorem nw_492 : Cond.fieldLink "DayEndBankModel" 106 "DayEndBankModel" "inLog" "I" ∈ zw_big := zw_mem (List.mem_append_right _ (List.mem_append_right _ (List.mem_append_left _ (List.mem_of_getElem? (i := 12) (by decide +kernel))))) (by decide +kernel)
theorem nw_493 : Cond.fieldLink "DayEndBankModel" 115 "DayEndBankModel" "ended" "I" ∈ zw_big := zw_mem (List.mem_append_right _ (List.mem_append_right _ (List.mem_append_left _ (List.mem_of_getElem? (i := 13) (by decide +kernel))))) (by decide +kernel)
theorem nw_494 : Cond.fieldLink "DayEndBankModel" 109 "DayEndBankModel" "touched" "I" ∈ zw_big := zw_mem (List.mem_append_right _ (List.mem_append_right _ (List.mem_append_left _ (List.mem_of_getElem? (i := 14) (by decide +kernel))))) (by decide +kernel)
theorem nw_495 : Cond.fieldLink "DayEndBankModel" 70 "DayEndBankModel" "year" "I" ∈ zw_big := zw_mem (List.mem_append_right _ (List.mem_append_right _ (List.mem_append_left _ (List.mem_of_getElem? (i := 15) (by decide +kernel))))) (by decide +kernel)
theorem nw_496 : Cond.fieldLink "DayEndBankModel" 73 "DayEndBankModel" "month" "I" ∈ zw_big := zw_mem (List.mem_append_right _ (List.mem_append_right _ (List.mem_append_left _ (List.mem_of_getElem? (i := 16) (by decide +kernel))))) (by decide +kernel)
theorem nw_497 : Cond.fieldLink "DayEndBankModel" 80 "DayEndBankModel" "day" "I" ∈ zw_big := zw_mem (List.mem_append_right _ (List.mem_append_right _ (List.mem_append_left _ (List.mem_of_getElem? (i := 17) (by decide +kernel))))) (by decide +kernel)
theorem nw_498 : Cond.lays "DayEndBankModel" "DayEndBankModel" "accounts" "I" ∈ zw_big := zw_mem (List.mem_append_right _ (List.mem_append_right _ (List.mem_append_left _ (List.mem_of_getElem? (i := 18) (by decide +kernel))))) (by decide +kernel)
theorem nw_500 : Cond.laysFinal "DayEndBankModel" "DayEndBankModel" "currency" "[I" ∈ zw_big := zw_mem (List.mem_append_right _ (List.mem_append_right _ (List.mem_append_left _ (List.mem_of_getElem? (i := 20) (by decide +kernel))))) (by decide +kernel)
theorem nw_502 : Cond.laysFinal "DayEndBankModel" "DayEndBankModel" "basis" "[I" ∈ zw_big := zw_mem (List.mem_append_right _ (List.mem_append_right _ (List.mem_append_left _ (List.mem_of_getElem? (i := 22) (by decide +kernel))))) (by decide +kernel)
theorem nw_504 : Cond.laysFinal "DayEndBankModel" "DayEndBankModel" "limit" "[I" ∈ zw_big := zw_mem (List.mem_append_right _ (List.mem_append_right _ (List.mem_append_left _ (List.mem_of_getElem? (i := 24) (by decide +kernel))))) (by decide +kernel)
theorem nw_506 : Cond.laysFinal "DayEndBankModel" "DayEndBankModel" "rate" "[I" ∈ zw_big := zw_mem (List.mem_append_right _ (List.mem_append_right _ (List.mem_append_left _ (List.mem_of_getElem? (i := 26) (by decide +kernel))))) (by decide +kernel)
theorem nw_508 : Cond.laysFinal "DayEndBankModel" "DayEndBankModel" "marked" "[I" ∈ zw_big := zw_mem (List.mem_append_right _ (List.mem_append_right _ (List.mem_append_left _ (List.mem_of_getElem? (i := 28) (by decide +kernel))))) (by decide +kernel)
theorem nw_510 : Cond.laysFinal "DayEndBankModel" "DayEndBankModel" "money" "[J" ∈ zw_big := zw_mem (List.mem_append_right _ (List.mem_append_right _ (List.mem_append_left _ (List.mem_of_getElem? (i := 30) (by decide +kernel))))) (by decide +kernel)
theorem nw_512 : Cond.laysFinal "DayEndBankModel" "DayEndBankModel" "accrual" "[J" ∈ zw_big := zw_mem (List.mem_append_right _ (List.mem_append_right _ (List.mem_append_left _ (List.mem_of_getElem? (i := 32) (by decide +kernel))))) (by decide +kernel)
theorem nw_514 : Cond.laysFinal "DayEndBankModel" "DayEndBankModel" "holdOf" "[I" ∈ zw_big := zw_mem (List.mem_append_right _ (List.mem_append_right _ (List.mem_append_left _ (List.mem_of_getElem? (i := 34) (by decide +kernel))))) (by decide +kernel)
theorem nw_516 : Cond.laysFinal "DayEndBankModel" "DayEndBankModel" "holdAmount" "[I" ∈ zw_big := zw_mem (List.mem_append_right _ (List.mem_append_right _ (List.mem_append_left _ (List.mem_of_getElem? (i := 36) (by decide +kernel))))) (by decide +kernel)
theorem nw_518 : Cond.lays "DayEndBankModel" "DayEndBankModel" "orders" "I" ∈ zw_big := zw_mem (List.mem_append_right _ (List.mem_append_right _ (List.mem_append_left _ (List.mem_of_getElem? (i := 38) (by decide +kernel))))) (by decide +kernel)
theorem nw_520 : Cond.laysFinal "DayEndBankModel" "DayEndBankModel" "payer" "[I" ∈ zw_big := zw_mem (List.mem_append_right _ (List.mem_append_right _ (List.mem_append_left _ (List.mem_of_getElem? (i := 40) (by decide +kernel))))) (by decide +kernel)
theorem nw_522 : Cond.laysFinal "DayEndBankModel" "DayEndBankModel" "payee" "[I" ∈ zw_big := zw_mem (List.mem_append_right _ (List.mem_append_right _ (List.mem_append_left _ (List.mem_of_getElem? (i := 42) (by decide +kernel))))) (by decide +kernel)
theorem nw_524 : Cond.laysFinal "DayEndBankModel" "DayEndBankModel" "sum" "[I" ∈ zw_big := zw_mem (List.mem_append_right _ (List.mem_append_right _ (List.mem_append_left _ (List.mem_of_getElem? (i := 44) (by decide +kernel))))) (by decide +kernel)
theorem nw_526 : Cond.laysFinal "DayEndBankModel" "DayEndBankModel" "dayOf" "[I" ∈ zw_big := zw_mem (List.mem_append_right _ (List.mem_append_right _ (List.mem_append_left _ (List.mem_of_getElem? (i := 46) (by decide +kernel))))) (by decide +kernel)
theorem nw_528 : Cond.laysFinal "DayEndBankModel" "DayEndBankModel" "misses" "[I" ∈ zw_big := zw_mem (List.mem_append_right _ (List.mem_append_right _ (List.mem_append_left _ (List.mem_of_getElem? (i := 48) (by decide +kernel))))) (by decide +kernel)
theorem nw_530 : Cond.lays "DayEndBankModel" "DayEndBankModel" "rests" "I" ∈ zw_big := zw_mem (List.mem_append_right _ (List.mem_append_right _ (List.mem_append_left _ (List.mem_of_getElem? (i := 50) (by decide +kernel))))) (by decide +kernel)
theorem nw_532 : Cond.laysFinal "DayEndBankModel" "DayEndBankModel" "restDate" "[I" ∈ zw_big := zw_mem (List.mem_append_right _ (List.mem_append_right _ (List.mem_append_left _ (List.mem_of_getElem? (i := 52) (by decide +kernel))))) (by decide +kernel)
theorem nw_534 : Cond.laysFinal "DayEndBankModel" "DayEndBankModel" "cash" "[J" ∈ zw_big := zw_mem (List.mem_append_right _ (List.mem_append_right _ (List.mem_append_left _ (List.mem_of_getElem? (i := 54) (by decide +kernel))))) (by decide +kernel)
theorem nw_536 : Cond.laysFinal "DayEndBankModel" "DayEndBankModel" "interest" "[J" ∈ zw_big := zw_mem (List.mem_append_right _ (List.mem_append_right _ (List.mem_append_left _ (List.mem_of_getElem? (i := 56) (by decide +kernel))))) (by decide +kernel)
theorem nw_538 : Cond.lays "DayEndBankModel" "DayEndBankModel" "now" "I" ∈ zw_big := zw_mem (List.mem_append_right _ (List.mem_append_right _ (List.mem_append_left _ (List.mem_of_getElem? (i := 58) (by decide +kernel))))) (by decide +kernel)
theorem nw_540 : Cond.lays "DayEndBankModel" "DayEndBankModel" "ending" "Z" ∈ zw_big := zw_mem (List.mem_append_right _ (List.mem_append_right _ (List.mem_append_left _ (List.mem_of_getElem? (i := 60) (by decide +kernel))))) (by decide +kernel)
theorem nw_542 : Cond.lays "DayEndBankModel" "DayEndBankModel" "stopped" "Z" ∈ zw_big := zw_mem (List.mem_append_right _ (List.mem_append_right _ (List.mem_append_left _ (List.mem_of_getElem? (i := 62) (by decide +kernel))))) (by decide +kernel)
theorem nw_544 : Cond.lays "DayEndBankModel" "DayEndBankModel" "left" "I" ∈ zw_big := zw_mem (List.mem_append_right _ (List.mem_append_right _ (List.mem_append_left _ (List.mem_of_getElem? (i := 64) (by decide +kernel))))) (by decide +kernel)
theorem nw_546 : Cond.lays "DayEndBankModel" "DayEndBankModel" "written" "I" ∈ zw_big := zw_mem (List.mem_append_right _ (List.mem_append_right _ (List.mem_append_left _ (List.mem_of_getElem? (i := 66) (by decide +kernel))))) (by decide +kernel)
theorem nw_548 : Cond.lays "DayEndBankModel" "DayEndBankModel" "inLog" "I" ∈ zw_big := zw_mem (List.mem_append_right _ (List.mem_append_right _ (List.mem_append_left _ (List.mem_of_getElem? (i := 68) (by decide +kernel))))) (by decide +kernel)
theorem nw_550 : Cond.lays "DayEndBankModel" "DayEndBankModel" "ended" "I" ∈ zw_big := zw_mem (List.mem_append_right _ (List.mem_append_right _ (List.mem_append_left _ (List.mem_of_getElem? (i := 70) (by decide +kernel))))) (by decide +kernel)
theorem nw_552 : Cond.lays "DayEndBankModel" "DayEndBankModel" "touched" "I" ∈ zw_big := zw_mem (List.mem_append_right _ (List.mem_append_right _ (List.mem_append_left _ (List.mem_of_getElem? (i := 72) (by decide +kernel))))) (by decide +kernel)
theorem nw_554 : Cond.lays "DayEndBankModel" "DayEndBankModel" "year" "I" ∈ zw_big := zw_mem (List.mem_append_right _ (List.mem_append_right _ (List.mem_append_left _ (List.mem_of_getElem? (i := 74) (by decide +kernel))))) (by decide +kernel)
theorem nw_556 : Cond.lays "DayEndBankModel" "DayEndBankModel" "month" "I" ∈ zw_big := zw_mem (List.mem_append_right _ (List.mem_append_right _ (List.mem_append_left _ (List.mem_of_getElem? (i := 76) (by decide +kernel))))) (by decide +kernel)
theorem nw_558 : Cond.lays "DayEndBankModel" "DayEndBankModel" "day" "I" ∈ zw_big := zw_mem (List.mem_append_right _ (List.mem_append_right _ (List.mem_append_left _ (List.mem_of_getElem? (i := 78) (by decide +kernel))))) (by decide +kernel)
theorem nw_561 : Cond.methodLink "DayEndBankLaw" 17 ny_M_open ∈ zw_big := zw_mem (List.mem_append_right _ (List.mem_append_right _ (List.mem_append_left _ (List.mem_of_getElem? (i := 81) (by decide +kernel))))) (by decide +kernel)
theorem nw_562 : Cond.instanceMethod ny_M_open ∈ zw_big := zw_mem (List.mem_append_right _ (List.mem_append_right _ (List.mem_append_left _ (List.mem_of_getElem? (i := 82) (by decide +kernel))))) (by decide +kernel)
theorem nw_563 : Cond.selects "DayEndBankModel" ny_M_open ny_M_open ∈ zw_big := zw_mem (List.mem_append_right _ (List.mem_append_right _ (List.mem_append_left _ (List.mem_of_getElem? (i := 83) (by decide +kernel))))) (by decide +kernel)
theorem nw_564 : Cond.code ny_M_open nc_M_open 5 (some .int) ∈ zw_big := zw_mem (List.mem_append_right _ (List.mem_append_right _ (List.mem_append_left _ (List.mem_of_getElem? (i := 84) (by decide +kernel))))) (by decide +kernel)
theorem nw_565 : Cond.methodLink "DayEndBankModel" 125 ny_M_shut ∈ zw_big := zw_mem (List.mem_append_right _ (List.mem_append_right _ (List.mem_append_left _ (List.mem_of_getElem? (i := 85) (by decide +kernel))))) (by decide +kernel)
theorem nw_567 : Cond.instanceMethod ny_M_shut ∈ zw_big := zw_mem (List.mem_append_right _ (List.mem_append_right _ (List.mem_append_left _ (List.mem_of_getElem? (i := 87) (by decide +kernel))))) (by decide +kernel)
theorem nw_568 : Cond.code ny_M_shut nc_M_shut 1 (some .int) ∈ zw_big := zw_mem (List.mem_append_right _ (List.mem_append_right _ (List.mem_append_left _ (List.mem_of_getElem? (i := 88) (by decide +kernel))))) (by decide +kernel)
theorem nw_569 : Cond.constant "DayEndBankModel" 124 (1000000) ∈ zw_big := zw_mem (List.mem_append_right _ (List.mem_append_right _ (List.mem_append_left _ (List.mem_of_getElem? (i := 89) (by decide +kernel))))) (by decide +kernel)
theorem nw_570 : Cond.methodLink "DayEndBankModel" 129 ny_M_comes ∈ zw_big := zw_mem (List.mem_append_right _ (List.mem_append_right _ (List.mem_append_left _ (List.mem_of_getElem? (i := 90) (by decide +kernel))))) (by decide +kernel)
theorem nw_572 : Cond.instanceMethod ny_M_comes ∈ zw_big := zw_mem (List.mem_append_right _ (List.mem_append_right _ (List.mem_append_left _ (List.mem_of_getElem? (i := 92) (by decide +kernel))))) (by decide +kernel)
theorem nw_573 : Cond.code ny_M_comes nc_M_comes 5 (some .boolean) ∈ zw_big := zw_mem (List.mem_append_right _ (List.mem_append_right _ (List.mem_append_left _ (List.mem_of_getElem? (i := 93) (by decide +kernel))))) (by decide +kernel)
theorem nw_574 : Cond.methodLink "DayEndBankModel" 112 ny_M_afford ∈ zw_big := zw_mem (List.mem_append_right _ (List.mem_append_right _ (List.mem_append_left _ (List.mem_of_getElem? (i := 94) (by decide +kernel))))) (by decide +kernel)
theorem nw_576 : Cond.instanceMethod ny_M_afford ∈ zw_big := zw_mem (List.mem_append_right _ (List.mem_append_right _ (List.mem_append_left _ (List.mem_of_getElem? (i := 96) (by decide +kernel))))) (by decide +kernel)
theorem nw_577 : Cond.code ny_M_afford nc_M_afford 2 (some .boolean) ∈ zw_big := zw_mem (List.mem_append_right _ (List.mem_append_right _ (List.mem_append_left _ (List.mem_of_getElem? (i := 97) (by decide +kernel))))) (by decide +kernel)
theorem nw_578 : Cond.methodLink "DayEndBankModel" 99 ny_M_spend ∈ zw_big := zw_mem (List.mem_append_right _ (List.mem_append_right _ (List.mem_append_left _ (List.mem_of_getElem? (i := 98) (by decide +kernel))))) (by decide +kernel)
theorem nw_580 : Cond.instanceMethod ny_M_spend ∈ zw_big := zw_mem (List.mem_append_right _ (List.mem_append_right _ (List.mem_append_left _ (List.mem_of_getElem? (i := 100) (by decide +kernel))))) (by decide +kernel)
theorem nw_581 : Cond.code ny_M_spend nc_M_spend 2 none ∈ zw_big := zw_mem (List.mem_append_right _ (List.mem_append_right _ (List.mem_append_left _ (List.mem_of_getElem? (i := 101) (by decide +kernel))))) (by decide +kernel)
theorem nw_582 : Cond.methodLink "DayEndBankLaw" 22 ny_M_pay ∈ zw_big := zw_mem (List.mem_append_right _ (List.mem_append_right _ (List.mem_append_left _ (List.mem_of_getElem? (i := 102) (by decide +kernel))))) (by decide +kernel)
theorem nw_583 : Cond.instanceMethod ny_M_pay ∈ zw_big := zw_mem (List.mem_append_right _ (List.mem_append_right _ (List.mem_append_left _ (List.mem_of_getElem? (i := 103) (by decide +kernel))))) (by decide +kernel)
theorem nw_584 : Cond.selects "DayEndBankModel" ny_M_pay ny_M_pay ∈ zw_big := zw_mem (List.mem_append_right _ (List.mem_append_right _ (List.mem_append_left _ (List.mem_of_getElem? (i := 104) (by decide +kernel))))) (by decide +kernel)
theorem nw_585 : Cond.code ny_M_pay nc_M_pay 4 (some .int) ∈ zw_big := zw_mem (List.mem_append_right _ (List.mem_append_right _ (List.mem_append_left _ (List.mem_of_getElem? (i := 105) (by decide +kernel))))) (by decide +kernel)
theorem nw_586 : Cond.methodLink "DayEndBankModel" 136 ny_M_pair ∈ zw_big := zw_mem (List.mem_append_right _ (List.mem_append_right _ (List.mem_append_left _ (List.mem_of_getElem? (i := 106) (by decide +kernel))))) (by decide +kernel)
theorem nw_588 : Cond.instanceMethod ny_M_pair ∈ zw_big := zw_mem (List.mem_append_right _ (List.mem_append_right _ (List.mem_append_left _ (List.mem_of_getElem? (i := 108) (by decide +kernel))))) (by decide +kernel)
theorem nw_589 : Cond.code ny_M_pair nc_M_pair 4 (some .boolean) ∈ zw_big := zw_mem (List.mem_append_right _ (List.mem_append_right _ (List.mem_append_left _ (List.mem_of_getElem? (i := 109) (by decide +kernel))))) (by decide +kernel)
theorem nw_590 : Cond.methodLink "DayEndBankModel" 133 ny_M_is ∈ zw_big := zw_mem (List.mem_append_right _ (List.mem_append_right _ (List.mem_append_left _ (List.mem_of_getElem? (i := 110) (by decide +kernel))))) (by decide +kernel)
theorem nw_592 : Cond.instanceMethod ny_M_is ∈ zw_big := zw_mem (List.mem_append_right _ (List.mem_append_right _ (List.mem_append_left _ (List.mem_of_getElem? (i := 112) (by decide +kernel))))) (by decide +kernel)
theorem nw_593 : Cond.code ny_M_is nc_M_is 2 (some .boolean) ∈ zw_big := zw_mem (List.mem_append_right _ (List.mem_append_right _ (List.mem_append_left _ (List.mem_of_getElem? (i := 113) (by decide +kernel))))) (by decide +kernel)
theorem nw_594 : Cond.methodLink "DayEndBankModel" 139 ny_M_amountOk ∈ zw_big := zw_mem (List.mem_append_right _ (List.mem_append_right _ (List.mem_append_left _ (List.mem_of_getElem? (i := 114) (by decide +kernel))))) (by decide +kernel)
theorem nw_596 : Cond.instanceMethod ny_M_amountOk ∈ zw_big := zw_mem (List.mem_append_right _ (List.mem_append_right _ (List.mem_append_left _ (List.mem_of_getElem? (i := 116) (by decide +kernel))))) (by decide +kernel)
theorem nw_597 : Cond.code ny_M_amountOk nc_M_amountOk 2 (some .boolean) ∈ zw_big := zw_mem (List.mem_append_right _ (List.mem_append_right _ (List.mem_append_left _ (List.mem_of_getElem? (i := 117) (by decide +kernel))))) (by decide +kernel)
theorem nw_598 : Cond.methodLink "DayEndBankModel" 142 ny_M_free ∈ zw_big := zw_mem (List.mem_append_right _ (List.mem_append_right _ (List.mem_append_left _ (List.mem_of_getElem? (i := 118) (by decide +kernel))))) (by decide +kernel)
theorem nw_600 : Cond.instanceMethod ny_M_free ∈ zw_big := zw_mem (List.mem_append_right _ (List.mem_append_right _ (List.mem_append_left _ (List.mem_of_getElem? (i := 120) (by decide +kernel))))) (by decide +kernel)
theorem nw_601 : Cond.code ny_M_free nc_M_free 5 (some .long) ∈ zw_big := zw_mem (List.mem_append_right _ (List.mem_append_right _ (List.mem_append_left _ (List.mem_of_getElem? (i := 121) (by decide +kernel))))) (by decide +kernel)
theorem nw_602 : Cond.methodLink "DayEndBankModel" 146 ny_M_linesOf ∈ zw_big := zw_mem (List.mem_append_right _ (List.mem_append_right _ (List.mem_append_left _ (List.mem_of_getElem? (i := 122) (by decide +kernel))))) (by decide +kernel)
theorem nw_604 : Cond.instanceMethod ny_M_linesOf ∈ zw_big := zw_mem (List.mem_append_right _ (List.mem_append_right _ (List.mem_append_left _ (List.mem_of_getElem? (i := 124) (by decide +kernel))))) (by decide +kernel)
theorem nw_605 : Cond.code ny_M_linesOf nc_M_linesOf 3 (some .int) ∈ zw_big := zw_mem (List.mem_append_right _ (List.mem_append_right _ (List.mem_append_left _ (List.mem_of_getElem? (i := 125) (by decide +kernel))))) (by decide +kernel)
theorem nw_606 : Cond.methodLink "DayEndBankModel" 149 ny_M_setOf ∈ zw_big := zw_mem (List.mem_append_right _ (List.mem_append_right _ (List.mem_append_left _ (List.mem_of_getElem? (i := 126) (by decide +kernel))))) (by decide +kernel)
theorem nw_608 : Cond.instanceMethod ny_M_setOf ∈ zw_big := zw_mem (List.mem_append_right _ (List.mem_append_right _ (List.mem_append_left _ (List.mem_of_getElem? (i := 128) (by decide +kernel))))) (by decide +kernel)
theorem nw_609 : Cond.code ny_M_setOf nc_M_setOf 3 (some .int) ∈ zw_big := zw_mem (List.mem_append_right _ (List.mem_append_right _ (List.mem_append_left _ (List.mem_of_getElem? (i := 129) (by decide +kernel))))) (by decide +kernel)
theorem nw_610 : Cond.methodLink "DayEndBankModel" 152 ny_M_transfer ∈ zw_big := zw_mem (List.mem_append_right _ (List.mem_append_right _ (List.mem_append_left _ (List.mem_of_getElem? (i := 130) (by decide +kernel))))) (by decide +kernel)
theorem nw_612 : Cond.instanceMethod ny_M_transfer ∈ zw_big := zw_mem (List.mem_append_right _ (List.mem_append_right _ (List.mem_append_left _ (List.mem_of_getElem? (i := 132) (by decide +kernel))))) (by decide +kernel)
theorem nw_613 : Cond.code ny_M_transfer nc_M_transfer 4 none ∈ zw_big := zw_mem (List.mem_append_right _ (List.mem_append_right _ (List.mem_append_left _ (List.mem_of_getElem? (i := 133) (by decide +kernel))))) (by decide +kernel)
theorem nw_614 : Cond.methodLink "DayEndBankLaw" 27 ny_M_hold ∈ zw_big := zw_mem (List.mem_append_right _ (List.mem_append_right _ (List.mem_append_left _ (List.mem_of_getElem? (i := 134) (by decide +kernel))))) (by decide +kernel)
theorem nw_615 : Cond.instanceMethod ny_M_hold ∈ zw_big := zw_mem (List.mem_append_right _ (List.mem_append_right _ (List.mem_append_left _ (List.mem_of_getElem? (i := 135) (by decide +kernel))))) (by decide +kernel)
theorem nw_616 : Cond.selects "DayEndBankModel" ny_M_hold ny_M_hold ∈ zw_big := zw_mem (List.mem_append_right _ (List.mem_append_right _ (List.mem_append_left _ (List.mem_of_getElem? (i := 136) (by decide +kernel))))) (by decide +kernel)
theorem nw_617 : Cond.code ny_M_hold nc_M_hold 4 (some .int) ∈ zw_big := zw_mem (List.mem_append_right _ (List.mem_append_right _ (List.mem_append_left _ (List.mem_of_getElem? (i := 137) (by decide +kernel))))) (by decide +kernel)
theorem nw_618 : Cond.methodLink "DayEndBankLaw" 32 ny_M_release ∈ zw_big := zw_mem (List.mem_append_right _ (List.mem_append_right _ (List.mem_append_left _ (List.mem_of_getElem? (i := 138) (by decide +kernel))))) (by decide +kernel)
theorem nw_619 : Cond.instanceMethod ny_M_release ∈ zw_big := zw_mem (List.mem_append_right _ (List.mem_append_right _ (List.mem_append_left _ (List.mem_of_getElem? (i := 139) (by decide +kernel))))) (by decide +kernel)
theorem nw_620 : Cond.selects "DayEndBankModel" ny_M_release ny_M_release ∈ zw_big := zw_mem (List.mem_append_right _ (List.mem_append_right _ (List.mem_append_left _ (List.mem_of_getElem? (i := 140) (by decide +kernel))))) (by decide +kernel)
theorem nw_621 : Cond.code ny_M_release nc_M_release 2 (some .int) ∈ zw_big := zw_mem (List.mem_append_right _ (List.mem_append_right _ (List.mem_append_left _ (List.mem_of_getElem? (i := 141) (by decide +kernel))))) (by decide +kernel)
theorem nw_622 : Cond.methodLink "DayEndBankModel" 156 ny_M_stands ∈ zw_big := zw_mem (List.mem_append_right _ (List.mem_append_right _ (List.mem_append_left _ (List.mem_of_getElem? (i := 142) (by decide +kernel))))) (by decide +kernel)
theorem nw_624 : Cond.instanceMethod ny_M_stands ∈ zw_big := zw_mem (List.mem_append_right _ (List.mem_append_right _ (List.mem_append_left _ (List.mem_of_getElem? (i := 144) (by decide +kernel))))) (by decide +kernel)
theorem nw_625 : Cond.code ny_M_stands nc_M_stands 2 (some .boolean) ∈ zw_big := zw_mem (List.mem_append_right _ (List.mem_append_right _ (List.mem_append_left _ (List.mem_of_getElem? (i := 145) (by decide +kernel))))) (by decide +kernel)
theorem nw_626 : Cond.methodLink "DayEndBankLaw" 36 ny_M_settle ∈ zw_big := zw_mem (List.mem_append_right _ (List.mem_append_right _ (List.mem_append_left _ (List.mem_of_getElem? (i := 146) (by decide +kernel))))) (by decide +kernel)
theorem nw_627 : Cond.instanceMethod ny_M_settle ∈ zw_big := zw_mem (List.mem_append_right _ (List.mem_append_right _ (List.mem_append_left _ (List.mem_of_getElem? (i := 147) (by decide +kernel))))) (by decide +kernel)
theorem nw_628 : Cond.selects "DayEndBankModel" ny_M_settle ny_M_settle ∈ zw_big := zw_mem (List.mem_append_right _ (List.mem_append_right _ (List.mem_append_left _ (List.mem_of_getElem? (i := 148) (by decide +kernel))))) (by decide +kernel)
theorem nw_629 : Cond.code ny_M_settle nc_M_settle 5 (some .int) ∈ zw_big := zw_mem (List.mem_append_right _ (List.mem_append_right _ (List.mem_append_left _ (List.mem_of_getElem? (i := 149) (by decide +kernel))))) (by decide +kernel)
theorem nw_630 : Cond.methodLink "DayEndBankLaw" 40 ny_M_order ∈ zw_big := zw_mem (List.mem_append_right _ (List.mem_append_right _ (List.mem_append_left _ (List.mem_of_getElem? (i := 150) (by decide +kernel))))) (by decide +kernel)
theorem nw_631 : Cond.instanceMethod ny_M_order ∈ zw_big := zw_mem (List.mem_append_right _ (List.mem_append_right _ (List.mem_append_left _ (List.mem_of_getElem? (i := 151) (by decide +kernel))))) (by decide +kernel)
theorem nw_632 : Cond.selects "DayEndBankModel" ny_M_order ny_M_order ∈ zw_big := zw_mem (List.mem_append_right _ (List.mem_append_right _ (List.mem_append_left _ (List.mem_of_getElem? (i := 152) (by decide +kernel))))) (by decide +kernel)
theorem nw_633 : Cond.code ny_M_order nc_M_order 5 (some .int) ∈ zw_big := zw_mem (List.mem_append_right _ (List.mem_append_right _ (List.mem_append_left _ (List.mem_of_getElem? (i := 153) (by decide +kernel))))) (by decide +kernel)
theorem nw_634 : Cond.methodLink "DayEndBankLaw" 44 ny_M_rest ∈ zw_big := zw_mem (List.mem_append_right _ (List.mem_append_right _ (List.mem_append_left _ (List.mem_of_getElem? (i := 154) (by decide +kernel))))) (by decide +kernel)
theorem nw_635 : Cond.instanceMethod ny_M_rest ∈ zw_big := zw_mem (List.mem_append_right _ (List.mem_append_right _ (List.mem_append_left _ (List.mem_of_getElem? (i := 155) (by decide +kernel))))) (by decide +kernel)
theorem nw_636 : Cond.selects "DayEndBankModel" ny_M_rest ny_M_rest ∈ zw_big := zw_mem (List.mem_append_right _ (List.mem_append_right _ (List.mem_append_left _ (List.mem_of_getElem? (i := 156) (by decide +kernel))))) (by decide +kernel)
theorem nw_637 : Cond.code ny_M_rest nc_M_rest 2 (some .int) ∈ zw_big := zw_mem (List.mem_append_right _ (List.mem_append_right _ (List.mem_append_left _ (List.mem_of_getElem? (i := 157) (by decide +kernel))))) (by decide +kernel)
theorem nw_638 : Cond.methodLink "DayEndBankModel" 93 ny_M_resting ∈ zw_big := zw_mem (List.mem_append_right _ (List.mem_append_right _ (List.mem_append_left _ (List.mem_of_getElem? (i := 158) (by decide +kernel))))) (by decide +kernel)
theorem nw_640 : Cond.instanceMethod ny_M_resting ∈ zw_big := zw_mem (List.mem_append_right _ (List.mem_append_right _ (List.mem_append_left _ (List.mem_of_getElem? (i := 160) (by decide +kernel))))) (by decide +kernel)
theorem nw_641 : Cond.code ny_M_resting nc_M_resting 4 (some .boolean) ∈ zw_big := zw_mem (List.mem_append_right _ (List.mem_append_right _ (List.mem_append_left _ (List.mem_of_getElem? (i := 161) (by decide +kernel))))) (by decide +kernel)
theorem nw_642 : Cond.methodLink "DayEndBankModel" 162 ny_M_later ∈ zw_big := zw_mem (List.mem_append_right _ (List.mem_append_right _ (List.mem_append_left _ (List.mem_of_getElem? (i := 162) (by decide +kernel))))) (by decide +kernel)
theorem nw_644 : Cond.instanceMethod ny_M_later ∈ zw_big := zw_mem (List.mem_append_right _ (List.mem_append_right _ (List.mem_append_left _ (List.mem_of_getElem? (i := 164) (by decide +kernel))))) (by decide +kernel)
theorem nw_645 : Cond.code ny_M_later nc_M_later 3 (some .boolean) ∈ zw_big := zw_mem (List.mem_append_right _ (List.mem_append_right _ (List.mem_append_left _ (List.mem_of_getElem? (i := 165) (by decide +kernel))))) (by decide +kernel)
theorem nw_646 : Cond.methodLink "DayEndBankModel" 83 ny_M_walk ∈ zw_big := zw_mem (List.mem_append_right _ (List.mem_append_right _ (List.mem_append_left _ (List.mem_of_getElem? (i := 166) (by decide +kernel))))) (by decide +kernel)
theorem nw_648 : Cond.instanceMethod ny_M_walk ∈ zw_big := zw_mem (List.mem_append_right _ (List.mem_append_right _ (List.mem_append_left _ (List.mem_of_getElem? (i := 168) (by decide +kernel))))) (by decide +kernel)
theorem nw_649 : Cond.code ny_M_walk nc_M_walk 4 none ∈ zw_big := zw_mem (List.mem_append_right _ (List.mem_append_right _ (List.mem_append_left _ (List.mem_of_getElem? (i := 169) (by decide +kernel))))) (by decide +kernel)
theorem nw_650 : Cond.methodLink "DayEndBankModel" 66 ny_M_leap ∈ zw_big := zw_mem (List.mem_append_right _ (List.mem_append_right _ (List.mem_append_left _ (List.mem_of_getElem? (i := 170) (by decide +kernel))))) (by decide +kernel)
theorem nw_651 : Cond.static ny_M_leap ∈ zw_big := zw_mem (List.mem_append_right _ (List.mem_append_right _ (List.mem_append_left _ (List.mem_of_getElem? (i := 171) (by decide +kernel))))) (by decide +kernel)
theorem nw_652 : Cond.code ny_M_leap nc_M_leap 1 (some .boolean) ∈ zw_big := zw_mem (List.mem_append_right _ (List.mem_append_right _ (List.mem_append_left _ (List.mem_of_getElem? (i := 172) (by decide +kernel))))) (by decide +kernel)
theorem nw_653 : Cond.methodLink "DayEndBankModel" 76 ny_M_length ∈ zw_big := zw_mem (List.mem_append_right _ (List.mem_append_right _ (List.mem_append_left _ (List.mem_of_getElem? (i := 173) (by decide +kernel))))) (by decide +kernel)
theorem nw_654 : Cond.static ny_M_length ∈ zw_big := zw_mem (List.mem_append_right _ (List.mem_append_right _ (List.mem_append_left _ (List.mem_of_getElem? (i := 174) (by decide +kernel))))) (by decide +kernel)
theorem nw_655 : Cond.code ny_M_length nc_M_length 2 (some .int) ∈ zw_big := zw_mem (List.mem_append_right _ (List.mem_append_right _ (List.mem_append_left _ (List.mem_of_getElem? (i := 175) (by decide +kernel))))) (by decide +kernel)
theorem nw_656 : Cond.methodLink "DayEndBankLaw" 48 ny_M_run ∈ zw_big := zw_mem (List.mem_append_right _ (List.mem_append_right _ (List.mem_append_left _ (List.mem_of_getElem? (i := 176) (by decide +kernel))))) (by decide +kernel)
theorem nw_657 : Cond.instanceMethod ny_M_run ∈ zw_big := zw_mem (List.mem_append_right _ (List.mem_append_right _ (List.mem_append_left _ (List.mem_of_getElem? (i := 177) (by decide +kernel))))) (by decide +kernel)
theorem nw_658 : Cond.selects "DayEndBankModel" ny_M_run ny_M_run ∈ zw_big := zw_mem (List.mem_append_right _ (List.mem_append_right _ (List.mem_append_left _ (List.mem_of_getElem? (i := 178) (by decide +kernel))))) (by decide +kernel)
theorem nw_659 : Cond.code ny_M_run nc_M_run 3 (some .int) ∈ zw_big := zw_mem (List.mem_append_right _ (List.mem_append_right _ (List.mem_append_left _ (List.mem_of_getElem? (i := 179) (by decide +kernel))))) (by decide +kernel)
theorem nw_660 : Cond.methodLink "DayEndBankModel" 186 ny_M_dayEnd ∈ zw_big := zw_mem (List.mem_append_right _ (List.mem_append_right _ (List.mem_append_left _ (List.mem_of_getElem? (i := 180) (by decide +kernel))))) (by decide +kernel)
theorem nw_662 : Cond.instanceMethod ny_M_dayEnd ∈ zw_big := zw_mem (List.mem_append_right _ (List.mem_append_right _ (List.mem_append_left _ (List.mem_of_getElem? (i := 182) (by decide +kernel))))) (by decide +kernel)
theorem nw_663 : Cond.code ny_M_dayEnd nc_M_dayEnd 2 (some .boolean) ∈ zw_big := zw_mem (List.mem_append_right _ (List.mem_append_right _ (List.mem_append_left _ (List.mem_of_getElem? (i := 183) (by decide +kernel))))) (by decide +kernel)
theorem nw_664 : Cond.methodLink "DayEndBankModel" 183 ny_M_step ∈ zw_big := zw_mem (List.mem_append_right _ (List.mem_append_right _ (List.mem_append_left _ (List.mem_of_getElem? (i := 184) (by decide +kernel))))) (by decide +kernel)
theorem nw_666 : Cond.instanceMethod ny_M_step ∈ zw_big := zw_mem (List.mem_append_right _ (List.mem_append_right _ (List.mem_append_left _ (List.mem_of_getElem? (i := 186) (by decide +kernel))))) (by decide +kernel)
theorem nw_667 : Cond.code ny_M_step nc_M_step 6 (some .boolean) ∈ zw_big := zw_mem (List.mem_append_right _ (List.mem_append_right _ (List.mem_append_left _ (List.mem_of_getElem? (i := 187) (by decide +kernel))))) (by decide +kernel)
theorem nw_668 : Cond.methodLink "DayEndBankModel" 168 ny_M_paidOrders ∈ zw_big := zw_mem (List.mem_append_right _ (List.mem_append_right _ (List.mem_append_left _ (List.mem_of_getElem? (i := 188) (by decide +kernel))))) (by decide +kernel)
theorem nw_670 : Cond.instanceMethod ny_M_paidOrders ∈ zw_big := zw_mem (List.mem_append_right _ (List.mem_append_right _ (List.mem_append_left _ (List.mem_of_getElem? (i := 190) (by decide +kernel))))) (by decide +kernel)
theorem nw_671 : Cond.code ny_M_paidOrders nc_M_paidOrders 6 (some .int) ∈ zw_big := zw_mem (List.mem_append_right _ (List.mem_append_right _ (List.mem_append_left _ (List.mem_of_getElem? (i := 191) (by decide +kernel))))) (by decide +kernel)
theorem nw_672 : Cond.methodLink "DayEndBankModel" 165 ny_M_due ∈ zw_big := zw_mem (List.mem_append_right _ (List.mem_append_right _ (List.mem_append_left _ (List.mem_of_getElem? (i := 192) (by decide +kernel))))) (by decide +kernel)
theorem nw_674 : Cond.instanceMethod ny_M_due ∈ zw_big := zw_mem (List.mem_append_right _ (List.mem_append_right _ (List.mem_append_left _ (List.mem_of_getElem? (i := 194) (by decide +kernel))))) (by decide +kernel)
theorem nw_675 : Cond.code ny_M_due nc_M_due 7 (some .boolean) ∈ zw_big := zw_mem (List.mem_append_right _ (List.mem_append_right _ (List.mem_append_left _ (List.mem_of_getElem? (i := 195) (by decide +kernel))))) (by decide +kernel)
theorem nw_676 : Cond.methodLink "DayEndBankModel" 172 ny_M_grow ∈ zw_big := zw_mem (List.mem_append_right _ (List.mem_append_right _ (List.mem_append_left _ (List.mem_of_getElem? (i := 196) (by decide +kernel))))) (by decide +kernel)
theorem nw_678 : Cond.instanceMethod ny_M_grow ∈ zw_big := zw_mem (List.mem_append_right _ (List.mem_append_right _ (List.mem_append_left _ (List.mem_of_getElem? (i := 198) (by decide +kernel))))) (by decide +kernel)
theorem nw_679 : Cond.code ny_M_grow nc_M_grow 9 none ∈ zw_big := zw_mem (List.mem_append_right _ (List.mem_append_right _ (List.mem_append_left _ (List.mem_of_getElem? (i := 199) (by decide +kernel))))) (by decide +kernel)
theorem nw_680 : Cond.methodLink "DayEndBankModel" 175 ny_M_days ∈ zw_big := zw_mem (List.mem_append_right _ (List.mem_append_right _ (List.mem_append_left _ (List.mem_of_getElem? (i := 200) (by decide +kernel))))) (by decide +kernel)
theorem nw_682 : Cond.instanceMethod ny_M_days ∈ zw_big := zw_mem (List.mem_append_right _ (List.mem_append_right _ (List.mem_append_left _ (List.mem_of_getElem? (i := 202) (by decide +kernel))))) (by decide +kernel)
theorem nw_683 : Cond.code ny_M_days nc_M_days 8 (some .int) ∈ zw_big := zw_mem (List.mem_append_right _ (List.mem_append_right _ (List.mem_append_left _ (List.mem_of_getElem? (i := 203) (by decide +kernel))))) (by decide +kernel)
theorem nw_684 : Cond.constantLong "DayEndBankModel" 179 (10000) ∈ zw_big := zw_mem (List.mem_append_right _ (List.mem_append_right _ (List.mem_append_left _ (List.mem_of_getElem? (i := 204) (by decide +kernel))))) (by decide +kernel)
theorem nw_685 : Cond.constantLong "DayEndBankModel" 181 (2) ∈ zw_big := zw_mem (List.mem_append_right _ (List.mem_append_right _ (List.mem_append_left _ (List.mem_of_getElem? (i := 205) (by decide +kernel))))) (by decide +kernel)
theorem nw_686 : Cond.methodLink "DayEndBankLaw" 53 ny_M_fuse ∈ zw_big := zw_mem (List.mem_append_right _ (List.mem_append_right _ (List.mem_append_left _ (List.mem_of_getElem? (i := 206) (by decide +kernel))))) (by decide +kernel)
theorem nw_687 : Cond.instanceMethod ny_M_fuse ∈ zw_big := zw_mem (List.mem_append_right _ (List.mem_append_right _ (List.mem_append_left _ (List.mem_of_getElem? (i := 207) (by decide +kernel))))) (by decide +kernel)
theorem nw_688 : Cond.selects "DayEndBankModel" ny_M_fuse ny_M_fuse ∈ zw_big := zw_mem (List.mem_append_right _ (List.mem_append_right _ (List.mem_append_left _ (List.mem_of_getElem? (i := 208) (by decide +kernel))))) (by decide +kernel)
theorem nw_689 : Cond.code ny_M_fuse nc_M_fuse 2 (some .boolean) ∈ zw_big := zw_mem (List.mem_append_right _ (List.mem_append_right _ (List.mem_append_left _ (List.mem_of_getElem? (i := 209) (by decide +kernel))))) (by decide +kernel)
theorem nw_690 : Cond.methodLink "DayEndBankLaw" 58 ny_M_restart ∈ zw_big := zw_mem (List.mem_append_right _ (List.mem_append_right _ (List.mem_append_left _ (List.mem_of_getElem? (i := 210) (by decide +kernel))))) (by decide +kernel)
theorem nw_691 : Cond.instanceMethod ny_M_restart ∈ zw_big := zw_mem (List.mem_append_right _ (List.mem_append_right _ (List.mem_append_left _ (List.mem_of_getElem? (i := 211) (by decide +kernel))))) (by decide +kernel)
theorem nw_692 : Cond.selects "DayEndBankModel" ny_M_restart ny_M_restart ∈ zw_big := zw_mem (List.mem_append_right _ (List.mem_append_right _ (List.mem_append_left _ (List.mem_of_getElem? (i := 212) (by decide +kernel))))) (by decide +kernel)
theorem nw_693 : Cond.code ny_M_restart nc_M_restart 1 (some .int) ∈ zw_big := zw_mem (List.mem_append_right _ (List.mem_append_right _ (List.mem_append_left _ (List.mem_of_getElem? (i := 213) (by decide +kernel))))) (by decide +kernel)
theorem nw_694 : Cond.methodLink "DayEndBankLaw" 63 ny_M_balance ∈ zw_big := zw_mem (List.mem_append_right _ (List.mem_append_right _ (List.mem_append_left _ (List.mem_of_getElem? (i := 214) (by decide +kernel))))) (by decide +kernel)
theorem nw_695 : Cond.instanceMethod ny_M_balance ∈ zw_big := zw_mem (List.mem_append_right _ (List.mem_append_right _ (List.mem_append_left _ (List.mem_of_getElem? (i := 215) (by decide +kernel))))) (by decide +kernel)
theorem nw_696 : Cond.selects "DayEndBankModel" ny_M_balance ny_M_balance ∈ zw_big := zw_mem (List.mem_append_right _ (List.mem_append_right _ (List.mem_append_left _ (List.mem_of_getElem? (i := 216) (by decide +kernel))))) (by decide +kernel)
theorem nw_697 : Cond.code ny_M_balance nc_M_balance 2 (some .long) ∈ zw_big := zw_mem (List.mem_append_right _ (List.mem_append_right _ (List.mem_append_left _ (List.mem_of_getElem? (i := 217) (by decide +kernel))))) (by decide +kernel)
theorem nw_698 : Cond.methodLink "DayEndBankLaw" 67 ny_M_available ∈ zw_big := zw_mem (List.mem_append_right _ (List.mem_append_right _ (List.mem_append_left _ (List.mem_of_getElem? (i := 218) (by decide +kernel))))) (by decide +kernel)
theorem nw_699 : Cond.instanceMethod ny_M_available ∈ zw_big := zw_mem (List.mem_append_right _ (List.mem_append_right _ (List.mem_append_left _ (List.mem_of_getElem? (i := 219) (by decide +kernel))))) (by decide +kernel)
theorem nw_700 : Cond.selects "DayEndBankModel" ny_M_available ny_M_available ∈ zw_big := zw_mem (List.mem_append_right _ (List.mem_append_right _ (List.mem_append_left _ (List.mem_of_getElem? (i := 220) (by decide +kernel))))) (by decide +kernel)
theorem nw_701 : Cond.code ny_M_available nc_M_available 2 (some .long) ∈ zw_big := zw_mem (List.mem_append_right _ (List.mem_append_right _ (List.mem_append_left _ (List.mem_of_getElem? (i := 221) (by decide +kernel))))) (by decide +kernel)
theorem nw_702 : Cond.methodLink "DayEndBankLaw" 71 ny_M_accrued ∈ zw_big := zw_mem (List.mem_append_right _ (List.mem_append_right _ (List.mem_append_left _ (List.mem_of_getElem? (i := 222) (by decide +kernel))))) (by decide +kernel)
theorem nw_703 : Cond.instanceMethod ny_M_accrued ∈ zw_big := zw_mem (List.mem_append_right _ (List.mem_append_right _ (List.mem_append_left _ (List.mem_of_getElem? (i := 223) (by decide +kernel))))) (by decide +kernel)
theorem nw_704 : Cond.selects "DayEndBankModel" ny_M_accrued ny_M_accrued ∈ zw_big := zw_mem (List.mem_append_right _ (List.mem_append_right _ (List.mem_append_left _ (List.mem_of_getElem? (i := 224) (by decide +kernel))))) (by decide +kernel)
theorem nw_705 : Cond.code ny_M_accrued nc_M_accrued 2 (some .long) ∈ zw_big := zw_mem (List.mem_append_right _ (List.mem_append_right _ (List.mem_append_left _ (List.mem_of_getElem? (i := 225) (by decide +kernel))))) (by decide +kernel)
theorem nw_706 : Cond.methodLink "DayEndBankLaw" 75 ny_M_mark ∈ zw_big := zw_mem (List.mem_append_right _ (List.mem_append_right _ (List.mem_append_left _ (List.mem_of_getElem? (i := 226) (by decide +kernel))))) (by decide +kernel)
theorem nw_707 : Cond.instanceMethod ny_M_mark ∈ zw_big := zw_mem (List.mem_append_right _ (List.mem_append_right _ (List.mem_append_left _ (List.mem_of_getElem? (i := 227) (by decide +kernel))))) (by decide +kernel)
theorem nw_708 : Cond.selects "DayEndBankModel" ny_M_mark ny_M_mark ∈ zw_big := zw_mem (List.mem_append_right _ (List.mem_append_right _ (List.mem_append_left _ (List.mem_of_getElem? (i := 228) (by decide +kernel))))) (by decide +kernel)
theorem nw_709 : Cond.code ny_M_mark nc_M_mark 2 (some .int) ∈ zw_big := zw_mem (List.mem_append_right _ (List.mem_append_right _ (List.mem_append_left _ (List.mem_of_getElem? (i := 229) (by decide +kernel))))) (by decide +kernel)
theorem nw_710 : Cond.methodLink "DayEndBankLaw" 80 ny_M_ledger ∈ zw_big := zw_mem (List.mem_append_right _ (List.mem_append_right _ (List.mem_append_left _ (List.mem_of_getElem? (i := 230) (by decide +kernel))))) (by decide +kernel)
theorem nw_711 : Cond.instanceMethod ny_M_ledger ∈ zw_big := zw_mem (List.mem_append_right _ (List.mem_append_right _ (List.mem_append_left _ (List.mem_of_getElem? (i := 231) (by decide +kernel))))) (by decide +kernel)
theorem nw_712 : Cond.selects "DayEndBankModel" ny_M_ledger ny_M_ledger ∈ zw_big := zw_mem (List.mem_append_right _ (List.mem_append_right _ (List.mem_append_left _ (List.mem_of_getElem? (i := 232) (by decide +kernel))))) (by decide +kernel)
theorem nw_713 : Cond.code ny_M_ledger nc_M_ledger 6 (some .long) ∈ zw_big := zw_mem (List.mem_append_right _ (List.mem_append_right _ (List.mem_append_left _ (List.mem_of_getElem? (i := 233) (by decide +kernel))))) (by decide +kernel)
theorem nw_714 : Cond.methodLink "DayEndBankLaw" 84 ny_M_missed ∈ zw_big := zw_mem (List.mem_append_right _ (List.mem_append_right _ (List.mem_append_left _ (List.mem_of_getElem? (i := 234) (by decide +kernel))))) (by decide +kernel)
theorem nw_715 : Cond.instanceMethod ny_M_missed ∈ zw_big := zw_mem (List.mem_append_right _ (List.mem_append_right _ (List.mem_append_left _ (List.mem_of_getElem? (i := 235) (by decide +kernel))))) (by decide +kernel)
theorem nw_716 : Cond.selects "DayEndBankModel" ny_M_missed ny_M_missed ∈ zw_big := zw_mem (List.mem_append_right _ (List.mem_append_right _ (List.mem_append_left _ (List.mem_of_getElem? (i := 236) (by decide +kernel))))) (by decide +kernel)
theorem nw_717 : Cond.code ny_M_missed nc_M_missed 2 (some .int) ∈ zw_big := zw_mem (List.mem_append_right _ (List.mem_append_right _ (List.mem_append_left _ (List.mem_of_getElem? (i := 237) (by decide +kernel))))) (by decide +kernel)
theorem nw_718 : Cond.methodLink "DayEndBankLaw" 88 ny_M_today ∈ zw_big := zw_mem (List.mem_append_right _ (List.mem_append_right _ (List.mem_append_left _ (List.mem_of_getElem? (i := 238) (by decide +kernel))))) (by decide +kernel)
theorem nw_719 : Cond.instanceMethod ny_M_today ∈ zw_big := zw_mem (List.mem_append_right _ (List.mem_append_right _ (List.mem_append_left _ (List.mem_of_getElem? (i := 239) (by decide +kernel))))) (by decide +kernel)
theorem nw_720 : Cond.selects "DayEndBankModel" ny_M_today ny_M_today ∈ zw_big := zw_mem (List.mem_append_right _ (List.mem_append_right _ (List.mem_append_right _ (List.mem_of_getElem? (i := 0) (by decide +kernel))))) (by decide +kernel)
theorem nw_721 : Cond.code ny_M_today nc_M_today 1 (some .int) ∈ zw_big := zw_mem (List.mem_append_right _ (List.mem_append_right _ (List.mem_append_right _ (List.mem_of_getElem? (i := 1) (by decide +kernel))))) (by decide +kernel)
theorem nw_722 : Cond.methodLink "DayEndBankLaw" 92 ny_M_count ∈ zw_big := zw_mem (List.mem_append_right _ (List.mem_append_right _ (List.mem_append_right _ (List.mem_of_getElem? (i := 2) (by decide +kernel))))) (by decide +kernel)
theorem nw_723 : Cond.instanceMethod ny_M_count ∈ zw_big := zw_mem (List.mem_append_right _ (List.mem_append_right _ (List.mem_append_right _ (List.mem_of_getElem? (i := 3) (by decide +kernel))))) (by decide +kernel)
theorem nw_724 : Cond.selects "DayEndBankModel" ny_M_count ny_M_count ∈ zw_big := zw_mem (List.mem_append_right _ (List.mem_append_right _ (List.mem_append_right _ (List.mem_of_getElem? (i := 4) (by decide +kernel))))) (by decide +kernel)
theorem nw_725 : Cond.code ny_M_count nc_M_count 4 (some .int) ∈ zw_big := zw_mem (List.mem_append_right _ (List.mem_append_right _ (List.mem_append_right _ (List.mem_of_getElem? (i := 5) (by decide +kernel))))) (by decide +kernel)
theorem nw_726 : Cond.constant "DayEndBankModel" 190 (99999) ∈ zw_big := zw_mem (List.mem_append_right _ (List.mem_append_right _ (List.mem_append_right _ (List.mem_of_getElem? (i := 6) (by decide +kernel))))) (by decide +kernel)
theorem nw_727 : Cond.methodLink "DayEndBankLaw" 96 ny_M_writes ∈ zw_big := zw_mem (List.mem_append_right _ (List.mem_append_right _ (List.mem_append_right _ (List.mem_of_getElem? (i := 7) (by decide +kernel))))) (by decide +kernel)
theorem nw_728 : Cond.instanceMethod ny_M_writes ∈ zw_big := zw_mem (List.mem_append_right _ (List.mem_append_right _ (List.mem_append_right _ (List.mem_of_getElem? (i := 8) (by decide +kernel))))) (by decide +kernel)
theorem nw_729 : Cond.selects "DayEndBankModel" ny_M_writes ny_M_writes ∈ zw_big := zw_mem (List.mem_append_right _ (List.mem_append_right _ (List.mem_append_right _ (List.mem_of_getElem? (i := 9) (by decide +kernel))))) (by decide +kernel)
theorem nw_730 : Cond.code ny_M_writes nc_M_writes 1 (some .int) ∈ zw_big := zw_mem (List.mem_append_right _ (List.mem_append_right _ (List.mem_append_right _ (List.mem_of_getElem? (i := 10) (by decide +kernel))))) (by decide +kernel)
theorem nw_731 : Cond.methodLink "DayEndBankLaw" 100 ny_M_lines ∈ zw_big := zw_mem (List.mem_append_right _ (List.mem_append_right _ (List.mem_append_right _ (List.mem_of_getElem? (i := 11) (by decide +kernel))))) (by decide +kernel)
theorem nw_732 : Cond.instanceMethod ny_M_lines ∈ zw_big := zw_mem (List.mem_append_right _ (List.mem_append_right _ (List.mem_append_right _ (List.mem_of_getElem? (i := 12) (by decide +kernel))))) (by decide +kernel)
theorem nw_733 : Cond.selects "DayEndBankModel" ny_M_lines ny_M_lines ∈ zw_big := zw_mem (List.mem_append_right _ (List.mem_append_right _ (List.mem_append_right _ (List.mem_of_getElem? (i := 13) (by decide +kernel))))) (by decide +kernel)
theorem nw_734 : Cond.code ny_M_lines nc_M_lines 1 (some .int) ∈ zw_big := zw_mem (List.mem_append_right _ (List.mem_append_right _ (List.mem_append_right _ (List.mem_of_getElem? (i := 14) (by decide +kernel))))) (by decide +kernel)
end
