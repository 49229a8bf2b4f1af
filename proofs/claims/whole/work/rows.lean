section
-- ===== PART A: goes FIRST, ahead of the names: the tables' words, and 'selects' of the private methods out of them =====
/-- a private method of a class that the tables say can be made, by its rows of tables_1 -/
def lw_okq (q : MethodName × Nat) : Prop := (q.1.cls ≠ "java/lang/invoke/MethodHandle" ∧ q.1.cls ≠ "java/lang/invoke/VarHandle") ∧ Cond.instantiable q.1.cls q.2 ∈ tables_1 ∧ Cond.privateMethod q.1 ∈ tables_1 ∧ Cond.instanceMethod q.1 ∈ tables_1
theorem lw_p0 : lw_okq (⟨"DayEndBank", "refusalOfChange", "()I"⟩, 11) := ⟨⟨by decide +kernel, by decide +kernel⟩, List.mem_of_getElem? (i := 12) (by decide +kernel), List.mem_of_getElem? (i := 194) (by decide +kernel), List.mem_of_getElem? (i := 195) (by decide +kernel)⟩
theorem lw_p1 : lw_okq (⟨"DayEndBank$Disk", "makeCheckpoint", "()Z"⟩, 6) := ⟨⟨by decide +kernel, by decide +kernel⟩, List.mem_of_getElem? (i := 40) (by decide +kernel), List.mem_of_getElem? (i := 225) (by decide +kernel), List.mem_of_getElem? (i := 226) (by decide +kernel)⟩
theorem lw_p2 : lw_okq (⟨"DayEndBank$Disk", "writeOnce", "()Z"⟩, 6) := ⟨⟨by decide +kernel, by decide +kernel⟩, List.mem_of_getElem? (i := 40) (by decide +kernel), List.mem_of_getElem? (i := 229) (by decide +kernel), List.mem_of_getElem? (i := 230) (by decide +kernel)⟩
theorem lw_p3 : lw_okq (⟨"DayEndBank", "isPayable", "(II)Z"⟩, 11) := ⟨⟨by decide +kernel, by decide +kernel⟩, List.mem_of_getElem? (i := 12) (by decide +kernel), List.mem_of_getElem? (i := 237) (by decide +kernel), List.mem_of_getElem? (i := 238) (by decide +kernel)⟩
theorem lw_p4 : lw_okq (⟨"DayEndBank", "isParty", "(I)Z"⟩, 11) := ⟨⟨by decide +kernel, by decide +kernel⟩, List.mem_of_getElem? (i := 12) (by decide +kernel), List.mem_of_getElem? (i := 241) (by decide +kernel), List.mem_of_getElem? (i := 242) (by decide +kernel)⟩
theorem lw_p5 : lw_okq (⟨"DayEndBank", "accountOf", "(I)LDayEndBank$Account;"⟩, 11) := ⟨⟨by decide +kernel, by decide +kernel⟩, List.mem_of_getElem? (i := 12) (by decide +kernel), List.mem_of_getElem? (i := 245) (by decide +kernel), List.mem_of_getElem? (i := 246) (by decide +kernel)⟩
theorem lw_p6 : lw_okq (⟨"DayEndBank", "transfer", "(LDayEndBank$Account;LDayEndBank$Account;I)V"⟩, 11) := ⟨⟨by decide +kernel, by decide +kernel⟩, List.mem_of_getElem? (i := 12) (by decide +kernel), List.mem_of_getElem? (i := 256) (by decide +kernel), List.mem_of_getElem? (i := 257) (by decide +kernel)⟩
theorem lw_p7 : lw_okq (⟨"DayEndBank", "leastFreeHold", "()I"⟩, 11) := ⟨⟨by decide +kernel, by decide +kernel⟩, List.mem_of_getElem? (i := 12) (by decide +kernel), List.mem_of_getElem? (i := 264) (by decide +kernel), List.mem_of_getElem? (i := 265) (by decide +kernel)⟩
theorem lw_p8 : lw_okq (⟨"DayEndBank", "standingHold", "(I)LDayEndBank$Hold;"⟩, 11) := ⟨⟨by decide +kernel, by decide +kernel⟩, List.mem_of_getElem? (i := 12) (by decide +kernel), List.mem_of_getElem? (i := 276) (by decide +kernel), List.mem_of_getElem? (i := 277) (by decide +kernel)⟩
theorem lw_p9 : lw_okq (⟨"DayEndBank$RestDays", "wasMade", "(I)Z"⟩, 2) := ⟨⟨by decide +kernel, by decide +kernel⟩, List.mem_of_getElem? (i := 26) (by decide +kernel), List.mem_of_getElem? (i := 304) (by decide +kernel), List.mem_of_getElem? (i := 305) (by decide +kernel)⟩
theorem lw_p10 : lw_okq (⟨"DayEndBank", "isInLaterMonth", "(I)Z"⟩, 11) := ⟨⟨by decide +kernel, by decide +kernel⟩, List.mem_of_getElem? (i := 12) (by decide +kernel), List.mem_of_getElem? (i := 308) (by decide +kernel), List.mem_of_getElem? (i := 309) (by decide +kernel)⟩
theorem lw_p11 : lw_okq (⟨"DayEndBank", "makeDayEnd", "()Z"⟩, 11) := ⟨⟨by decide +kernel, by decide +kernel⟩, List.mem_of_getElem? (i := 12) (by decide +kernel), List.mem_of_getElem? (i := 340) (by decide +kernel), List.mem_of_getElem? (i := 341) (by decide +kernel)⟩
theorem lw_p12 : lw_okq (⟨"DayEndBank", "makeStep", "(LDayEndBank$Account;)Z"⟩, 11) := ⟨⟨by decide +kernel, by decide +kernel⟩, List.mem_of_getElem? (i := 12) (by decide +kernel), List.mem_of_getElem? (i := 344) (by decide +kernel), List.mem_of_getElem? (i := 345) (by decide +kernel)⟩
theorem lw_p13 : lw_okq (⟨"DayEndBank", "planOrders", "(LDayEndBank$Account;)V"⟩, 11) := ⟨⟨by decide +kernel, by decide +kernel⟩, List.mem_of_getElem? (i := 12) (by decide +kernel), List.mem_of_getElem? (i := 348) (by decide +kernel), List.mem_of_getElem? (i := 349) (by decide +kernel)⟩
theorem lw_p14 : lw_okq (⟨"DayEndBank", "writeStep", "(LDayEndBank$Account;)Z"⟩, 11) := ⟨⟨by decide +kernel, by decide +kernel⟩, List.mem_of_getElem? (i := 12) (by decide +kernel), List.mem_of_getElem? (i := 364) (by decide +kernel), List.mem_of_getElem? (i := 365) (by decide +kernel)⟩
theorem lw_p15 : lw_okq (⟨"DayEndBank", "carryOutOrders", "()V"⟩, 11) := ⟨⟨by decide +kernel, by decide +kernel⟩, List.mem_of_getElem? (i := 12) (by decide +kernel), List.mem_of_getElem? (i := 369) (by decide +kernel), List.mem_of_getElem? (i := 370) (by decide +kernel)⟩
def lw_privs_1 : List (MethodName × Nat) := [(⟨"DayEndBank", "refusalOfChange", "()I"⟩, 11), (⟨"DayEndBank$Disk", "makeCheckpoint", "()Z"⟩, 6), (⟨"DayEndBank$Disk", "writeOnce", "()Z"⟩, 6), (⟨"DayEndBank", "isPayable", "(II)Z"⟩, 11), (⟨"DayEndBank", "isParty", "(I)Z"⟩, 11), (⟨"DayEndBank", "accountOf", "(I)LDayEndBank$Account;"⟩, 11), (⟨"DayEndBank", "transfer", "(LDayEndBank$Account;LDayEndBank$Account;I)V"⟩, 11), (⟨"DayEndBank", "leastFreeHold", "()I"⟩, 11), (⟨"DayEndBank", "standingHold", "(I)LDayEndBank$Hold;"⟩, 11), (⟨"DayEndBank$RestDays", "wasMade", "(I)Z"⟩, 2), (⟨"DayEndBank", "isInLaterMonth", "(I)Z"⟩, 11), (⟨"DayEndBank", "makeDayEnd", "()Z"⟩, 11), (⟨"DayEndBank", "makeStep", "(LDayEndBank$Account;)Z"⟩, 11), (⟨"DayEndBank", "planOrders", "(LDayEndBank$Account;)V"⟩, 11), (⟨"DayEndBank", "writeStep", "(LDayEndBank$Account;)Z"⟩, 11), (⟨"DayEndBank", "carryOutOrders", "()V"⟩, 11)]
theorem lw_r1 : ∀ q ∈ lw_privs_1, lw_okq q := List.forall_mem_cons.mpr ⟨lw_p0, List.forall_mem_cons.mpr ⟨lw_p1, List.forall_mem_cons.mpr ⟨lw_p2, List.forall_mem_cons.mpr ⟨lw_p3, List.forall_mem_cons.mpr ⟨lw_p4, List.forall_mem_cons.mpr ⟨lw_p5, List.forall_mem_cons.mpr ⟨lw_p6, List.forall_mem_cons.mpr ⟨lw_p7, List.forall_mem_cons.mpr ⟨lw_p8, List.forall_mem_cons.mpr ⟨lw_p9, List.forall_mem_cons.mpr ⟨lw_p10, List.forall_mem_cons.mpr ⟨lw_p11, List.forall_mem_cons.mpr ⟨lw_p12, List.forall_mem_cons.mpr ⟨lw_p13, List.forall_mem_cons.mpr ⟨lw_p14, List.forall_mem_cons.mpr ⟨lw_p15, fun _ h => absurd h List.not_mem_nil⟩⟩⟩⟩⟩⟩⟩⟩⟩⟩⟩⟩⟩⟩⟩⟩
theorem lw_p16 : lw_okq (⟨"DayEndBank", "shownAccount", "(I)LDayEndBank$Account;"⟩, 11) := ⟨⟨by decide +kernel, by decide +kernel⟩, List.mem_of_getElem? (i := 12) (by decide +kernel), List.mem_of_getElem? (i := 417) (by decide +kernel), List.mem_of_getElem? (i := 418) (by decide +kernel)⟩
theorem lw_p17 : lw_okq (⟨"DayEndBank", "sumOfBalances", "(I)J"⟩, 11) := ⟨⟨by decide +kernel, by decide +kernel⟩, List.mem_of_getElem? (i := 12) (by decide +kernel), List.mem_of_getElem? (i := 437) (by decide +kernel), List.mem_of_getElem? (i := 438) (by decide +kernel)⟩
theorem lw_p18 : lw_okq (⟨"DayEndBankModel", "shut", "()I"⟩, 31) := ⟨⟨by decide +kernel, by decide +kernel⟩, List.mem_of_getElem? (i := 462) (by decide +kernel), List.mem_of_getElem? (i := 566) (by decide +kernel), List.mem_of_getElem? (i := 567) (by decide +kernel)⟩
theorem lw_p19 : lw_okq (⟨"DayEndBankModel", "comes", "(II)Z"⟩, 31) := ⟨⟨by decide +kernel, by decide +kernel⟩, List.mem_of_getElem? (i := 462) (by decide +kernel), List.mem_of_getElem? (i := 571) (by decide +kernel), List.mem_of_getElem? (i := 572) (by decide +kernel)⟩
theorem lw_p20 : lw_okq (⟨"DayEndBankModel", "afford", "(I)Z"⟩, 31) := ⟨⟨by decide +kernel, by decide +kernel⟩, List.mem_of_getElem? (i := 462) (by decide +kernel), List.mem_of_getElem? (i := 575) (by decide +kernel), List.mem_of_getElem? (i := 576) (by decide +kernel)⟩
theorem lw_p21 : lw_okq (⟨"DayEndBankModel", "spend", "(I)V"⟩, 31) := ⟨⟨by decide +kernel, by decide +kernel⟩, List.mem_of_getElem? (i := 462) (by decide +kernel), List.mem_of_getElem? (i := 579) (by decide +kernel), List.mem_of_getElem? (i := 580) (by decide +kernel)⟩
theorem lw_p22 : lw_okq (⟨"DayEndBankModel", "pair", "(II)Z"⟩, 31) := ⟨⟨by decide +kernel, by decide +kernel⟩, List.mem_of_getElem? (i := 462) (by decide +kernel), List.mem_of_getElem? (i := 587) (by decide +kernel), List.mem_of_getElem? (i := 588) (by decide +kernel)⟩
theorem lw_p23 : lw_okq (⟨"DayEndBankModel", "is", "(I)Z"⟩, 31) := ⟨⟨by decide +kernel, by decide +kernel⟩, List.mem_of_getElem? (i := 462) (by decide +kernel), List.mem_of_getElem? (i := 591) (by decide +kernel), List.mem_of_getElem? (i := 592) (by decide +kernel)⟩
theorem lw_p24 : lw_okq (⟨"DayEndBankModel", "amountOk", "(I)Z"⟩, 31) := ⟨⟨by decide +kernel, by decide +kernel⟩, List.mem_of_getElem? (i := 462) (by decide +kernel), List.mem_of_getElem? (i := 595) (by decide +kernel), List.mem_of_getElem? (i := 596) (by decide +kernel)⟩
theorem lw_p25 : lw_okq (⟨"DayEndBankModel", "free", "(I)J"⟩, 31) := ⟨⟨by decide +kernel, by decide +kernel⟩, List.mem_of_getElem? (i := 462) (by decide +kernel), List.mem_of_getElem? (i := 599) (by decide +kernel), List.mem_of_getElem? (i := 600) (by decide +kernel)⟩
theorem lw_p26 : lw_okq (⟨"DayEndBankModel", "linesOf", "(II)I"⟩, 31) := ⟨⟨by decide +kernel, by decide +kernel⟩, List.mem_of_getElem? (i := 462) (by decide +kernel), List.mem_of_getElem? (i := 603) (by decide +kernel), List.mem_of_getElem? (i := 604) (by decide +kernel)⟩
theorem lw_p27 : lw_okq (⟨"DayEndBankModel", "setOf", "(II)I"⟩, 31) := ⟨⟨by decide +kernel, by decide +kernel⟩, List.mem_of_getElem? (i := 462) (by decide +kernel), List.mem_of_getElem? (i := 607) (by decide +kernel), List.mem_of_getElem? (i := 608) (by decide +kernel)⟩
theorem lw_p28 : lw_okq (⟨"DayEndBankModel", "transfer", "(III)V"⟩, 31) := ⟨⟨by decide +kernel, by decide +kernel⟩, List.mem_of_getElem? (i := 462) (by decide +kernel), List.mem_of_getElem? (i := 611) (by decide +kernel), List.mem_of_getElem? (i := 612) (by decide +kernel)⟩
theorem lw_p29 : lw_okq (⟨"DayEndBankModel", "stands", "(I)Z"⟩, 31) := ⟨⟨by decide +kernel, by decide +kernel⟩, List.mem_of_getElem? (i := 462) (by decide +kernel), List.mem_of_getElem? (i := 623) (by decide +kernel), List.mem_of_getElem? (i := 624) (by decide +kernel)⟩
theorem lw_p30 : lw_okq (⟨"DayEndBankModel", "resting", "(I)Z"⟩, 31) := ⟨⟨by decide +kernel, by decide +kernel⟩, List.mem_of_getElem? (i := 462) (by decide +kernel), List.mem_of_getElem? (i := 639) (by decide +kernel), List.mem_of_getElem? (i := 640) (by decide +kernel)⟩
theorem lw_p31 : lw_okq (⟨"DayEndBankModel", "later", "(I)Z"⟩, 31) := ⟨⟨by decide +kernel, by decide +kernel⟩, List.mem_of_getElem? (i := 462) (by decide +kernel), List.mem_of_getElem? (i := 643) (by decide +kernel), List.mem_of_getElem? (i := 644) (by decide +kernel)⟩
def lw_privs_2 : List (MethodName × Nat) := [(⟨"DayEndBank", "shownAccount", "(I)LDayEndBank$Account;"⟩, 11), (⟨"DayEndBank", "sumOfBalances", "(I)J"⟩, 11), (⟨"DayEndBankModel", "shut", "()I"⟩, 31), (⟨"DayEndBankModel", "comes", "(II)Z"⟩, 31), (⟨"DayEndBankModel", "afford", "(I)Z"⟩, 31), (⟨"DayEndBankModel", "spend", "(I)V"⟩, 31), (⟨"DayEndBankModel", "pair", "(II)Z"⟩, 31), (⟨"DayEndBankModel", "is", "(I)Z"⟩, 31), (⟨"DayEndBankModel", "amountOk", "(I)Z"⟩, 31), (⟨"DayEndBankModel", "free", "(I)J"⟩, 31), (⟨"DayEndBankModel", "linesOf", "(II)I"⟩, 31), (⟨"DayEndBankModel", "setOf", "(II)I"⟩, 31), (⟨"DayEndBankModel", "transfer", "(III)V"⟩, 31), (⟨"DayEndBankModel", "stands", "(I)Z"⟩, 31), (⟨"DayEndBankModel", "resting", "(I)Z"⟩, 31), (⟨"DayEndBankModel", "later", "(I)Z"⟩, 31)]
theorem lw_r2 : ∀ q ∈ lw_privs_2, lw_okq q := List.forall_mem_cons.mpr ⟨lw_p16, List.forall_mem_cons.mpr ⟨lw_p17, List.forall_mem_cons.mpr ⟨lw_p18, List.forall_mem_cons.mpr ⟨lw_p19, List.forall_mem_cons.mpr ⟨lw_p20, List.forall_mem_cons.mpr ⟨lw_p21, List.forall_mem_cons.mpr ⟨lw_p22, List.forall_mem_cons.mpr ⟨lw_p23, List.forall_mem_cons.mpr ⟨lw_p24, List.forall_mem_cons.mpr ⟨lw_p25, List.forall_mem_cons.mpr ⟨lw_p26, List.forall_mem_cons.mpr ⟨lw_p27, List.forall_mem_cons.mpr ⟨lw_p28, List.forall_mem_cons.mpr ⟨lw_p29, List.forall_mem_cons.mpr ⟨lw_p30, List.forall_mem_cons.mpr ⟨lw_p31, fun _ h => absurd h List.not_mem_nil⟩⟩⟩⟩⟩⟩⟩⟩⟩⟩⟩⟩⟩⟩⟩⟩
theorem lw_p32 : lw_okq (⟨"DayEndBankModel", "walk", "(I)V"⟩, 31) := ⟨⟨by decide +kernel, by decide +kernel⟩, List.mem_of_getElem? (i := 462) (by decide +kernel), List.mem_of_getElem? (i := 647) (by decide +kernel), List.mem_of_getElem? (i := 648) (by decide +kernel)⟩
theorem lw_p33 : lw_okq (⟨"DayEndBankModel", "dayEnd", "()Z"⟩, 31) := ⟨⟨by decide +kernel, by decide +kernel⟩, List.mem_of_getElem? (i := 462) (by decide +kernel), List.mem_of_getElem? (i := 661) (by decide +kernel), List.mem_of_getElem? (i := 662) (by decide +kernel)⟩
theorem lw_p34 : lw_okq (⟨"DayEndBankModel", "step", "(I)Z"⟩, 31) := ⟨⟨by decide +kernel, by decide +kernel⟩, List.mem_of_getElem? (i := 462) (by decide +kernel), List.mem_of_getElem? (i := 665) (by decide +kernel), List.mem_of_getElem? (i := 666) (by decide +kernel)⟩
theorem lw_p35 : lw_okq (⟨"DayEndBankModel", "paidOrders", "(I)I"⟩, 31) := ⟨⟨by decide +kernel, by decide +kernel⟩, List.mem_of_getElem? (i := 462) (by decide +kernel), List.mem_of_getElem? (i := 669) (by decide +kernel), List.mem_of_getElem? (i := 670) (by decide +kernel)⟩
theorem lw_p36 : lw_okq (⟨"DayEndBankModel", "due", "(I)Z"⟩, 31) := ⟨⟨by decide +kernel, by decide +kernel⟩, List.mem_of_getElem? (i := 462) (by decide +kernel), List.mem_of_getElem? (i := 673) (by decide +kernel), List.mem_of_getElem? (i := 674) (by decide +kernel)⟩
theorem lw_p37 : lw_okq (⟨"DayEndBankModel", "grow", "(I)V"⟩, 31) := ⟨⟨by decide +kernel, by decide +kernel⟩, List.mem_of_getElem? (i := 462) (by decide +kernel), List.mem_of_getElem? (i := 677) (by decide +kernel), List.mem_of_getElem? (i := 678) (by decide +kernel)⟩
theorem lw_p38 : lw_okq (⟨"DayEndBankModel", "days", "(III)I"⟩, 31) := ⟨⟨by decide +kernel, by decide +kernel⟩, List.mem_of_getElem? (i := 462) (by decide +kernel), List.mem_of_getElem? (i := 681) (by decide +kernel), List.mem_of_getElem? (i := 682) (by decide +kernel)⟩
def lw_privs_3 : List (MethodName × Nat) := [(⟨"DayEndBankModel", "walk", "(I)V"⟩, 31), (⟨"DayEndBankModel", "dayEnd", "()Z"⟩, 31), (⟨"DayEndBankModel", "step", "(I)Z"⟩, 31), (⟨"DayEndBankModel", "paidOrders", "(I)I"⟩, 31), (⟨"DayEndBankModel", "due", "(I)Z"⟩, 31), (⟨"DayEndBankModel", "grow", "(I)V"⟩, 31), (⟨"DayEndBankModel", "days", "(III)I"⟩, 31)]
theorem lw_r3 : ∀ q ∈ lw_privs_3, lw_okq q := List.forall_mem_cons.mpr ⟨lw_p32, List.forall_mem_cons.mpr ⟨lw_p33, List.forall_mem_cons.mpr ⟨lw_p34, List.forall_mem_cons.mpr ⟨lw_p35, List.forall_mem_cons.mpr ⟨lw_p36, List.forall_mem_cons.mpr ⟨lw_p37, List.forall_mem_cons.mpr ⟨lw_p38, fun _ h => absurd h List.not_mem_nil⟩⟩⟩⟩⟩⟩⟩
def lw_privs : List (MethodName × Nat) := lw_privs_1 ++ (lw_privs_2 ++ (lw_privs_3))
def lw_tbl : List Cond := k2_sels lw_privs ++ tables_1
theorem lw_privs_ok : ∀ q ∈ lw_privs, lw_okq q := by
  show ∀ q ∈ lw_privs_1 ++ (lw_privs_2 ++ (lw_privs_3)), lw_okq q
  exact List.forall_mem_append.mpr ⟨lw_r1, List.forall_mem_append.mpr ⟨lw_r2, lw_r3⟩⟩
end
section
/-! NAMES (by program: names.py, out of claim/Statement.lean) -/
def nR_B : String := "DayEndBank"
def nR_A : String := "DayEndBank$Account"
def nR_H : String := "DayEndBank$Hold"
def nR_O : String := "DayEndBank$Order"
def nR_R : String := "DayEndBank$RestDays"
def nR_D : String := "DayEndBank$Disk"
def nR_M : String := "DayEndBankModel"
def nR_C : String := "DayEndBank$Calendar"
def nR_I : String := "java/lang/Integer"
def nR_T : String := "java/lang/Math"
def nR_L : String := "DayEndBankLaw"
def nT_B : u_T := fun k => match k with
  | 0 => ("DayEndBank", "accounts", "[LDayEndBank$Account;", true)
  | 1 => ("DayEndBank", "holds", "[LDayEndBank$Hold;", true)
  | 2 => ("DayEndBank", "orders", "[LDayEndBank$Order;", true)
  | 3 => ("DayEndBank", "restDays", "LDayEndBank$RestDays;", true)
  | 4 => ("DayEndBank", "disk", "LDayEndBank$Disk;", true)
  | 5 => ("DayEndBank", "cash", "[J", true)
  | 6 => ("DayEndBank", "interest", "[J", true)
  | 7 => ("DayEndBank", "accountsOpened", "I", false)
  | 8 => ("DayEndBank", "ordersMade", "I", false)
  | 9 => ("DayEndBank", "bookDate", "I", false)
  | _ => ("DayEndBank", "dayEndOpen", "Z", false)
def nt_B : Nat → FieldType := fun k => match k with
  | 0 => .array (.object "DayEndBank$Account")
  | 1 => .array (.object "DayEndBank$Hold")
  | 2 => .array (.object "DayEndBank$Order")
  | 3 => .object "DayEndBank$RestDays"
  | 4 => .object "DayEndBank$Disk"
  | 5 => .array (.long)
  | 6 => .array (.long)
  | 7 => .int
  | 8 => .int
  | 9 => .int
  | _ => .boolean
theorem zw_nmB : ∀ a, a < 11 → ∀ b, b < 11 → a ≠ b → (nT_B a).2.1 ≠ (nT_B b).2.1 := by decide +kernel
theorem zw_tyB : ∀ k, k < 11 → parseFieldDescriptor (nT_B k).2.2.1 = some (nt_B k) := by decide +kernel
def nT_A : u_T := fun k => match k with
  | 0 => ("DayEndBank$Account", "number", "I", true)
  | 1 => ("DayEndBank$Account", "currency", "I", false)
  | 2 => ("DayEndBank$Account", "basis", "I", false)
  | 3 => ("DayEndBank$Account", "limit", "I", false)
  | 4 => ("DayEndBank$Account", "rate", "I", false)
  | 5 => ("DayEndBank$Account", "balance", "J", false)
  | 6 => ("DayEndBank$Account", "held", "J", false)
  | 7 => ("DayEndBank$Account", "accrual", "J", false)
  | _ => ("DayEndBank$Account", "mark", "I", false)
def nt_A : Nat → FieldType := fun k => match k with
  | 0 => .int
  | 1 => .int
  | 2 => .int
  | 3 => .int
  | 4 => .int
  | 5 => .long
  | 6 => .long
  | 7 => .long
  | _ => .int
theorem zw_nmA : ∀ a, a < 9 → ∀ b, b < 9 → a ≠ b → (nT_A a).2.1 ≠ (nT_A b).2.1 := by decide +kernel
theorem zw_tyA : ∀ k, k < 9 → parseFieldDescriptor (nT_A k).2.2.1 = some (nt_A k) := by decide +kernel
def nT_H : u_T := fun k => match k with
  | 0 => ("DayEndBank$Hold", "holder", "LDayEndBank$Account;", false)
  | _ => ("DayEndBank$Hold", "amount", "I", false)
def nt_H : Nat → FieldType := fun k => match k with
  | 0 => .object "DayEndBank$Account"
  | _ => .int
theorem zw_nmH : ∀ a, a < 2 → ∀ b, b < 2 → a ≠ b → (nT_H a).2.1 ≠ (nT_H b).2.1 := by decide +kernel
theorem zw_tyH : ∀ k, k < 2 → parseFieldDescriptor (nT_H k).2.2.1 = some (nt_H k) := by decide +kernel
def nT_O : u_T := fun k => match k with
  | 0 => ("DayEndBank$Order", "payer", "LDayEndBank$Account;", false)
  | 1 => ("DayEndBank$Order", "payee", "LDayEndBank$Account;", false)
  | 2 => ("DayEndBank$Order", "amount", "I", false)
  | 3 => ("DayEndBank$Order", "day", "I", false)
  | 4 => ("DayEndBank$Order", "misses", "I", false)
  | 5 => ("DayEndBank$Order", "isDue", "Z", false)
  | _ => ("DayEndBank$Order", "isPaid", "Z", false)
def nt_O : Nat → FieldType := fun k => match k with
  | 0 => .object "DayEndBank$Account"
  | 1 => .object "DayEndBank$Account"
  | 2 => .int
  | 3 => .int
  | 4 => .int
  | 5 => .boolean
  | _ => .boolean
theorem zw_nmO : ∀ a, a < 7 → ∀ b, b < 7 → a ≠ b → (nT_O a).2.1 ≠ (nT_O b).2.1 := by decide +kernel
theorem zw_tyO : ∀ k, k < 7 → parseFieldDescriptor (nT_O k).2.2.1 = some (nt_O k) := by decide +kernel
def nT_R : u_T := fun k => match k with
  | 0 => ("DayEndBank$RestDays", "dates", "[I", true)
  | _ => ("DayEndBank$RestDays", "datesMade", "I", false)
def nt_R : Nat → FieldType := fun k => match k with
  | 0 => .array (.int)
  | _ => .int
theorem zw_nmR : ∀ a, a < 2 → ∀ b, b < 2 → a ≠ b → (nT_R a).2.1 ≠ (nT_R b).2.1 := by decide +kernel
theorem zw_tyR : ∀ k, k < 2 → parseFieldDescriptor (nT_R k).2.2.1 = some (nt_R k) := by decide +kernel
def nT_D : u_T := fun k => match k with
  | 0 => ("DayEndBank$Disk", "stopped", "Z", false)
  | 1 => ("DayEndBank$Disk", "writesMade", "I", false)
  | 2 => ("DayEndBank$Disk", "writesLeft", "I", false)
  | 3 => ("DayEndBank$Disk", "linesInLog", "I", false)
  | 4 => ("DayEndBank$Disk", "transactionsInLog", "I", false)
  | _ => ("DayEndBank$Disk", "changedInLog", "I", false)
def nt_D : Nat → FieldType := fun k => match k with
  | 0 => .boolean
  | 1 => .int
  | 2 => .int
  | 3 => .int
  | 4 => .int
  | _ => .int
theorem zw_nmD : ∀ a, a < 6 → ∀ b, b < 6 → a ≠ b → (nT_D a).2.1 ≠ (nT_D b).2.1 := by decide +kernel
theorem zw_tyD : ∀ k, k < 6 → parseFieldDescriptor (nT_D k).2.2.1 = some (nt_D k) := by decide +kernel
def nT_M : u_T := fun k => match k with
  | 0 => ("DayEndBankModel", "accounts", "I", false)
  | 1 => ("DayEndBankModel", "currency", "[I", true)
  | 2 => ("DayEndBankModel", "basis", "[I", true)
  | 3 => ("DayEndBankModel", "limit", "[I", true)
  | 4 => ("DayEndBankModel", "rate", "[I", true)
  | 5 => ("DayEndBankModel", "marked", "[I", true)
  | 6 => ("DayEndBankModel", "money", "[J", true)
  | 7 => ("DayEndBankModel", "accrual", "[J", true)
  | 8 => ("DayEndBankModel", "holdOf", "[I", true)
  | 9 => ("DayEndBankModel", "holdAmount", "[I", true)
  | 10 => ("DayEndBankModel", "orders", "I", false)
  | 11 => ("DayEndBankModel", "payer", "[I", true)
  | 12 => ("DayEndBankModel", "payee", "[I", true)
  | 13 => ("DayEndBankModel", "sum", "[I", true)
  | 14 => ("DayEndBankModel", "dayOf", "[I", true)
  | 15 => ("DayEndBankModel", "misses", "[I", true)
  | 16 => ("DayEndBankModel", "rests", "I", false)
  | 17 => ("DayEndBankModel", "restDate", "[I", true)
  | 18 => ("DayEndBankModel", "cash", "[J", true)
  | 19 => ("DayEndBankModel", "interest", "[J", true)
  | 20 => ("DayEndBankModel", "now", "I", false)
  | 21 => ("DayEndBankModel", "ending", "Z", false)
  | 22 => ("DayEndBankModel", "stopped", "Z", false)
  | 23 => ("DayEndBankModel", "left", "I", false)
  | 24 => ("DayEndBankModel", "written", "I", false)
  | 25 => ("DayEndBankModel", "inLog", "I", false)
  | 26 => ("DayEndBankModel", "ended", "I", false)
  | 27 => ("DayEndBankModel", "touched", "I", false)
  | 28 => ("DayEndBankModel", "year", "I", false)
  | 29 => ("DayEndBankModel", "month", "I", false)
  | _ => ("DayEndBankModel", "day", "I", false)
def nt_M : Nat → FieldType := fun k => match k with
  | 0 => .int
  | 1 => .array (.int)
  | 2 => .array (.int)
  | 3 => .array (.int)
  | 4 => .array (.int)
  | 5 => .array (.int)
  | 6 => .array (.long)
  | 7 => .array (.long)
  | 8 => .array (.int)
  | 9 => .array (.int)
  | 10 => .int
  | 11 => .array (.int)
  | 12 => .array (.int)
  | 13 => .array (.int)
  | 14 => .array (.int)
  | 15 => .array (.int)
  | 16 => .int
  | 17 => .array (.int)
  | 18 => .array (.long)
  | 19 => .array (.long)
  | 20 => .int
  | 21 => .boolean
  | 22 => .boolean
  | 23 => .int
  | 24 => .int
  | 25 => .int
  | 26 => .int
  | 27 => .int
  | 28 => .int
  | 29 => .int
  | _ => .int
theorem zw_nmM : ∀ a, a < 31 → ∀ b, b < 31 → a ≠ b → (nT_M a).2.1 ≠ (nT_M b).2.1 := by decide +kernel
theorem zw_tyM : ∀ k, k < 31 → parseFieldDescriptor (nT_M k).2.2.1 = some (nt_M k) := by decide +kernel
abbrev vwCl : List vw_C := [(nR_B, nT_B, 11), (nR_A, nT_A, 9), (nR_H, nT_H, 2), (nR_O, nT_O, 7), (nR_R, nT_R, 2), (nR_D, nT_D, 6), (nR_M, nT_M, 31)]
abbrev nc_B_init : ByteArray := prog_1_method_1_code
def ny_B_init : MethodName := ⟨"DayEndBank", "<init>", "()V"⟩
abbrev nc_R_init : ByteArray := prog_7_method_1_code
def ny_R_init : MethodName := ⟨"DayEndBank$RestDays", "<init>", "()V"⟩
abbrev nc_D_init : ByteArray := prog_4_method_1_code
def ny_D_init : MethodName := ⟨"DayEndBank$Disk", "<init>", "()V"⟩
abbrev nc_A_init : ByteArray := prog_2_method_1_code
def ny_A_init : MethodName := ⟨"DayEndBank$Account", "<init>", "(I)V"⟩
abbrev nc_H_init : ByteArray := prog_5_method_1_code
def ny_H_init : MethodName := ⟨"DayEndBank$Hold", "<init>", "()V"⟩
abbrev nc_O_init : ByteArray := prog_6_method_1_code
def ny_O_init : MethodName := ⟨"DayEndBank$Order", "<init>", "()V"⟩
abbrev nc_B_open : ByteArray := prog_1_method_2_code
def ny_B_open : MethodName := ⟨"DayEndBank", "open", "(IIII)I"⟩
abbrev nc_B_refusalOfChange : ByteArray := prog_1_method_26_code
def ny_B_refusalOfChange : MethodName := ⟨"DayEndBank", "refusalOfChange", "()I"⟩
abbrev nc_B_isCurrency : ByteArray := prog_1_method_23_code
def ny_B_isCurrency : MethodName := ⟨"DayEndBank", "isCurrency", "(I)Z"⟩
abbrev nc_B_isWithin : ByteArray := prog_1_method_22_code
def ny_B_isWithin : MethodName := ⟨"DayEndBank", "isWithin", "(III)Z"⟩
abbrev nc_C_isBasis : ByteArray := prog_3_method_2_code
def ny_C_isBasis : MethodName := ⟨"DayEndBank$Calendar", "isBasis", "(I)Z"⟩
abbrev nc_B_bitOf : ByteArray := prog_1_method_25_code
def ny_B_bitOf : MethodName := ⟨"DayEndBank", "bitOf", "(LDayEndBank$Account;)I"⟩
abbrev nc_D_writeTransaction : ByteArray := prog_4_method_2_code
def ny_D_writeTransaction : MethodName := ⟨"DayEndBank$Disk", "writeTransaction", "(I)Z"⟩
abbrev nc_I_bitCount : ByteArray := prog_10_method_49_code
def ny_I_bitCount : MethodName := ⟨"java/lang/Integer", "bitCount", "(I)I"⟩
abbrev nc_D_writeLines : ByteArray := prog_4_method_3_code
def ny_D_writeLines : MethodName := ⟨"DayEndBank$Disk", "writeLines", "(II)Z"⟩
abbrev nc_D_makeCheckpoint : ByteArray := prog_4_method_4_code
def ny_D_makeCheckpoint : MethodName := ⟨"DayEndBank$Disk", "makeCheckpoint", "()Z"⟩
abbrev nc_D_writeOnce : ByteArray := prog_4_method_5_code
def ny_D_writeOnce : MethodName := ⟨"DayEndBank$Disk", "writeOnce", "()Z"⟩
abbrev nc_B_pay : ByteArray := prog_1_method_3_code
def ny_B_pay : MethodName := ⟨"DayEndBank", "pay", "(III)I"⟩
abbrev nc_B_isPayable : ByteArray := prog_1_method_31_code
def ny_B_isPayable : MethodName := ⟨"DayEndBank", "isPayable", "(II)Z"⟩
abbrev nc_B_isParty : ByteArray := prog_1_method_32_code
def ny_B_isParty : MethodName := ⟨"DayEndBank", "isParty", "(I)Z"⟩
abbrev nc_B_accountOf : ByteArray := prog_1_method_27_code
def ny_B_accountOf : MethodName := ⟨"DayEndBank", "accountOf", "(I)LDayEndBank$Account;"⟩
abbrev nc_B_isAmount : ByteArray := prog_1_method_24_code
def ny_B_isAmount : MethodName := ⟨"DayEndBank", "isAmount", "(I)Z"⟩
abbrev nc_A_spendable : ByteArray := prog_2_method_2_code
def ny_A_spendable : MethodName := ⟨"DayEndBank$Account", "spendable", "()J"⟩
abbrev nc_B_transfer : ByteArray := prog_1_method_34_code
def ny_B_transfer : MethodName := ⟨"DayEndBank", "transfer", "(LDayEndBank$Account;LDayEndBank$Account;I)V"⟩
abbrev nc_B_hold : ByteArray := prog_1_method_4_code
def ny_B_hold : MethodName := ⟨"DayEndBank", "hold", "(II)I"⟩
abbrev nc_B_leastFreeHold : ByteArray := prog_1_method_30_code
def ny_B_leastFreeHold : MethodName := ⟨"DayEndBank", "leastFreeHold", "()I"⟩
abbrev nc_H_begin : ByteArray := prog_5_method_2_code
def ny_H_begin : MethodName := ⟨"DayEndBank$Hold", "begin", "(LDayEndBank$Account;I)V"⟩
abbrev nc_B_release : ByteArray := prog_1_method_5_code
def ny_B_release : MethodName := ⟨"DayEndBank", "release", "(I)I"⟩
abbrev nc_B_standingHold : ByteArray := prog_1_method_29_code
def ny_B_standingHold : MethodName := ⟨"DayEndBank", "standingHold", "(I)LDayEndBank$Hold;"⟩
abbrev nc_H_end : ByteArray := prog_5_method_3_code
def ny_H_end : MethodName := ⟨"DayEndBank$Hold", "end", "()V"⟩
abbrev nc_B_settle : ByteArray := prog_1_method_6_code
def ny_B_settle : MethodName := ⟨"DayEndBank", "settle", "(III)I"⟩
abbrev nc_B_order : ByteArray := prog_1_method_7_code
def ny_B_order : MethodName := ⟨"DayEndBank", "order", "(IIII)I"⟩
abbrev nc_O_make : ByteArray := prog_6_method_2_code
def ny_O_make : MethodName := ⟨"DayEndBank$Order", "make", "(LDayEndBank$Account;LDayEndBank$Account;II)V"⟩
abbrev nc_B_rest : ByteArray := prog_1_method_8_code
def ny_B_rest : MethodName := ⟨"DayEndBank", "rest", "(I)I"⟩
abbrev nc_R_isRest : ByteArray := prog_7_method_4_code
def ny_R_isRest : MethodName := ⟨"DayEndBank$RestDays", "isRest", "(I)Z"⟩
abbrev nc_R_wasMade : ByteArray := prog_7_method_5_code
def ny_R_wasMade : MethodName := ⟨"DayEndBank$RestDays", "wasMade", "(I)Z"⟩
abbrev nc_B_isInLaterMonth : ByteArray := prog_1_method_33_code
def ny_B_isInLaterMonth : MethodName := ⟨"DayEndBank", "isInLaterMonth", "(I)Z"⟩
abbrev nc_C_monthAndDay : ByteArray := prog_3_method_9_code
def ny_C_monthAndDay : MethodName := ⟨"DayEndBank$Calendar", "monthAndDay", "(I)I"⟩
abbrev nc_T_floorDiv : ByteArray := prog_11_method_47_code
def ny_T_floorDiv : MethodName := ⟨"java/lang/Math", "floorDiv", "(II)I"⟩
abbrev nc_T_floorMod : ByteArray := prog_11_method_50_code
def ny_T_floorMod : MethodName := ⟨"java/lang/Math", "floorMod", "(II)I"⟩
abbrev nc_C_monthIn : ByteArray := prog_3_method_7_code
def ny_C_monthIn : MethodName := ⟨"DayEndBank$Calendar", "monthIn", "(I)I"⟩
abbrev nc_R_isFull : ByteArray := prog_7_method_2_code
def ny_R_isFull : MethodName := ⟨"DayEndBank$RestDays", "isFull", "()Z"⟩
abbrev nc_R_add : ByteArray := prog_7_method_3_code
def ny_R_add : MethodName := ⟨"DayEndBank$RestDays", "add", "(I)V"⟩
abbrev nc_B_run : ByteArray := prog_1_method_9_code
def ny_B_run : MethodName := ⟨"DayEndBank", "run", "(I)I"⟩
abbrev nc_B_makeDayEnd : ByteArray := prog_1_method_36_code
def ny_B_makeDayEnd : MethodName := ⟨"DayEndBank", "makeDayEnd", "()Z"⟩
abbrev nc_B_makeStep : ByteArray := prog_1_method_37_code
def ny_B_makeStep : MethodName := ⟨"DayEndBank", "makeStep", "(LDayEndBank$Account;)Z"⟩
abbrev nc_B_planOrders : ByteArray := prog_1_method_38_code
def ny_B_planOrders : MethodName := ⟨"DayEndBank", "planOrders", "(LDayEndBank$Account;)V"⟩
abbrev nc_R_dueDate : ByteArray := prog_7_method_6_code
def ny_R_dueDate : MethodName := ⟨"DayEndBank$RestDays", "dueDate", "(II)I"⟩
abbrev nc_C_dayIn : ByteArray := prog_3_method_8_code
def ny_C_dayIn : MethodName := ⟨"DayEndBank$Calendar", "dayIn", "(I)I"⟩
abbrev nc_T_min : ByteArray := prog_11_method_69_code
def ny_T_min : MethodName := ⟨"java/lang/Math", "min", "(II)I"⟩
abbrev nc_B_writeStep : ByteArray := prog_1_method_39_code
def ny_B_writeStep : MethodName := ⟨"DayEndBank", "writeStep", "(LDayEndBank$Account;)Z"⟩
abbrev nc_B_carryOutOrders : ByteArray := prog_1_method_40_code
def ny_B_carryOutOrders : MethodName := ⟨"DayEndBank", "carryOutOrders", "()V"⟩
abbrev nc_C_dayCount : ByteArray := prog_3_method_4_code
def ny_C_dayCount : MethodName := ⟨"DayEndBank$Calendar", "dayCount", "(III)I"⟩
abbrev nc_C_countByMonths : ByteArray := prog_3_method_5_code
def ny_C_countByMonths : MethodName := ⟨"DayEndBank$Calendar", "countByMonths", "(II)I"⟩
abbrev nc_A_accrue : ByteArray := prog_2_method_3_code
def ny_A_accrue : MethodName := ⟨"DayEndBank$Account", "accrue", "(I)V"⟩
abbrev nc_C_isLastOfMonth : ByteArray := prog_3_method_6_code
def ny_C_isLastOfMonth : MethodName := ⟨"DayEndBank$Calendar", "isLastOfMonth", "(I)Z"⟩
abbrev nc_A_takeInterest : ByteArray := prog_2_method_4_code
def ny_A_takeInterest : MethodName := ⟨"DayEndBank$Account", "takeInterest", "()J"⟩
abbrev nc_C_yearOf : ByteArray := prog_3_method_3_code
def ny_C_yearOf : MethodName := ⟨"DayEndBank$Calendar", "yearOf", "(I)I"⟩
abbrev nc_A_nearest : ByteArray := prog_2_method_5_code
def ny_A_nearest : MethodName := ⟨"DayEndBank$Account", "nearest", "(JJ)J"⟩
abbrev nc_T_floorDivL : ByteArray := prog_11_method_49_code
def ny_T_floorDivL : MethodName := ⟨"java/lang/Math", "floorDiv", "(JJ)J"⟩
abbrev nc_B_fuse : ByteArray := prog_1_method_10_code
def ny_B_fuse : MethodName := ⟨"DayEndBank", "fuse", "(I)Z"⟩
abbrev nc_B_restart : ByteArray := prog_1_method_11_code
def ny_B_restart : MethodName := ⟨"DayEndBank", "restart", "()I"⟩
abbrev nc_B_balance : ByteArray := prog_1_method_12_code
def ny_B_balance : MethodName := ⟨"DayEndBank", "balance", "(I)J"⟩
abbrev nc_B_shownAccount : ByteArray := prog_1_method_28_code
def ny_B_shownAccount : MethodName := ⟨"DayEndBank", "shownAccount", "(I)LDayEndBank$Account;"⟩
abbrev nc_B_available : ByteArray := prog_1_method_13_code
def ny_B_available : MethodName := ⟨"DayEndBank", "available", "(I)J"⟩
abbrev nc_B_accrued : ByteArray := prog_1_method_14_code
def ny_B_accrued : MethodName := ⟨"DayEndBank", "accrued", "(I)J"⟩
abbrev nc_B_mark : ByteArray := prog_1_method_15_code
def ny_B_mark : MethodName := ⟨"DayEndBank", "mark", "(I)I"⟩
abbrev nc_B_ledger : ByteArray := prog_1_method_16_code
def ny_B_ledger : MethodName := ⟨"DayEndBank", "ledger", "(II)J"⟩
abbrev nc_B_sumOfBalances : ByteArray := prog_1_method_35_code
def ny_B_sumOfBalances : MethodName := ⟨"DayEndBank", "sumOfBalances", "(I)J"⟩
abbrev nc_B_missed : ByteArray := prog_1_method_17_code
def ny_B_missed : MethodName := ⟨"DayEndBank", "missed", "(I)I"⟩
abbrev nc_B_today : ByteArray := prog_1_method_18_code
def ny_B_today : MethodName := ⟨"DayEndBank", "today", "()I"⟩
abbrev nc_B_count : ByteArray := prog_1_method_19_code
def ny_B_count : MethodName := ⟨"DayEndBank", "count", "(III)I"⟩
abbrev nc_B_writes : ByteArray := prog_1_method_20_code
def ny_B_writes : MethodName := ⟨"DayEndBank", "writes", "()I"⟩
abbrev nc_B_lines : ByteArray := prog_1_method_21_code
def ny_B_lines : MethodName := ⟨"DayEndBank", "lines", "()I"⟩
abbrev nc_M_init : ByteArray := prog_9_method_1_code
def ny_M_init : MethodName := ⟨"DayEndBankModel", "<init>", "()V"⟩
abbrev nc_M_open : ByteArray := prog_9_method_15_code
def ny_M_open : MethodName := ⟨"DayEndBankModel", "open", "(IIII)I"⟩
abbrev nc_M_shut : ByteArray := prog_9_method_11_code
def ny_M_shut : MethodName := ⟨"DayEndBankModel", "shut", "()I"⟩
abbrev nc_M_comes : ByteArray := prog_9_method_10_code
def ny_M_comes : MethodName := ⟨"DayEndBankModel", "comes", "(II)Z"⟩
abbrev nc_M_afford : ByteArray := prog_9_method_9_code
def ny_M_afford : MethodName := ⟨"DayEndBankModel", "afford", "(I)Z"⟩
abbrev nc_M_spend : ByteArray := prog_9_method_8_code
def ny_M_spend : MethodName := ⟨"DayEndBankModel", "spend", "(I)V"⟩
abbrev nc_M_pay : ByteArray := prog_9_method_20_code
def ny_M_pay : MethodName := ⟨"DayEndBankModel", "pay", "(III)I"⟩
abbrev nc_M_pair : ByteArray := prog_9_method_16_code
def ny_M_pair : MethodName := ⟨"DayEndBankModel", "pair", "(II)Z"⟩
abbrev nc_M_is : ByteArray := prog_9_method_12_code
def ny_M_is : MethodName := ⟨"DayEndBankModel", "is", "(I)Z"⟩
abbrev nc_M_amountOk : ByteArray := prog_9_method_13_code
def ny_M_amountOk : MethodName := ⟨"DayEndBankModel", "amountOk", "(I)Z"⟩
abbrev nc_M_free : ByteArray := prog_9_method_14_code
def ny_M_free : MethodName := ⟨"DayEndBankModel", "free", "(I)J"⟩
abbrev nc_M_linesOf : ByteArray := prog_9_method_17_code
def ny_M_linesOf : MethodName := ⟨"DayEndBankModel", "linesOf", "(II)I"⟩
abbrev nc_M_setOf : ByteArray := prog_9_method_18_code
def ny_M_setOf : MethodName := ⟨"DayEndBankModel", "setOf", "(II)I"⟩
abbrev nc_M_transfer : ByteArray := prog_9_method_19_code
def ny_M_transfer : MethodName := ⟨"DayEndBankModel", "transfer", "(III)V"⟩
abbrev nc_M_hold : ByteArray := prog_9_method_21_code
def ny_M_hold : MethodName := ⟨"DayEndBankModel", "hold", "(II)I"⟩
abbrev nc_M_release : ByteArray := prog_9_method_23_code
def ny_M_release : MethodName := ⟨"DayEndBankModel", "release", "(I)I"⟩
abbrev nc_M_stands : ByteArray := prog_9_method_22_code
def ny_M_stands : MethodName := ⟨"DayEndBankModel", "stands", "(I)Z"⟩
abbrev nc_M_settle : ByteArray := prog_9_method_24_code
def ny_M_settle : MethodName := ⟨"DayEndBankModel", "settle", "(III)I"⟩
abbrev nc_M_order : ByteArray := prog_9_method_25_code
def ny_M_order : MethodName := ⟨"DayEndBankModel", "order", "(IIII)I"⟩
abbrev nc_M_rest : ByteArray := prog_9_method_27_code
def ny_M_rest : MethodName := ⟨"DayEndBankModel", "rest", "(I)I"⟩
abbrev nc_M_resting : ByteArray := prog_9_method_6_code
def ny_M_resting : MethodName := ⟨"DayEndBankModel", "resting", "(I)Z"⟩
abbrev nc_M_later : ByteArray := prog_9_method_26_code
def ny_M_later : MethodName := ⟨"DayEndBankModel", "later", "(I)Z"⟩
abbrev nc_M_walk : ByteArray := prog_9_method_4_code
def ny_M_walk : MethodName := ⟨"DayEndBankModel", "walk", "(I)V"⟩
abbrev nc_M_leap : ByteArray := prog_9_method_2_code
def ny_M_leap : MethodName := ⟨"DayEndBankModel", "leap", "(I)Z"⟩
abbrev nc_M_length : ByteArray := prog_9_method_3_code
def ny_M_length : MethodName := ⟨"DayEndBankModel", "length", "(II)I"⟩
abbrev nc_M_run : ByteArray := prog_9_method_32_code
def ny_M_run : MethodName := ⟨"DayEndBankModel", "run", "(I)I"⟩
abbrev nc_M_dayEnd : ByteArray := prog_9_method_31_code
def ny_M_dayEnd : MethodName := ⟨"DayEndBankModel", "dayEnd", "()Z"⟩
abbrev nc_M_step : ByteArray := prog_9_method_29_code
def ny_M_step : MethodName := ⟨"DayEndBankModel", "step", "(I)Z"⟩
abbrev nc_M_paidOrders : ByteArray := prog_9_method_28_code
def ny_M_paidOrders : MethodName := ⟨"DayEndBankModel", "paidOrders", "(I)I"⟩
abbrev nc_M_due : ByteArray := prog_9_method_7_code
def ny_M_due : MethodName := ⟨"DayEndBankModel", "due", "(I)Z"⟩
abbrev nc_M_grow : ByteArray := prog_9_method_30_code
def ny_M_grow : MethodName := ⟨"DayEndBankModel", "grow", "(I)V"⟩
abbrev nc_M_days : ByteArray := prog_9_method_5_code
def ny_M_days : MethodName := ⟨"DayEndBankModel", "days", "(III)I"⟩
abbrev nc_M_fuse : ByteArray := prog_9_method_33_code
def ny_M_fuse : MethodName := ⟨"DayEndBankModel", "fuse", "(I)Z"⟩
abbrev nc_M_restart : ByteArray := prog_9_method_34_code
def ny_M_restart : MethodName := ⟨"DayEndBankModel", "restart", "()I"⟩
abbrev nc_M_balance : ByteArray := prog_9_method_35_code
def ny_M_balance : MethodName := ⟨"DayEndBankModel", "balance", "(I)J"⟩
abbrev nc_M_available : ByteArray := prog_9_method_36_code
def ny_M_available : MethodName := ⟨"DayEndBankModel", "available", "(I)J"⟩
abbrev nc_M_accrued : ByteArray := prog_9_method_37_code
def ny_M_accrued : MethodName := ⟨"DayEndBankModel", "accrued", "(I)J"⟩
abbrev nc_M_mark : ByteArray := prog_9_method_38_code
def ny_M_mark : MethodName := ⟨"DayEndBankModel", "mark", "(I)I"⟩
abbrev nc_M_ledger : ByteArray := prog_9_method_39_code
def ny_M_ledger : MethodName := ⟨"DayEndBankModel", "ledger", "(II)J"⟩
abbrev nc_M_missed : ByteArray := prog_9_method_40_code
def ny_M_missed : MethodName := ⟨"DayEndBankModel", "missed", "(I)I"⟩
abbrev nc_M_today : ByteArray := prog_9_method_41_code
def ny_M_today : MethodName := ⟨"DayEndBankModel", "today", "()I"⟩
abbrev nc_M_count : ByteArray := prog_9_method_42_code
def ny_M_count : MethodName := ⟨"DayEndBankModel", "count", "(III)I"⟩
abbrev nc_M_writes : ByteArray := prog_9_method_43_code
def ny_M_writes : MethodName := ⟨"DayEndBankModel", "writes", "()I"⟩
abbrev nc_M_lines : ByteArray := prog_9_method_44_code
def ny_M_lines : MethodName := ⟨"DayEndBankModel", "lines", "()I"⟩
abbrev nc_L_law : ByteArray := code
def ny_L_law : MethodName := ⟨"DayEndBankLaw", "law", "([I)Z"⟩
def zw_tb : List Cond := tables_1.filter goodWord
def zw_big : List Cond := k2_sels lw_privs ++ zw_tb
theorem zw_selgood : (k2_sels lw_privs).all goodWord = true := by decide +kernel
theorem zw_allgood : zw_big.all goodWord = true := List.all_eq_true.mpr (fun w hw => (List.mem_append.mp hw).elim (fun h => List.all_eq_true.mp zw_selgood w h) (fun h => (List.mem_filter.mp h).2))
theorem zw_in_tbl : ∀ w ∈ zw_big, w ∈ lw_tbl := by
  intro w hw
  rcases List.mem_append.mp hw with h | h
  · exact List.mem_append_left _ h
  · exact List.mem_append_right _ (List.mem_filter.mp h).1
theorem zw_mem {w : Cond} (h : w ∈ tables_1) (hg : goodWord w = true) : w ∈ zw_big := List.mem_append_right _ (List.mem_filter.mpr ⟨h, hg⟩)
end
section
theorem nw_0 : Cond.initialized "DayEndBankLaw" ∈ zw_big := zw_mem (List.mem_append_left _ (List.mem_of_getElem? (i := 0) (by decide +kernel))) (by decide +kernel)
theorem nw_1 : Cond.initialized "DayEndBank" ∈ zw_big := zw_mem (List.mem_append_left _ (List.mem_of_getElem? (i := 1) (by decide +kernel))) (by decide +kernel)
theorem nw_2 : Cond.initialized "DayEndBank$RestDays" ∈ zw_big := zw_mem (List.mem_append_left _ (List.mem_of_getElem? (i := 2) (by decide +kernel))) (by decide +kernel)
theorem nw_3 : Cond.initialized "DayEndBank$Disk" ∈ zw_big := zw_mem (List.mem_append_left _ (List.mem_of_getElem? (i := 3) (by decide +kernel))) (by decide +kernel)
theorem nw_4 : Cond.initialized "DayEndBank$Account" ∈ zw_big := zw_mem (List.mem_append_left _ (List.mem_of_getElem? (i := 4) (by decide +kernel))) (by decide +kernel)
theorem nw_5 : Cond.initialized "DayEndBank$Hold" ∈ zw_big := zw_mem (List.mem_append_left _ (List.mem_of_getElem? (i := 5) (by decide +kernel))) (by decide +kernel)
theorem nw_6 : Cond.initialized "DayEndBank$Order" ∈ zw_big := zw_mem (List.mem_append_left _ (List.mem_of_getElem? (i := 6) (by decide +kernel))) (by decide +kernel)
theorem nw_7 : Cond.initialized "DayEndBankModel" ∈ zw_big := zw_mem (List.mem_append_left _ (List.mem_of_getElem? (i := 7) (by decide +kernel))) (by decide +kernel)
theorem nw_8 : Cond.initialized "DayEndBank$Calendar" ∈ zw_big := zw_mem (List.mem_append_left _ (List.mem_of_getElem? (i := 8) (by decide +kernel))) (by decide +kernel)
theorem nw_9 : Cond.initialized "java/lang/Integer" ∈ zw_big := zw_mem (List.mem_append_left _ (List.mem_of_getElem? (i := 9) (by decide +kernel))) (by decide +kernel)
theorem nw_10 : Cond.initialized "java/lang/Math" ∈ zw_big := zw_mem (List.mem_append_left _ (List.mem_of_getElem? (i := 10) (by decide +kernel))) (by decide +kernel)
theorem nw_13 : Cond.methodLink "DayEndBankLaw" 9 ny_B_init ∈ zw_big := zw_mem (List.mem_append_left _ (List.mem_of_getElem? (i := 13) (by decide +kernel))) (by decide +kernel)
theorem nw_14 : Cond.instanceMethod ny_B_init ∈ zw_big := zw_mem (List.mem_append_left _ (List.mem_of_getElem? (i := 14) (by decide +kernel))) (by decide +kernel)
theorem nw_15 : Cond.code ny_B_init nc_B_init 2 none ∈ zw_big := zw_mem (List.mem_append_left _ (List.mem_of_getElem? (i := 15) (by decide +kernel))) (by decide +kernel)
theorem nw_28 : Cond.instanceMethod ny_R_init ∈ zw_big := zw_mem (List.mem_append_left _ (List.mem_of_getElem? (i := 28) (by decide +kernel))) (by decide +kernel)
theorem nw_29 : Cond.code ny_R_init nc_R_init 1 none ∈ zw_big := zw_mem (List.mem_append_left _ (List.mem_of_getElem? (i := 29) (by decide +kernel))) (by decide +kernel)
theorem nw_31 : Cond.fieldLink "DayEndBank$RestDays" 9 "DayEndBank$RestDays" "dates" "[I" ∈ zw_big := zw_mem (List.mem_append_left _ (List.mem_of_getElem? (i := 31) (by decide +kernel))) (by decide +kernel)
theorem nw_32 : Cond.fieldLink "DayEndBank$RestDays" 13 "DayEndBank$RestDays" "datesMade" "I" ∈ zw_big := zw_mem (List.mem_append_left _ (List.mem_of_getElem? (i := 32) (by decide +kernel))) (by decide +kernel)
theorem nw_33 : Cond.laysFinal "DayEndBank$RestDays" "DayEndBank$RestDays" "dates" "[I" ∈ zw_big := zw_mem (List.mem_append_left _ (List.mem_of_getElem? (i := 33) (by decide +kernel))) (by decide +kernel)
theorem nw_35 : Cond.lays "DayEndBank$RestDays" "DayEndBank$RestDays" "datesMade" "I" ∈ zw_big := zw_mem (List.mem_append_left _ (List.mem_of_getElem? (i := 35) (by decide +kernel))) (by decide +kernel)
theorem nw_42 : Cond.instanceMethod ny_D_init ∈ zw_big := zw_mem (List.mem_append_left _ (List.mem_of_getElem? (i := 42) (by decide +kernel))) (by decide +kernel)
theorem nw_43 : Cond.code ny_D_init nc_D_init 1 none ∈ zw_big := zw_mem (List.mem_append_left _ (List.mem_of_getElem? (i := 43) (by decide +kernel))) (by decide +kernel)
theorem nw_45 : Cond.fieldLink "DayEndBank$Disk" 39 "DayEndBank$Disk" "stopped" "Z" ∈ zw_big := zw_mem (List.mem_append_left _ (List.mem_of_getElem? (i := 45) (by decide +kernel))) (by decide +kernel)
theorem nw_46 : Cond.fieldLink "DayEndBank" 163 "DayEndBank$Disk" "stopped" "Z" ∈ zw_big := zw_mem (List.mem_append_left _ (List.mem_of_getElem? (i := 46) (by decide +kernel))) (by decide +kernel)
theorem nw_47 : Cond.fieldLink "DayEndBank$Disk" 43 "DayEndBank$Disk" "writesMade" "I" ∈ zw_big := zw_mem (List.mem_append_left _ (List.mem_of_getElem? (i := 47) (by decide +kernel))) (by decide +kernel)
theorem nw_48 : Cond.fieldLink "DayEndBank" 198 "DayEndBank$Disk" "writesMade" "I" ∈ zw_big := zw_mem (List.mem_append_left _ (List.mem_of_getElem? (i := 48) (by decide +kernel))) (by decide +kernel)
theorem nw_49 : Cond.fieldLink "DayEndBank$Disk" 9 "DayEndBank$Disk" "writesLeft" "I" ∈ zw_big := zw_mem (List.mem_append_left _ (List.mem_of_getElem? (i := 49) (by decide +kernel))) (by decide +kernel)
theorem nw_50 : Cond.fieldLink "DayEndBank" 170 "DayEndBank$Disk" "writesLeft" "I" ∈ zw_big := zw_mem (List.mem_append_left _ (List.mem_of_getElem? (i := 50) (by decide +kernel))) (by decide +kernel)
theorem nw_51 : Cond.fieldLink "DayEndBank$Disk" 23 "DayEndBank$Disk" "linesInLog" "I" ∈ zw_big := zw_mem (List.mem_append_left _ (List.mem_of_getElem? (i := 51) (by decide +kernel))) (by decide +kernel)
theorem nw_52 : Cond.fieldLink "DayEndBank" 201 "DayEndBank$Disk" "linesInLog" "I" ∈ zw_big := zw_mem (List.mem_append_left _ (List.mem_of_getElem? (i := 52) (by decide +kernel))) (by decide +kernel)
theorem nw_53 : Cond.fieldLink "DayEndBank$Disk" 33 "DayEndBank$Disk" "transactionsInLog" "I" ∈ zw_big := zw_mem (List.mem_append_left _ (List.mem_of_getElem? (i := 53) (by decide +kernel))) (by decide +kernel)
theorem nw_54 : Cond.fieldLink "DayEndBank" 173 "DayEndBank$Disk" "transactionsInLog" "I" ∈ zw_big := zw_mem (List.mem_append_left _ (List.mem_of_getElem? (i := 54) (by decide +kernel))) (by decide +kernel)
theorem nw_55 : Cond.fieldLink "DayEndBank$Disk" 36 "DayEndBank$Disk" "changedInLog" "I" ∈ zw_big := zw_mem (List.mem_append_left _ (List.mem_of_getElem? (i := 55) (by decide +kernel))) (by decide +kernel)
theorem nw_56 : Cond.lays "DayEndBank$Disk" "DayEndBank$Disk" "stopped" "Z" ∈ zw_big := zw_mem (List.mem_append_left _ (List.mem_of_getElem? (i := 56) (by decide +kernel))) (by decide +kernel)
theorem nw_58 : Cond.lays "DayEndBank$Disk" "DayEndBank$Disk" "writesMade" "I" ∈ zw_big := zw_mem (List.mem_append_left _ (List.mem_of_getElem? (i := 58) (by decide +kernel))) (by decide +kernel)
theorem nw_60 : Cond.lays "DayEndBank$Disk" "DayEndBank$Disk" "writesLeft" "I" ∈ zw_big := zw_mem (List.mem_append_left _ (List.mem_of_getElem? (i := 60) (by decide +kernel))) (by decide +kernel)
theorem nw_62 : Cond.lays "DayEndBank$Disk" "DayEndBank$Disk" "linesInLog" "I" ∈ zw_big := zw_mem (List.mem_append_left _ (List.mem_of_getElem? (i := 62) (by decide +kernel))) (by decide +kernel)
theorem nw_64 : Cond.lays "DayEndBank$Disk" "DayEndBank$Disk" "transactionsInLog" "I" ∈ zw_big := zw_mem (List.mem_append_left _ (List.mem_of_getElem? (i := 64) (by decide +kernel))) (by decide +kernel)
theorem nw_66 : Cond.lays "DayEndBank$Disk" "DayEndBank$Disk" "changedInLog" "I" ∈ zw_big := zw_mem (List.mem_append_left _ (List.mem_of_getElem? (i := 66) (by decide +kernel))) (by decide +kernel)
theorem nw_70 : Cond.methodLink "DayEndBank" 48 ny_A_init ∈ zw_big := zw_mem (List.mem_append_left _ (List.mem_of_getElem? (i := 70) (by decide +kernel))) (by decide +kernel)
theorem nw_71 : Cond.instanceMethod ny_A_init ∈ zw_big := zw_mem (List.mem_append_left _ (List.mem_of_getElem? (i := 71) (by decide +kernel))) (by decide +kernel)
theorem nw_72 : Cond.code ny_A_init nc_A_init 2 none ∈ zw_big := zw_mem (List.mem_append_left _ (List.mem_of_getElem? (i := 72) (by decide +kernel))) (by decide +kernel)
theorem nw_74 : Cond.fieldLink "DayEndBank$Account" 7 "DayEndBank$Account" "number" "I" ∈ zw_big := zw_mem (List.mem_append_left _ (List.mem_of_getElem? (i := 74) (by decide +kernel))) (by decide +kernel)
theorem nw_75 : Cond.fieldLink "DayEndBank" 100 "DayEndBank$Account" "number" "I" ∈ zw_big := zw_mem (List.mem_append_left _ (List.mem_of_getElem? (i := 75) (by decide +kernel))) (by decide +kernel)
theorem nw_76 : Cond.fieldLink "DayEndBank" 82 "DayEndBank$Account" "currency" "I" ∈ zw_big := zw_mem (List.mem_append_left _ (List.mem_of_getElem? (i := 76) (by decide +kernel))) (by decide +kernel)
theorem nw_77 : Cond.fieldLink "DayEndBank" 85 "DayEndBank$Account" "basis" "I" ∈ zw_big := zw_mem (List.mem_append_left _ (List.mem_of_getElem? (i := 77) (by decide +kernel))) (by decide +kernel)
theorem nw_78 : Cond.fieldLink "DayEndBank$Account" 31 "DayEndBank$Account" "basis" "I" ∈ zw_big := zw_mem (List.mem_append_left _ (List.mem_of_getElem? (i := 78) (by decide +kernel))) (by decide +kernel)
theorem nw_79 : Cond.fieldLink "DayEndBank$Account" 17 "DayEndBank$Account" "limit" "I" ∈ zw_big := zw_mem (List.mem_append_left _ (List.mem_of_getElem? (i := 79) (by decide +kernel))) (by decide +kernel)
theorem nw_80 : Cond.fieldLink "DayEndBank" 88 "DayEndBank$Account" "limit" "I" ∈ zw_big := zw_mem (List.mem_append_left _ (List.mem_of_getElem? (i := 80) (by decide +kernel))) (by decide +kernel)
theorem nw_81 : Cond.fieldLink "DayEndBank" 91 "DayEndBank$Account" "rate" "I" ∈ zw_big := zw_mem (List.mem_append_left _ (List.mem_of_getElem? (i := 81) (by decide +kernel))) (by decide +kernel)
theorem nw_82 : Cond.fieldLink "DayEndBank$Account" 26 "DayEndBank$Account" "rate" "I" ∈ zw_big := zw_mem (List.mem_append_left _ (List.mem_of_getElem? (i := 82) (by decide +kernel))) (by decide +kernel)
theorem nw_83 : Cond.fieldLink "DayEndBank$Account" 13 "DayEndBank$Account" "balance" "J" ∈ zw_big := zw_mem (List.mem_append_left _ (List.mem_of_getElem? (i := 83) (by decide +kernel))) (by decide +kernel)
theorem nw_84 : Cond.fieldLink "DayEndBank" 179 "DayEndBank$Account" "balance" "J" ∈ zw_big := zw_mem (List.mem_append_left _ (List.mem_of_getElem? (i := 84) (by decide +kernel))) (by decide +kernel)
theorem nw_85 : Cond.fieldLink "DayEndBank$Account" 20 "DayEndBank$Account" "held" "J" ∈ zw_big := zw_mem (List.mem_append_left _ (List.mem_of_getElem? (i := 85) (by decide +kernel))) (by decide +kernel)
theorem nw_86 : Cond.fieldLink "DayEndBank$Hold" 17 "DayEndBank$Account" "held" "J" ∈ zw_big := zw_mem (List.mem_append_left _ (List.mem_of_getElem? (i := 86) (by decide +kernel))) (by decide +kernel)
theorem nw_87 : Cond.fieldLink "DayEndBank$Account" 23 "DayEndBank$Account" "accrual" "J" ∈ zw_big := zw_mem (List.mem_append_left _ (List.mem_of_getElem? (i := 87) (by decide +kernel))) (by decide +kernel)
theorem nw_88 : Cond.fieldLink "DayEndBank" 183 "DayEndBank$Account" "accrual" "J" ∈ zw_big := zw_mem (List.mem_append_left _ (List.mem_of_getElem? (i := 88) (by decide +kernel))) (by decide +kernel)
theorem nw_89 : Cond.fieldLink "DayEndBank" 97 "DayEndBank$Account" "mark" "I" ∈ zw_big := zw_mem (List.mem_append_left _ (List.mem_of_getElem? (i := 89) (by decide +kernel))) (by decide +kernel)
theorem nw_90 : Cond.laysFinal "DayEndBank$Account" "DayEndBank$Account" "number" "I" ∈ zw_big := zw_mem (List.mem_append_left _ (List.mem_of_getElem? (i := 90) (by decide +kernel))) (by decide +kernel)
theorem nw_92 : Cond.lays "DayEndBank$Account" "DayEndBank$Account" "currency" "I" ∈ zw_big := zw_mem (List.mem_append_left _ (List.mem_of_getElem? (i := 92) (by decide +kernel))) (by decide +kernel)
theorem nw_94 : Cond.lays "DayEndBank$Account" "DayEndBank$Account" "basis" "I" ∈ zw_big := zw_mem (List.mem_append_left _ (List.mem_of_getElem? (i := 94) (by decide +kernel))) (by decide +kernel)
theorem nw_96 : Cond.lays "DayEndBank$Account" "DayEndBank$Account" "limit" "I" ∈ zw_big := zw_mem (List.mem_append_left _ (List.mem_of_getElem? (i := 96) (by decide +kernel))) (by decide +kernel)
theorem nw_98 : Cond.lays "DayEndBank$Account" "DayEndBank$Account" "rate" "I" ∈ zw_big := zw_mem (List.mem_append_left _ (List.mem_of_getElem? (i := 98) (by decide +kernel))) (by decide +kernel)
theorem nw_100 : Cond.lays "DayEndBank$Account" "DayEndBank$Account" "balance" "J" ∈ zw_big := zw_mem (List.mem_append_left _ (List.mem_of_getElem? (i := 100) (by decide +kernel))) (by decide +kernel)
theorem nw_102 : Cond.lays "DayEndBank$Account" "DayEndBank$Account" "held" "J" ∈ zw_big := zw_mem (List.mem_append_left _ (List.mem_of_getElem? (i := 102) (by decide +kernel))) (by decide +kernel)
theorem nw_104 : Cond.lays "DayEndBank$Account" "DayEndBank$Account" "accrual" "J" ∈ zw_big := zw_mem (List.mem_append_left _ (List.mem_of_getElem? (i := 104) (by decide +kernel))) (by decide +kernel)
theorem nw_106 : Cond.lays "DayEndBank$Account" "DayEndBank$Account" "mark" "I" ∈ zw_big := zw_mem (List.mem_append_left _ (List.mem_of_getElem? (i := 106) (by decide +kernel))) (by decide +kernel)
theorem nw_112 : Cond.instanceMethod ny_H_init ∈ zw_big := zw_mem (List.mem_append_left _ (List.mem_of_getElem? (i := 112) (by decide +kernel))) (by decide +kernel)
theorem nw_113 : Cond.code ny_H_init nc_H_init 1 none ∈ zw_big := zw_mem (List.mem_append_left _ (List.mem_of_getElem? (i := 113) (by decide +kernel))) (by decide +kernel)
theorem nw_115 : Cond.fieldLink "DayEndBank$Hold" 7 "DayEndBank$Hold" "holder" "LDayEndBank$Account;" ∈ zw_big := zw_mem (List.mem_append_left _ (List.mem_of_getElem? (i := 115) (by decide +kernel))) (by decide +kernel)
theorem nw_116 : Cond.fieldLink "DayEndBank" 133 "DayEndBank$Hold" "holder" "LDayEndBank$Account;" ∈ zw_big := zw_mem (List.mem_append_left _ (List.mem_of_getElem? (i := 116) (by decide +kernel))) (by decide +kernel)
theorem nw_117 : Cond.fieldLink "DayEndBank$Hold" 13 "DayEndBank$Hold" "amount" "I" ∈ zw_big := zw_mem (List.mem_append_left _ (List.mem_of_getElem? (i := 117) (by decide +kernel))) (by decide +kernel)
theorem nw_118 : Cond.fieldLink "DayEndBank" 140 "DayEndBank$Hold" "amount" "I" ∈ zw_big := zw_mem (List.mem_append_left _ (List.mem_of_getElem? (i := 118) (by decide +kernel))) (by decide +kernel)
theorem nw_119 : Cond.lays "DayEndBank$Hold" "DayEndBank$Hold" "holder" "LDayEndBank$Account;" ∈ zw_big := zw_mem (List.mem_append_left _ (List.mem_of_getElem? (i := 119) (by decide +kernel))) (by decide +kernel)
theorem nw_121 : Cond.lays "DayEndBank$Hold" "DayEndBank$Hold" "amount" "I" ∈ zw_big := zw_mem (List.mem_append_left _ (List.mem_of_getElem? (i := 121) (by decide +kernel))) (by decide +kernel)
theorem nw_126 : Cond.instanceMethod ny_O_init ∈ zw_big := zw_mem (List.mem_append_left _ (List.mem_of_getElem? (i := 126) (by decide +kernel))) (by decide +kernel)
theorem nw_127 : Cond.code ny_O_init nc_O_init 1 none ∈ zw_big := zw_mem (List.mem_append_left _ (List.mem_of_getElem? (i := 127) (by decide +kernel))) (by decide +kernel)
theorem nw_129 : Cond.fieldLink "DayEndBank$Order" 7 "DayEndBank$Order" "payer" "LDayEndBank$Account;" ∈ zw_big := zw_mem (List.mem_append_left _ (List.mem_of_getElem? (i := 129) (by decide +kernel))) (by decide +kernel)
theorem nw_130 : Cond.fieldLink "DayEndBank" 240 "DayEndBank$Order" "payer" "LDayEndBank$Account;" ∈ zw_big := zw_mem (List.mem_append_left _ (List.mem_of_getElem? (i := 130) (by decide +kernel))) (by decide +kernel)
theorem nw_131 : Cond.fieldLink "DayEndBank$Order" 13 "DayEndBank$Order" "payee" "LDayEndBank$Account;" ∈ zw_big := zw_mem (List.mem_append_left _ (List.mem_of_getElem? (i := 131) (by decide +kernel))) (by decide +kernel)
theorem nw_132 : Cond.fieldLink "DayEndBank" 257 "DayEndBank$Order" "payee" "LDayEndBank$Account;" ∈ zw_big := zw_mem (List.mem_append_left _ (List.mem_of_getElem? (i := 132) (by decide +kernel))) (by decide +kernel)
theorem nw_133 : Cond.fieldLink "DayEndBank$Order" 16 "DayEndBank$Order" "amount" "I" ∈ zw_big := zw_mem (List.mem_append_left _ (List.mem_of_getElem? (i := 133) (by decide +kernel))) (by decide +kernel)
theorem nw_134 : Cond.fieldLink "DayEndBank" 253 "DayEndBank$Order" "amount" "I" ∈ zw_big := zw_mem (List.mem_append_left _ (List.mem_of_getElem? (i := 134) (by decide +kernel))) (by decide +kernel)
theorem nw_135 : Cond.fieldLink "DayEndBank$Order" 20 "DayEndBank$Order" "day" "I" ∈ zw_big := zw_mem (List.mem_append_left _ (List.mem_of_getElem? (i := 135) (by decide +kernel))) (by decide +kernel)
theorem nw_136 : Cond.fieldLink "DayEndBank" 243 "DayEndBank$Order" "day" "I" ∈ zw_big := zw_mem (List.mem_append_left _ (List.mem_of_getElem? (i := 136) (by decide +kernel))) (by decide +kernel)
theorem nw_137 : Cond.fieldLink "DayEndBank" 190 "DayEndBank$Order" "misses" "I" ∈ zw_big := zw_mem (List.mem_append_left _ (List.mem_of_getElem? (i := 137) (by decide +kernel))) (by decide +kernel)
theorem nw_138 : Cond.fieldLink "DayEndBank" 250 "DayEndBank$Order" "isDue" "Z" ∈ zw_big := zw_mem (List.mem_append_left _ (List.mem_of_getElem? (i := 138) (by decide +kernel))) (by decide +kernel)
theorem nw_139 : Cond.fieldLink "DayEndBank" 254 "DayEndBank$Order" "isPaid" "Z" ∈ zw_big := zw_mem (List.mem_append_left _ (List.mem_of_getElem? (i := 139) (by decide +kernel))) (by decide +kernel)
theorem nw_140 : Cond.lays "DayEndBank$Order" "DayEndBank$Order" "payer" "LDayEndBank$Account;" ∈ zw_big := zw_mem (List.mem_append_left _ (List.mem_of_getElem? (i := 140) (by decide +kernel))) (by decide +kernel)
theorem nw_142 : Cond.lays "DayEndBank$Order" "DayEndBank$Order" "payee" "LDayEndBank$Account;" ∈ zw_big := zw_mem (List.mem_append_left _ (List.mem_of_getElem? (i := 142) (by decide +kernel))) (by decide +kernel)
theorem nw_144 : Cond.lays "DayEndBank$Order" "DayEndBank$Order" "amount" "I" ∈ zw_big := zw_mem (List.mem_append_left _ (List.mem_of_getElem? (i := 144) (by decide +kernel))) (by decide +kernel)
theorem nw_146 : Cond.lays "DayEndBank$Order" "DayEndBank$Order" "day" "I" ∈ zw_big := zw_mem (List.mem_append_left _ (List.mem_of_getElem? (i := 146) (by decide +kernel))) (by decide +kernel)
theorem nw_148 : Cond.lays "DayEndBank$Order" "DayEndBank$Order" "misses" "I" ∈ zw_big := zw_mem (List.mem_append_left _ (List.mem_of_getElem? (i := 148) (by decide +kernel))) (by decide +kernel)
theorem nw_150 : Cond.lays "DayEndBank$Order" "DayEndBank$Order" "isDue" "Z" ∈ zw_big := zw_mem (List.mem_append_left _ (List.mem_of_getElem? (i := 150) (by decide +kernel))) (by decide +kernel)
theorem nw_152 : Cond.lays "DayEndBank$Order" "DayEndBank$Order" "isPaid" "Z" ∈ zw_big := zw_mem (List.mem_append_left _ (List.mem_of_getElem? (i := 152) (by decide +kernel))) (by decide +kernel)
theorem nw_155 : Cond.fieldLink "DayEndBank" 11 "DayEndBank" "accounts" "[LDayEndBank$Account;" ∈ zw_big := zw_mem (List.mem_append_left _ (List.mem_of_getElem? (i := 155) (by decide +kernel))) (by decide +kernel)
theorem nw_156 : Cond.fieldLink "DayEndBank" 17 "DayEndBank" "holds" "[LDayEndBank$Hold;" ∈ zw_big := zw_mem (List.mem_append_left _ (List.mem_of_getElem? (i := 156) (by decide +kernel))) (by decide +kernel)
theorem nw_157 : Cond.fieldLink "DayEndBank" 23 "DayEndBank" "orders" "[LDayEndBank$Order;" ∈ zw_big := zw_mem (List.mem_append_left _ (List.mem_of_getElem? (i := 157) (by decide +kernel))) (by decide +kernel)
theorem nw_158 : Cond.fieldLink "DayEndBank" 30 "DayEndBank" "restDays" "LDayEndBank$RestDays;" ∈ zw_big := zw_mem (List.mem_append_left _ (List.mem_of_getElem? (i := 158) (by decide +kernel))) (by decide +kernel)
theorem nw_159 : Cond.fieldLink "DayEndBank" 37 "DayEndBank" "disk" "LDayEndBank$Disk;" ∈ zw_big := zw_mem (List.mem_append_left _ (List.mem_of_getElem? (i := 159) (by decide +kernel))) (by decide +kernel)
theorem nw_160 : Cond.fieldLink "DayEndBank" 41 "DayEndBank" "cash" "[J" ∈ zw_big := zw_mem (List.mem_append_left _ (List.mem_of_getElem? (i := 160) (by decide +kernel))) (by decide +kernel)
theorem nw_161 : Cond.fieldLink "DayEndBank" 45 "DayEndBank" "interest" "[J" ∈ zw_big := zw_mem (List.mem_append_left _ (List.mem_of_getElem? (i := 161) (by decide +kernel))) (by decide +kernel)
theorem nw_162 : Cond.fieldLink "DayEndBank" 71 "DayEndBank" "accountsOpened" "I" ∈ zw_big := zw_mem (List.mem_append_left _ (List.mem_of_getElem? (i := 162) (by decide +kernel))) (by decide +kernel)
theorem nw_163 : Cond.fieldLink "DayEndBank" 143 "DayEndBank" "ordersMade" "I" ∈ zw_big := zw_mem (List.mem_append_left _ (List.mem_of_getElem? (i := 163) (by decide +kernel))) (by decide +kernel)
theorem nw_164 : Cond.fieldLink "DayEndBank" 94 "DayEndBank" "bookDate" "I" ∈ zw_big := zw_mem (List.mem_append_left _ (List.mem_of_getElem? (i := 164) (by decide +kernel))) (by decide +kernel)
theorem nw_165 : Cond.fieldLink "DayEndBank" 204 "DayEndBank" "dayEndOpen" "Z" ∈ zw_big := zw_mem (List.mem_append_left _ (List.mem_of_getElem? (i := 165) (by decide +kernel))) (by decide +kernel)
theorem nw_166 : Cond.laysFinal "DayEndBank" "DayEndBank" "accounts" "[LDayEndBank$Account;" ∈ zw_big := zw_mem (List.mem_append_left _ (List.mem_of_getElem? (i := 166) (by decide +kernel))) (by decide +kernel)
theorem nw_168 : Cond.laysFinal "DayEndBank" "DayEndBank" "holds" "[LDayEndBank$Hold;" ∈ zw_big := zw_mem (List.mem_append_left _ (List.mem_of_getElem? (i := 168) (by decide +kernel))) (by decide +kernel)
theorem nw_170 : Cond.laysFinal "DayEndBank" "DayEndBank" "orders" "[LDayEndBank$Order;" ∈ zw_big := zw_mem (List.mem_append_left _ (List.mem_of_getElem? (i := 170) (by decide +kernel))) (by decide +kernel)
theorem nw_172 : Cond.laysFinal "DayEndBank" "DayEndBank" "restDays" "LDayEndBank$RestDays;" ∈ zw_big := zw_mem (List.mem_append_left _ (List.mem_of_getElem? (i := 172) (by decide +kernel))) (by decide +kernel)
theorem nw_174 : Cond.laysFinal "DayEndBank" "DayEndBank" "disk" "LDayEndBank$Disk;" ∈ zw_big := zw_mem (List.mem_append_left _ (List.mem_of_getElem? (i := 174) (by decide +kernel))) (by decide +kernel)
theorem nw_176 : Cond.laysFinal "DayEndBank" "DayEndBank" "cash" "[J" ∈ zw_big := zw_mem (List.mem_append_left _ (List.mem_of_getElem? (i := 176) (by decide +kernel))) (by decide +kernel)
theorem nw_178 : Cond.laysFinal "DayEndBank" "DayEndBank" "interest" "[J" ∈ zw_big := zw_mem (List.mem_append_left _ (List.mem_of_getElem? (i := 178) (by decide +kernel))) (by decide +kernel)
theorem nw_180 : Cond.lays "DayEndBank" "DayEndBank" "accountsOpened" "I" ∈ zw_big := zw_mem (List.mem_append_left _ (List.mem_of_getElem? (i := 180) (by decide +kernel))) (by decide +kernel)
theorem nw_182 : Cond.lays "DayEndBank" "DayEndBank" "ordersMade" "I" ∈ zw_big := zw_mem (List.mem_append_left _ (List.mem_of_getElem? (i := 182) (by decide +kernel))) (by decide +kernel)
theorem nw_184 : Cond.lays "DayEndBank" "DayEndBank" "bookDate" "I" ∈ zw_big := zw_mem (List.mem_append_left _ (List.mem_of_getElem? (i := 184) (by decide +kernel))) (by decide +kernel)
theorem nw_186 : Cond.lays "DayEndBank" "DayEndBank" "dayEndOpen" "Z" ∈ zw_big := zw_mem (List.mem_append_left _ (List.mem_of_getElem? (i := 186) (by decide +kernel))) (by decide +kernel)
theorem nw_189 : Cond.methodLink "DayEndBankLaw" 13 ny_B_open ∈ zw_big := zw_mem (List.mem_append_left _ (List.mem_of_getElem? (i := 189) (by decide +kernel))) (by decide +kernel)
theorem nw_190 : Cond.instanceMethod ny_B_open ∈ zw_big := zw_mem (List.mem_append_left _ (List.mem_of_getElem? (i := 190) (by decide +kernel))) (by decide +kernel)
theorem nw_191 : Cond.selects "DayEndBank" ny_B_open ny_B_open ∈ zw_big := zw_mem (List.mem_append_left _ (List.mem_of_getElem? (i := 191) (by decide +kernel))) (by decide +kernel)
theorem nw_192 : Cond.code ny_B_open nc_B_open 7 (some .int) ∈ zw_big := zw_mem (List.mem_append_left _ (List.mem_of_getElem? (i := 192) (by decide +kernel))) (by decide +kernel)
theorem nw_193 : Cond.methodLink "DayEndBank" 53 ny_B_refusalOfChange ∈ zw_big := zw_mem (List.mem_append_left _ (List.mem_of_getElem? (i := 193) (by decide +kernel))) (by decide +kernel)
theorem nw_195 : Cond.instanceMethod ny_B_refusalOfChange ∈ zw_big := zw_mem (List.mem_append_left _ (List.mem_of_getElem? (i := 195) (by decide +kernel))) (by decide +kernel)
theorem nw_196 : Cond.code ny_B_refusalOfChange nc_B_refusalOfChange 1 (some .int) ∈ zw_big := zw_mem (List.mem_append_left _ (List.mem_of_getElem? (i := 196) (by decide +kernel))) (by decide +kernel)
theorem nw_197 : Cond.methodLink "DayEndBank" 57 ny_B_isCurrency ∈ zw_big := zw_mem (List.mem_append_left _ (List.mem_of_getElem? (i := 197) (by decide +kernel))) (by decide +kernel)
theorem nw_198 : Cond.static ny_B_isCurrency ∈ zw_big := zw_mem (List.mem_append_left _ (List.mem_of_getElem? (i := 198) (by decide +kernel))) (by decide +kernel)
theorem nw_199 : Cond.code ny_B_isCurrency nc_B_isCurrency 1 (some .boolean) ∈ zw_big := zw_mem (List.mem_append_left _ (List.mem_of_getElem? (i := 199) (by decide +kernel))) (by decide +kernel)
theorem nw_200 : Cond.methodLink "DayEndBank" 67 ny_B_isWithin ∈ zw_big := zw_mem (List.mem_append_left _ (List.mem_of_getElem? (i := 200) (by decide +kernel))) (by decide +kernel)
theorem nw_201 : Cond.static ny_B_isWithin ∈ zw_big := zw_mem (List.mem_append_left _ (List.mem_of_getElem? (i := 201) (by decide +kernel))) (by decide +kernel)
theorem nw_202 : Cond.code ny_B_isWithin nc_B_isWithin 3 (some .boolean) ∈ zw_big := zw_mem (List.mem_append_left _ (List.mem_of_getElem? (i := 202) (by decide +kernel))) (by decide +kernel)
theorem nw_203 : Cond.methodLink "DayEndBank" 61 ny_C_isBasis ∈ zw_big := zw_mem (List.mem_append_left _ (List.mem_of_getElem? (i := 203) (by decide +kernel))) (by decide +kernel)
theorem nw_204 : Cond.static ny_C_isBasis ∈ zw_big := zw_mem (List.mem_append_left _ (List.mem_of_getElem? (i := 204) (by decide +kernel))) (by decide +kernel)
theorem nw_205 : Cond.code ny_C_isBasis nc_C_isBasis 1 (some .boolean) ∈ zw_big := zw_mem (List.mem_append_left _ (List.mem_of_getElem? (i := 205) (by decide +kernel))) (by decide +kernel)
theorem nw_206 : Cond.constant "DayEndBank" 66 (1000000) ∈ zw_big := zw_mem (List.mem_append_left _ (List.mem_of_getElem? (i := 206) (by decide +kernel))) (by decide +kernel)
theorem nw_207 : Cond.methodLink "DayEndBank" 75 ny_B_bitOf ∈ zw_big := zw_mem (List.mem_append_left _ (List.mem_of_getElem? (i := 207) (by decide +kernel))) (by decide +kernel)
theorem nw_208 : Cond.static ny_B_bitOf ∈ zw_big := zw_mem (List.mem_append_left _ (List.mem_of_getElem? (i := 208) (by decide +kernel))) (by decide +kernel)
theorem nw_209 : Cond.code ny_B_bitOf nc_B_bitOf 1 (some .int) ∈ zw_big := zw_mem (List.mem_append_left _ (List.mem_of_getElem? (i := 209) (by decide +kernel))) (by decide +kernel)
theorem nw_210 : Cond.methodLink "DayEndBank" 79 ny_D_writeTransaction ∈ zw_big := zw_mem (List.mem_append_left _ (List.mem_of_getElem? (i := 210) (by decide +kernel))) (by decide +kernel)
theorem nw_211 : Cond.instanceMethod ny_D_writeTransaction ∈ zw_big := zw_mem (List.mem_append_left _ (List.mem_of_getElem? (i := 211) (by decide +kernel))) (by decide +kernel)
theorem nw_212 : Cond.selects "DayEndBank$Disk" ny_D_writeTransaction ny_D_writeTransaction ∈ zw_big := zw_mem (List.mem_append_left _ (List.mem_of_getElem? (i := 212) (by decide +kernel))) (by decide +kernel)
theorem nw_213 : Cond.code ny_D_writeTransaction nc_D_writeTransaction 2 (some .boolean) ∈ zw_big := zw_mem (List.mem_append_left _ (List.mem_of_getElem? (i := 213) (by decide +kernel))) (by decide +kernel)
theorem nw_214 : Cond.methodLink "DayEndBank$Disk" 13 ny_I_bitCount ∈ zw_big := zw_mem (List.mem_append_left _ (List.mem_of_getElem? (i := 214) (by decide +kernel))) (by decide +kernel)
theorem nw_215 : Cond.static ny_I_bitCount ∈ zw_big := zw_mem (List.mem_append_left _ (List.mem_of_getElem? (i := 215) (by decide +kernel))) (by decide +kernel)
theorem nw_216 : Cond.code ny_I_bitCount nc_I_bitCount 1 (some .int) ∈ zw_big := zw_mem (List.mem_append_left _ (List.mem_of_getElem? (i := 216) (by decide +kernel))) (by decide +kernel)
theorem nw_217 : Cond.constant "java/lang/Integer" 265 (1431655765) ∈ zw_big := zw_mem (List.mem_append_left _ (List.mem_of_getElem? (i := 217) (by decide +kernel))) (by decide +kernel)
theorem nw_218 : Cond.constant "java/lang/Integer" 266 (858993459) ∈ zw_big := zw_mem (List.mem_append_left _ (List.mem_of_getElem? (i := 218) (by decide +kernel))) (by decide +kernel)
theorem nw_219 : Cond.constant "java/lang/Integer" 267 (252645135) ∈ zw_big := zw_mem (List.mem_append_left _ (List.mem_of_getElem? (i := 219) (by decide +kernel))) (by decide +kernel)
theorem nw_220 : Cond.methodLink "DayEndBank$Disk" 19 ny_D_writeLines ∈ zw_big := zw_mem (List.mem_append_left _ (List.mem_of_getElem? (i := 220) (by decide +kernel))) (by decide +kernel)
theorem nw_221 : Cond.instanceMethod ny_D_writeLines ∈ zw_big := zw_mem (List.mem_append_left _ (List.mem_of_getElem? (i := 221) (by decide +kernel))) (by decide +kernel)
theorem nw_222 : Cond.selects "DayEndBank$Disk" ny_D_writeLines ny_D_writeLines ∈ zw_big := zw_mem (List.mem_append_left _ (List.mem_of_getElem? (i := 222) (by decide +kernel))) (by decide +kernel)
theorem nw_223 : Cond.code ny_D_writeLines nc_D_writeLines 4 (some .boolean) ∈ zw_big := zw_mem (List.mem_append_left _ (List.mem_of_getElem? (i := 223) (by decide +kernel))) (by decide +kernel)
theorem nw_224 : Cond.methodLink "DayEndBank$Disk" 26 ny_D_makeCheckpoint ∈ zw_big := zw_mem (List.mem_append_left _ (List.mem_of_getElem? (i := 224) (by decide +kernel))) (by decide +kernel)
theorem nw_226 : Cond.instanceMethod ny_D_makeCheckpoint ∈ zw_big := zw_mem (List.mem_append_left _ (List.mem_of_getElem? (i := 226) (by decide +kernel))) (by decide +kernel)
theorem nw_227 : Cond.code ny_D_makeCheckpoint nc_D_makeCheckpoint 3 (some .boolean) ∈ zw_big := zw_mem (List.mem_append_left _ (List.mem_of_getElem? (i := 227) (by decide +kernel))) (by decide +kernel)
theorem nw_228 : Cond.methodLink "DayEndBank$Disk" 30 ny_D_writeOnce ∈ zw_big := zw_mem (List.mem_append_left _ (List.mem_of_getElem? (i := 228) (by decide +kernel))) (by decide +kernel)
theorem nw_230 : Cond.instanceMethod ny_D_writeOnce ∈ zw_big := zw_mem (List.mem_append_left _ (List.mem_of_getElem? (i := 230) (by decide +kernel))) (by decide +kernel)
theorem nw_231 : Cond.code ny_D_writeOnce nc_D_writeOnce 1 (some .boolean) ∈ zw_big := zw_mem (List.mem_append_left _ (List.mem_of_getElem? (i := 231) (by decide +kernel))) (by decide +kernel)
theorem nw_232 : Cond.methodLink "DayEndBankLaw" 18 ny_B_pay ∈ zw_big := zw_mem (List.mem_append_left _ (List.mem_of_getElem? (i := 232) (by decide +kernel))) (by decide +kernel)
theorem nw_233 : Cond.instanceMethod ny_B_pay ∈ zw_big := zw_mem (List.mem_append_left _ (List.mem_of_getElem? (i := 233) (by decide +kernel))) (by decide +kernel)
theorem nw_234 : Cond.selects "DayEndBank" ny_B_pay ny_B_pay ∈ zw_big := zw_mem (List.mem_append_left _ (List.mem_of_getElem? (i := 234) (by decide +kernel))) (by decide +kernel)
theorem nw_235 : Cond.code ny_B_pay nc_B_pay 7 (some .int) ∈ zw_big := zw_mem (List.mem_append_left _ (List.mem_of_getElem? (i := 235) (by decide +kernel))) (by decide +kernel)
theorem nw_236 : Cond.methodLink "DayEndBank" 103 ny_B_isPayable ∈ zw_big := zw_mem (List.mem_append_left _ (List.mem_of_getElem? (i := 236) (by decide +kernel))) (by decide +kernel)
theorem nw_238 : Cond.instanceMethod ny_B_isPayable ∈ zw_big := zw_mem (List.mem_append_left _ (List.mem_of_getElem? (i := 238) (by decide +kernel))) (by decide +kernel)
theorem nw_239 : Cond.code ny_B_isPayable nc_B_isPayable 5 (some .boolean) ∈ zw_big := zw_mem (List.mem_append_left _ (List.mem_of_getElem? (i := 239) (by decide +kernel))) (by decide +kernel)
theorem nw_240 : Cond.methodLink "DayEndBank" 207 ny_B_isParty ∈ zw_big := zw_mem (List.mem_append_right _ (List.mem_append_left _ (List.mem_of_getElem? (i := 0) (by decide +kernel)))) (by decide +kernel)
theorem nw_242 : Cond.instanceMethod ny_B_isParty ∈ zw_big := zw_mem (List.mem_append_right _ (List.mem_append_left _ (List.mem_of_getElem? (i := 2) (by decide +kernel)))) (by decide +kernel)
theorem nw_243 : Cond.code ny_B_isParty nc_B_isParty 2 (some .boolean) ∈ zw_big := zw_mem (List.mem_append_right _ (List.mem_append_left _ (List.mem_of_getElem? (i := 3) (by decide +kernel)))) (by decide +kernel)
theorem nw_244 : Cond.methodLink "DayEndBank" 110 ny_B_accountOf ∈ zw_big := zw_mem (List.mem_append_right _ (List.mem_append_left _ (List.mem_of_getElem? (i := 4) (by decide +kernel)))) (by decide +kernel)
theorem nw_246 : Cond.instanceMethod ny_B_accountOf ∈ zw_big := zw_mem (List.mem_append_right _ (List.mem_append_left _ (List.mem_of_getElem? (i := 6) (by decide +kernel)))) (by decide +kernel)
theorem nw_247 : Cond.code ny_B_accountOf nc_B_accountOf 2 (some (.object "DayEndBank$Account")) ∈ zw_big := zw_mem (List.mem_append_right _ (List.mem_append_left _ (List.mem_of_getElem? (i := 7) (by decide +kernel)))) (by decide +kernel)
theorem nw_248 : Cond.methodLink "DayEndBank" 107 ny_B_isAmount ∈ zw_big := zw_mem (List.mem_append_right _ (List.mem_append_left _ (List.mem_of_getElem? (i := 8) (by decide +kernel)))) (by decide +kernel)
theorem nw_249 : Cond.static ny_B_isAmount ∈ zw_big := zw_mem (List.mem_append_right _ (List.mem_append_left _ (List.mem_of_getElem? (i := 9) (by decide +kernel)))) (by decide +kernel)
theorem nw_250 : Cond.code ny_B_isAmount nc_B_isAmount 1 (some .boolean) ∈ zw_big := zw_mem (List.mem_append_right _ (List.mem_append_left _ (List.mem_of_getElem? (i := 10) (by decide +kernel)))) (by decide +kernel)
theorem nw_251 : Cond.methodLink "DayEndBank" 114 ny_A_spendable ∈ zw_big := zw_mem (List.mem_append_right _ (List.mem_append_left _ (List.mem_of_getElem? (i := 11) (by decide +kernel)))) (by decide +kernel)
theorem nw_252 : Cond.instanceMethod ny_A_spendable ∈ zw_big := zw_mem (List.mem_append_right _ (List.mem_append_left _ (List.mem_of_getElem? (i := 12) (by decide +kernel)))) (by decide +kernel)
theorem nw_253 : Cond.selects "DayEndBank$Account" ny_A_spendable ny_A_spendable ∈ zw_big := zw_mem (List.mem_append_right _ (List.mem_append_left _ (List.mem_of_getElem? (i := 13) (by decide +kernel)))) (by decide +kernel)
theorem nw_254 : Cond.code ny_A_spendable nc_A_spendable 1 (some .long) ∈ zw_big := zw_mem (List.mem_append_right _ (List.mem_append_left _ (List.mem_of_getElem? (i := 14) (by decide +kernel)))) (by decide +kernel)
theorem nw_255 : Cond.methodLink "DayEndBank" 118 ny_B_transfer ∈ zw_big := zw_mem (List.mem_append_right _ (List.mem_append_left _ (List.mem_of_getElem? (i := 15) (by decide +kernel)))) (by decide +kernel)
theorem nw_257 : Cond.instanceMethod ny_B_transfer ∈ zw_big := zw_mem (List.mem_append_right _ (List.mem_append_left _ (List.mem_of_getElem? (i := 17) (by decide +kernel)))) (by decide +kernel)
theorem nw_258 : Cond.code ny_B_transfer nc_B_transfer 4 none ∈ zw_big := zw_mem (List.mem_append_right _ (List.mem_append_left _ (List.mem_of_getElem? (i := 18) (by decide +kernel)))) (by decide +kernel)
theorem nw_259 : Cond.methodLink "DayEndBankLaw" 23 ny_B_hold ∈ zw_big := zw_mem (List.mem_append_right _ (List.mem_append_left _ (List.mem_of_getElem? (i := 19) (by decide +kernel)))) (by decide +kernel)
theorem nw_260 : Cond.instanceMethod ny_B_hold ∈ zw_big := zw_mem (List.mem_append_right _ (List.mem_append_left _ (List.mem_of_getElem? (i := 20) (by decide +kernel)))) (by decide +kernel)
theorem nw_261 : Cond.selects "DayEndBank" ny_B_hold ny_B_hold ∈ zw_big := zw_mem (List.mem_append_right _ (List.mem_append_left _ (List.mem_of_getElem? (i := 21) (by decide +kernel)))) (by decide +kernel)
theorem nw_262 : Cond.code ny_B_hold nc_B_hold 6 (some .int) ∈ zw_big := zw_mem (List.mem_append_right _ (List.mem_append_left _ (List.mem_of_getElem? (i := 22) (by decide +kernel)))) (by decide +kernel)
theorem nw_263 : Cond.methodLink "DayEndBank" 122 ny_B_leastFreeHold ∈ zw_big := zw_mem (List.mem_append_right _ (List.mem_append_left _ (List.mem_of_getElem? (i := 23) (by decide +kernel)))) (by decide +kernel)
theorem nw_265 : Cond.instanceMethod ny_B_leastFreeHold ∈ zw_big := zw_mem (List.mem_append_right _ (List.mem_append_left _ (List.mem_of_getElem? (i := 25) (by decide +kernel)))) (by decide +kernel)
theorem nw_266 : Cond.code ny_B_leastFreeHold nc_B_leastFreeHold 2 (some .int) ∈ zw_big := zw_mem (List.mem_append_right _ (List.mem_append_left _ (List.mem_of_getElem? (i := 26) (by decide +kernel)))) (by decide +kernel)
theorem nw_267 : Cond.methodLink "DayEndBank" 125 ny_H_begin ∈ zw_big := zw_mem (List.mem_append_right _ (List.mem_append_left _ (List.mem_of_getElem? (i := 27) (by decide +kernel)))) (by decide +kernel)
theorem nw_268 : Cond.instanceMethod ny_H_begin ∈ zw_big := zw_mem (List.mem_append_right _ (List.mem_append_left _ (List.mem_of_getElem? (i := 28) (by decide +kernel)))) (by decide +kernel)
theorem nw_269 : Cond.selects "DayEndBank$Hold" ny_H_begin ny_H_begin ∈ zw_big := zw_mem (List.mem_append_right _ (List.mem_append_left _ (List.mem_of_getElem? (i := 29) (by decide +kernel)))) (by decide +kernel)
theorem nw_270 : Cond.code ny_H_begin nc_H_begin 3 none ∈ zw_big := zw_mem (List.mem_append_right _ (List.mem_append_left _ (List.mem_of_getElem? (i := 30) (by decide +kernel)))) (by decide +kernel)
theorem nw_271 : Cond.methodLink "DayEndBankLaw" 28 ny_B_release ∈ zw_big := zw_mem (List.mem_append_right _ (List.mem_append_left _ (List.mem_of_getElem? (i := 31) (by decide +kernel)))) (by decide +kernel)
theorem nw_272 : Cond.instanceMethod ny_B_release ∈ zw_big := zw_mem (List.mem_append_right _ (List.mem_append_left _ (List.mem_of_getElem? (i := 32) (by decide +kernel)))) (by decide +kernel)
theorem nw_273 : Cond.selects "DayEndBank" ny_B_release ny_B_release ∈ zw_big := zw_mem (List.mem_append_right _ (List.mem_append_left _ (List.mem_of_getElem? (i := 33) (by decide +kernel)))) (by decide +kernel)
theorem nw_274 : Cond.code ny_B_release nc_B_release 4 (some .int) ∈ zw_big := zw_mem (List.mem_append_right _ (List.mem_append_left _ (List.mem_of_getElem? (i := 34) (by decide +kernel)))) (by decide +kernel)
theorem nw_275 : Cond.methodLink "DayEndBank" 129 ny_B_standingHold ∈ zw_big := zw_mem (List.mem_append_right _ (List.mem_append_left _ (List.mem_of_getElem? (i := 35) (by decide +kernel)))) (by decide +kernel)
theorem nw_277 : Cond.instanceMethod ny_B_standingHold ∈ zw_big := zw_mem (List.mem_append_right _ (List.mem_append_left _ (List.mem_of_getElem? (i := 37) (by decide +kernel)))) (by decide +kernel)
theorem nw_278 : Cond.code ny_B_standingHold nc_B_standingHold 2 (some (.object "DayEndBank$Hold")) ∈ zw_big := zw_mem (List.mem_append_right _ (List.mem_append_left _ (List.mem_of_getElem? (i := 38) (by decide +kernel)))) (by decide +kernel)
theorem nw_279 : Cond.methodLink "DayEndBank" 137 ny_H_end ∈ zw_big := zw_mem (List.mem_append_right _ (List.mem_append_left _ (List.mem_of_getElem? (i := 39) (by decide +kernel)))) (by decide +kernel)
theorem nw_280 : Cond.instanceMethod ny_H_end ∈ zw_big := zw_mem (List.mem_append_right _ (List.mem_append_left _ (List.mem_of_getElem? (i := 40) (by decide +kernel)))) (by decide +kernel)
theorem nw_281 : Cond.selects "DayEndBank$Hold" ny_H_end ny_H_end ∈ zw_big := zw_mem (List.mem_append_right _ (List.mem_append_left _ (List.mem_of_getElem? (i := 41) (by decide +kernel)))) (by decide +kernel)
theorem nw_282 : Cond.code ny_H_end nc_H_end 1 none ∈ zw_big := zw_mem (List.mem_append_right _ (List.mem_append_left _ (List.mem_of_getElem? (i := 42) (by decide +kernel)))) (by decide +kernel)
theorem nw_283 : Cond.methodLink "DayEndBankLaw" 33 ny_B_settle ∈ zw_big := zw_mem (List.mem_append_right _ (List.mem_append_left _ (List.mem_of_getElem? (i := 43) (by decide +kernel)))) (by decide +kernel)
theorem nw_284 : Cond.instanceMethod ny_B_settle ∈ zw_big := zw_mem (List.mem_append_right _ (List.mem_append_left _ (List.mem_of_getElem? (i := 44) (by decide +kernel)))) (by decide +kernel)
theorem nw_285 : Cond.selects "DayEndBank" ny_B_settle ny_B_settle ∈ zw_big := zw_mem (List.mem_append_right _ (List.mem_append_left _ (List.mem_of_getElem? (i := 45) (by decide +kernel)))) (by decide +kernel)
theorem nw_286 : Cond.code ny_B_settle nc_B_settle 8 (some .int) ∈ zw_big := zw_mem (List.mem_append_right _ (List.mem_append_left _ (List.mem_of_getElem? (i := 46) (by decide +kernel)))) (by decide +kernel)
theorem nw_287 : Cond.methodLink "DayEndBankLaw" 37 ny_B_order ∈ zw_big := zw_mem (List.mem_append_right _ (List.mem_append_left _ (List.mem_of_getElem? (i := 47) (by decide +kernel)))) (by decide +kernel)
theorem nw_288 : Cond.instanceMethod ny_B_order ∈ zw_big := zw_mem (List.mem_append_right _ (List.mem_append_left _ (List.mem_of_getElem? (i := 48) (by decide +kernel)))) (by decide +kernel)
theorem nw_289 : Cond.selects "DayEndBank" ny_B_order ny_B_order ∈ zw_big := zw_mem (List.mem_append_right _ (List.mem_append_left _ (List.mem_of_getElem? (i := 49) (by decide +kernel)))) (by decide +kernel)
theorem nw_290 : Cond.code ny_B_order nc_B_order 8 (some .int) ∈ zw_big := zw_mem (List.mem_append_right _ (List.mem_append_left _ (List.mem_of_getElem? (i := 50) (by decide +kernel)))) (by decide +kernel)
theorem nw_291 : Cond.methodLink "DayEndBank" 146 ny_O_make ∈ zw_big := zw_mem (List.mem_append_right _ (List.mem_append_left _ (List.mem_of_getElem? (i := 51) (by decide +kernel)))) (by decide +kernel)
theorem nw_292 : Cond.instanceMethod ny_O_make ∈ zw_big := zw_mem (List.mem_append_right _ (List.mem_append_left _ (List.mem_of_getElem? (i := 52) (by decide +kernel)))) (by decide +kernel)
theorem nw_293 : Cond.selects "DayEndBank$Order" ny_O_make ny_O_make ∈ zw_big := zw_mem (List.mem_append_right _ (List.mem_append_left _ (List.mem_of_getElem? (i := 53) (by decide +kernel)))) (by decide +kernel)
theorem nw_294 : Cond.code ny_O_make nc_O_make 5 none ∈ zw_big := zw_mem (List.mem_append_right _ (List.mem_append_left _ (List.mem_of_getElem? (i := 54) (by decide +kernel)))) (by decide +kernel)
theorem nw_295 : Cond.methodLink "DayEndBankLaw" 41 ny_B_rest ∈ zw_big := zw_mem (List.mem_append_right _ (List.mem_append_left _ (List.mem_of_getElem? (i := 55) (by decide +kernel)))) (by decide +kernel)
theorem nw_296 : Cond.instanceMethod ny_B_rest ∈ zw_big := zw_mem (List.mem_append_right _ (List.mem_append_left _ (List.mem_of_getElem? (i := 56) (by decide +kernel)))) (by decide +kernel)
theorem nw_297 : Cond.selects "DayEndBank" ny_B_rest ny_B_rest ∈ zw_big := zw_mem (List.mem_append_right _ (List.mem_append_left _ (List.mem_of_getElem? (i := 57) (by decide +kernel)))) (by decide +kernel)
theorem nw_298 : Cond.code ny_B_rest nc_B_rest 3 (some .int) ∈ zw_big := zw_mem (List.mem_append_right _ (List.mem_append_left _ (List.mem_of_getElem? (i := 58) (by decide +kernel)))) (by decide +kernel)
theorem nw_299 : Cond.methodLink "DayEndBank" 150 ny_R_isRest ∈ zw_big := zw_mem (List.mem_append_right _ (List.mem_append_left _ (List.mem_of_getElem? (i := 59) (by decide +kernel)))) (by decide +kernel)
theorem nw_300 : Cond.instanceMethod ny_R_isRest ∈ zw_big := zw_mem (List.mem_append_right _ (List.mem_append_left _ (List.mem_of_getElem? (i := 60) (by decide +kernel)))) (by decide +kernel)
theorem nw_301 : Cond.selects "DayEndBank$RestDays" ny_R_isRest ny_R_isRest ∈ zw_big := zw_mem (List.mem_append_right _ (List.mem_append_left _ (List.mem_of_getElem? (i := 61) (by decide +kernel)))) (by decide +kernel)
theorem nw_302 : Cond.code ny_R_isRest nc_R_isRest 3 (some .boolean) ∈ zw_big := zw_mem (List.mem_append_right _ (List.mem_append_left _ (List.mem_of_getElem? (i := 62) (by decide +kernel)))) (by decide +kernel)
theorem nw_303 : Cond.methodLink "DayEndBank$RestDays" 21 ny_R_wasMade ∈ zw_big := zw_mem (List.mem_append_right _ (List.mem_append_left _ (List.mem_of_getElem? (i := 63) (by decide +kernel)))) (by decide +kernel)
theorem nw_305 : Cond.instanceMethod ny_R_wasMade ∈ zw_big := zw_mem (List.mem_append_right _ (List.mem_append_left _ (List.mem_of_getElem? (i := 65) (by decide +kernel)))) (by decide +kernel)
theorem nw_306 : Cond.code ny_R_wasMade nc_R_wasMade 3 (some .boolean) ∈ zw_big := zw_mem (List.mem_append_right _ (List.mem_append_left _ (List.mem_of_getElem? (i := 66) (by decide +kernel)))) (by decide +kernel)
theorem nw_307 : Cond.methodLink "DayEndBank" 153 ny_B_isInLaterMonth ∈ zw_big := zw_mem (List.mem_append_right _ (List.mem_append_left _ (List.mem_of_getElem? (i := 67) (by decide +kernel)))) (by decide +kernel)
theorem nw_309 : Cond.instanceMethod ny_B_isInLaterMonth ∈ zw_big := zw_mem (List.mem_append_right _ (List.mem_append_left _ (List.mem_of_getElem? (i := 69) (by decide +kernel)))) (by decide +kernel)
theorem nw_310 : Cond.code ny_B_isInLaterMonth nc_B_isInLaterMonth 3 (some .boolean) ∈ zw_big := zw_mem (List.mem_append_right _ (List.mem_append_left _ (List.mem_of_getElem? (i := 70) (by decide +kernel)))) (by decide +kernel)
theorem nw_311 : Cond.methodLink "DayEndBank" 210 ny_C_monthAndDay ∈ zw_big := zw_mem (List.mem_append_right _ (List.mem_append_left _ (List.mem_of_getElem? (i := 71) (by decide +kernel)))) (by decide +kernel)
theorem nw_312 : Cond.static ny_C_monthAndDay ∈ zw_big := zw_mem (List.mem_append_right _ (List.mem_append_left _ (List.mem_of_getElem? (i := 72) (by decide +kernel)))) (by decide +kernel)
theorem nw_313 : Cond.code ny_C_monthAndDay nc_C_monthAndDay 10 (some .int) ∈ zw_big := zw_mem (List.mem_append_right _ (List.mem_append_left _ (List.mem_of_getElem? (i := 73) (by decide +kernel)))) (by decide +kernel)
theorem nw_314 : Cond.constant "DayEndBank$Calendar" 28 (146097) ∈ zw_big := zw_mem (List.mem_append_right _ (List.mem_append_left _ (List.mem_of_getElem? (i := 74) (by decide +kernel)))) (by decide +kernel)
theorem nw_315 : Cond.methodLink "DayEndBank$Calendar" 29 ny_T_floorDiv ∈ zw_big := zw_mem (List.mem_append_right _ (List.mem_append_left _ (List.mem_of_getElem? (i := 75) (by decide +kernel)))) (by decide +kernel)
theorem nw_316 : Cond.static ny_T_floorDiv ∈ zw_big := zw_mem (List.mem_append_right _ (List.mem_append_left _ (List.mem_of_getElem? (i := 76) (by decide +kernel)))) (by decide +kernel)
theorem nw_317 : Cond.code ny_T_floorDiv nc_T_floorDiv 3 (some .int) ∈ zw_big := zw_mem (List.mem_append_right _ (List.mem_append_left _ (List.mem_of_getElem? (i := 77) (by decide +kernel)))) (by decide +kernel)
theorem nw_318 : Cond.methodLink "DayEndBank$Calendar" 32 ny_T_floorMod ∈ zw_big := zw_mem (List.mem_append_right _ (List.mem_append_left _ (List.mem_of_getElem? (i := 78) (by decide +kernel)))) (by decide +kernel)
theorem nw_319 : Cond.static ny_T_floorMod ∈ zw_big := zw_mem (List.mem_append_right _ (List.mem_append_left _ (List.mem_of_getElem? (i := 79) (by decide +kernel)))) (by decide +kernel)
theorem nw_320 : Cond.code ny_T_floorMod nc_T_floorMod 3 (some .int) ∈ zw_big := zw_mem (List.mem_append_right _ (List.mem_append_left _ (List.mem_of_getElem? (i := 80) (by decide +kernel)))) (by decide +kernel)
theorem nw_321 : Cond.constant "DayEndBank$Calendar" 35 (36524) ∈ zw_big := zw_mem (List.mem_append_right _ (List.mem_append_left _ (List.mem_of_getElem? (i := 81) (by decide +kernel)))) (by decide +kernel)
theorem nw_322 : Cond.constant "DayEndBank$Calendar" 36 (146096) ∈ zw_big := zw_mem (List.mem_append_right _ (List.mem_append_left _ (List.mem_of_getElem? (i := 82) (by decide +kernel)))) (by decide +kernel)
theorem nw_323 : Cond.methodLink "DayEndBank" 214 ny_C_monthIn ∈ zw_big := zw_mem (List.mem_append_right _ (List.mem_append_left _ (List.mem_of_getElem? (i := 83) (by decide +kernel)))) (by decide +kernel)
theorem nw_324 : Cond.static ny_C_monthIn ∈ zw_big := zw_mem (List.mem_append_right _ (List.mem_append_left _ (List.mem_of_getElem? (i := 84) (by decide +kernel)))) (by decide +kernel)
theorem nw_325 : Cond.code ny_C_monthIn nc_C_monthIn 1 (some .int) ∈ zw_big := zw_mem (List.mem_append_right _ (List.mem_append_left _ (List.mem_of_getElem? (i := 85) (by decide +kernel)))) (by decide +kernel)
theorem nw_326 : Cond.methodLink "DayEndBank" 156 ny_R_isFull ∈ zw_big := zw_mem (List.mem_append_right _ (List.mem_append_left _ (List.mem_of_getElem? (i := 86) (by decide +kernel)))) (by decide +kernel)
theorem nw_327 : Cond.instanceMethod ny_R_isFull ∈ zw_big := zw_mem (List.mem_append_right _ (List.mem_append_left _ (List.mem_of_getElem? (i := 87) (by decide +kernel)))) (by decide +kernel)
theorem nw_328 : Cond.selects "DayEndBank$RestDays" ny_R_isFull ny_R_isFull ∈ zw_big := zw_mem (List.mem_append_right _ (List.mem_append_left _ (List.mem_of_getElem? (i := 88) (by decide +kernel)))) (by decide +kernel)
theorem nw_329 : Cond.code ny_R_isFull nc_R_isFull 1 (some .boolean) ∈ zw_big := zw_mem (List.mem_append_right _ (List.mem_append_left _ (List.mem_of_getElem? (i := 89) (by decide +kernel)))) (by decide +kernel)
theorem nw_330 : Cond.methodLink "DayEndBank" 160 ny_R_add ∈ zw_big := zw_mem (List.mem_append_right _ (List.mem_append_left _ (List.mem_of_getElem? (i := 90) (by decide +kernel)))) (by decide +kernel)
theorem nw_331 : Cond.instanceMethod ny_R_add ∈ zw_big := zw_mem (List.mem_append_right _ (List.mem_append_left _ (List.mem_of_getElem? (i := 91) (by decide +kernel)))) (by decide +kernel)
theorem nw_332 : Cond.selects "DayEndBank$RestDays" ny_R_add ny_R_add ∈ zw_big := zw_mem (List.mem_append_right _ (List.mem_append_left _ (List.mem_of_getElem? (i := 92) (by decide +kernel)))) (by decide +kernel)
theorem nw_333 : Cond.code ny_R_add nc_R_add 2 none ∈ zw_big := zw_mem (List.mem_append_right _ (List.mem_append_left _ (List.mem_of_getElem? (i := 93) (by decide +kernel)))) (by decide +kernel)
theorem nw_334 : Cond.methodLink "DayEndBank$RestDays" 17 ny_R_isFull ∈ zw_big := zw_mem (List.mem_append_right _ (List.mem_append_left _ (List.mem_of_getElem? (i := 94) (by decide +kernel)))) (by decide +kernel)
theorem nw_335 : Cond.methodLink "DayEndBankLaw" 45 ny_B_run ∈ zw_big := zw_mem (List.mem_append_right _ (List.mem_append_left _ (List.mem_of_getElem? (i := 95) (by decide +kernel)))) (by decide +kernel)
theorem nw_336 : Cond.instanceMethod ny_B_run ∈ zw_big := zw_mem (List.mem_append_right _ (List.mem_append_left _ (List.mem_of_getElem? (i := 96) (by decide +kernel)))) (by decide +kernel)
theorem nw_337 : Cond.selects "DayEndBank" ny_B_run ny_B_run ∈ zw_big := zw_mem (List.mem_append_right _ (List.mem_append_left _ (List.mem_of_getElem? (i := 97) (by decide +kernel)))) (by decide +kernel)
theorem nw_338 : Cond.code ny_B_run nc_B_run 3 (some .int) ∈ zw_big := zw_mem (List.mem_append_right _ (List.mem_append_left _ (List.mem_of_getElem? (i := 98) (by decide +kernel)))) (by decide +kernel)
theorem nw_339 : Cond.methodLink "DayEndBank" 167 ny_B_makeDayEnd ∈ zw_big := zw_mem (List.mem_append_right _ (List.mem_append_left _ (List.mem_of_getElem? (i := 99) (by decide +kernel)))) (by decide +kernel)
theorem nw_341 : Cond.instanceMethod ny_B_makeDayEnd ∈ zw_big := zw_mem (List.mem_append_right _ (List.mem_append_left _ (List.mem_of_getElem? (i := 101) (by decide +kernel)))) (by decide +kernel)
theorem nw_342 : Cond.code ny_B_makeDayEnd nc_B_makeDayEnd 2 (some .boolean) ∈ zw_big := zw_mem (List.mem_append_right _ (List.mem_append_left _ (List.mem_of_getElem? (i := 102) (by decide +kernel)))) (by decide +kernel)
theorem nw_343 : Cond.methodLink "DayEndBank" 217 ny_B_makeStep ∈ zw_big := zw_mem (List.mem_append_right _ (List.mem_append_left _ (List.mem_of_getElem? (i := 103) (by decide +kernel)))) (by decide +kernel)
theorem nw_345 : Cond.instanceMethod ny_B_makeStep ∈ zw_big := zw_mem (List.mem_append_right _ (List.mem_append_left _ (List.mem_of_getElem? (i := 105) (by decide +kernel)))) (by decide +kernel)
theorem nw_346 : Cond.code ny_B_makeStep nc_B_makeStep 2 (some .boolean) ∈ zw_big := zw_mem (List.mem_append_right _ (List.mem_append_left _ (List.mem_of_getElem? (i := 106) (by decide +kernel)))) (by decide +kernel)
theorem nw_347 : Cond.methodLink "DayEndBank" 221 ny_B_planOrders ∈ zw_big := zw_mem (List.mem_append_right _ (List.mem_append_left _ (List.mem_of_getElem? (i := 107) (by decide +kernel)))) (by decide +kernel)
theorem nw_349 : Cond.instanceMethod ny_B_planOrders ∈ zw_big := zw_mem (List.mem_append_right _ (List.mem_append_left _ (List.mem_of_getElem? (i := 109) (by decide +kernel)))) (by decide +kernel)
theorem nw_350 : Cond.code ny_B_planOrders nc_B_planOrders 6 none ∈ zw_big := zw_mem (List.mem_append_right _ (List.mem_append_left _ (List.mem_of_getElem? (i := 110) (by decide +kernel)))) (by decide +kernel)
theorem nw_351 : Cond.methodLink "DayEndBank" 246 ny_R_dueDate ∈ zw_big := zw_mem (List.mem_append_right _ (List.mem_append_left _ (List.mem_of_getElem? (i := 111) (by decide +kernel)))) (by decide +kernel)
theorem nw_352 : Cond.instanceMethod ny_R_dueDate ∈ zw_big := zw_mem (List.mem_append_right _ (List.mem_append_left _ (List.mem_of_getElem? (i := 112) (by decide +kernel)))) (by decide +kernel)
theorem nw_353 : Cond.selects "DayEndBank$RestDays" ny_R_dueDate ny_R_dueDate ∈ zw_big := zw_mem (List.mem_append_right _ (List.mem_append_left _ (List.mem_of_getElem? (i := 113) (by decide +kernel)))) (by decide +kernel)
theorem nw_354 : Cond.code ny_R_dueDate nc_R_dueDate 7 (some .int) ∈ zw_big := zw_mem (List.mem_append_right _ (List.mem_append_left _ (List.mem_of_getElem? (i := 114) (by decide +kernel)))) (by decide +kernel)
theorem nw_355 : Cond.methodLink "DayEndBank$RestDays" 25 ny_C_monthAndDay ∈ zw_big := zw_mem (List.mem_append_right _ (List.mem_append_left _ (List.mem_of_getElem? (i := 115) (by decide +kernel)))) (by decide +kernel)
theorem nw_356 : Cond.methodLink "DayEndBank$RestDays" 31 ny_C_dayIn ∈ zw_big := zw_mem (List.mem_append_right _ (List.mem_append_left _ (List.mem_of_getElem? (i := 116) (by decide +kernel)))) (by decide +kernel)
theorem nw_357 : Cond.static ny_C_dayIn ∈ zw_big := zw_mem (List.mem_append_right _ (List.mem_append_left _ (List.mem_of_getElem? (i := 117) (by decide +kernel)))) (by decide +kernel)
theorem nw_358 : Cond.code ny_C_dayIn nc_C_dayIn 1 (some .int) ∈ zw_big := zw_mem (List.mem_append_right _ (List.mem_append_left _ (List.mem_of_getElem? (i := 118) (by decide +kernel)))) (by decide +kernel)
theorem nw_359 : Cond.methodLink "DayEndBank$RestDays" 34 ny_T_min ∈ zw_big := zw_mem (List.mem_append_right _ (List.mem_append_left _ (List.mem_of_getElem? (i := 119) (by decide +kernel)))) (by decide +kernel)
theorem nw_360 : Cond.static ny_T_min ∈ zw_big := zw_mem (List.mem_append_right _ (List.mem_append_left _ (List.mem_of_getElem? (i := 120) (by decide +kernel)))) (by decide +kernel)
theorem nw_361 : Cond.code ny_T_min nc_T_min 2 (some .int) ∈ zw_big := zw_mem (List.mem_append_right _ (List.mem_append_left _ (List.mem_of_getElem? (i := 121) (by decide +kernel)))) (by decide +kernel)
theorem nw_362 : Cond.methodLink "DayEndBank$RestDays" 40 ny_R_isRest ∈ zw_big := zw_mem (List.mem_append_right _ (List.mem_append_left _ (List.mem_of_getElem? (i := 122) (by decide +kernel)))) (by decide +kernel)
theorem nw_363 : Cond.methodLink "DayEndBank" 225 ny_B_writeStep ∈ zw_big := zw_mem (List.mem_append_right _ (List.mem_append_left _ (List.mem_of_getElem? (i := 123) (by decide +kernel)))) (by decide +kernel)
theorem nw_365 : Cond.instanceMethod ny_B_writeStep ∈ zw_big := zw_mem (List.mem_append_right _ (List.mem_append_left _ (List.mem_of_getElem? (i := 125) (by decide +kernel)))) (by decide +kernel)
theorem nw_366 : Cond.code ny_B_writeStep nc_B_writeStep 5 (some .boolean) ∈ zw_big := zw_mem (List.mem_append_right _ (List.mem_append_left _ (List.mem_of_getElem? (i := 126) (by decide +kernel)))) (by decide +kernel)
theorem nw_367 : Cond.methodLink "DayEndBank" 260 ny_D_writeLines ∈ zw_big := zw_mem (List.mem_append_right _ (List.mem_append_left _ (List.mem_of_getElem? (i := 127) (by decide +kernel)))) (by decide +kernel)
theorem nw_368 : Cond.methodLink "DayEndBank" 228 ny_B_carryOutOrders ∈ zw_big := zw_mem (List.mem_append_right _ (List.mem_append_left _ (List.mem_of_getElem? (i := 128) (by decide +kernel)))) (by decide +kernel)
theorem nw_370 : Cond.instanceMethod ny_B_carryOutOrders ∈ zw_big := zw_mem (List.mem_append_right _ (List.mem_append_left _ (List.mem_of_getElem? (i := 130) (by decide +kernel)))) (by decide +kernel)
theorem nw_371 : Cond.code ny_B_carryOutOrders nc_B_carryOutOrders 3 none ∈ zw_big := zw_mem (List.mem_append_right _ (List.mem_append_left _ (List.mem_of_getElem? (i := 131) (by decide +kernel)))) (by decide +kernel)
theorem nw_372 : Cond.methodLink "DayEndBank" 194 ny_C_dayCount ∈ zw_big := zw_mem (List.mem_append_right _ (List.mem_append_left _ (List.mem_of_getElem? (i := 132) (by decide +kernel)))) (by decide +kernel)
theorem nw_373 : Cond.static ny_C_dayCount ∈ zw_big := zw_mem (List.mem_append_right _ (List.mem_append_left _ (List.mem_of_getElem? (i := 133) (by decide +kernel)))) (by decide +kernel)
theorem nw_374 : Cond.code ny_C_dayCount nc_C_dayCount 3 (some .int) ∈ zw_big := zw_mem (List.mem_append_right _ (List.mem_append_left _ (List.mem_of_getElem? (i := 134) (by decide +kernel)))) (by decide +kernel)
theorem nw_375 : Cond.methodLink "DayEndBank$Calendar" 9 ny_C_countByMonths ∈ zw_big := zw_mem (List.mem_append_right _ (List.mem_append_left _ (List.mem_of_getElem? (i := 135) (by decide +kernel)))) (by decide +kernel)
theorem nw_376 : Cond.static ny_C_countByMonths ∈ zw_big := zw_mem (List.mem_append_right _ (List.mem_append_left _ (List.mem_of_getElem? (i := 136) (by decide +kernel)))) (by decide +kernel)
theorem nw_377 : Cond.code ny_C_countByMonths nc_C_countByMonths 6 (some .int) ∈ zw_big := zw_mem (List.mem_append_right _ (List.mem_append_left _ (List.mem_of_getElem? (i := 137) (by decide +kernel)))) (by decide +kernel)
theorem nw_378 : Cond.methodLink "DayEndBank$Calendar" 13 ny_C_monthAndDay ∈ zw_big := zw_mem (List.mem_append_right _ (List.mem_append_left _ (List.mem_of_getElem? (i := 138) (by decide +kernel)))) (by decide +kernel)
theorem nw_379 : Cond.methodLink "DayEndBank$Calendar" 17 ny_C_dayIn ∈ zw_big := zw_mem (List.mem_append_right _ (List.mem_append_left _ (List.mem_of_getElem? (i := 139) (by decide +kernel)))) (by decide +kernel)
theorem nw_380 : Cond.methodLink "DayEndBank$Calendar" 20 ny_T_min ∈ zw_big := zw_mem (List.mem_append_right _ (List.mem_append_left _ (List.mem_of_getElem? (i := 140) (by decide +kernel)))) (by decide +kernel)
theorem nw_381 : Cond.methodLink "DayEndBank$Calendar" 25 ny_C_monthIn ∈ zw_big := zw_mem (List.mem_append_right _ (List.mem_append_left _ (List.mem_of_getElem? (i := 141) (by decide +kernel)))) (by decide +kernel)
theorem nw_382 : Cond.methodLink "DayEndBank" 231 ny_A_accrue ∈ zw_big := zw_mem (List.mem_append_right _ (List.mem_append_left _ (List.mem_of_getElem? (i := 142) (by decide +kernel)))) (by decide +kernel)
theorem nw_383 : Cond.instanceMethod ny_A_accrue ∈ zw_big := zw_mem (List.mem_append_right _ (List.mem_append_left _ (List.mem_of_getElem? (i := 143) (by decide +kernel)))) (by decide +kernel)
theorem nw_384 : Cond.selects "DayEndBank$Account" ny_A_accrue ny_A_accrue ∈ zw_big := zw_mem (List.mem_append_right _ (List.mem_append_left _ (List.mem_of_getElem? (i := 144) (by decide +kernel)))) (by decide +kernel)
theorem nw_385 : Cond.code ny_A_accrue nc_A_accrue 2 none ∈ zw_big := zw_mem (List.mem_append_right _ (List.mem_append_left _ (List.mem_of_getElem? (i := 145) (by decide +kernel)))) (by decide +kernel)
theorem nw_386 : Cond.methodLink "DayEndBank" 234 ny_C_isLastOfMonth ∈ zw_big := zw_mem (List.mem_append_right _ (List.mem_append_left _ (List.mem_of_getElem? (i := 146) (by decide +kernel)))) (by decide +kernel)
theorem nw_387 : Cond.static ny_C_isLastOfMonth ∈ zw_big := zw_mem (List.mem_append_right _ (List.mem_append_left _ (List.mem_of_getElem? (i := 147) (by decide +kernel)))) (by decide +kernel)
theorem nw_388 : Cond.code ny_C_isLastOfMonth nc_C_isLastOfMonth 1 (some .boolean) ∈ zw_big := zw_mem (List.mem_append_right _ (List.mem_append_left _ (List.mem_of_getElem? (i := 148) (by decide +kernel)))) (by decide +kernel)
theorem nw_389 : Cond.methodLink "DayEndBank" 237 ny_A_takeInterest ∈ zw_big := zw_mem (List.mem_append_right _ (List.mem_append_left _ (List.mem_of_getElem? (i := 149) (by decide +kernel)))) (by decide +kernel)
theorem nw_390 : Cond.instanceMethod ny_A_takeInterest ∈ zw_big := zw_mem (List.mem_append_right _ (List.mem_append_left _ (List.mem_of_getElem? (i := 150) (by decide +kernel)))) (by decide +kernel)
theorem nw_391 : Cond.selects "DayEndBank$Account" ny_A_takeInterest ny_A_takeInterest ∈ zw_big := zw_mem (List.mem_append_right _ (List.mem_append_left _ (List.mem_of_getElem? (i := 151) (by decide +kernel)))) (by decide +kernel)
theorem nw_392 : Cond.code ny_A_takeInterest nc_A_takeInterest 5 (some .long) ∈ zw_big := zw_mem (List.mem_append_right _ (List.mem_append_left _ (List.mem_of_getElem? (i := 152) (by decide +kernel)))) (by decide +kernel)
theorem nw_393 : Cond.constantLong "DayEndBank$Account" 29 (10000) ∈ zw_big := zw_mem (List.mem_append_right _ (List.mem_append_left _ (List.mem_of_getElem? (i := 153) (by decide +kernel)))) (by decide +kernel)
theorem nw_394 : Cond.methodLink "DayEndBank$Account" 34 ny_C_yearOf ∈ zw_big := zw_mem (List.mem_append_right _ (List.mem_append_left _ (List.mem_of_getElem? (i := 154) (by decide +kernel)))) (by decide +kernel)
theorem nw_395 : Cond.static ny_C_yearOf ∈ zw_big := zw_mem (List.mem_append_right _ (List.mem_append_left _ (List.mem_of_getElem? (i := 155) (by decide +kernel)))) (by decide +kernel)
theorem nw_396 : Cond.code ny_C_yearOf nc_C_yearOf 1 (some .int) ∈ zw_big := zw_mem (List.mem_append_right _ (List.mem_append_left _ (List.mem_of_getElem? (i := 156) (by decide +kernel)))) (by decide +kernel)
theorem nw_397 : Cond.methodLink "DayEndBank$Account" 40 ny_A_nearest ∈ zw_big := zw_mem (List.mem_append_right _ (List.mem_append_left _ (List.mem_of_getElem? (i := 157) (by decide +kernel)))) (by decide +kernel)
theorem nw_398 : Cond.static ny_A_nearest ∈ zw_big := zw_mem (List.mem_append_right _ (List.mem_append_left _ (List.mem_of_getElem? (i := 158) (by decide +kernel)))) (by decide +kernel)
theorem nw_399 : Cond.code ny_A_nearest nc_A_nearest 10 (some .long) ∈ zw_big := zw_mem (List.mem_append_right _ (List.mem_append_left _ (List.mem_of_getElem? (i := 159) (by decide +kernel)))) (by decide +kernel)
theorem nw_400 : Cond.methodLink "DayEndBank$Account" 44 ny_T_floorDivL ∈ zw_big := zw_mem (List.mem_append_right _ (List.mem_append_left _ (List.mem_of_getElem? (i := 160) (by decide +kernel)))) (by decide +kernel)
theorem nw_401 : Cond.static ny_T_floorDivL ∈ zw_big := zw_mem (List.mem_append_right _ (List.mem_append_left _ (List.mem_of_getElem? (i := 161) (by decide +kernel)))) (by decide +kernel)
theorem nw_402 : Cond.code ny_T_floorDivL nc_T_floorDivL 6 (some .long) ∈ zw_big := zw_mem (List.mem_append_right _ (List.mem_append_left _ (List.mem_of_getElem? (i := 162) (by decide +kernel)))) (by decide +kernel)
theorem nw_403 : Cond.constantLong "DayEndBank$Account" 49 (2) ∈ zw_big := zw_mem (List.mem_append_right _ (List.mem_append_left _ (List.mem_of_getElem? (i := 163) (by decide +kernel)))) (by decide +kernel)
theorem nw_404 : Cond.methodLink "DayEndBankLaw" 49 ny_B_fuse ∈ zw_big := zw_mem (List.mem_append_right _ (List.mem_append_left _ (List.mem_of_getElem? (i := 164) (by decide +kernel)))) (by decide +kernel)
theorem nw_405 : Cond.instanceMethod ny_B_fuse ∈ zw_big := zw_mem (List.mem_append_right _ (List.mem_append_left _ (List.mem_of_getElem? (i := 165) (by decide +kernel)))) (by decide +kernel)
theorem nw_406 : Cond.selects "DayEndBank" ny_B_fuse ny_B_fuse ∈ zw_big := zw_mem (List.mem_append_right _ (List.mem_append_left _ (List.mem_of_getElem? (i := 166) (by decide +kernel)))) (by decide +kernel)
theorem nw_407 : Cond.code ny_B_fuse nc_B_fuse 2 (some .boolean) ∈ zw_big := zw_mem (List.mem_append_right _ (List.mem_append_left _ (List.mem_of_getElem? (i := 167) (by decide +kernel)))) (by decide +kernel)
theorem nw_408 : Cond.methodLink "DayEndBankLaw" 54 ny_B_restart ∈ zw_big := zw_mem (List.mem_append_right _ (List.mem_append_left _ (List.mem_of_getElem? (i := 168) (by decide +kernel)))) (by decide +kernel)
theorem nw_409 : Cond.instanceMethod ny_B_restart ∈ zw_big := zw_mem (List.mem_append_right _ (List.mem_append_left _ (List.mem_of_getElem? (i := 169) (by decide +kernel)))) (by decide +kernel)
theorem nw_410 : Cond.selects "DayEndBank" ny_B_restart ny_B_restart ∈ zw_big := zw_mem (List.mem_append_right _ (List.mem_append_left _ (List.mem_of_getElem? (i := 170) (by decide +kernel)))) (by decide +kernel)
theorem nw_411 : Cond.code ny_B_restart nc_B_restart 1 (some .int) ∈ zw_big := zw_mem (List.mem_append_right _ (List.mem_append_left _ (List.mem_of_getElem? (i := 171) (by decide +kernel)))) (by decide +kernel)
theorem nw_412 : Cond.methodLink "DayEndBankLaw" 59 ny_B_balance ∈ zw_big := zw_mem (List.mem_append_right _ (List.mem_append_left _ (List.mem_of_getElem? (i := 172) (by decide +kernel)))) (by decide +kernel)
theorem nw_413 : Cond.instanceMethod ny_B_balance ∈ zw_big := zw_mem (List.mem_append_right _ (List.mem_append_left _ (List.mem_of_getElem? (i := 173) (by decide +kernel)))) (by decide +kernel)
theorem nw_414 : Cond.selects "DayEndBank" ny_B_balance ny_B_balance ∈ zw_big := zw_mem (List.mem_append_right _ (List.mem_append_left _ (List.mem_of_getElem? (i := 174) (by decide +kernel)))) (by decide +kernel)
theorem nw_415 : Cond.code ny_B_balance nc_B_balance 3 (some .long) ∈ zw_big := zw_mem (List.mem_append_right _ (List.mem_append_left _ (List.mem_of_getElem? (i := 175) (by decide +kernel)))) (by decide +kernel)
theorem nw_416 : Cond.methodLink "DayEndBank" 176 ny_B_shownAccount ∈ zw_big := zw_mem (List.mem_append_right _ (List.mem_append_left _ (List.mem_of_getElem? (i := 176) (by decide +kernel)))) (by decide +kernel)
theorem nw_418 : Cond.instanceMethod ny_B_shownAccount ∈ zw_big := zw_mem (List.mem_append_right _ (List.mem_append_left _ (List.mem_of_getElem? (i := 178) (by decide +kernel)))) (by decide +kernel)
theorem nw_419 : Cond.code ny_B_shownAccount nc_B_shownAccount 2 (some (.object "DayEndBank$Account")) ∈ zw_big := zw_mem (List.mem_append_right _ (List.mem_append_left _ (List.mem_of_getElem? (i := 179) (by decide +kernel)))) (by decide +kernel)
theorem nw_420 : Cond.methodLink "DayEndBankLaw" 64 ny_B_available ∈ zw_big := zw_mem (List.mem_append_right _ (List.mem_append_left _ (List.mem_of_getElem? (i := 180) (by decide +kernel)))) (by decide +kernel)
theorem nw_421 : Cond.instanceMethod ny_B_available ∈ zw_big := zw_mem (List.mem_append_right _ (List.mem_append_left _ (List.mem_of_getElem? (i := 181) (by decide +kernel)))) (by decide +kernel)
theorem nw_422 : Cond.selects "DayEndBank" ny_B_available ny_B_available ∈ zw_big := zw_mem (List.mem_append_right _ (List.mem_append_left _ (List.mem_of_getElem? (i := 182) (by decide +kernel)))) (by decide +kernel)
theorem nw_423 : Cond.code ny_B_available nc_B_available 3 (some .long) ∈ zw_big := zw_mem (List.mem_append_right _ (List.mem_append_left _ (List.mem_of_getElem? (i := 183) (by decide +kernel)))) (by decide +kernel)
theorem nw_424 : Cond.methodLink "DayEndBankLaw" 68 ny_B_accrued ∈ zw_big := zw_mem (List.mem_append_right _ (List.mem_append_left _ (List.mem_of_getElem? (i := 184) (by decide +kernel)))) (by decide +kernel)
theorem nw_425 : Cond.instanceMethod ny_B_accrued ∈ zw_big := zw_mem (List.mem_append_right _ (List.mem_append_left _ (List.mem_of_getElem? (i := 185) (by decide +kernel)))) (by decide +kernel)
theorem nw_426 : Cond.selects "DayEndBank" ny_B_accrued ny_B_accrued ∈ zw_big := zw_mem (List.mem_append_right _ (List.mem_append_left _ (List.mem_of_getElem? (i := 186) (by decide +kernel)))) (by decide +kernel)
theorem nw_427 : Cond.code ny_B_accrued nc_B_accrued 3 (some .long) ∈ zw_big := zw_mem (List.mem_append_right _ (List.mem_append_left _ (List.mem_of_getElem? (i := 187) (by decide +kernel)))) (by decide +kernel)
theorem nw_428 : Cond.methodLink "DayEndBankLaw" 72 ny_B_mark ∈ zw_big := zw_mem (List.mem_append_right _ (List.mem_append_left _ (List.mem_of_getElem? (i := 188) (by decide +kernel)))) (by decide +kernel)
theorem nw_429 : Cond.instanceMethod ny_B_mark ∈ zw_big := zw_mem (List.mem_append_right _ (List.mem_append_left _ (List.mem_of_getElem? (i := 189) (by decide +kernel)))) (by decide +kernel)
theorem nw_430 : Cond.selects "DayEndBank" ny_B_mark ny_B_mark ∈ zw_big := zw_mem (List.mem_append_right _ (List.mem_append_left _ (List.mem_of_getElem? (i := 190) (by decide +kernel)))) (by decide +kernel)
theorem nw_431 : Cond.code ny_B_mark nc_B_mark 3 (some .int) ∈ zw_big := zw_mem (List.mem_append_right _ (List.mem_append_left _ (List.mem_of_getElem? (i := 191) (by decide +kernel)))) (by decide +kernel)
theorem nw_432 : Cond.methodLink "DayEndBankLaw" 76 ny_B_ledger ∈ zw_big := zw_mem (List.mem_append_right _ (List.mem_append_left _ (List.mem_of_getElem? (i := 192) (by decide +kernel)))) (by decide +kernel)
theorem nw_433 : Cond.instanceMethod ny_B_ledger ∈ zw_big := zw_mem (List.mem_append_right _ (List.mem_append_left _ (List.mem_of_getElem? (i := 193) (by decide +kernel)))) (by decide +kernel)
theorem nw_434 : Cond.selects "DayEndBank" ny_B_ledger ny_B_ledger ∈ zw_big := zw_mem (List.mem_append_right _ (List.mem_append_left _ (List.mem_of_getElem? (i := 194) (by decide +kernel)))) (by decide +kernel)
theorem nw_435 : Cond.code ny_B_ledger nc_B_ledger 3 (some .long) ∈ zw_big := zw_mem (List.mem_append_right _ (List.mem_append_left _ (List.mem_of_getElem? (i := 195) (by decide +kernel)))) (by decide +kernel)
theorem nw_436 : Cond.methodLink "DayEndBank" 186 ny_B_sumOfBalances ∈ zw_big := zw_mem (List.mem_append_right _ (List.mem_append_left _ (List.mem_of_getElem? (i := 196) (by decide +kernel)))) (by decide +kernel)
theorem nw_438 : Cond.instanceMethod ny_B_sumOfBalances ∈ zw_big := zw_mem (List.mem_append_right _ (List.mem_append_left _ (List.mem_of_getElem? (i := 198) (by decide +kernel)))) (by decide +kernel)
theorem nw_439 : Cond.code ny_B_sumOfBalances nc_B_sumOfBalances 5 (some .long) ∈ zw_big := zw_mem (List.mem_append_right _ (List.mem_append_left _ (List.mem_of_getElem? (i := 199) (by decide +kernel)))) (by decide +kernel)
theorem nw_440 : Cond.methodLink "DayEndBankLaw" 81 ny_B_missed ∈ zw_big := zw_mem (List.mem_append_right _ (List.mem_append_left _ (List.mem_of_getElem? (i := 200) (by decide +kernel)))) (by decide +kernel)
theorem nw_441 : Cond.instanceMethod ny_B_missed ∈ zw_big := zw_mem (List.mem_append_right _ (List.mem_append_left _ (List.mem_of_getElem? (i := 201) (by decide +kernel)))) (by decide +kernel)
theorem nw_442 : Cond.selects "DayEndBank" ny_B_missed ny_B_missed ∈ zw_big := zw_mem (List.mem_append_right _ (List.mem_append_left _ (List.mem_of_getElem? (i := 202) (by decide +kernel)))) (by decide +kernel)
theorem nw_443 : Cond.code ny_B_missed nc_B_missed 2 (some .int) ∈ zw_big := zw_mem (List.mem_append_right _ (List.mem_append_left _ (List.mem_of_getElem? (i := 203) (by decide +kernel)))) (by decide +kernel)
theorem nw_444 : Cond.methodLink "DayEndBankLaw" 85 ny_B_today ∈ zw_big := zw_mem (List.mem_append_right _ (List.mem_append_left _ (List.mem_of_getElem? (i := 204) (by decide +kernel)))) (by decide +kernel)
theorem nw_445 : Cond.instanceMethod ny_B_today ∈ zw_big := zw_mem (List.mem_append_right _ (List.mem_append_left _ (List.mem_of_getElem? (i := 205) (by decide +kernel)))) (by decide +kernel)
theorem nw_446 : Cond.selects "DayEndBank" ny_B_today ny_B_today ∈ zw_big := zw_mem (List.mem_append_right _ (List.mem_append_left _ (List.mem_of_getElem? (i := 206) (by decide +kernel)))) (by decide +kernel)
theorem nw_447 : Cond.code ny_B_today nc_B_today 1 (some .int) ∈ zw_big := zw_mem (List.mem_append_right _ (List.mem_append_left _ (List.mem_of_getElem? (i := 207) (by decide +kernel)))) (by decide +kernel)
theorem nw_448 : Cond.methodLink "DayEndBankLaw" 89 ny_B_count ∈ zw_big := zw_mem (List.mem_append_right _ (List.mem_append_left _ (List.mem_of_getElem? (i := 208) (by decide +kernel)))) (by decide +kernel)
theorem nw_449 : Cond.instanceMethod ny_B_count ∈ zw_big := zw_mem (List.mem_append_right _ (List.mem_append_left _ (List.mem_of_getElem? (i := 209) (by decide +kernel)))) (by decide +kernel)
theorem nw_450 : Cond.selects "DayEndBank" ny_B_count ny_B_count ∈ zw_big := zw_mem (List.mem_append_right _ (List.mem_append_left _ (List.mem_of_getElem? (i := 210) (by decide +kernel)))) (by decide +kernel)
theorem nw_451 : Cond.code ny_B_count nc_B_count 4 (some .int) ∈ zw_big := zw_mem (List.mem_append_right _ (List.mem_append_left _ (List.mem_of_getElem? (i := 211) (by decide +kernel)))) (by decide +kernel)
theorem nw_452 : Cond.constant "DayEndBank" 193 (99999) ∈ zw_big := zw_mem (List.mem_append_right _ (List.mem_append_left _ (List.mem_of_getElem? (i := 212) (by decide +kernel)))) (by decide +kernel)
theorem nw_453 : Cond.methodLink "DayEndBankLaw" 93 ny_B_writes ∈ zw_big := zw_mem (List.mem_append_right _ (List.mem_append_left _ (List.mem_of_getElem? (i := 213) (by decide +kernel)))) (by decide +kernel)
theorem nw_454 : Cond.instanceMethod ny_B_writes ∈ zw_big := zw_mem (List.mem_append_right _ (List.mem_append_left _ (List.mem_of_getElem? (i := 214) (by decide +kernel)))) (by decide +kernel)
theorem nw_455 : Cond.selects "DayEndBank" ny_B_writes ny_B_writes ∈ zw_big := zw_mem (List.mem_append_right _ (List.mem_append_left _ (List.mem_of_getElem? (i := 215) (by decide +kernel)))) (by decide +kernel)
theorem nw_456 : Cond.code ny_B_writes nc_B_writes 1 (some .int) ∈ zw_big := zw_mem (List.mem_append_right _ (List.mem_append_left _ (List.mem_of_getElem? (i := 216) (by decide +kernel)))) (by decide +kernel)
theorem nw_457 : Cond.methodLink "DayEndBankLaw" 97 ny_B_lines ∈ zw_big := zw_mem (List.mem_append_right _ (List.mem_append_left _ (List.mem_of_getElem? (i := 217) (by decide +kernel)))) (by decide +kernel)
theorem nw_458 : Cond.instanceMethod ny_B_lines ∈ zw_big := zw_mem (List.mem_append_right _ (List.mem_append_left _ (List.mem_of_getElem? (i := 218) (by decide +kernel)))) (by decide +kernel)
theorem nw_459 : Cond.selects "DayEndBank" ny_B_lines ny_B_lines ∈ zw_big := zw_mem (List.mem_append_right _ (List.mem_append_left _ (List.mem_of_getElem? (i := 219) (by decide +kernel)))) (by decide +kernel)
theorem nw_460 : Cond.code ny_B_lines nc_B_lines 1 (some .int) ∈ zw_big := zw_mem (List.mem_append_right _ (List.mem_append_left _ (List.mem_of_getElem? (i := 220) (by decide +kernel)))) (by decide +kernel)
theorem nw_463 : Cond.methodLink "DayEndBankLaw" 12 ny_M_init ∈ zw_big := zw_mem (List.mem_append_right _ (List.mem_append_left _ (List.mem_of_getElem? (i := 223) (by decide +kernel)))) (by decide +kernel)
theorem nw_464 : Cond.instanceMethod ny_M_init ∈ zw_big := zw_mem (List.mem_append_right _ (List.mem_append_left _ (List.mem_of_getElem? (i := 224) (by decide +kernel)))) (by decide +kernel)
theorem nw_465 : Cond.code ny_M_init nc_M_init 1 none ∈ zw_big := zw_mem (List.mem_append_right _ (List.mem_append_left _ (List.mem_of_getElem? (i := 225) (by decide +kernel)))) (by decide +kernel)
theorem nw_467 : Cond.fieldLink "DayEndBankModel" 121 "DayEndBankModel" "accounts" "I" ∈ zw_big := zw_mem (List.mem_append_right _ (List.mem_append_left _ (List.mem_of_getElem? (i := 227) (by decide +kernel)))) (by decide +kernel)
theorem nw_468 : Cond.fieldLink "DayEndBankModel" 7 "DayEndBankModel" "currency" "[I" ∈ zw_big := zw_mem (List.mem_append_right _ (List.mem_append_left _ (List.mem_of_getElem? (i := 228) (by decide +kernel)))) (by decide +kernel)
theorem nw_469 : Cond.fieldLink "DayEndBankModel" 13 "DayEndBankModel" "basis" "[I" ∈ zw_big := zw_mem (List.mem_append_right _ (List.mem_append_left _ (List.mem_of_getElem? (i := 229) (by decide +kernel)))) (by decide +kernel)
theorem nw_470 : Cond.fieldLink "DayEndBankModel" 16 "DayEndBankModel" "limit" "[I" ∈ zw_big := zw_mem (List.mem_append_right _ (List.mem_append_left _ (List.mem_of_getElem? (i := 230) (by decide +kernel)))) (by decide +kernel)
theorem nw_471 : Cond.fieldLink "DayEndBankModel" 19 "DayEndBankModel" "rate" "[I" ∈ zw_big := zw_mem (List.mem_append_right _ (List.mem_append_left _ (List.mem_of_getElem? (i := 231) (by decide +kernel)))) (by decide +kernel)
theorem nw_472 : Cond.fieldLink "DayEndBankModel" 22 "DayEndBankModel" "marked" "[I" ∈ zw_big := zw_mem (List.mem_append_right _ (List.mem_append_left _ (List.mem_of_getElem? (i := 232) (by decide +kernel)))) (by decide +kernel)
theorem nw_473 : Cond.fieldLink "DayEndBankModel" 25 "DayEndBankModel" "money" "[J" ∈ zw_big := zw_mem (List.mem_append_right _ (List.mem_append_left _ (List.mem_of_getElem? (i := 233) (by decide +kernel)))) (by decide +kernel)
theorem nw_474 : Cond.fieldLink "DayEndBankModel" 29 "DayEndBankModel" "accrual" "[J" ∈ zw_big := zw_mem (List.mem_append_right _ (List.mem_append_left _ (List.mem_of_getElem? (i := 234) (by decide +kernel)))) (by decide +kernel)
theorem nw_475 : Cond.fieldLink "DayEndBankModel" 32 "DayEndBankModel" "holdOf" "[I" ∈ zw_big := zw_mem (List.mem_append_right _ (List.mem_append_left _ (List.mem_of_getElem? (i := 235) (by decide +kernel)))) (by decide +kernel)
theorem nw_476 : Cond.fieldLink "DayEndBankModel" 35 "DayEndBankModel" "holdAmount" "[I" ∈ zw_big := zw_mem (List.mem_append_right _ (List.mem_append_left _ (List.mem_of_getElem? (i := 236) (by decide +kernel)))) (by decide +kernel)
theorem nw_477 : Cond.fieldLink "DayEndBankModel" 159 "DayEndBankModel" "orders" "I" ∈ zw_big := zw_mem (List.mem_append_right _ (List.mem_append_left _ (List.mem_of_getElem? (i := 237) (by decide +kernel)))) (by decide +kernel)
theorem nw_478 : Cond.fieldLink "DayEndBankModel" 38 "DayEndBankModel" "payer" "[I" ∈ zw_big := zw_mem (List.mem_append_right _ (List.mem_append_left _ (List.mem_of_getElem? (i := 238) (by decide +kernel)))) (by decide +kernel)
theorem nw_479 : Cond.fieldLink "DayEndBankModel" 41 "DayEndBankModel" "payee" "[I" ∈ zw_big := zw_mem (List.mem_append_right _ (List.mem_append_left _ (List.mem_of_getElem? (i := 239) (by decide +kernel)))) (by decide +kernel)
theorem nw_480 : Cond.fieldLink "DayEndBankModel" 44 "DayEndBankModel" "sum" "[I" ∈ zw_big := zw_mem (List.mem_append_right _ (List.mem_append_right _ (List.mem_append_left _ (List.mem_of_getElem? (i := 0) (by decide +kernel))))) (by decide +kernel)
theorem nw_481 : Cond.fieldLink "DayEndBankModel" 47 "DayEndBankModel" "dayOf" "[I" ∈ zw_big := zw_mem (List.mem_append_right _ (List.mem_append_right _ (List.mem_append_left _ (List.mem_of_getElem? (i := 1) (by decide +kernel))))) (by decide +kernel)
theorem nw_482 : Cond.fieldLink "DayEndBankModel" 50 "DayEndBankModel" "misses" "[I" ∈ zw_big := zw_mem (List.mem_append_right _ (List.mem_append_right _ (List.mem_append_left _ (List.mem_of_getElem? (i := 2) (by decide +kernel))))) (by decide +kernel)
theorem nw_483 : Cond.fieldLink "DayEndBankModel" 87 "DayEndBankModel" "rests" "I" ∈ zw_big := zw_mem (List.mem_append_right _ (List.mem_append_right _ (List.mem_append_left _ (List.mem_of_getElem? (i := 3) (by decide +kernel))))) (by decide +kernel)
theorem nw_484 : Cond.fieldLink "DayEndBankModel" 53 "DayEndBankModel" "restDate" "[I" ∈ zw_big := zw_mem (List.mem_append_right _ (List.mem_append_right _ (List.mem_append_left _ (List.mem_of_getElem? (i := 4) (by decide +kernel))))) (by decide +kernel)
theorem nw_485 : Cond.fieldLink "DayEndBankModel" 56 "DayEndBankModel" "cash" "[J" ∈ zw_big := zw_mem (List.mem_append_right _ (List.mem_append_right _ (List.mem_append_left _ (List.mem_of_getElem? (i := 5) (by decide +kernel))))) (by decide +kernel)
theorem nw_486 : Cond.fieldLink "DayEndBankModel" 59 "DayEndBankModel" "interest" "[J" ∈ zw_big := zw_mem (List.mem_append_right _ (List.mem_append_right _ (List.mem_append_left _ (List.mem_of_getElem? (i := 6) (by decide +kernel))))) (by decide +kernel)
theorem nw_487 : Cond.fieldLink "DayEndBankModel" 90 "DayEndBankModel" "now" "I" ∈ zw_big := zw_mem (List.mem_append_right _ (List.mem_append_right _ (List.mem_append_left _ (List.mem_of_getElem? (i := 7) (by decide +kernel))))) (by decide +kernel)
theorem nw_488 : Cond.fieldLink "DayEndBankModel" 118 "DayEndBankModel" "ending" "Z" ∈ zw_big := zw_mem (List.mem_append_right _ (List.mem_append_right _ (List.mem_append_left _ (List.mem_of_getElem? (i := 8) (by decide +kernel))))) (by decide +kernel)
theorem nw_489 : Cond.fieldLink "DayEndBankModel" 102 "DayEndBankModel" "stopped" "Z" ∈ zw_big := zw_mem (List.mem_append_right _ (List.mem_append_right _ (List.mem_append_left _ (List.mem_of_getElem? (i := 9) (by decide +kernel))))) (by decide +kernel)
theorem nw_490 : Cond.fieldLink "DayEndBankModel" 62 "DayEndBankModel" "left" "I" ∈ zw_big := zw_mem (List.mem_append_right _ (List.mem_append_right _ (List.mem_append_left _ (List.mem_of_getElem? (i := 10) (by decide +kernel))))) (by decide +kernel)
theorem nw_491 : Cond.fieldLink "DayEndBankModel" 96 "DayEndBankModel" "written" "I" ∈ zw_big := zw_mem (List.mem_append_right _ (List.mem_append_right _ (List.mem_append_left _ (List.mem_of_getElem? (i := 11) (by decide +kernel))))) (by decide +kernel)
theorem nw_492 : Cond.fieldLink "DayEndBankModel" 106 "DayEndBankModel" "inLog" "I" ∈ zw_big := zw_mem (List.mem_append_right _ (List.mem_append_right _ (List.mem_append_left _ (List.mem_of_getElem? (i := 12) (by decide +kernel))))) (by decide +kernel)
theorem nw_493 : Cond.fieldLink "DayEndBankModel" 115 "DayEndBankModel" "ended" "I" ∈ zw_big := zw_mem (List.mem_append_right _ (List.mem_append_right _ (List.mem_append_left _ (List.mem_of_getElem? (i := 13) (by decide +kernel))))) (by decide +kernel)
theorem nw_494 : Cond.fieldLink "DayEndBankModel" 109 "DayEndBankModel" "touched" "I" ∈ zw_big := zw_mem (List.mem_append_right _ (List.mem_append_right _ (List.mem_append_left _ (List.mem_of_getElem? (i := 14) (by decide +kernel))))) (by decide +kernel)
theorem nw_495 : Cond.fieldLink "DayEndBankModel" 70 "DayEndBankModel" "year" "I" ∈ zw_big := zw_mem (List.mem_append_right _ (List.mem_append_right _ (List.mem_append_left _ (List.mem_of_getElem? (i := 15) (by decide +kernel))))) (by decide +kernel)
theorem nw_496 : Cond.fieldLink "DayEndBankModel" 73 "DayEndBankModel" "month" "I" ∈ zw_big := zw_mem (List.mem_append_right _ (List.mem_append_right _ (List.mem_append_left _ (List.mem_of_getElem? (i := 16) (by decide +kernel))))) (by decide +kernel)
theorem nw_497 : Cond.fieldLink "DayEndBankModel" 80 "DayEndBankModel" "day" "I" ∈ zw_big := zw_mem (List.mem_append_right _ (List.mem_append_right _ (List.mem_append_left _ (List.mem_of_getElem? (i := 17) (by decide +kernel))))) (by decide +kernel)
theorem nw_498 : Cond.lays "DayEndBankModel" "DayEndBankModel" "accounts" "I" ∈ zw_big := zw_mem (List.mem_append_right _ (List.mem_append_right _ (List.mem_append_left _ (List.mem_of_getElem? (i := 18) (by decide +kernel))))) (by decide +kernel)
theorem nw_500 : Cond.laysFinal "DayEndBankModel" "DayEndBankModel" "currency" "[I" ∈ zw_big := zw_mem (List.mem_append_right _ (List.mem_append_right _ (List.mem_append_left _ (List.mem_of_getElem? (i := 20) (by decide +kernel))))) (by decide +kernel)
theorem nw_502 : Cond.laysFinal "DayEndBankModel" "DayEndBankModel" "basis" "[I" ∈ zw_big := zw_mem (List.mem_append_right _ (List.mem_append_right _ (List.mem_append_left _ (List.mem_of_getElem? (i := 22) (by decide +kernel))))) (by decide +kernel)
theorem nw_504 : Cond.laysFinal "DayEndBankModel" "DayEndBankModel" "limit" "[I" ∈ zw_big := zw_mem (List.mem_append_right _ (List.mem_append_right _ (List.mem_append_left _ (List.mem_of_getElem? (i := 24) (by decide +kernel))))) (by decide +kernel)
theorem nw_506 : Cond.laysFinal "DayEndBankModel" "DayEndBankModel" "rate" "[I" ∈ zw_big := zw_mem (List.mem_append_right _ (List.mem_append_right _ (List.mem_append_left _ (List.mem_of_getElem? (i := 26) (by decide +kernel))))) (by decide +kernel)
theorem nw_508 : Cond.laysFinal "DayEndBankModel" "DayEndBankModel" "marked" "[I" ∈ zw_big := zw_mem (List.mem_append_right _ (List.mem_append_right _ (List.mem_append_left _ (List.mem_of_getElem? (i := 28) (by decide +kernel))))) (by decide +kernel)
theorem nw_510 : Cond.laysFinal "DayEndBankModel" "DayEndBankModel" "money" "[J" ∈ zw_big := zw_mem (List.mem_append_right _ (List.mem_append_right _ (List.mem_append_left _ (List.mem_of_getElem? (i := 30) (by decide +kernel))))) (by decide +kernel)
theorem nw_512 : Cond.laysFinal "DayEndBankModel" "DayEndBankModel" "accrual" "[J" ∈ zw_big := zw_mem (List.mem_append_right _ (List.mem_append_right _ (List.mem_append_left _ (List.mem_of_getElem? (i := 32) (by decide +kernel))))) (by decide +kernel)
theorem nw_514 : Cond.laysFinal "DayEndBankModel" "DayEndBankModel" "holdOf" "[I" ∈ zw_big := zw_mem (List.mem_append_right _ (List.mem_append_right _ (List.mem_append_left _ (List.mem_of_getElem? (i := 34) (by decide +kernel))))) (by decide +kernel)
theorem nw_516 : Cond.laysFinal "DayEndBankModel" "DayEndBankModel" "holdAmount" "[I" ∈ zw_big := zw_mem (List.mem_append_right _ (List.mem_append_right _ (List.mem_append_left _ (List.mem_of_getElem? (i := 36) (by decide +kernel))))) (by decide +kernel)
theorem nw_518 : Cond.lays "DayEndBankModel" "DayEndBankModel" "orders" "I" ∈ zw_big := zw_mem (List.mem_append_right _ (List.mem_append_right _ (List.mem_append_left _ (List.mem_of_getElem? (i := 38) (by decide +kernel))))) (by decide +kernel)
theorem nw_520 : Cond.laysFinal "DayEndBankModel" "DayEndBankModel" "payer" "[I" ∈ zw_big := zw_mem (List.mem_append_right _ (List.mem_append_right _ (List.mem_append_left _ (List.mem_of_getElem? (i := 40) (by decide +kernel))))) (by decide +kernel)
theorem nw_522 : Cond.laysFinal "DayEndBankModel" "DayEndBankModel" "payee" "[I" ∈ zw_big := zw_mem (List.mem_append_right _ (List.mem_append_right _ (List.mem_append_left _ (List.mem_of_getElem? (i := 42) (by decide +kernel))))) (by decide +kernel)
theorem nw_524 : Cond.laysFinal "DayEndBankModel" "DayEndBankModel" "sum" "[I" ∈ zw_big := zw_mem (List.mem_append_right _ (List.mem_append_right _ (List.mem_append_left _ (List.mem_of_getElem? (i := 44) (by decide +kernel))))) (by decide +kernel)
theorem nw_526 : Cond.laysFinal "DayEndBankModel" "DayEndBankModel" "dayOf" "[I" ∈ zw_big := zw_mem (List.mem_append_right _ (List.mem_append_right _ (List.mem_append_left _ (List.mem_of_getElem? (i := 46) (by decide +kernel))))) (by decide +kernel)
theorem nw_528 : Cond.laysFinal "DayEndBankModel" "DayEndBankModel" "misses" "[I" ∈ zw_big := zw_mem (List.mem_append_right _ (List.mem_append_right _ (List.mem_append_left _ (List.mem_of_getElem? (i := 48) (by decide +kernel))))) (by decide +kernel)
theorem nw_530 : Cond.lays "DayEndBankModel" "DayEndBankModel" "rests" "I" ∈ zw_big := zw_mem (List.mem_append_right _ (List.mem_append_right _ (List.mem_append_left _ (List.mem_of_getElem? (i := 50) (by decide +kernel))))) (by decide +kernel)
theorem nw_532 : Cond.laysFinal "DayEndBankModel" "DayEndBankModel" "restDate" "[I" ∈ zw_big := zw_mem (List.mem_append_right _ (List.mem_append_right _ (List.mem_append_left _ (List.mem_of_getElem? (i := 52) (by decide +kernel))))) (by decide +kernel)
theorem nw_534 : Cond.laysFinal "DayEndBankModel" "DayEndBankModel" "cash" "[J" ∈ zw_big := zw_mem (List.mem_append_right _ (List.mem_append_right _ (List.mem_append_left _ (List.mem_of_getElem? (i := 54) (by decide +kernel))))) (by decide +kernel)
theorem nw_536 : Cond.laysFinal "DayEndBankModel" "DayEndBankModel" "interest" "[J" ∈ zw_big := zw_mem (List.mem_append_right _ (List.mem_append_right _ (List.mem_append_left _ (List.mem_of_getElem? (i := 56) (by decide +kernel))))) (by decide +kernel)
theorem nw_538 : Cond.lays "DayEndBankModel" "DayEndBankModel" "now" "I" ∈ zw_big := zw_mem (List.mem_append_right _ (List.mem_append_right _ (List.mem_append_left _ (List.mem_of_getElem? (i := 58) (by decide +kernel))))) (by decide +kernel)
theorem nw_540 : Cond.lays "DayEndBankModel" "DayEndBankModel" "ending" "Z" ∈ zw_big := zw_mem (List.mem_append_right _ (List.mem_append_right _ (List.mem_append_left _ (List.mem_of_getElem? (i := 60) (by decide +kernel))))) (by decide +kernel)
theorem nw_542 : Cond.lays "DayEndBankModel" "DayEndBankModel" "stopped" "Z" ∈ zw_big := zw_mem (List.mem_append_right _ (List.mem_append_right _ (List.mem_append_left _ (List.mem_of_getElem? (i := 62) (by decide +kernel))))) (by decide +kernel)
theorem nw_544 : Cond.lays "DayEndBankModel" "DayEndBankModel" "left" "I" ∈ zw_big := zw_mem (List.mem_append_right _ (List.mem_append_right _ (List.mem_append_left _ (List.mem_of_getElem? (i := 64) (by decide +kernel))))) (by decide +kernel)
theorem nw_546 : Cond.lays "DayEndBankModel" "DayEndBankModel" "written" "I" ∈ zw_big := zw_mem (List.mem_append_right _ (List.mem_append_right _ (List.mem_append_left _ (List.mem_of_getElem? (i := 66) (by decide +kernel))))) (by decide +kernel)
theorem nw_548 : Cond.lays "DayEndBankModel" "DayEndBankModel" "inLog" "I" ∈ zw_big := zw_mem (List.mem_append_right _ (List.mem_append_right _ (List.mem_append_left _ (List.mem_of_getElem? (i := 68) (by decide +kernel))))) (by decide +kernel)
theorem nw_550 : Cond.lays "DayEndBankModel" "DayEndBankModel" "ended" "I" ∈ zw_big := zw_mem (List.mem_append_right _ (List.mem_append_right _ (List.mem_append_left _ (List.mem_of_getElem? (i := 70) (by decide +kernel))))) (by decide +kernel)
theorem nw_552 : Cond.lays "DayEndBankModel" "DayEndBankModel" "touched" "I" ∈ zw_big := zw_mem (List.mem_append_right _ (List.mem_append_right _ (List.mem_append_left _ (List.mem_of_getElem? (i := 72) (by decide +kernel))))) (by decide +kernel)
theorem nw_554 : Cond.lays "DayEndBankModel" "DayEndBankModel" "year" "I" ∈ zw_big := zw_mem (List.mem_append_right _ (List.mem_append_right _ (List.mem_append_left _ (List.mem_of_getElem? (i := 74) (by decide +kernel))))) (by decide +kernel)
theorem nw_556 : Cond.lays "DayEndBankModel" "DayEndBankModel" "month" "I" ∈ zw_big := zw_mem (List.mem_append_right _ (List.mem_append_right _ (List.mem_append_left _ (List.mem_of_getElem? (i := 76) (by decide +kernel))))) (by decide +kernel)
theorem nw_558 : Cond.lays "DayEndBankModel" "DayEndBankModel" "day" "I" ∈ zw_big := zw_mem (List.mem_append_right _ (List.mem_append_right _ (List.mem_append_left _ (List.mem_of_getElem? (i := 78) (by decide +kernel))))) (by decide +kernel)
theorem nw_561 : Cond.methodLink "DayEndBankLaw" 17 ny_M_open ∈ zw_big := zw_mem (List.mem_append_right _ (List.mem_append_right _ (List.mem_append_left _ (List.mem_of_getElem? (i := 81) (by decide +kernel))))) (by decide +kernel)
theorem nw_562 : Cond.instanceMethod ny_M_open ∈ zw_big := zw_mem (List.mem_append_right _ (List.mem_append_right _ (List.mem_append_left _ (List.mem_of_getElem? (i := 82) (by decide +kernel))))) (by decide +kernel)
theorem nw_563 : Cond.selects "DayEndBankModel" ny_M_open ny_M_open ∈ zw_big := zw_mem (List.mem_append_right _ (List.mem_append_right _ (List.mem_append_left _ (List.mem_of_getElem? (i := 83) (by decide +kernel))))) (by decide +kernel)
theorem nw_564 : Cond.code ny_M_open nc_M_open 5 (some .int) ∈ zw_big := zw_mem (List.mem_append_right _ (List.mem_append_right _ (List.mem_append_left _ (List.mem_of_getElem? (i := 84) (by decide +kernel))))) (by decide +kernel)
theorem nw_565 : Cond.methodLink "DayEndBankModel" 125 ny_M_shut ∈ zw_big := zw_mem (List.mem_append_right _ (List.mem_append_right _ (List.mem_append_left _ (List.mem_of_getElem? (i := 85) (by decide +kernel))))) (by decide +kernel)
theorem nw_567 : Cond.instanceMethod ny_M_shut ∈ zw_big := zw_mem (List.mem_append_right _ (List.mem_append_right _ (List.mem_append_left _ (List.mem_of_getElem? (i := 87) (by decide +kernel))))) (by decide +kernel)
theorem nw_568 : Cond.code ny_M_shut nc_M_shut 1 (some .int) ∈ zw_big := zw_mem (List.mem_append_right _ (List.mem_append_right _ (List.mem_append_left _ (List.mem_of_getElem? (i := 88) (by decide +kernel))))) (by decide +kernel)
theorem nw_569 : Cond.constant "DayEndBankModel" 124 (1000000) ∈ zw_big := zw_mem (List.mem_append_right _ (List.mem_append_right _ (List.mem_append_left _ (List.mem_of_getElem? (i := 89) (by decide +kernel))))) (by decide +kernel)
theorem nw_570 : Cond.methodLink "DayEndBankModel" 129 ny_M_comes ∈ zw_big := zw_mem (List.mem_append_right _ (List.mem_append_right _ (List.mem_append_left _ (List.mem_of_getElem? (i := 90) (by decide +kernel))))) (by decide +kernel)
theorem nw_572 : Cond.instanceMethod ny_M_comes ∈ zw_big := zw_mem (List.mem_append_right _ (List.mem_append_right _ (List.mem_append_left _ (List.mem_of_getElem? (i := 92) (by decide +kernel))))) (by decide +kernel)
theorem nw_573 : Cond.code ny_M_comes nc_M_comes 5 (some .boolean) ∈ zw_big := zw_mem (List.mem_append_right _ (List.mem_append_right _ (List.mem_append_left _ (List.mem_of_getElem? (i := 93) (by decide +kernel))))) (by decide +kernel)
theorem nw_574 : Cond.methodLink "DayEndBankModel" 112 ny_M_afford ∈ zw_big := zw_mem (List.mem_append_right _ (List.mem_append_right _ (List.mem_append_left _ (List.mem_of_getElem? (i := 94) (by decide +kernel))))) (by decide +kernel)
theorem nw_576 : Cond.instanceMethod ny_M_afford ∈ zw_big := zw_mem (List.mem_append_right _ (List.mem_append_right _ (List.mem_append_left _ (List.mem_of_getElem? (i := 96) (by decide +kernel))))) (by decide +kernel)
theorem nw_577 : Cond.code ny_M_afford nc_M_afford 2 (some .boolean) ∈ zw_big := zw_mem (List.mem_append_right _ (List.mem_append_right _ (List.mem_append_left _ (List.mem_of_getElem? (i := 97) (by decide +kernel))))) (by decide +kernel)
theorem nw_578 : Cond.methodLink "DayEndBankModel" 99 ny_M_spend ∈ zw_big := zw_mem (List.mem_append_right _ (List.mem_append_right _ (List.mem_append_left _ (List.mem_of_getElem? (i := 98) (by decide +kernel))))) (by decide +kernel)
theorem nw_580 : Cond.instanceMethod ny_M_spend ∈ zw_big := zw_mem (List.mem_append_right _ (List.mem_append_right _ (List.mem_append_left _ (List.mem_of_getElem? (i := 100) (by decide +kernel))))) (by decide +kernel)
theorem nw_581 : Cond.code ny_M_spend nc_M_spend 2 none ∈ zw_big := zw_mem (List.mem_append_right _ (List.mem_append_right _ (List.mem_append_left _ (List.mem_of_getElem? (i := 101) (by decide +kernel))))) (by decide +kernel)
theorem nw_582 : Cond.methodLink "DayEndBankLaw" 22 ny_M_pay ∈ zw_big := zw_mem (List.mem_append_right _ (List.mem_append_right _ (List.mem_append_left _ (List.mem_of_getElem? (i := 102) (by decide +kernel))))) (by decide +kernel)
theorem nw_583 : Cond.instanceMethod ny_M_pay ∈ zw_big := zw_mem (List.mem_append_right _ (List.mem_append_right _ (List.mem_append_left _ (List.mem_of_getElem? (i := 103) (by decide +kernel))))) (by decide +kernel)
theorem nw_584 : Cond.selects "DayEndBankModel" ny_M_pay ny_M_pay ∈ zw_big := zw_mem (List.mem_append_right _ (List.mem_append_right _ (List.mem_append_left _ (List.mem_of_getElem? (i := 104) (by decide +kernel))))) (by decide +kernel)
theorem nw_585 : Cond.code ny_M_pay nc_M_pay 4 (some .int) ∈ zw_big := zw_mem (List.mem_append_right _ (List.mem_append_right _ (List.mem_append_left _ (List.mem_of_getElem? (i := 105) (by decide +kernel))))) (by decide +kernel)
theorem nw_586 : Cond.methodLink "DayEndBankModel" 136 ny_M_pair ∈ zw_big := zw_mem (List.mem_append_right _ (List.mem_append_right _ (List.mem_append_left _ (List.mem_of_getElem? (i := 106) (by decide +kernel))))) (by decide +kernel)
theorem nw_588 : Cond.instanceMethod ny_M_pair ∈ zw_big := zw_mem (List.mem_append_right _ (List.mem_append_right _ (List.mem_append_left _ (List.mem_of_getElem? (i := 108) (by decide +kernel))))) (by decide +kernel)
theorem nw_589 : Cond.code ny_M_pair nc_M_pair 4 (some .boolean) ∈ zw_big := zw_mem (List.mem_append_right _ (List.mem_append_right _ (List.mem_append_left _ (List.mem_of_getElem? (i := 109) (by decide +kernel))))) (by decide +kernel)
theorem nw_590 : Cond.methodLink "DayEndBankModel" 133 ny_M_is ∈ zw_big := zw_mem (List.mem_append_right _ (List.mem_append_right _ (List.mem_append_left _ (List.mem_of_getElem? (i := 110) (by decide +kernel))))) (by decide +kernel)
theorem nw_592 : Cond.instanceMethod ny_M_is ∈ zw_big := zw_mem (List.mem_append_right _ (List.mem_append_right _ (List.mem_append_left _ (List.mem_of_getElem? (i := 112) (by decide +kernel))))) (by decide +kernel)
theorem nw_593 : Cond.code ny_M_is nc_M_is 2 (some .boolean) ∈ zw_big := zw_mem (List.mem_append_right _ (List.mem_append_right _ (List.mem_append_left _ (List.mem_of_getElem? (i := 113) (by decide +kernel))))) (by decide +kernel)
theorem nw_594 : Cond.methodLink "DayEndBankModel" 139 ny_M_amountOk ∈ zw_big := zw_mem (List.mem_append_right _ (List.mem_append_right _ (List.mem_append_left _ (List.mem_of_getElem? (i := 114) (by decide +kernel))))) (by decide +kernel)
theorem nw_596 : Cond.instanceMethod ny_M_amountOk ∈ zw_big := zw_mem (List.mem_append_right _ (List.mem_append_right _ (List.mem_append_left _ (List.mem_of_getElem? (i := 116) (by decide +kernel))))) (by decide +kernel)
theorem nw_597 : Cond.code ny_M_amountOk nc_M_amountOk 2 (some .boolean) ∈ zw_big := zw_mem (List.mem_append_right _ (List.mem_append_right _ (List.mem_append_left _ (List.mem_of_getElem? (i := 117) (by decide +kernel))))) (by decide +kernel)
theorem nw_598 : Cond.methodLink "DayEndBankModel" 142 ny_M_free ∈ zw_big := zw_mem (List.mem_append_right _ (List.mem_append_right _ (List.mem_append_left _ (List.mem_of_getElem? (i := 118) (by decide +kernel))))) (by decide +kernel)
theorem nw_600 : Cond.instanceMethod ny_M_free ∈ zw_big := zw_mem (List.mem_append_right _ (List.mem_append_right _ (List.mem_append_left _ (List.mem_of_getElem? (i := 120) (by decide +kernel))))) (by decide +kernel)
theorem nw_601 : Cond.code ny_M_free nc_M_free 5 (some .long) ∈ zw_big := zw_mem (List.mem_append_right _ (List.mem_append_right _ (List.mem_append_left _ (List.mem_of_getElem? (i := 121) (by decide +kernel))))) (by decide +kernel)
theorem nw_602 : Cond.methodLink "DayEndBankModel" 146 ny_M_linesOf ∈ zw_big := zw_mem (List.mem_append_right _ (List.mem_append_right _ (List.mem_append_left _ (List.mem_of_getElem? (i := 122) (by decide +kernel))))) (by decide +kernel)
theorem nw_604 : Cond.instanceMethod ny_M_linesOf ∈ zw_big := zw_mem (List.mem_append_right _ (List.mem_append_right _ (List.mem_append_left _ (List.mem_of_getElem? (i := 124) (by decide +kernel))))) (by decide +kernel)
theorem nw_605 : Cond.code ny_M_linesOf nc_M_linesOf 3 (some .int) ∈ zw_big := zw_mem (List.mem_append_right _ (List.mem_append_right _ (List.mem_append_left _ (List.mem_of_getElem? (i := 125) (by decide +kernel))))) (by decide +kernel)
theorem nw_606 : Cond.methodLink "DayEndBankModel" 149 ny_M_setOf ∈ zw_big := zw_mem (List.mem_append_right _ (List.mem_append_right _ (List.mem_append_left _ (List.mem_of_getElem? (i := 126) (by decide +kernel))))) (by decide +kernel)
theorem nw_608 : Cond.instanceMethod ny_M_setOf ∈ zw_big := zw_mem (List.mem_append_right _ (List.mem_append_right _ (List.mem_append_left _ (List.mem_of_getElem? (i := 128) (by decide +kernel))))) (by decide +kernel)
theorem nw_609 : Cond.code ny_M_setOf nc_M_setOf 3 (some .int) ∈ zw_big := zw_mem (List.mem_append_right _ (List.mem_append_right _ (List.mem_append_left _ (List.mem_of_getElem? (i := 129) (by decide +kernel))))) (by decide +kernel)
theorem nw_610 : Cond.methodLink "DayEndBankModel" 152 ny_M_transfer ∈ zw_big := zw_mem (List.mem_append_right _ (List.mem_append_right _ (List.mem_append_left _ (List.mem_of_getElem? (i := 130) (by decide +kernel))))) (by decide +kernel)
theorem nw_612 : Cond.instanceMethod ny_M_transfer ∈ zw_big := zw_mem (List.mem_append_right _ (List.mem_append_right _ (List.mem_append_left _ (List.mem_of_getElem? (i := 132) (by decide +kernel))))) (by decide +kernel)
theorem nw_613 : Cond.code ny_M_transfer nc_M_transfer 4 none ∈ zw_big := zw_mem (List.mem_append_right _ (List.mem_append_right _ (List.mem_append_left _ (List.mem_of_getElem? (i := 133) (by decide +kernel))))) (by decide +kernel)
theorem nw_614 : Cond.methodLink "DayEndBankLaw" 27 ny_M_hold ∈ zw_big := zw_mem (List.mem_append_right _ (List.mem_append_right _ (List.mem_append_left _ (List.mem_of_getElem? (i := 134) (by decide +kernel))))) (by decide +kernel)
theorem nw_615 : Cond.instanceMethod ny_M_hold ∈ zw_big := zw_mem (List.mem_append_right _ (List.mem_append_right _ (List.mem_append_left _ (List.mem_of_getElem? (i := 135) (by decide +kernel))))) (by decide +kernel)
theorem nw_616 : Cond.selects "DayEndBankModel" ny_M_hold ny_M_hold ∈ zw_big := zw_mem (List.mem_append_right _ (List.mem_append_right _ (List.mem_append_left _ (List.mem_of_getElem? (i := 136) (by decide +kernel))))) (by decide +kernel)
theorem nw_617 : Cond.code ny_M_hold nc_M_hold 4 (some .int) ∈ zw_big := zw_mem (List.mem_append_right _ (List.mem_append_right _ (List.mem_append_left _ (List.mem_of_getElem? (i := 137) (by decide +kernel))))) (by decide +kernel)
theorem nw_618 : Cond.methodLink "DayEndBankLaw" 32 ny_M_release ∈ zw_big := zw_mem (List.mem_append_right _ (List.mem_append_right _ (List.mem_append_left _ (List.mem_of_getElem? (i := 138) (by decide +kernel))))) (by decide +kernel)
theorem nw_619 : Cond.instanceMethod ny_M_release ∈ zw_big := zw_mem (List.mem_append_right _ (List.mem_append_right _ (List.mem_append_left _ (List.mem_of_getElem? (i := 139) (by decide +kernel))))) (by decide +kernel)
theorem nw_620 : Cond.selects "DayEndBankModel" ny_M_release ny_M_release ∈ zw_big := zw_mem (List.mem_append_right _ (List.mem_append_right _ (List.mem_append_left _ (List.mem_of_getElem? (i := 140) (by decide +kernel))))) (by decide +kernel)
theorem nw_621 : Cond.code ny_M_release nc_M_release 2 (some .int) ∈ zw_big := zw_mem (List.mem_append_right _ (List.mem_append_right _ (List.mem_append_left _ (List.mem_of_getElem? (i := 141) (by decide +kernel))))) (by decide +kernel)
theorem nw_622 : Cond.methodLink "DayEndBankModel" 156 ny_M_stands ∈ zw_big := zw_mem (List.mem_append_right _ (List.mem_append_right _ (List.mem_append_left _ (List.mem_of_getElem? (i := 142) (by decide +kernel))))) (by decide +kernel)
theorem nw_624 : Cond.instanceMethod ny_M_stands ∈ zw_big := zw_mem (List.mem_append_right _ (List.mem_append_right _ (List.mem_append_left _ (List.mem_of_getElem? (i := 144) (by decide +kernel))))) (by decide +kernel)
theorem nw_625 : Cond.code ny_M_stands nc_M_stands 2 (some .boolean) ∈ zw_big := zw_mem (List.mem_append_right _ (List.mem_append_right _ (List.mem_append_left _ (List.mem_of_getElem? (i := 145) (by decide +kernel))))) (by decide +kernel)
theorem nw_626 : Cond.methodLink "DayEndBankLaw" 36 ny_M_settle ∈ zw_big := zw_mem (List.mem_append_right _ (List.mem_append_right _ (List.mem_append_left _ (List.mem_of_getElem? (i := 146) (by decide +kernel))))) (by decide +kernel)
theorem nw_627 : Cond.instanceMethod ny_M_settle ∈ zw_big := zw_mem (List.mem_append_right _ (List.mem_append_right _ (List.mem_append_left _ (List.mem_of_getElem? (i := 147) (by decide +kernel))))) (by decide +kernel)
theorem nw_628 : Cond.selects "DayEndBankModel" ny_M_settle ny_M_settle ∈ zw_big := zw_mem (List.mem_append_right _ (List.mem_append_right _ (List.mem_append_left _ (List.mem_of_getElem? (i := 148) (by decide +kernel))))) (by decide +kernel)
theorem nw_629 : Cond.code ny_M_settle nc_M_settle 5 (some .int) ∈ zw_big := zw_mem (List.mem_append_right _ (List.mem_append_right _ (List.mem_append_left _ (List.mem_of_getElem? (i := 149) (by decide +kernel))))) (by decide +kernel)
theorem nw_630 : Cond.methodLink "DayEndBankLaw" 40 ny_M_order ∈ zw_big := zw_mem (List.mem_append_right _ (List.mem_append_right _ (List.mem_append_left _ (List.mem_of_getElem? (i := 150) (by decide +kernel))))) (by decide +kernel)
theorem nw_631 : Cond.instanceMethod ny_M_order ∈ zw_big := zw_mem (List.mem_append_right _ (List.mem_append_right _ (List.mem_append_left _ (List.mem_of_getElem? (i := 151) (by decide +kernel))))) (by decide +kernel)
theorem nw_632 : Cond.selects "DayEndBankModel" ny_M_order ny_M_order ∈ zw_big := zw_mem (List.mem_append_right _ (List.mem_append_right _ (List.mem_append_left _ (List.mem_of_getElem? (i := 152) (by decide +kernel))))) (by decide +kernel)
theorem nw_633 : Cond.code ny_M_order nc_M_order 5 (some .int) ∈ zw_big := zw_mem (List.mem_append_right _ (List.mem_append_right _ (List.mem_append_left _ (List.mem_of_getElem? (i := 153) (by decide +kernel))))) (by decide +kernel)
theorem nw_634 : Cond.methodLink "DayEndBankLaw" 44 ny_M_rest ∈ zw_big := zw_mem (List.mem_append_right _ (List.mem_append_right _ (List.mem_append_left _ (List.mem_of_getElem? (i := 154) (by decide +kernel))))) (by decide +kernel)
theorem nw_635 : Cond.instanceMethod ny_M_rest ∈ zw_big := zw_mem (List.mem_append_right _ (List.mem_append_right _ (List.mem_append_left _ (List.mem_of_getElem? (i := 155) (by decide +kernel))))) (by decide +kernel)
theorem nw_636 : Cond.selects "DayEndBankModel" ny_M_rest ny_M_rest ∈ zw_big := zw_mem (List.mem_append_right _ (List.mem_append_right _ (List.mem_append_left _ (List.mem_of_getElem? (i := 156) (by decide +kernel))))) (by decide +kernel)
theorem nw_637 : Cond.code ny_M_rest nc_M_rest 2 (some .int) ∈ zw_big := zw_mem (List.mem_append_right _ (List.mem_append_right _ (List.mem_append_left _ (List.mem_of_getElem? (i := 157) (by decide +kernel))))) (by decide +kernel)
theorem nw_638 : Cond.methodLink "DayEndBankModel" 93 ny_M_resting ∈ zw_big := zw_mem (List.mem_append_right _ (List.mem_append_right _ (List.mem_append_left _ (List.mem_of_getElem? (i := 158) (by decide +kernel))))) (by decide +kernel)
theorem nw_640 : Cond.instanceMethod ny_M_resting ∈ zw_big := zw_mem (List.mem_append_right _ (List.mem_append_right _ (List.mem_append_left _ (List.mem_of_getElem? (i := 160) (by decide +kernel))))) (by decide +kernel)
theorem nw_641 : Cond.code ny_M_resting nc_M_resting 4 (some .boolean) ∈ zw_big := zw_mem (List.mem_append_right _ (List.mem_append_right _ (List.mem_append_left _ (List.mem_of_getElem? (i := 161) (by decide +kernel))))) (by decide +kernel)
theorem nw_642 : Cond.methodLink "DayEndBankModel" 162 ny_M_later ∈ zw_big := zw_mem (List.mem_append_right _ (List.mem_append_right _ (List.mem_append_left _ (List.mem_of_getElem? (i := 162) (by decide +kernel))))) (by decide +kernel)
theorem nw_644 : Cond.instanceMethod ny_M_later ∈ zw_big := zw_mem (List.mem_append_right _ (List.mem_append_right _ (List.mem_append_left _ (List.mem_of_getElem? (i := 164) (by decide +kernel))))) (by decide +kernel)
theorem nw_645 : Cond.code ny_M_later nc_M_later 3 (some .boolean) ∈ zw_big := zw_mem (List.mem_append_right _ (List.mem_append_right _ (List.mem_append_left _ (List.mem_of_getElem? (i := 165) (by decide +kernel))))) (by decide +kernel)
theorem nw_646 : Cond.methodLink "DayEndBankModel" 83 ny_M_walk ∈ zw_big := zw_mem (List.mem_append_right _ (List.mem_append_right _ (List.mem_append_left _ (List.mem_of_getElem? (i := 166) (by decide +kernel))))) (by decide +kernel)
theorem nw_648 : Cond.instanceMethod ny_M_walk ∈ zw_big := zw_mem (List.mem_append_right _ (List.mem_append_right _ (List.mem_append_left _ (List.mem_of_getElem? (i := 168) (by decide +kernel))))) (by decide +kernel)
theorem nw_649 : Cond.code ny_M_walk nc_M_walk 4 none ∈ zw_big := zw_mem (List.mem_append_right _ (List.mem_append_right _ (List.mem_append_left _ (List.mem_of_getElem? (i := 169) (by decide +kernel))))) (by decide +kernel)
theorem nw_650 : Cond.methodLink "DayEndBankModel" 66 ny_M_leap ∈ zw_big := zw_mem (List.mem_append_right _ (List.mem_append_right _ (List.mem_append_left _ (List.mem_of_getElem? (i := 170) (by decide +kernel))))) (by decide +kernel)
theorem nw_651 : Cond.static ny_M_leap ∈ zw_big := zw_mem (List.mem_append_right _ (List.mem_append_right _ (List.mem_append_left _ (List.mem_of_getElem? (i := 171) (by decide +kernel))))) (by decide +kernel)
theorem nw_652 : Cond.code ny_M_leap nc_M_leap 1 (some .boolean) ∈ zw_big := zw_mem (List.mem_append_right _ (List.mem_append_right _ (List.mem_append_left _ (List.mem_of_getElem? (i := 172) (by decide +kernel))))) (by decide +kernel)
theorem nw_653 : Cond.methodLink "DayEndBankModel" 76 ny_M_length ∈ zw_big := zw_mem (List.mem_append_right _ (List.mem_append_right _ (List.mem_append_left _ (List.mem_of_getElem? (i := 173) (by decide +kernel))))) (by decide +kernel)
theorem nw_654 : Cond.static ny_M_length ∈ zw_big := zw_mem (List.mem_append_right _ (List.mem_append_right _ (List.mem_append_left _ (List.mem_of_getElem? (i := 174) (by decide +kernel))))) (by decide +kernel)
theorem nw_655 : Cond.code ny_M_length nc_M_length 2 (some .int) ∈ zw_big := zw_mem (List.mem_append_right _ (List.mem_append_right _ (List.mem_append_left _ (List.mem_of_getElem? (i := 175) (by decide +kernel))))) (by decide +kernel)
theorem nw_656 : Cond.methodLink "DayEndBankLaw" 48 ny_M_run ∈ zw_big := zw_mem (List.mem_append_right _ (List.mem_append_right _ (List.mem_append_left _ (List.mem_of_getElem? (i := 176) (by decide +kernel))))) (by decide +kernel)
theorem nw_657 : Cond.instanceMethod ny_M_run ∈ zw_big := zw_mem (List.mem_append_right _ (List.mem_append_right _ (List.mem_append_left _ (List.mem_of_getElem? (i := 177) (by decide +kernel))))) (by decide +kernel)
theorem nw_658 : Cond.selects "DayEndBankModel" ny_M_run ny_M_run ∈ zw_big := zw_mem (List.mem_append_right _ (List.mem_append_right _ (List.mem_append_left _ (List.mem_of_getElem? (i := 178) (by decide +kernel))))) (by decide +kernel)
theorem nw_659 : Cond.code ny_M_run nc_M_run 3 (some .int) ∈ zw_big := zw_mem (List.mem_append_right _ (List.mem_append_right _ (List.mem_append_left _ (List.mem_of_getElem? (i := 179) (by decide +kernel))))) (by decide +kernel)
theorem nw_660 : Cond.methodLink "DayEndBankModel" 186 ny_M_dayEnd ∈ zw_big := zw_mem (List.mem_append_right _ (List.mem_append_right _ (List.mem_append_left _ (List.mem_of_getElem? (i := 180) (by decide +kernel))))) (by decide +kernel)
theorem nw_662 : Cond.instanceMethod ny_M_dayEnd ∈ zw_big := zw_mem (List.mem_append_right _ (List.mem_append_right _ (List.mem_append_left _ (List.mem_of_getElem? (i := 182) (by decide +kernel))))) (by decide +kernel)
theorem nw_663 : Cond.code ny_M_dayEnd nc_M_dayEnd 2 (some .boolean) ∈ zw_big := zw_mem (List.mem_append_right _ (List.mem_append_right _ (List.mem_append_left _ (List.mem_of_getElem? (i := 183) (by decide +kernel))))) (by decide +kernel)
theorem nw_664 : Cond.methodLink "DayEndBankModel" 183 ny_M_step ∈ zw_big := zw_mem (List.mem_append_right _ (List.mem_append_right _ (List.mem_append_left _ (List.mem_of_getElem? (i := 184) (by decide +kernel))))) (by decide +kernel)
theorem nw_666 : Cond.instanceMethod ny_M_step ∈ zw_big := zw_mem (List.mem_append_right _ (List.mem_append_right _ (List.mem_append_left _ (List.mem_of_getElem? (i := 186) (by decide +kernel))))) (by decide +kernel)
theorem nw_667 : Cond.code ny_M_step nc_M_step 6 (some .boolean) ∈ zw_big := zw_mem (List.mem_append_right _ (List.mem_append_right _ (List.mem_append_left _ (List.mem_of_getElem? (i := 187) (by decide +kernel))))) (by decide +kernel)
theorem nw_668 : Cond.methodLink "DayEndBankModel" 168 ny_M_paidOrders ∈ zw_big := zw_mem (List.mem_append_right _ (List.mem_append_right _ (List.mem_append_left _ (List.mem_of_getElem? (i := 188) (by decide +kernel))))) (by decide +kernel)
theorem nw_670 : Cond.instanceMethod ny_M_paidOrders ∈ zw_big := zw_mem (List.mem_append_right _ (List.mem_append_right _ (List.mem_append_left _ (List.mem_of_getElem? (i := 190) (by decide +kernel))))) (by decide +kernel)
theorem nw_671 : Cond.code ny_M_paidOrders nc_M_paidOrders 6 (some .int) ∈ zw_big := zw_mem (List.mem_append_right _ (List.mem_append_right _ (List.mem_append_left _ (List.mem_of_getElem? (i := 191) (by decide +kernel))))) (by decide +kernel)
theorem nw_672 : Cond.methodLink "DayEndBankModel" 165 ny_M_due ∈ zw_big := zw_mem (List.mem_append_right _ (List.mem_append_right _ (List.mem_append_left _ (List.mem_of_getElem? (i := 192) (by decide +kernel))))) (by decide +kernel)
theorem nw_674 : Cond.instanceMethod ny_M_due ∈ zw_big := zw_mem (List.mem_append_right _ (List.mem_append_right _ (List.mem_append_left _ (List.mem_of_getElem? (i := 194) (by decide +kernel))))) (by decide +kernel)
theorem nw_675 : Cond.code ny_M_due nc_M_due 7 (some .boolean) ∈ zw_big := zw_mem (List.mem_append_right _ (List.mem_append_right _ (List.mem_append_left _ (List.mem_of_getElem? (i := 195) (by decide +kernel))))) (by decide +kernel)
theorem nw_676 : Cond.methodLink "DayEndBankModel" 172 ny_M_grow ∈ zw_big := zw_mem (List.mem_append_right _ (List.mem_append_right _ (List.mem_append_left _ (List.mem_of_getElem? (i := 196) (by decide +kernel))))) (by decide +kernel)
theorem nw_678 : Cond.instanceMethod ny_M_grow ∈ zw_big := zw_mem (List.mem_append_right _ (List.mem_append_right _ (List.mem_append_left _ (List.mem_of_getElem? (i := 198) (by decide +kernel))))) (by decide +kernel)
theorem nw_679 : Cond.code ny_M_grow nc_M_grow 9 none ∈ zw_big := zw_mem (List.mem_append_right _ (List.mem_append_right _ (List.mem_append_left _ (List.mem_of_getElem? (i := 199) (by decide +kernel))))) (by decide +kernel)
theorem nw_680 : Cond.methodLink "DayEndBankModel" 175 ny_M_days ∈ zw_big := zw_mem (List.mem_append_right _ (List.mem_append_right _ (List.mem_append_left _ (List.mem_of_getElem? (i := 200) (by decide +kernel))))) (by decide +kernel)
theorem nw_682 : Cond.instanceMethod ny_M_days ∈ zw_big := zw_mem (List.mem_append_right _ (List.mem_append_right _ (List.mem_append_left _ (List.mem_of_getElem? (i := 202) (by decide +kernel))))) (by decide +kernel)
theorem nw_683 : Cond.code ny_M_days nc_M_days 8 (some .int) ∈ zw_big := zw_mem (List.mem_append_right _ (List.mem_append_right _ (List.mem_append_left _ (List.mem_of_getElem? (i := 203) (by decide +kernel))))) (by decide +kernel)
theorem nw_684 : Cond.constantLong "DayEndBankModel" 179 (10000) ∈ zw_big := zw_mem (List.mem_append_right _ (List.mem_append_right _ (List.mem_append_left _ (List.mem_of_getElem? (i := 204) (by decide +kernel))))) (by decide +kernel)
theorem nw_685 : Cond.constantLong "DayEndBankModel" 181 (2) ∈ zw_big := zw_mem (List.mem_append_right _ (List.mem_append_right _ (List.mem_append_left _ (List.mem_of_getElem? (i := 205) (by decide +kernel))))) (by decide +kernel)
theorem nw_686 : Cond.methodLink "DayEndBankLaw" 53 ny_M_fuse ∈ zw_big := zw_mem (List.mem_append_right _ (List.mem_append_right _ (List.mem_append_left _ (List.mem_of_getElem? (i := 206) (by decide +kernel))))) (by decide +kernel)
theorem nw_687 : Cond.instanceMethod ny_M_fuse ∈ zw_big := zw_mem (List.mem_append_right _ (List.mem_append_right _ (List.mem_append_left _ (List.mem_of_getElem? (i := 207) (by decide +kernel))))) (by decide +kernel)
theorem nw_688 : Cond.selects "DayEndBankModel" ny_M_fuse ny_M_fuse ∈ zw_big := zw_mem (List.mem_append_right _ (List.mem_append_right _ (List.mem_append_left _ (List.mem_of_getElem? (i := 208) (by decide +kernel))))) (by decide +kernel)
theorem nw_689 : Cond.code ny_M_fuse nc_M_fuse 2 (some .boolean) ∈ zw_big := zw_mem (List.mem_append_right _ (List.mem_append_right _ (List.mem_append_left _ (List.mem_of_getElem? (i := 209) (by decide +kernel))))) (by decide +kernel)
theorem nw_690 : Cond.methodLink "DayEndBankLaw" 58 ny_M_restart ∈ zw_big := zw_mem (List.mem_append_right _ (List.mem_append_right _ (List.mem_append_left _ (List.mem_of_getElem? (i := 210) (by decide +kernel))))) (by decide +kernel)
theorem nw_691 : Cond.instanceMethod ny_M_restart ∈ zw_big := zw_mem (List.mem_append_right _ (List.mem_append_right _ (List.mem_append_left _ (List.mem_of_getElem? (i := 211) (by decide +kernel))))) (by decide +kernel)
theorem nw_692 : Cond.selects "DayEndBankModel" ny_M_restart ny_M_restart ∈ zw_big := zw_mem (List.mem_append_right _ (List.mem_append_right _ (List.mem_append_left _ (List.mem_of_getElem? (i := 212) (by decide +kernel))))) (by decide +kernel)
theorem nw_693 : Cond.code ny_M_restart nc_M_restart 1 (some .int) ∈ zw_big := zw_mem (List.mem_append_right _ (List.mem_append_right _ (List.mem_append_left _ (List.mem_of_getElem? (i := 213) (by decide +kernel))))) (by decide +kernel)
theorem nw_694 : Cond.methodLink "DayEndBankLaw" 63 ny_M_balance ∈ zw_big := zw_mem (List.mem_append_right _ (List.mem_append_right _ (List.mem_append_left _ (List.mem_of_getElem? (i := 214) (by decide +kernel))))) (by decide +kernel)
theorem nw_695 : Cond.instanceMethod ny_M_balance ∈ zw_big := zw_mem (List.mem_append_right _ (List.mem_append_right _ (List.mem_append_left _ (List.mem_of_getElem? (i := 215) (by decide +kernel))))) (by decide +kernel)
theorem nw_696 : Cond.selects "DayEndBankModel" ny_M_balance ny_M_balance ∈ zw_big := zw_mem (List.mem_append_right _ (List.mem_append_right _ (List.mem_append_left _ (List.mem_of_getElem? (i := 216) (by decide +kernel))))) (by decide +kernel)
theorem nw_697 : Cond.code ny_M_balance nc_M_balance 2 (some .long) ∈ zw_big := zw_mem (List.mem_append_right _ (List.mem_append_right _ (List.mem_append_left _ (List.mem_of_getElem? (i := 217) (by decide +kernel))))) (by decide +kernel)
theorem nw_698 : Cond.methodLink "DayEndBankLaw" 67 ny_M_available ∈ zw_big := zw_mem (List.mem_append_right _ (List.mem_append_right _ (List.mem_append_left _ (List.mem_of_getElem? (i := 218) (by decide +kernel))))) (by decide +kernel)
theorem nw_699 : Cond.instanceMethod ny_M_available ∈ zw_big := zw_mem (List.mem_append_right _ (List.mem_append_right _ (List.mem_append_left _ (List.mem_of_getElem? (i := 219) (by decide +kernel))))) (by decide +kernel)
theorem nw_700 : Cond.selects "DayEndBankModel" ny_M_available ny_M_available ∈ zw_big := zw_mem (List.mem_append_right _ (List.mem_append_right _ (List.mem_append_left _ (List.mem_of_getElem? (i := 220) (by decide +kernel))))) (by decide +kernel)
theorem nw_701 : Cond.code ny_M_available nc_M_available 2 (some .long) ∈ zw_big := zw_mem (List.mem_append_right _ (List.mem_append_right _ (List.mem_append_left _ (List.mem_of_getElem? (i := 221) (by decide +kernel))))) (by decide +kernel)
theorem nw_702 : Cond.methodLink "DayEndBankLaw" 71 ny_M_accrued ∈ zw_big := zw_mem (List.mem_append_right _ (List.mem_append_right _ (List.mem_append_left _ (List.mem_of_getElem? (i := 222) (by decide +kernel))))) (by decide +kernel)
theorem nw_703 : Cond.instanceMethod ny_M_accrued ∈ zw_big := zw_mem (List.mem_append_right _ (List.mem_append_right _ (List.mem_append_left _ (List.mem_of_getElem? (i := 223) (by decide +kernel))))) (by decide +kernel)
theorem nw_704 : Cond.selects "DayEndBankModel" ny_M_accrued ny_M_accrued ∈ zw_big := zw_mem (List.mem_append_right _ (List.mem_append_right _ (List.mem_append_left _ (List.mem_of_getElem? (i := 224) (by decide +kernel))))) (by decide +kernel)
theorem nw_705 : Cond.code ny_M_accrued nc_M_accrued 2 (some .long) ∈ zw_big := zw_mem (List.mem_append_right _ (List.mem_append_right _ (List.mem_append_left _ (List.mem_of_getElem? (i := 225) (by decide +kernel))))) (by decide +kernel)
theorem nw_706 : Cond.methodLink "DayEndBankLaw" 75 ny_M_mark ∈ zw_big := zw_mem (List.mem_append_right _ (List.mem_append_right _ (List.mem_append_left _ (List.mem_of_getElem? (i := 226) (by decide +kernel))))) (by decide +kernel)
theorem nw_707 : Cond.instanceMethod ny_M_mark ∈ zw_big := zw_mem (List.mem_append_right _ (List.mem_append_right _ (List.mem_append_left _ (List.mem_of_getElem? (i := 227) (by decide +kernel))))) (by decide +kernel)
theorem nw_708 : Cond.selects "DayEndBankModel" ny_M_mark ny_M_mark ∈ zw_big := zw_mem (List.mem_append_right _ (List.mem_append_right _ (List.mem_append_left _ (List.mem_of_getElem? (i := 228) (by decide +kernel))))) (by decide +kernel)
theorem nw_709 : Cond.code ny_M_mark nc_M_mark 2 (some .int) ∈ zw_big := zw_mem (List.mem_append_right _ (List.mem_append_right _ (List.mem_append_left _ (List.mem_of_getElem? (i := 229) (by decide +kernel))))) (by decide +kernel)
theorem nw_710 : Cond.methodLink "DayEndBankLaw" 80 ny_M_ledger ∈ zw_big := zw_mem (List.mem_append_right _ (List.mem_append_right _ (List.mem_append_left _ (List.mem_of_getElem? (i := 230) (by decide +kernel))))) (by decide +kernel)
theorem nw_711 : Cond.instanceMethod ny_M_ledger ∈ zw_big := zw_mem (List.mem_append_right _ (List.mem_append_right _ (List.mem_append_left _ (List.mem_of_getElem? (i := 231) (by decide +kernel))))) (by decide +kernel)
theorem nw_712 : Cond.selects "DayEndBankModel" ny_M_ledger ny_M_ledger ∈ zw_big := zw_mem (List.mem_append_right _ (List.mem_append_right _ (List.mem_append_left _ (List.mem_of_getElem? (i := 232) (by decide +kernel))))) (by decide +kernel)
theorem nw_713 : Cond.code ny_M_ledger nc_M_ledger 6 (some .long) ∈ zw_big := zw_mem (List.mem_append_right _ (List.mem_append_right _ (List.mem_append_left _ (List.mem_of_getElem? (i := 233) (by decide +kernel))))) (by decide +kernel)
theorem nw_714 : Cond.methodLink "DayEndBankLaw" 84 ny_M_missed ∈ zw_big := zw_mem (List.mem_append_right _ (List.mem_append_right _ (List.mem_append_left _ (List.mem_of_getElem? (i := 234) (by decide +kernel))))) (by decide +kernel)
theorem nw_715 : Cond.instanceMethod ny_M_missed ∈ zw_big := zw_mem (List.mem_append_right _ (List.mem_append_right _ (List.mem_append_left _ (List.mem_of_getElem? (i := 235) (by decide +kernel))))) (by decide +kernel)
theorem nw_716 : Cond.selects "DayEndBankModel" ny_M_missed ny_M_missed ∈ zw_big := zw_mem (List.mem_append_right _ (List.mem_append_right _ (List.mem_append_left _ (List.mem_of_getElem? (i := 236) (by decide +kernel))))) (by decide +kernel)
theorem nw_717 : Cond.code ny_M_missed nc_M_missed 2 (some .int) ∈ zw_big := zw_mem (List.mem_append_right _ (List.mem_append_right _ (List.mem_append_left _ (List.mem_of_getElem? (i := 237) (by decide +kernel))))) (by decide +kernel)
theorem nw_718 : Cond.methodLink "DayEndBankLaw" 88 ny_M_today ∈ zw_big := zw_mem (List.mem_append_right _ (List.mem_append_right _ (List.mem_append_left _ (List.mem_of_getElem? (i := 238) (by decide +kernel))))) (by decide +kernel)
theorem nw_719 : Cond.instanceMethod ny_M_today ∈ zw_big := zw_mem (List.mem_append_right _ (List.mem_append_right _ (List.mem_append_left _ (List.mem_of_getElem? (i := 239) (by decide +kernel))))) (by decide +kernel)
theorem nw_720 : Cond.selects "DayEndBankModel" ny_M_today ny_M_today ∈ zw_big := zw_mem (List.mem_append_right _ (List.mem_append_right _ (List.mem_append_right _ (List.mem_of_getElem? (i := 0) (by decide +kernel))))) (by decide +kernel)
theorem nw_721 : Cond.code ny_M_today nc_M_today 1 (some .int) ∈ zw_big := zw_mem (List.mem_append_right _ (List.mem_append_right _ (List.mem_append_right _ (List.mem_of_getElem? (i := 1) (by decide +kernel))))) (by decide +kernel)
theorem nw_722 : Cond.methodLink "DayEndBankLaw" 92 ny_M_count ∈ zw_big := zw_mem (List.mem_append_right _ (List.mem_append_right _ (List.mem_append_right _ (List.mem_of_getElem? (i := 2) (by decide +kernel))))) (by decide +kernel)
theorem nw_723 : Cond.instanceMethod ny_M_count ∈ zw_big := zw_mem (List.mem_append_right _ (List.mem_append_right _ (List.mem_append_right _ (List.mem_of_getElem? (i := 3) (by decide +kernel))))) (by decide +kernel)
theorem nw_724 : Cond.selects "DayEndBankModel" ny_M_count ny_M_count ∈ zw_big := zw_mem (List.mem_append_right _ (List.mem_append_right _ (List.mem_append_right _ (List.mem_of_getElem? (i := 4) (by decide +kernel))))) (by decide +kernel)
theorem nw_725 : Cond.code ny_M_count nc_M_count 4 (some .int) ∈ zw_big := zw_mem (List.mem_append_right _ (List.mem_append_right _ (List.mem_append_right _ (List.mem_of_getElem? (i := 5) (by decide +kernel))))) (by decide +kernel)
theorem nw_726 : Cond.constant "DayEndBankModel" 190 (99999) ∈ zw_big := zw_mem (List.mem_append_right _ (List.mem_append_right _ (List.mem_append_right _ (List.mem_of_getElem? (i := 6) (by decide +kernel))))) (by decide +kernel)
theorem nw_727 : Cond.methodLink "DayEndBankLaw" 96 ny_M_writes ∈ zw_big := zw_mem (List.mem_append_right _ (List.mem_append_right _ (List.mem_append_right _ (List.mem_of_getElem? (i := 7) (by decide +kernel))))) (by decide +kernel)
theorem nw_728 : Cond.instanceMethod ny_M_writes ∈ zw_big := zw_mem (List.mem_append_right _ (List.mem_append_right _ (List.mem_append_right _ (List.mem_of_getElem? (i := 8) (by decide +kernel))))) (by decide +kernel)
theorem nw_729 : Cond.selects "DayEndBankModel" ny_M_writes ny_M_writes ∈ zw_big := zw_mem (List.mem_append_right _ (List.mem_append_right _ (List.mem_append_right _ (List.mem_of_getElem? (i := 9) (by decide +kernel))))) (by decide +kernel)
theorem nw_730 : Cond.code ny_M_writes nc_M_writes 1 (some .int) ∈ zw_big := zw_mem (List.mem_append_right _ (List.mem_append_right _ (List.mem_append_right _ (List.mem_of_getElem? (i := 10) (by decide +kernel))))) (by decide +kernel)
theorem nw_731 : Cond.methodLink "DayEndBankLaw" 100 ny_M_lines ∈ zw_big := zw_mem (List.mem_append_right _ (List.mem_append_right _ (List.mem_append_right _ (List.mem_of_getElem? (i := 11) (by decide +kernel))))) (by decide +kernel)
theorem nw_732 : Cond.instanceMethod ny_M_lines ∈ zw_big := zw_mem (List.mem_append_right _ (List.mem_append_right _ (List.mem_append_right _ (List.mem_of_getElem? (i := 12) (by decide +kernel))))) (by decide +kernel)
theorem nw_733 : Cond.selects "DayEndBankModel" ny_M_lines ny_M_lines ∈ zw_big := zw_mem (List.mem_append_right _ (List.mem_append_right _ (List.mem_append_right _ (List.mem_of_getElem? (i := 13) (by decide +kernel))))) (by decide +kernel)
theorem nw_734 : Cond.code ny_M_lines nc_M_lines 1 (some .int) ∈ zw_big := zw_mem (List.mem_append_right _ (List.mem_append_right _ (List.mem_append_right _ (List.mem_of_getElem? (i := 14) (by decide +kernel))))) (by decide +kernel)
end
section
/-! OWN KIT: words of all methods in one list zw_big; contracts that read (zw_R) and that write (zw_Q); calls; locals by their number. -/
theorem zw_good {y : Cond} (h : y ∈ zw_big) : GoodIn zw_big (y :: zw_big) := by
  intro w hw
  rcases List.mem_cons.mp hw with rfl | hw
  · exact ⟨h, good_of_word (List.all_eq_true.mp zw_allgood _ h)⟩
  · exact ⟨hw, good_of_word (List.all_eq_true.mp zw_allgood _ hw)⟩
/-- locals, looked up by their number -/
theorem zv_mem {l : List (Nat × Value)} {i : Nat} {v : Value} (h : l.lookup i = some v) : (i, v) ∈ l := by
  induction l with
  | nil => cases h
  | cons q l ih =>
    obtain ⟨j, w⟩ := q
    by_cases e : i = j
    · subst e
      simp [List.lookup] at h
      subst h
      exact List.mem_cons_self
    · have e2 : (i == j) = false := by simp [e]
      simp [List.lookup, e2] at h
      exact List.mem_cons_of_mem _ (ih h)
theorem zv_at {ls : Array Slot} {nL : Nat} {l : List (Nat × Value)} (h : lv_has ls nL l) (i : Nat) {v : Value} (hv : l.lookup i = some v) : ls[i]? = some (.val v) := h.2.2 (i, v) (zv_mem hv)
theorem zv_sub {ls : Array Slot} {nL : Nat} {l l' : List (Nat × Value)} (h : lv_has ls nL l) (hl : ∀ q ∈ l', l.lookup q.1 = some q.2) : lv_has ls nL l' := ⟨h.1, h.2.1, fun q hq => h.2.2 q (zv_mem (hl q hq))⟩
section ZV
variable {p : Program} {l : Launch} {e : Env} {R : Room} {s : State} {m : MethodId} {args : Array Value} {below : List Frame} {meth : Method} {c : Code} {H : Heap} {locs : List Loc} {cells slots : Nat} {Q : State → Prop}
variable {cc : ByteArray} {pc : Nat} {ls : Array Slot} {rest : List Value}
theorem zv_iinc (hx : p.tables.exec = Jvm.exec) (hb : c.code = cc) {i nL : Nat} {n : Int} {x v : Int32} {lv lv' : List (Nat × Value)} (hdg : decode cc pc = .ok (.iinc i n, 3)) (h : lv_has ls nL lv) (hk : lv.lookup i = some (.int x)) (hv : x + Int32.ofInt n = v) (hn : i < nL) (hl : (i, Value.int v) :: lv.filter (fun q => !(q.1 == i) && !(q.1 + 1 == i && q.2.category == 2)) = lv')
    (kk : ∀ ls' : Array Slot, lv_has ls' nL lv' → W p l e R s m args below meth c H locs cells slots Q (F0 m (pc + 3) ls' rest)) : W p l e R s m args below meth c H locs cells slots Q (F0 m pc ls rest) := by
  obtain ⟨k, hk2⟩ := List.getElem?_of_mem (zv_mem hk)
  exact lv_iinc hx hb hdg h hk2 hv hn hl kk
end ZV
/-- the contract of a method that reads: its answer, and no cell changes -/
def zw_R (v : Value) : Array Value → State → Outcome → State → Prop := fun _ st o t => o = .returned (some v) ∧ t.heap = st.heap
/-- the contract of a method that writes: its answer, the heap behind it, no cell outside A changes -/
def zw_Q (v : Option Value) (PX : Heap → Prop) (A : Nat → Prop) : Array Value → State → Outcome → State → Prop := fun _ st o t => o = .returned v ∧ PX t.heap ∧ va_F A st t
/-- where it starts: its arguments, its world -/
def zw_P (av : List Value) (D : va_G) (tys : List (ClassId × FieldType)) (ws : va_W) : Array Value → State → Prop := fun v U => v = av.toArray ∧ va_P D vwCl ws U.heap ∧ va_K D vwCl tys U
/-- where a method starts that needs no cell -/
def zw_N (av : List Value) : Array Value → State → Prop := fun v _ => v = av.toArray
theorem zw_P_blind {av : List Value} {D : va_G} {tys : List (ClassId × FieldType)} {ws : va_W} : FrameBlind (zw_P av D tys ws) := fun a U g mk q => ⟨q.1, q.2.1, va_K.moved (u := U) (U := U.calling g mk a) (Vm.Alike.refl U.vm) q.2.2⟩
theorem zw_N_blind {av : List Value} : FrameBlind (zw_N av) := fun _ _ _ _ q => q
theorem zw_preN {s : State} {H : Heap} {As : List Value} : PreS s H (zw_N As) As := ⟨zw_N_blind, fun _ _ _ => rfl⟩
theorem zw_preS {s : State} {H : Heap} {As : List Value} {D : va_G} {tys : List (ClassId × FieldType)} {ws : va_W} (hP : va_P D vwCl ws H) (hK : va_K D vwCl tys s) : PreS s H (zw_P As D tys ws) As := ⟨zw_P_blind, fun U hU hW => ⟨rfl, by rw [hU]; exact hP, va_K.moved hW.alike hK⟩⟩
theorem zw_preV {s : State} {H : Heap} {C : String} {b : Nat} {As : List Value} {D : va_G} {tys : List (ClassId × FieldType)} {ws : va_W} (hP : va_P D vwCl ws H) (hK : va_K D vwCl tys s) {q0 ci : Nat} {q : vw_C} {fs : List Value} (hc : vwCl[ci]? = some q) (he : ws[q0]? = some (b, .inr (ci, fs))) (hC : q.1 = C) : PreV s H C b (zw_P (.ref b :: As) D tys ws) As := by
  subst hC
  exact ⟨zw_P_blind, va_recv hK hP hc he, fun U hU hW => ⟨rfl, by rw [hU]; exact hP, va_K.moved hW.alike hK⟩⟩
/-- what a callee's name must be known for -/
def zw_Y (y : MethodName) (bytes : ByteArray) (maxL : Nat) (ret : Option FieldType) (n : Nat) : Prop :=
  Cond.code y bytes maxL ret ∈ zw_big ∧ Cond.initialized y.cls ∈ zw_big ∧ (y.cls ≠ "java/lang/invoke/MethodHandle" ∧ y.cls ≠ "java/lang/invoke/VarHandle" ∧ (parseMethodDescriptor y.desc).map (fun d => d.parameters.length) = some n)
def zw_YV (y : MethodName) (bytes : ByteArray) (maxL : Nat) (ret : Option FieldType) (n : Nat) : Prop := zw_Y y bytes maxL ret n ∧ Cond.instanceMethod y ∈ zw_big ∧ Cond.selects y.cls y y ∈ zw_big
def zw_YS (y : MethodName) (bytes : ByteArray) (maxL : Nat) (ret : Option FieldType) (n : Nat) : Prop := zw_Y y bytes maxL ret n ∧ Cond.static y ∈ zw_big
section ZW
variable {p : Program} {l : Launch} {e : Env} {R : Room} {s : State} {m : MethodId} {args : Array Value} {below : List Frame} {meth : Method} {c : Code} {H : Heap} {locs : List Loc} {cells slots : Nat} {Q : State → Prop}
variable {cc bytes : ByteArray} {pc nL maxL index n : Nat} {ls : Array Slot} {rest st0 As : List Value} {own : String} {y : MethodName} {ret : Option FieldType} {rm : Room} {b : Nat} {v : Value} {vo : Option Value} {PX : Heap → Prop} {A : Nat → Prop} {H0 : Heap} {Pc : Array Value → State → Prop} {a : Array Value}
theorem zw_B (hts : ∀ w ∈ zw_big, w.before args s = true) (hY : zw_Y y bytes maxL ret n) (hl : Cond.methodLink own index y ∈ zw_big) (hrc : rm.cells = 0) (hrs : rm.slots = 0) (hR : rm.frames + 1 ≤ R.frames ∧ 8 + (maxL + 11) + rm.locals ≤ R.locals) :
    CallB R s args own index y bytes maxL ret (Cond.code y bytes maxL ret :: zw_big) rm 0 0 n :=
  callB_of n hts (zw_good hY.1) rfl hrc hrs (hts _ hY.2.1) (hts _ hl) hY.2.2 hR
theorem zw_cR (hr : CallRun p l e R s m args below meth c H locs cells slots 0 0 (F0 m pc ls st0) rest (zw_R v a) (fun _ => False)) (kk : W p l e R s m args below meth c H locs cells slots Q (F0 m (pc + 3) ls (v :: rest))) : W p l e R s m args below meth c H locs cells slots Q (F0 m pc ls st0) := by
  intro T hT X
  obtain ⟨v', st₀, t, T', L, h0, X', hL, e1, ⟨hv, hh⟩, st⟩ := hr T hT X
  cases hv
  obtain ⟨t2, a1, b1⟩ := kk T' (by rw [e1, hh, h0]) (Stand.forget X' (fun q h => (hL q h).elim))
  exact ⟨t2, st t2 a1, b1⟩
theorem zw_cW (hr : CallRun p l e R s m args below meth c H locs cells slots 0 0 (F0 m pc ls st0) rest (zw_Q vo PX A a) A) (hS : va_S A H0 H locs)
    (kk : ∀ (H1 : Heap) (locs1 : List Loc), PX H1 → va_S A H0 H1 locs1 → W p l e R s m args below meth c H1 locs1 cells slots Q (F0 m (pc + 3) ls (vo.toList ++ rest))) : W p l e R s m args below meth c H locs cells slots Q (F0 m pc ls st0) := by
  intro T hT X
  obtain ⟨v', st₀, t, T', L, h0, X', hL, e1, ⟨hv, hp, hz, hk⟩, st⟩ := hr T hT X
  cases hv
  rw [h0] at hz hk
  obtain ⟨t2, a1, b1⟩ := kk T'.heap (locs ++ L) (by rw [e1]; exact hp)
    ⟨Nat.le_trans hS.1 (by rw [e1]; exact hz), fun q h1 h2 => by rw [e1, hk q (Nat.lt_of_lt_of_le h1 hS.1) h2]; exact hS.2.1 q h1 h2, fun q hq => by
      rcases List.mem_append.mp hq with h | h
      · exact hS.2.2 q h
      · exact hL q h⟩ T' rfl X'
  exact ⟨t2, st t2 a1, b1⟩
/-- a static method that reads -/
theorem zw_sR (F : CallFix p m c cc nL s args zw_big own) (hM : Met l y (Cond.code y bytes maxL ret :: zw_big) rm Pc (zw_R v) 0 0 (fun _ => False)) (hp : PreS s H Pc As) (hY : zw_YS y bytes maxL ret n) (hl : Cond.methodLink own index y ∈ zw_big) (hrm : rm.cells = 0 ∧ rm.slots = 0 ∧ rm.frames + 1 ≤ R.frames ∧ 8 + (maxL + 11) + rm.locals ≤ R.locals) (hn : As.length = n) (hz : ls.size = nL) (hst : st0 = As.reverse ++ rest) (hW : (rest.map fun v => v.category).sum ≤ 8) (hc : cells ≤ R.cells ∧ slots ≤ R.slots) (hdg : decode cc pc = .ok (.invokestatic index, 3))
    (kk : W p l e R s m args below meth c H locs cells slots Q (F0 m (pc + 3) ls (v :: rest))) : W p l e R s m args below meth c H locs cells slots Q (F0 m pc ls st0) :=
  zw_cR (a := As.toArray) (W.runS F hM ⟨zw_B F.2.2.2.2 hY.1 hl hrm.1 hrm.2.1 hrm.2.2, F.2.2.2.2 _ hY.2⟩ hp rfl hn hz hst (lv_room hW) hdg hc) kk
/-- an instance method that reads -/
theorem zw_vR (F : CallFix p m c cc nL s args zw_big own) (hM : Met l y (Cond.code y bytes maxL ret :: zw_big) rm Pc (zw_R v) 0 0 (fun _ => False)) (hp : PreV s H y.cls b Pc As) (hY : zw_YV y bytes maxL ret n) (hl : Cond.methodLink own index y ∈ zw_big) (hrm : rm.cells = 0 ∧ rm.slots = 0 ∧ rm.frames + 1 ≤ R.frames ∧ 8 + (maxL + 11) + rm.locals ≤ R.locals) (hn : As.length = n) (hz : ls.size = nL) (hst : st0 = As.reverse ++ .ref b :: rest) (hW : (rest.map fun v => v.category).sum ≤ 8) (hc : cells ≤ R.cells ∧ slots ≤ R.slots) (hdg : decode cc pc = .ok (.invokevirtual index, 3))
    (kk : W p l e R s m args below meth c H locs cells slots Q (F0 m (pc + 3) ls (v :: rest))) : W p l e R s m args below meth c H locs cells slots Q (F0 m pc ls st0) :=
  zw_cR (a := (Value.ref b :: As).toArray) (W.runV F hM ⟨zw_B F.2.2.2.2 hY.1 hl hrm.1 hrm.2.1 hrm.2.2, F.2.2.2.2 _ hY.2.1, F.2.2.2.2 _ hY.2.2⟩ hp rfl hn hz hst (lv_room hW) hdg hc) kk
/-- an instance method that writes -/
theorem zw_vW (F : CallFix p m c cc nL s args zw_big own) (hM : Met l y (Cond.code y bytes maxL ret :: zw_big) rm Pc (zw_Q vo PX A) 0 0 A) (hp : PreV s H y.cls b Pc As) (hY : zw_YV y bytes maxL ret n) (hl : Cond.methodLink own index y ∈ zw_big) (hrm : rm.cells = 0 ∧ rm.slots = 0 ∧ rm.frames + 1 ≤ R.frames ∧ 8 + (maxL + 11) + rm.locals ≤ R.locals) (hn : As.length = n) (hz : ls.size = nL) (hst : st0 = As.reverse ++ .ref b :: rest) (hW : (rest.map fun v => v.category).sum ≤ 8) (hc : cells ≤ R.cells ∧ slots ≤ R.slots) (hdg : decode cc pc = .ok (.invokevirtual index, 3)) (hS : va_S A H0 H locs)
    (kk : ∀ (H1 : Heap) (locs1 : List Loc), PX H1 → va_S A H0 H1 locs1 → W p l e R s m args below meth c H1 locs1 cells slots Q (F0 m (pc + 3) ls (vo.toList ++ rest))) : W p l e R s m args below meth c H locs cells slots Q (F0 m pc ls st0) :=
  zw_cW (a := (Value.ref b :: As).toArray) (W.runV F hM ⟨zw_B F.2.2.2.2 hY.1 hl hrm.1 hrm.2.1 hrm.2.2, F.2.2.2.2 _ hY.2.1, F.2.2.2.2 _ hY.2.2⟩ hp rfl hn hz hst (lv_room hW) hdg hc) hS kk
-- ends of a method that reads
theorem zw_iret {v2 r : Int32} (hx : p.tables.exec = Jvm.exec) (hb : c.code = cc) (hr : meth.sig.returnType = some .int) (hlk : meth.locks = false) (hdg : decode cc pc = .ok (.ireturn, 1)) (hF : r = v2) :
    W p l e R s m args below meth c s.heap [] cells slots (MQ below (zw_R (.int r)) args s cells slots (fun _ => False)) (F0 m pc ls [.int v2]) :=
  W.iret hx hb hr (fun t ht _ => ⟨by rw [hF], ht⟩) (fun _ h => by cases h) hdg hlk
theorem zw_zret {v2 r : Int32} (hx : p.tables.exec = Jvm.exec) (hb : c.code = cc) (hr : meth.sig.returnType = some .boolean) (hlk : meth.locks = false) (hdg : decode cc pc = .ok (.ireturn, 1)) (hn : v2 = 0 ∨ v2 = 1) (hF : r = v2) :
    W p l e R s m args below meth c s.heap [] cells slots (MQ below (zw_R (.int r)) args s cells slots (fun _ => False)) (F0 m pc ls [.int v2]) :=
  W.zret hx hb hr (by rcases hn with rfl | rfl <;> rfl) (fun t ht _ => ⟨by rw [hF], ht⟩) (fun _ h => by cases h) hdg hlk
theorem zw_lret {v2 r : Int64} (hx : p.tables.exec = Jvm.exec) (hb : c.code = cc) (hr : meth.sig.returnType = some .long) (hlk : meth.locks = false) (hdg : decode cc pc = .ok (.lreturn, 1)) (hF : r = v2) :
    W p l e R s m args below meth c s.heap [] cells slots (MQ below (zw_R (.long r)) args s cells slots (fun _ => False)) (F0 m pc ls [.long v2]) :=
  W.lret hx hb hr (fun t ht _ => ⟨by rw [hF], ht⟩) (fun _ h => by cases h) hdg hlk
theorem zw_aret {ad : Nat → Nat} {r r2 : Option Nat} {C : String} {v2 : Value} (hx : p.tables.exec = Jvm.exec) (hb : c.code = cc) (hr : meth.sig.returnType = some (.object C)) (hlk : meth.locks = false) (hdg : decode cc pc = .ok (.areturn, 1)) (hv : va_re ad r2 = v2) (hF : r = r2) :
    W p l e R s m args below meth c s.heap [] cells slots (MQ below (zw_R (va_re ad r)) args s cells slots (fun _ => False)) (F0 m pc ls [v2]) :=
  W.aret hx hb hr (Or.inl ⟨C, rfl⟩) (by rw [← hv]; exact va_rf_or _) (fun t ht _ => ⟨by rw [hF, hv], ht⟩) (fun _ h => by cases h) hdg hlk
/-- a reference that may be null -/
theorem zw_split {ad : Nat → Nat} {r : Option Nat} (kn : r = none → W p l e R s m args below meth c H locs cells slots Q (F0 m pc ls (.null :: rest))) (ks : ∀ j : Nat, r = some j → W p l e R s m args below meth c H locs cells slots Q (F0 m pc ls (.ref (ad j) :: rest))) :
    W p l e R s m args below meth c H locs cells slots Q (F0 m pc ls (va_re ad r :: rest)) := by
  cases r with
  | none => exact kn rfl
  | some j => exact ks j rfl
end ZW
section ZL
variable {p : Program} {l : Launch} {e : Env} {R : Room} {s : State} {m : MethodId} {args : Array Value} {below : List Frame} {meth : Method} {c : Code} {H0 : Heap} {locs0 : List Loc} {cells slots : Nat} {Q : State → Prop} {pc : Nat} {ls0 : Array Slot} {st0 : List Value}
/-- a place to which several ways lead -/
theorem zw_cut {σ : Type} (pcJ : Nat) (st : σ → List Value) (Inv : σ → Heap → List Loc → Array Slot → Prop)
    (hj : ∀ (x : σ) (H : Heap) (locs : List Loc) (ls : Array Slot), Inv x H locs ls → W p l e R s m args below meth c H locs cells slots Q (F0 m pcJ ls (st x)))
    (k : (∀ (x : σ) (H : Heap) (locs : List Loc) (ls : Array Slot), Inv x H locs ls → W p l e R s m args below meth c H locs cells slots Q (F0 m pcJ ls (st x))) → W p l e R s m args below meth c H0 locs0 cells slots Q (F0 m pc ls0 st0)) :
    W p l e R s m args below meth c H0 locs0 cells slots Q (F0 m pc ls0 st0) := k hj
/-- a loop: a measure that falls -/
theorem zw_loop {σ : Type} (Inv : Nat → σ → Heap → List Loc → Array Slot → Prop)
    (step : ∀ (k : Nat) (x : σ) (H : Heap) (locs : List Loc) (ls : Array Slot), Inv k x H locs ls → (∀ (k' : Nat) (x' : σ) (H' : Heap) (locs' : List Loc) (ls' : Array Slot), k' < k → Inv k' x' H' locs' ls' → W p l e R s m args below meth c H' locs' cells slots Q (F0 m pc ls' [])) → W p l e R s m args below meth c H locs cells slots Q (F0 m pc ls []))
    (k0 : Nat) (x0 : σ) (h0 : Inv k0 x0 H0 locs0 ls0) : W p l e R s m args below meth c H0 locs0 cells slots Q (F0 m pc ls0 []) := by
  have key : ∀ (n k : Nat), k ≤ n → ∀ (x : σ) (H : Heap) (locs : List Loc) (ls : Array Slot), Inv k x H locs ls → W p l e R s m args below meth c H locs cells slots Q (F0 m pc ls []) := by
    intro n
    induction n with
    | zero =>
      intro k hk x H locs ls hI
      exact step k x H locs ls hI (fun k' x' H' locs' ls' hlt => absurd hlt (by omega))
    | succ n ih =>
      intro k hk x H locs ls hI
      exact step k x H locs ls hI (fun k' x' H' locs' ls' hlt hI' => ih k' (by omega) x' H' locs' ls' hI')
  exact key k0 k0 (Nat.le_refl _) x0 H0 locs0 ls0 h0
end ZL
end
section
/-! what a callee is known for -/
theorem nk_B_open : zw_YV ny_B_open nc_B_open 7 (some .int) 4 := ⟨⟨nw_192, nw_1, by decide +kernel, by decide +kernel, by decide +kernel⟩, nw_190, nw_191⟩
theorem nk_B_refusalOfChange : zw_YV ny_B_refusalOfChange nc_B_refusalOfChange 1 (some .int) 0 := ⟨⟨nw_196, nw_1, by decide +kernel, by decide +kernel, by decide +kernel⟩, nw_195, (List.mem_append_left _ (List.mem_of_getElem? (i := 0) (by decide +kernel)))⟩
theorem nk_B_isCurrency : zw_YS ny_B_isCurrency nc_B_isCurrency 1 (some .boolean) 1 := ⟨⟨nw_199, nw_1, by decide +kernel, by decide +kernel, by decide +kernel⟩, nw_198⟩
theorem nk_B_isWithin : zw_YS ny_B_isWithin nc_B_isWithin 3 (some .boolean) 3 := ⟨⟨nw_202, nw_1, by decide +kernel, by decide +kernel, by decide +kernel⟩, nw_201⟩
theorem nk_C_isBasis : zw_YS ny_C_isBasis nc_C_isBasis 1 (some .boolean) 1 := ⟨⟨nw_205, nw_8, by decide +kernel, by decide +kernel, by decide +kernel⟩, nw_204⟩
theorem nk_B_bitOf : zw_YS ny_B_bitOf nc_B_bitOf 1 (some .int) 1 := ⟨⟨nw_209, nw_1, by decide +kernel, by decide +kernel, by decide +kernel⟩, nw_208⟩
theorem nk_D_writeTransaction : zw_YV ny_D_writeTransaction nc_D_writeTransaction 2 (some .boolean) 1 := ⟨⟨nw_213, nw_3, by decide +kernel, by decide +kernel, by decide +kernel⟩, nw_211, nw_212⟩
theorem nk_I_bitCount : zw_YS ny_I_bitCount nc_I_bitCount 1 (some .int) 1 := ⟨⟨nw_216, nw_9, by decide +kernel, by decide +kernel, by decide +kernel⟩, nw_215⟩
theorem nk_D_writeLines : zw_YV ny_D_writeLines nc_D_writeLines 4 (some .boolean) 2 := ⟨⟨nw_223, nw_3, by decide +kernel, by decide +kernel, by decide +kernel⟩, nw_221, nw_222⟩
theorem nk_D_makeCheckpoint : zw_YV ny_D_makeCheckpoint nc_D_makeCheckpoint 3 (some .boolean) 0 := ⟨⟨nw_227, nw_3, by decide +kernel, by decide +kernel, by decide +kernel⟩, nw_226, (List.mem_append_left _ (List.mem_of_getElem? (i := 1) (by decide +kernel)))⟩
theorem nk_D_writeOnce : zw_YV ny_D_writeOnce nc_D_writeOnce 1 (some .boolean) 0 := ⟨⟨nw_231, nw_3, by decide +kernel, by decide +kernel, by decide +kernel⟩, nw_230, (List.mem_append_left _ (List.mem_of_getElem? (i := 2) (by decide +kernel)))⟩
theorem nk_B_pay : zw_YV ny_B_pay nc_B_pay 7 (some .int) 3 := ⟨⟨nw_235, nw_1, by decide +kernel, by decide +kernel, by decide +kernel⟩, nw_233, nw_234⟩
theorem nk_B_isPayable : zw_YV ny_B_isPayable nc_B_isPayable 5 (some .boolean) 2 := ⟨⟨nw_239, nw_1, by decide +kernel, by decide +kernel, by decide +kernel⟩, nw_238, (List.mem_append_left _ (List.mem_of_getElem? (i := 3) (by decide +kernel)))⟩
theorem nk_B_isParty : zw_YV ny_B_isParty nc_B_isParty 2 (some .boolean) 1 := ⟨⟨nw_243, nw_1, by decide +kernel, by decide +kernel, by decide +kernel⟩, nw_242, (List.mem_append_left _ (List.mem_of_getElem? (i := 4) (by decide +kernel)))⟩
theorem nk_B_accountOf : zw_YV ny_B_accountOf nc_B_accountOf 2 (some (.object "DayEndBank$Account")) 1 := ⟨⟨nw_247, nw_1, by decide +kernel, by decide +kernel, by decide +kernel⟩, nw_246, (List.mem_append_left _ (List.mem_of_getElem? (i := 5) (by decide +kernel)))⟩
theorem nk_B_isAmount : zw_YS ny_B_isAmount nc_B_isAmount 1 (some .boolean) 1 := ⟨⟨nw_250, nw_1, by decide +kernel, by decide +kernel, by decide +kernel⟩, nw_249⟩
theorem nk_A_spendable : zw_YV ny_A_spendable nc_A_spendable 1 (some .long) 0 := ⟨⟨nw_254, nw_4, by decide +kernel, by decide +kernel, by decide +kernel⟩, nw_252, nw_253⟩
theorem nk_B_transfer : zw_YV ny_B_transfer nc_B_transfer 4 none 3 := ⟨⟨nw_258, nw_1, by decide +kernel, by decide +kernel, by decide +kernel⟩, nw_257, (List.mem_append_left _ (List.mem_of_getElem? (i := 6) (by decide +kernel)))⟩
theorem nk_B_hold : zw_YV ny_B_hold nc_B_hold 6 (some .int) 2 := ⟨⟨nw_262, nw_1, by decide +kernel, by decide +kernel, by decide +kernel⟩, nw_260, nw_261⟩
theorem nk_B_leastFreeHold : zw_YV ny_B_leastFreeHold nc_B_leastFreeHold 2 (some .int) 0 := ⟨⟨nw_266, nw_1, by decide +kernel, by decide +kernel, by decide +kernel⟩, nw_265, (List.mem_append_left _ (List.mem_of_getElem? (i := 7) (by decide +kernel)))⟩
theorem nk_H_begin : zw_YV ny_H_begin nc_H_begin 3 none 2 := ⟨⟨nw_270, nw_5, by decide +kernel, by decide +kernel, by decide +kernel⟩, nw_268, nw_269⟩
theorem nk_B_release : zw_YV ny_B_release nc_B_release 4 (some .int) 1 := ⟨⟨nw_274, nw_1, by decide +kernel, by decide +kernel, by decide +kernel⟩, nw_272, nw_273⟩
theorem nk_B_standingHold : zw_YV ny_B_standingHold nc_B_standingHold 2 (some (.object "DayEndBank$Hold")) 1 := ⟨⟨nw_278, nw_1, by decide +kernel, by decide +kernel, by decide +kernel⟩, nw_277, (List.mem_append_left _ (List.mem_of_getElem? (i := 8) (by decide +kernel)))⟩
theorem nk_H_end : zw_YV ny_H_end nc_H_end 1 none 0 := ⟨⟨nw_282, nw_5, by decide +kernel, by decide +kernel, by decide +kernel⟩, nw_280, nw_281⟩
theorem nk_B_settle : zw_YV ny_B_settle nc_B_settle 8 (some .int) 3 := ⟨⟨nw_286, nw_1, by decide +kernel, by decide +kernel, by decide +kernel⟩, nw_284, nw_285⟩
theorem nk_B_order : zw_YV ny_B_order nc_B_order 8 (some .int) 4 := ⟨⟨nw_290, nw_1, by decide +kernel, by decide +kernel, by decide +kernel⟩, nw_288, nw_289⟩
theorem nk_O_make : zw_YV ny_O_make nc_O_make 5 none 4 := ⟨⟨nw_294, nw_6, by decide +kernel, by decide +kernel, by decide +kernel⟩, nw_292, nw_293⟩
theorem nk_B_rest : zw_YV ny_B_rest nc_B_rest 3 (some .int) 1 := ⟨⟨nw_298, nw_1, by decide +kernel, by decide +kernel, by decide +kernel⟩, nw_296, nw_297⟩
theorem nk_R_isRest : zw_YV ny_R_isRest nc_R_isRest 3 (some .boolean) 1 := ⟨⟨nw_302, nw_2, by decide +kernel, by decide +kernel, by decide +kernel⟩, nw_300, nw_301⟩
theorem nk_R_wasMade : zw_YV ny_R_wasMade nc_R_wasMade 3 (some .boolean) 1 := ⟨⟨nw_306, nw_2, by decide +kernel, by decide +kernel, by decide +kernel⟩, nw_305, (List.mem_append_left _ (List.mem_of_getElem? (i := 9) (by decide +kernel)))⟩
theorem nk_B_isInLaterMonth : zw_YV ny_B_isInLaterMonth nc_B_isInLaterMonth 3 (some .boolean) 1 := ⟨⟨nw_310, nw_1, by decide +kernel, by decide +kernel, by decide +kernel⟩, nw_309, (List.mem_append_left _ (List.mem_of_getElem? (i := 10) (by decide +kernel)))⟩
theorem nk_C_monthAndDay : zw_YS ny_C_monthAndDay nc_C_monthAndDay 10 (some .int) 1 := ⟨⟨nw_313, nw_8, by decide +kernel, by decide +kernel, by decide +kernel⟩, nw_312⟩
theorem nk_T_floorDiv : zw_YS ny_T_floorDiv nc_T_floorDiv 3 (some .int) 2 := ⟨⟨nw_317, nw_10, by decide +kernel, by decide +kernel, by decide +kernel⟩, nw_316⟩
theorem nk_T_floorMod : zw_YS ny_T_floorMod nc_T_floorMod 3 (some .int) 2 := ⟨⟨nw_320, nw_10, by decide +kernel, by decide +kernel, by decide +kernel⟩, nw_319⟩
theorem nk_C_monthIn : zw_YS ny_C_monthIn nc_C_monthIn 1 (some .int) 1 := ⟨⟨nw_325, nw_8, by decide +kernel, by decide +kernel, by decide +kernel⟩, nw_324⟩
theorem nk_R_isFull : zw_YV ny_R_isFull nc_R_isFull 1 (some .boolean) 0 := ⟨⟨nw_329, nw_2, by decide +kernel, by decide +kernel, by decide +kernel⟩, nw_327, nw_328⟩
theorem nk_R_add : zw_YV ny_R_add nc_R_add 2 none 1 := ⟨⟨nw_333, nw_2, by decide +kernel, by decide +kernel, by decide +kernel⟩, nw_331, nw_332⟩
theorem nk_B_run : zw_YV ny_B_run nc_B_run 3 (some .int) 1 := ⟨⟨nw_338, nw_1, by decide +kernel, by decide +kernel, by decide +kernel⟩, nw_336, nw_337⟩
theorem nk_B_makeDayEnd : zw_YV ny_B_makeDayEnd nc_B_makeDayEnd 2 (some .boolean) 0 := ⟨⟨nw_342, nw_1, by decide +kernel, by decide +kernel, by decide +kernel⟩, nw_341, (List.mem_append_left _ (List.mem_of_getElem? (i := 11) (by decide +kernel)))⟩
theorem nk_B_makeStep : zw_YV ny_B_makeStep nc_B_makeStep 2 (some .boolean) 1 := ⟨⟨nw_346, nw_1, by decide +kernel, by decide +kernel, by decide +kernel⟩, nw_345, (List.mem_append_left _ (List.mem_of_getElem? (i := 12) (by decide +kernel)))⟩
theorem nk_B_planOrders : zw_YV ny_B_planOrders nc_B_planOrders 6 none 1 := ⟨⟨nw_350, nw_1, by decide +kernel, by decide +kernel, by decide +kernel⟩, nw_349, (List.mem_append_left _ (List.mem_of_getElem? (i := 13) (by decide +kernel)))⟩
theorem nk_R_dueDate : zw_YV ny_R_dueDate nc_R_dueDate 7 (some .int) 2 := ⟨⟨nw_354, nw_2, by decide +kernel, by decide +kernel, by decide +kernel⟩, nw_352, nw_353⟩
theorem nk_C_dayIn : zw_YS ny_C_dayIn nc_C_dayIn 1 (some .int) 1 := ⟨⟨nw_358, nw_8, by decide +kernel, by decide +kernel, by decide +kernel⟩, nw_357⟩
theorem nk_T_min : zw_YS ny_T_min nc_T_min 2 (some .int) 2 := ⟨⟨nw_361, nw_10, by decide +kernel, by decide +kernel, by decide +kernel⟩, nw_360⟩
theorem nk_B_writeStep : zw_YV ny_B_writeStep nc_B_writeStep 5 (some .boolean) 1 := ⟨⟨nw_366, nw_1, by decide +kernel, by decide +kernel, by decide +kernel⟩, nw_365, (List.mem_append_left _ (List.mem_of_getElem? (i := 14) (by decide +kernel)))⟩
theorem nk_B_carryOutOrders : zw_YV ny_B_carryOutOrders nc_B_carryOutOrders 3 none 0 := ⟨⟨nw_371, nw_1, by decide +kernel, by decide +kernel, by decide +kernel⟩, nw_370, (List.mem_append_left _ (List.mem_of_getElem? (i := 15) (by decide +kernel)))⟩
theorem nk_C_dayCount : zw_YS ny_C_dayCount nc_C_dayCount 3 (some .int) 3 := ⟨⟨nw_374, nw_8, by decide +kernel, by decide +kernel, by decide +kernel⟩, nw_373⟩
theorem nk_C_countByMonths : zw_YS ny_C_countByMonths nc_C_countByMonths 6 (some .int) 2 := ⟨⟨nw_377, nw_8, by decide +kernel, by decide +kernel, by decide +kernel⟩, nw_376⟩
theorem nk_A_accrue : zw_YV ny_A_accrue nc_A_accrue 2 none 1 := ⟨⟨nw_385, nw_4, by decide +kernel, by decide +kernel, by decide +kernel⟩, nw_383, nw_384⟩
theorem nk_C_isLastOfMonth : zw_YS ny_C_isLastOfMonth nc_C_isLastOfMonth 1 (some .boolean) 1 := ⟨⟨nw_388, nw_8, by decide +kernel, by decide +kernel, by decide +kernel⟩, nw_387⟩
theorem nk_A_takeInterest : zw_YV ny_A_takeInterest nc_A_takeInterest 5 (some .long) 0 := ⟨⟨nw_392, nw_4, by decide +kernel, by decide +kernel, by decide +kernel⟩, nw_390, nw_391⟩
theorem nk_C_yearOf : zw_YS ny_C_yearOf nc_C_yearOf 1 (some .int) 1 := ⟨⟨nw_396, nw_8, by decide +kernel, by decide +kernel, by decide +kernel⟩, nw_395⟩
theorem nk_A_nearest : zw_YS ny_A_nearest nc_A_nearest 10 (some .long) 2 := ⟨⟨nw_399, nw_4, by decide +kernel, by decide +kernel, by decide +kernel⟩, nw_398⟩
theorem nk_T_floorDivL : zw_YS ny_T_floorDivL nc_T_floorDivL 6 (some .long) 2 := ⟨⟨nw_402, nw_10, by decide +kernel, by decide +kernel, by decide +kernel⟩, nw_401⟩
theorem nk_B_fuse : zw_YV ny_B_fuse nc_B_fuse 2 (some .boolean) 1 := ⟨⟨nw_407, nw_1, by decide +kernel, by decide +kernel, by decide +kernel⟩, nw_405, nw_406⟩
theorem nk_B_restart : zw_YV ny_B_restart nc_B_restart 1 (some .int) 0 := ⟨⟨nw_411, nw_1, by decide +kernel, by decide +kernel, by decide +kernel⟩, nw_409, nw_410⟩
theorem nk_B_balance : zw_YV ny_B_balance nc_B_balance 3 (some .long) 1 := ⟨⟨nw_415, nw_1, by decide +kernel, by decide +kernel, by decide +kernel⟩, nw_413, nw_414⟩
theorem nk_B_shownAccount : zw_YV ny_B_shownAccount nc_B_shownAccount 2 (some (.object "DayEndBank$Account")) 1 := ⟨⟨nw_419, nw_1, by decide +kernel, by decide +kernel, by decide +kernel⟩, nw_418, (List.mem_append_left _ (List.mem_of_getElem? (i := 16) (by decide +kernel)))⟩
theorem nk_B_available : zw_YV ny_B_available nc_B_available 3 (some .long) 1 := ⟨⟨nw_423, nw_1, by decide +kernel, by decide +kernel, by decide +kernel⟩, nw_421, nw_422⟩
theorem nk_B_accrued : zw_YV ny_B_accrued nc_B_accrued 3 (some .long) 1 := ⟨⟨nw_427, nw_1, by decide +kernel, by decide +kernel, by decide +kernel⟩, nw_425, nw_426⟩
theorem nk_B_mark : zw_YV ny_B_mark nc_B_mark 3 (some .int) 1 := ⟨⟨nw_431, nw_1, by decide +kernel, by decide +kernel, by decide +kernel⟩, nw_429, nw_430⟩
theorem nk_B_ledger : zw_YV ny_B_ledger nc_B_ledger 3 (some .long) 2 := ⟨⟨nw_435, nw_1, by decide +kernel, by decide +kernel, by decide +kernel⟩, nw_433, nw_434⟩
theorem nk_B_sumOfBalances : zw_YV ny_B_sumOfBalances nc_B_sumOfBalances 5 (some .long) 1 := ⟨⟨nw_439, nw_1, by decide +kernel, by decide +kernel, by decide +kernel⟩, nw_438, (List.mem_append_left _ (List.mem_of_getElem? (i := 17) (by decide +kernel)))⟩
theorem nk_B_missed : zw_YV ny_B_missed nc_B_missed 2 (some .int) 1 := ⟨⟨nw_443, nw_1, by decide +kernel, by decide +kernel, by decide +kernel⟩, nw_441, nw_442⟩
theorem nk_B_today : zw_YV ny_B_today nc_B_today 1 (some .int) 0 := ⟨⟨nw_447, nw_1, by decide +kernel, by decide +kernel, by decide +kernel⟩, nw_445, nw_446⟩
theorem nk_B_count : zw_YV ny_B_count nc_B_count 4 (some .int) 3 := ⟨⟨nw_451, nw_1, by decide +kernel, by decide +kernel, by decide +kernel⟩, nw_449, nw_450⟩
theorem nk_B_writes : zw_YV ny_B_writes nc_B_writes 1 (some .int) 0 := ⟨⟨nw_456, nw_1, by decide +kernel, by decide +kernel, by decide +kernel⟩, nw_454, nw_455⟩
theorem nk_B_lines : zw_YV ny_B_lines nc_B_lines 1 (some .int) 0 := ⟨⟨nw_460, nw_1, by decide +kernel, by decide +kernel, by decide +kernel⟩, nw_458, nw_459⟩
theorem nk_M_open : zw_YV ny_M_open nc_M_open 5 (some .int) 4 := ⟨⟨nw_564, nw_7, by decide +kernel, by decide +kernel, by decide +kernel⟩, nw_562, nw_563⟩
theorem nk_M_shut : zw_YV ny_M_shut nc_M_shut 1 (some .int) 0 := ⟨⟨nw_568, nw_7, by decide +kernel, by decide +kernel, by decide +kernel⟩, nw_567, (List.mem_append_left _ (List.mem_of_getElem? (i := 18) (by decide +kernel)))⟩
theorem nk_M_comes : zw_YV ny_M_comes nc_M_comes 5 (some .boolean) 2 := ⟨⟨nw_573, nw_7, by decide +kernel, by decide +kernel, by decide +kernel⟩, nw_572, (List.mem_append_left _ (List.mem_of_getElem? (i := 19) (by decide +kernel)))⟩
theorem nk_M_afford : zw_YV ny_M_afford nc_M_afford 2 (some .boolean) 1 := ⟨⟨nw_577, nw_7, by decide +kernel, by decide +kernel, by decide +kernel⟩, nw_576, (List.mem_append_left _ (List.mem_of_getElem? (i := 20) (by decide +kernel)))⟩
theorem nk_M_spend : zw_YV ny_M_spend nc_M_spend 2 none 1 := ⟨⟨nw_581, nw_7, by decide +kernel, by decide +kernel, by decide +kernel⟩, nw_580, (List.mem_append_left _ (List.mem_of_getElem? (i := 21) (by decide +kernel)))⟩
theorem nk_M_pay : zw_YV ny_M_pay nc_M_pay 4 (some .int) 3 := ⟨⟨nw_585, nw_7, by decide +kernel, by decide +kernel, by decide +kernel⟩, nw_583, nw_584⟩
theorem nk_M_pair : zw_YV ny_M_pair nc_M_pair 4 (some .boolean) 2 := ⟨⟨nw_589, nw_7, by decide +kernel, by decide +kernel, by decide +kernel⟩, nw_588, (List.mem_append_left _ (List.mem_of_getElem? (i := 22) (by decide +kernel)))⟩
theorem nk_M_is : zw_YV ny_M_is nc_M_is 2 (some .boolean) 1 := ⟨⟨nw_593, nw_7, by decide +kernel, by decide +kernel, by decide +kernel⟩, nw_592, (List.mem_append_left _ (List.mem_of_getElem? (i := 23) (by decide +kernel)))⟩
theorem nk_M_amountOk : zw_YV ny_M_amountOk nc_M_amountOk 2 (some .boolean) 1 := ⟨⟨nw_597, nw_7, by decide +kernel, by decide +kernel, by decide +kernel⟩, nw_596, (List.mem_append_left _ (List.mem_of_getElem? (i := 24) (by decide +kernel)))⟩
theorem nk_M_free : zw_YV ny_M_free nc_M_free 5 (some .long) 1 := ⟨⟨nw_601, nw_7, by decide +kernel, by decide +kernel, by decide +kernel⟩, nw_600, (List.mem_append_left _ (List.mem_of_getElem? (i := 25) (by decide +kernel)))⟩
theorem nk_M_linesOf : zw_YV ny_M_linesOf nc_M_linesOf 3 (some .int) 2 := ⟨⟨nw_605, nw_7, by decide +kernel, by decide +kernel, by decide +kernel⟩, nw_604, (List.mem_append_left _ (List.mem_of_getElem? (i := 26) (by decide +kernel)))⟩
theorem nk_M_setOf : zw_YV ny_M_setOf nc_M_setOf 3 (some .int) 2 := ⟨⟨nw_609, nw_7, by decide +kernel, by decide +kernel, by decide +kernel⟩, nw_608, (List.mem_append_left _ (List.mem_of_getElem? (i := 27) (by decide +kernel)))⟩
theorem nk_M_transfer : zw_YV ny_M_transfer nc_M_transfer 4 none 3 := ⟨⟨nw_613, nw_7, by decide +kernel, by decide +kernel, by decide +kernel⟩, nw_612, (List.mem_append_left _ (List.mem_of_getElem? (i := 28) (by decide +kernel)))⟩
theorem nk_M_hold : zw_YV ny_M_hold nc_M_hold 4 (some .int) 2 := ⟨⟨nw_617, nw_7, by decide +kernel, by decide +kernel, by decide +kernel⟩, nw_615, nw_616⟩
theorem nk_M_release : zw_YV ny_M_release nc_M_release 2 (some .int) 1 := ⟨⟨nw_621, nw_7, by decide +kernel, by decide +kernel, by decide +kernel⟩, nw_619, nw_620⟩
theorem nk_M_stands : zw_YV ny_M_stands nc_M_stands 2 (some .boolean) 1 := ⟨⟨nw_625, nw_7, by decide +kernel, by decide +kernel, by decide +kernel⟩, nw_624, (List.mem_append_left _ (List.mem_of_getElem? (i := 29) (by decide +kernel)))⟩
theorem nk_M_settle : zw_YV ny_M_settle nc_M_settle 5 (some .int) 3 := ⟨⟨nw_629, nw_7, by decide +kernel, by decide +kernel, by decide +kernel⟩, nw_627, nw_628⟩
theorem nk_M_order : zw_YV ny_M_order nc_M_order 5 (some .int) 4 := ⟨⟨nw_633, nw_7, by decide +kernel, by decide +kernel, by decide +kernel⟩, nw_631, nw_632⟩
theorem nk_M_rest : zw_YV ny_M_rest nc_M_rest 2 (some .int) 1 := ⟨⟨nw_637, nw_7, by decide +kernel, by decide +kernel, by decide +kernel⟩, nw_635, nw_636⟩
theorem nk_M_resting : zw_YV ny_M_resting nc_M_resting 4 (some .boolean) 1 := ⟨⟨nw_641, nw_7, by decide +kernel, by decide +kernel, by decide +kernel⟩, nw_640, (List.mem_append_left _ (List.mem_of_getElem? (i := 30) (by decide +kernel)))⟩
theorem nk_M_later : zw_YV ny_M_later nc_M_later 3 (some .boolean) 1 := ⟨⟨nw_645, nw_7, by decide +kernel, by decide +kernel, by decide +kernel⟩, nw_644, (List.mem_append_left _ (List.mem_of_getElem? (i := 31) (by decide +kernel)))⟩
theorem nk_M_walk : zw_YV ny_M_walk nc_M_walk 4 none 1 := ⟨⟨nw_649, nw_7, by decide +kernel, by decide +kernel, by decide +kernel⟩, nw_648, (List.mem_append_left _ (List.mem_of_getElem? (i := 32) (by decide +kernel)))⟩
theorem nk_M_leap : zw_YS ny_M_leap nc_M_leap 1 (some .boolean) 1 := ⟨⟨nw_652, nw_7, by decide +kernel, by decide +kernel, by decide +kernel⟩, nw_651⟩
theorem nk_M_length : zw_YS ny_M_length nc_M_length 2 (some .int) 2 := ⟨⟨nw_655, nw_7, by decide +kernel, by decide +kernel, by decide +kernel⟩, nw_654⟩
theorem nk_M_run : zw_YV ny_M_run nc_M_run 3 (some .int) 1 := ⟨⟨nw_659, nw_7, by decide +kernel, by decide +kernel, by decide +kernel⟩, nw_657, nw_658⟩
theorem nk_M_dayEnd : zw_YV ny_M_dayEnd nc_M_dayEnd 2 (some .boolean) 0 := ⟨⟨nw_663, nw_7, by decide +kernel, by decide +kernel, by decide +kernel⟩, nw_662, (List.mem_append_left _ (List.mem_of_getElem? (i := 33) (by decide +kernel)))⟩
theorem nk_M_step : zw_YV ny_M_step nc_M_step 6 (some .boolean) 1 := ⟨⟨nw_667, nw_7, by decide +kernel, by decide +kernel, by decide +kernel⟩, nw_666, (List.mem_append_left _ (List.mem_of_getElem? (i := 34) (by decide +kernel)))⟩
theorem nk_M_paidOrders : zw_YV ny_M_paidOrders nc_M_paidOrders 6 (some .int) 1 := ⟨⟨nw_671, nw_7, by decide +kernel, by decide +kernel, by decide +kernel⟩, nw_670, (List.mem_append_left _ (List.mem_of_getElem? (i := 35) (by decide +kernel)))⟩
theorem nk_M_due : zw_YV ny_M_due nc_M_due 7 (some .boolean) 1 := ⟨⟨nw_675, nw_7, by decide +kernel, by decide +kernel, by decide +kernel⟩, nw_674, (List.mem_append_left _ (List.mem_of_getElem? (i := 36) (by decide +kernel)))⟩
theorem nk_M_grow : zw_YV ny_M_grow nc_M_grow 9 none 1 := ⟨⟨nw_679, nw_7, by decide +kernel, by decide +kernel, by decide +kernel⟩, nw_678, (List.mem_append_left _ (List.mem_of_getElem? (i := 37) (by decide +kernel)))⟩
theorem nk_M_days : zw_YV ny_M_days nc_M_days 8 (some .int) 3 := ⟨⟨nw_683, nw_7, by decide +kernel, by decide +kernel, by decide +kernel⟩, nw_682, (List.mem_append_left _ (List.mem_of_getElem? (i := 38) (by decide +kernel)))⟩
theorem nk_M_fuse : zw_YV ny_M_fuse nc_M_fuse 2 (some .boolean) 1 := ⟨⟨nw_689, nw_7, by decide +kernel, by decide +kernel, by decide +kernel⟩, nw_687, nw_688⟩
theorem nk_M_restart : zw_YV ny_M_restart nc_M_restart 1 (some .int) 0 := ⟨⟨nw_693, nw_7, by decide +kernel, by decide +kernel, by decide +kernel⟩, nw_691, nw_692⟩
theorem nk_M_balance : zw_YV ny_M_balance nc_M_balance 2 (some .long) 1 := ⟨⟨nw_697, nw_7, by decide +kernel, by decide +kernel, by decide +kernel⟩, nw_695, nw_696⟩
theorem nk_M_available : zw_YV ny_M_available nc_M_available 2 (some .long) 1 := ⟨⟨nw_701, nw_7, by decide +kernel, by decide +kernel, by decide +kernel⟩, nw_699, nw_700⟩
theorem nk_M_accrued : zw_YV ny_M_accrued nc_M_accrued 2 (some .long) 1 := ⟨⟨nw_705, nw_7, by decide +kernel, by decide +kernel, by decide +kernel⟩, nw_703, nw_704⟩
theorem nk_M_mark : zw_YV ny_M_mark nc_M_mark 2 (some .int) 1 := ⟨⟨nw_709, nw_7, by decide +kernel, by decide +kernel, by decide +kernel⟩, nw_707, nw_708⟩
theorem nk_M_ledger : zw_YV ny_M_ledger nc_M_ledger 6 (some .long) 2 := ⟨⟨nw_713, nw_7, by decide +kernel, by decide +kernel, by decide +kernel⟩, nw_711, nw_712⟩
theorem nk_M_missed : zw_YV ny_M_missed nc_M_missed 2 (some .int) 1 := ⟨⟨nw_717, nw_7, by decide +kernel, by decide +kernel, by decide +kernel⟩, nw_715, nw_716⟩
theorem nk_M_today : zw_YV ny_M_today nc_M_today 1 (some .int) 0 := ⟨⟨nw_721, nw_7, by decide +kernel, by decide +kernel, by decide +kernel⟩, nw_719, nw_720⟩
theorem nk_M_count : zw_YV ny_M_count nc_M_count 4 (some .int) 3 := ⟨⟨nw_725, nw_7, by decide +kernel, by decide +kernel, by decide +kernel⟩, nw_723, nw_724⟩
theorem nk_M_writes : zw_YV ny_M_writes nc_M_writes 1 (some .int) 0 := ⟨⟨nw_730, nw_7, by decide +kernel, by decide +kernel, by decide +kernel⟩, nw_728, nw_729⟩
theorem nk_M_lines : zw_YV ny_M_lines nc_M_lines 1 (some .int) 0 := ⟨⟨nw_734, nw_7, by decide +kernel, by decide +kernel, by decide +kernel⟩, nw_732, nw_733⟩
theorem zw_inB : ∀ w ∈ u_ws nR_B nT_B 11, w ∈ zw_big := by
  intro w hw
  obtain ⟨k, hk, rfl⟩ := List.mem_map.mp hw
  rw [List.mem_range] at hk
  rcases (show k = 0 ∨ k = 1 ∨ k = 2 ∨ k = 3 ∨ k = 4 ∨ k = 5 ∨ k = 6 ∨ k = 7 ∨ k = 8 ∨ k = 9 ∨ k = 10 by omega) with rfl | rfl | rfl | rfl | rfl | rfl | rfl | rfl | rfl | rfl | rfl
  · exact nw_166
  · exact nw_168
  · exact nw_170
  · exact nw_172
  · exact nw_174
  · exact nw_176
  · exact nw_178
  · exact nw_180
  · exact nw_182
  · exact nw_184
  · exact nw_186
theorem zw_inA : ∀ w ∈ u_ws nR_A nT_A 9, w ∈ zw_big := by
  intro w hw
  obtain ⟨k, hk, rfl⟩ := List.mem_map.mp hw
  rw [List.mem_range] at hk
  rcases (show k = 0 ∨ k = 1 ∨ k = 2 ∨ k = 3 ∨ k = 4 ∨ k = 5 ∨ k = 6 ∨ k = 7 ∨ k = 8 by omega) with rfl | rfl | rfl | rfl | rfl | rfl | rfl | rfl | rfl
  · exact nw_90
  · exact nw_92
  · exact nw_94
  · exact nw_96
  · exact nw_98
  · exact nw_100
  · exact nw_102
  · exact nw_104
  · exact nw_106
theorem zw_inH : ∀ w ∈ u_ws nR_H nT_H 2, w ∈ zw_big := by
  intro w hw
  obtain ⟨k, hk, rfl⟩ := List.mem_map.mp hw
  rw [List.mem_range] at hk
  rcases (show k = 0 ∨ k = 1 by omega) with rfl | rfl
  · exact nw_119
  · exact nw_121
theorem zw_inO : ∀ w ∈ u_ws nR_O nT_O 7, w ∈ zw_big := by
  intro w hw
  obtain ⟨k, hk, rfl⟩ := List.mem_map.mp hw
  rw [List.mem_range] at hk
  rcases (show k = 0 ∨ k = 1 ∨ k = 2 ∨ k = 3 ∨ k = 4 ∨ k = 5 ∨ k = 6 by omega) with rfl | rfl | rfl | rfl | rfl | rfl | rfl
  · exact nw_140
  · exact nw_142
  · exact nw_144
  · exact nw_146
  · exact nw_148
  · exact nw_150
  · exact nw_152
theorem zw_inR : ∀ w ∈ u_ws nR_R nT_R 2, w ∈ zw_big := by
  intro w hw
  obtain ⟨k, hk, rfl⟩ := List.mem_map.mp hw
  rw [List.mem_range] at hk
  rcases (show k = 0 ∨ k = 1 by omega) with rfl | rfl
  · exact nw_33
  · exact nw_35
theorem zw_inD : ∀ w ∈ u_ws nR_D nT_D 6, w ∈ zw_big := by
  intro w hw
  obtain ⟨k, hk, rfl⟩ := List.mem_map.mp hw
  rw [List.mem_range] at hk
  rcases (show k = 0 ∨ k = 1 ∨ k = 2 ∨ k = 3 ∨ k = 4 ∨ k = 5 by omega) with rfl | rfl | rfl | rfl | rfl | rfl
  · exact nw_56
  · exact nw_58
  · exact nw_60
  · exact nw_62
  · exact nw_64
  · exact nw_66
theorem zw_inM : ∀ w ∈ u_ws nR_M nT_M 31, w ∈ zw_big := by
  intro w hw
  obtain ⟨k, hk, rfl⟩ := List.mem_map.mp hw
  rw [List.mem_range] at hk
  rcases (show k = 0 ∨ k = 1 ∨ k = 2 ∨ k = 3 ∨ k = 4 ∨ k = 5 ∨ k = 6 ∨ k = 7 ∨ k = 8 ∨ k = 9 ∨ k = 10 ∨ k = 11 ∨ k = 12 ∨ k = 13 ∨ k = 14 ∨ k = 15 ∨ k = 16 ∨ k = 17 ∨ k = 18 ∨ k = 19 ∨ k = 20 ∨ k = 21 ∨ k = 22 ∨ k = 23 ∨ k = 24 ∨ k = 25 ∨ k = 26 ∨ k = 27 ∨ k = 28 ∨ k = 29 ∨ k = 30 by omega) with rfl | rfl | rfl | rfl | rfl | rfl | rfl | rfl | rfl | rfl | rfl | rfl | rfl | rfl | rfl | rfl | rfl | rfl | rfl | rfl | rfl | rfl | rfl | rfl | rfl | rfl | rfl | rfl | rfl | rfl | rfl
  · exact nw_498
  · exact nw_500
  · exact nw_502
  · exact nw_504
  · exact nw_506
  · exact nw_508
  · exact nw_510
  · exact nw_512
  · exact nw_514
  · exact nw_516
  · exact nw_518
  · exact nw_520
  · exact nw_522
  · exact nw_524
  · exact nw_526
  · exact nw_528
  · exact nw_530
  · exact nw_532
  · exact nw_534
  · exact nw_536
  · exact nw_538
  · exact nw_540
  · exact nw_542
  · exact nw_544
  · exact nw_546
  · exact nw_548
  · exact nw_550
  · exact nw_552
  · exact nw_554
  · exact nw_556
  · exact nw_558
end
section
/-! STATE: what the class (zb) and the reference (zm) hold, as plain tuples; readers zb_x, writers zb_sx; addresses zg_G, zh_G -/
abbrev zb_TA : Type := (Nat → Int32) × (Nat → Int32) × (Nat → Int32) × (Nat → Int32) × (Nat → Int64) × (Nat → Int64) × (Nat → Int64) × (Nat → Int32)
abbrev zb_TH : Type := (Nat → Option Nat) × (Nat → Int32)
abbrev zb_TO : Type := (Nat → Option Nat) × (Nat → Option Nat) × (Nat → Int32) × (Nat → Int32) × (Nat → Int32) × (Nat → Int32) × (Nat → Int32)
abbrev zb_TR : Type := (Nat → Int32) × Int32
abbrev zb_TD : Type := Int32 × Int32 × Int32 × Int32 × Int32 × Int32
abbrev zb_TM : Type := (Nat → Int64) × (Nat → Int64) × Int32 × Int32 × Int32 × Int32
abbrev zb_S : Type := zb_TA × zb_TH × zb_TO × zb_TR × zb_TD × zb_TM
def zb_A (S : zb_S) : zb_TA := S.1
def zb_sA (S : zb_S) (x : zb_TA) : zb_S := (x, S.2.1, S.2.2.1, S.2.2.2.1, S.2.2.2.2.1, S.2.2.2.2.2)
def zbA_cur (x : zb_TA) : Nat → Int32 := x.1
def zb_cur (S : zb_S) : Nat → Int32 := zbA_cur (zb_A S)
def zbA_scur (x : zb_TA) (v : Nat → Int32) : zb_TA := (v, x.2.1, x.2.2.1, x.2.2.2.1, x.2.2.2.2.1, x.2.2.2.2.2.1, x.2.2.2.2.2.2.1, x.2.2.2.2.2.2.2)
def zb_scur (S : zb_S) (v : Nat → Int32) : zb_S := zb_sA S (zbA_scur (zb_A S) v)
def zbA_bas (x : zb_TA) : Nat → Int32 := x.2.1
def zb_bas (S : zb_S) : Nat → Int32 := zbA_bas (zb_A S)
def zbA_sbas (x : zb_TA) (v : Nat → Int32) : zb_TA := (x.1, v, x.2.2.1, x.2.2.2.1, x.2.2.2.2.1, x.2.2.2.2.2.1, x.2.2.2.2.2.2.1, x.2.2.2.2.2.2.2)
def zb_sbas (S : zb_S) (v : Nat → Int32) : zb_S := zb_sA S (zbA_sbas (zb_A S) v)
def zbA_lim (x : zb_TA) : Nat → Int32 := x.2.2.1
def zb_lim (S : zb_S) : Nat → Int32 := zbA_lim (zb_A S)
def zbA_slim (x : zb_TA) (v : Nat → Int32) : zb_TA := (x.1, x.2.1, v, x.2.2.2.1, x.2.2.2.2.1, x.2.2.2.2.2.1, x.2.2.2.2.2.2.1, x.2.2.2.2.2.2.2)
def zb_slim (S : zb_S) (v : Nat → Int32) : zb_S := zb_sA S (zbA_slim (zb_A S) v)
def zbA_rat (x : zb_TA) : Nat → Int32 := x.2.2.2.1
def zb_rat (S : zb_S) : Nat → Int32 := zbA_rat (zb_A S)
def zbA_srat (x : zb_TA) (v : Nat → Int32) : zb_TA := (x.1, x.2.1, x.2.2.1, v, x.2.2.2.2.1, x.2.2.2.2.2.1, x.2.2.2.2.2.2.1, x.2.2.2.2.2.2.2)
def zb_srat (S : zb_S) (v : Nat → Int32) : zb_S := zb_sA S (zbA_srat (zb_A S) v)
def zbA_bal (x : zb_TA) : Nat → Int64 := x.2.2.2.2.1
def zb_bal (S : zb_S) : Nat → Int64 := zbA_bal (zb_A S)
def zbA_sbal (x : zb_TA) (v : Nat → Int64) : zb_TA := (x.1, x.2.1, x.2.2.1, x.2.2.2.1, v, x.2.2.2.2.2.1, x.2.2.2.2.2.2.1, x.2.2.2.2.2.2.2)
def zb_sbal (S : zb_S) (v : Nat → Int64) : zb_S := zb_sA S (zbA_sbal (zb_A S) v)
def zbA_hel (x : zb_TA) : Nat → Int64 := x.2.2.2.2.2.1
def zb_hel (S : zb_S) : Nat → Int64 := zbA_hel (zb_A S)
def zbA_shel (x : zb_TA) (v : Nat → Int64) : zb_TA := (x.1, x.2.1, x.2.2.1, x.2.2.2.1, x.2.2.2.2.1, v, x.2.2.2.2.2.2.1, x.2.2.2.2.2.2.2)
def zb_shel (S : zb_S) (v : Nat → Int64) : zb_S := zb_sA S (zbA_shel (zb_A S) v)
def zbA_acr (x : zb_TA) : Nat → Int64 := x.2.2.2.2.2.2.1
def zb_acr (S : zb_S) : Nat → Int64 := zbA_acr (zb_A S)
def zbA_sacr (x : zb_TA) (v : Nat → Int64) : zb_TA := (x.1, x.2.1, x.2.2.1, x.2.2.2.1, x.2.2.2.2.1, x.2.2.2.2.2.1, v, x.2.2.2.2.2.2.2)
def zb_sacr (S : zb_S) (v : Nat → Int64) : zb_S := zb_sA S (zbA_sacr (zb_A S) v)
def zbA_mrk (x : zb_TA) : Nat → Int32 := x.2.2.2.2.2.2.2
def zb_mrk (S : zb_S) : Nat → Int32 := zbA_mrk (zb_A S)
def zbA_smrk (x : zb_TA) (v : Nat → Int32) : zb_TA := (x.1, x.2.1, x.2.2.1, x.2.2.2.1, x.2.2.2.2.1, x.2.2.2.2.2.1, x.2.2.2.2.2.2.1, v)
def zb_smrk (S : zb_S) (v : Nat → Int32) : zb_S := zb_sA S (zbA_smrk (zb_A S) v)
def zb_H (S : zb_S) : zb_TH := S.2.1
def zb_sH (S : zb_S) (x : zb_TH) : zb_S := (S.1, x, S.2.2.1, S.2.2.2.1, S.2.2.2.2.1, S.2.2.2.2.2)
def zbH_hol (x : zb_TH) : Nat → Option Nat := x.1
def zb_hol (S : zb_S) : Nat → Option Nat := zbH_hol (zb_H S)
def zbH_shol (x : zb_TH) (v : Nat → Option Nat) : zb_TH := (v, x.2)
def zb_shol (S : zb_S) (v : Nat → Option Nat) : zb_S := zb_sH S (zbH_shol (zb_H S) v)
def zbH_ham (x : zb_TH) : Nat → Int32 := x.2
def zb_ham (S : zb_S) : Nat → Int32 := zbH_ham (zb_H S)
def zbH_sham (x : zb_TH) (v : Nat → Int32) : zb_TH := (x.1, v)
def zb_sham (S : zb_S) (v : Nat → Int32) : zb_S := zb_sH S (zbH_sham (zb_H S) v)
def zb_O (S : zb_S) : zb_TO := S.2.2.1
def zb_sO (S : zb_S) (x : zb_TO) : zb_S := (S.1, S.2.1, x, S.2.2.2.1, S.2.2.2.2.1, S.2.2.2.2.2)
def zbO_pyr (x : zb_TO) : Nat → Option Nat := x.1
def zb_pyr (S : zb_S) : Nat → Option Nat := zbO_pyr (zb_O S)
def zbO_spyr (x : zb_TO) (v : Nat → Option Nat) : zb_TO := (v, x.2.1, x.2.2.1, x.2.2.2.1, x.2.2.2.2.1, x.2.2.2.2.2.1, x.2.2.2.2.2.2)
def zb_spyr (S : zb_S) (v : Nat → Option Nat) : zb_S := zb_sO S (zbO_spyr (zb_O S) v)
def zbO_pye (x : zb_TO) : Nat → Option Nat := x.2.1
def zb_pye (S : zb_S) : Nat → Option Nat := zbO_pye (zb_O S)
def zbO_spye (x : zb_TO) (v : Nat → Option Nat) : zb_TO := (x.1, v, x.2.2.1, x.2.2.2.1, x.2.2.2.2.1, x.2.2.2.2.2.1, x.2.2.2.2.2.2)
def zb_spye (S : zb_S) (v : Nat → Option Nat) : zb_S := zb_sO S (zbO_spye (zb_O S) v)
def zbO_oam (x : zb_TO) : Nat → Int32 := x.2.2.1
def zb_oam (S : zb_S) : Nat → Int32 := zbO_oam (zb_O S)
def zbO_soam (x : zb_TO) (v : Nat → Int32) : zb_TO := (x.1, x.2.1, v, x.2.2.2.1, x.2.2.2.2.1, x.2.2.2.2.2.1, x.2.2.2.2.2.2)
def zb_soam (S : zb_S) (v : Nat → Int32) : zb_S := zb_sO S (zbO_soam (zb_O S) v)
def zbO_ody (x : zb_TO) : Nat → Int32 := x.2.2.2.1
def zb_ody (S : zb_S) : Nat → Int32 := zbO_ody (zb_O S)
def zbO_sody (x : zb_TO) (v : Nat → Int32) : zb_TO := (x.1, x.2.1, x.2.2.1, v, x.2.2.2.2.1, x.2.2.2.2.2.1, x.2.2.2.2.2.2)
def zb_sody (S : zb_S) (v : Nat → Int32) : zb_S := zb_sO S (zbO_sody (zb_O S) v)
def zbO_oms (x : zb_TO) : Nat → Int32 := x.2.2.2.2.1
def zb_oms (S : zb_S) : Nat → Int32 := zbO_oms (zb_O S)
def zbO_soms (x : zb_TO) (v : Nat → Int32) : zb_TO := (x.1, x.2.1, x.2.2.1, x.2.2.2.1, v, x.2.2.2.2.2.1, x.2.2.2.2.2.2)
def zb_soms (S : zb_S) (v : Nat → Int32) : zb_S := zb_sO S (zbO_soms (zb_O S) v)
def zbO_odu (x : zb_TO) : Nat → Int32 := x.2.2.2.2.2.1
def zb_odu (S : zb_S) : Nat → Int32 := zbO_odu (zb_O S)
def zbO_sodu (x : zb_TO) (v : Nat → Int32) : zb_TO := (x.1, x.2.1, x.2.2.1, x.2.2.2.1, x.2.2.2.2.1, v, x.2.2.2.2.2.2)
def zb_sodu (S : zb_S) (v : Nat → Int32) : zb_S := zb_sO S (zbO_sodu (zb_O S) v)
def zbO_opd (x : zb_TO) : Nat → Int32 := x.2.2.2.2.2.2
def zb_opd (S : zb_S) : Nat → Int32 := zbO_opd (zb_O S)
def zbO_sopd (x : zb_TO) (v : Nat → Int32) : zb_TO := (x.1, x.2.1, x.2.2.1, x.2.2.2.1, x.2.2.2.2.1, x.2.2.2.2.2.1, v)
def zb_sopd (S : zb_S) (v : Nat → Int32) : zb_S := zb_sO S (zbO_sopd (zb_O S) v)
def zb_R (S : zb_S) : zb_TR := S.2.2.2.1
def zb_sR (S : zb_S) (x : zb_TR) : zb_S := (S.1, S.2.1, S.2.2.1, x, S.2.2.2.2.1, S.2.2.2.2.2)
def zbR_dat (x : zb_TR) : Nat → Int32 := x.1
def zb_dat (S : zb_S) : Nat → Int32 := zbR_dat (zb_R S)
def zbR_sdat (x : zb_TR) (v : Nat → Int32) : zb_TR := (v, x.2)
def zb_sdat (S : zb_S) (v : Nat → Int32) : zb_S := zb_sR S (zbR_sdat (zb_R S) v)
def zbR_dm (x : zb_TR) : Int32 := x.2
def zb_dm (S : zb_S) : Int32 := zbR_dm (zb_R S)
def zbR_sdm (x : zb_TR) (v : Int32) : zb_TR := (x.1, v)
def zb_sdm (S : zb_S) (v : Int32) : zb_S := zb_sR S (zbR_sdm (zb_R S) v)
def zb_D (S : zb_S) : zb_TD := S.2.2.2.2.1
def zb_sD (S : zb_S) (x : zb_TD) : zb_S := (S.1, S.2.1, S.2.2.1, S.2.2.2.1, x, S.2.2.2.2.2)
def zbD_stp (x : zb_TD) : Int32 := x.1
def zb_stp (S : zb_S) : Int32 := zbD_stp (zb_D S)
def zbD_sstp (x : zb_TD) (v : Int32) : zb_TD := (v, x.2.1, x.2.2.1, x.2.2.2.1, x.2.2.2.2.1, x.2.2.2.2.2)
def zb_sstp (S : zb_S) (v : Int32) : zb_S := zb_sD S (zbD_sstp (zb_D S) v)
def zbD_wm (x : zb_TD) : Int32 := x.2.1
def zb_wm (S : zb_S) : Int32 := zbD_wm (zb_D S)
def zbD_swm (x : zb_TD) (v : Int32) : zb_TD := (x.1, v, x.2.2.1, x.2.2.2.1, x.2.2.2.2.1, x.2.2.2.2.2)
def zb_swm (S : zb_S) (v : Int32) : zb_S := zb_sD S (zbD_swm (zb_D S) v)
def zbD_wl (x : zb_TD) : Int32 := x.2.2.1
def zb_wl (S : zb_S) : Int32 := zbD_wl (zb_D S)
def zbD_swl (x : zb_TD) (v : Int32) : zb_TD := (x.1, x.2.1, v, x.2.2.2.1, x.2.2.2.2.1, x.2.2.2.2.2)
def zb_swl (S : zb_S) (v : Int32) : zb_S := zb_sD S (zbD_swl (zb_D S) v)
def zbD_lin (x : zb_TD) : Int32 := x.2.2.2.1
def zb_lin (S : zb_S) : Int32 := zbD_lin (zb_D S)
def zbD_slin (x : zb_TD) (v : Int32) : zb_TD := (x.1, x.2.1, x.2.2.1, v, x.2.2.2.2.1, x.2.2.2.2.2)
def zb_slin (S : zb_S) (v : Int32) : zb_S := zb_sD S (zbD_slin (zb_D S) v)
def zbD_trn (x : zb_TD) : Int32 := x.2.2.2.2.1
def zb_trn (S : zb_S) : Int32 := zbD_trn (zb_D S)
def zbD_strn (x : zb_TD) (v : Int32) : zb_TD := (x.1, x.2.1, x.2.2.1, x.2.2.2.1, v, x.2.2.2.2.2)
def zb_strn (S : zb_S) (v : Int32) : zb_S := zb_sD S (zbD_strn (zb_D S) v)
def zbD_chg (x : zb_TD) : Int32 := x.2.2.2.2.2
def zb_chg (S : zb_S) : Int32 := zbD_chg (zb_D S)
def zbD_schg (x : zb_TD) (v : Int32) : zb_TD := (x.1, x.2.1, x.2.2.1, x.2.2.2.1, x.2.2.2.2.1, v)
def zb_schg (S : zb_S) (v : Int32) : zb_S := zb_sD S (zbD_schg (zb_D S) v)
def zb_M (S : zb_S) : zb_TM := S.2.2.2.2.2
def zb_sM (S : zb_S) (x : zb_TM) : zb_S := (S.1, S.2.1, S.2.2.1, S.2.2.2.1, S.2.2.2.2.1, x)
def zbM_csh (x : zb_TM) : Nat → Int64 := x.1
def zb_csh (S : zb_S) : Nat → Int64 := zbM_csh (zb_M S)
def zbM_scsh (x : zb_TM) (v : Nat → Int64) : zb_TM := (v, x.2.1, x.2.2.1, x.2.2.2.1, x.2.2.2.2.1, x.2.2.2.2.2)
def zb_scsh (S : zb_S) (v : Nat → Int64) : zb_S := zb_sM S (zbM_scsh (zb_M S) v)
def zbM_itr (x : zb_TM) : Nat → Int64 := x.2.1
def zb_itr (S : zb_S) : Nat → Int64 := zbM_itr (zb_M S)
def zbM_sitr (x : zb_TM) (v : Nat → Int64) : zb_TM := (x.1, v, x.2.2.1, x.2.2.2.1, x.2.2.2.2.1, x.2.2.2.2.2)
def zb_sitr (S : zb_S) (v : Nat → Int64) : zb_S := zb_sM S (zbM_sitr (zb_M S) v)
def zbM_n (x : zb_TM) : Int32 := x.2.2.1
def zb_n (S : zb_S) : Int32 := zbM_n (zb_M S)
def zbM_sn (x : zb_TM) (v : Int32) : zb_TM := (x.1, x.2.1, v, x.2.2.2.1, x.2.2.2.2.1, x.2.2.2.2.2)
def zb_sn (S : zb_S) (v : Int32) : zb_S := zb_sM S (zbM_sn (zb_M S) v)
def zbM_o (x : zb_TM) : Int32 := x.2.2.2.1
def zb_o (S : zb_S) : Int32 := zbM_o (zb_M S)
def zbM_so (x : zb_TM) (v : Int32) : zb_TM := (x.1, x.2.1, x.2.2.1, v, x.2.2.2.2.1, x.2.2.2.2.2)
def zb_so (S : zb_S) (v : Int32) : zb_S := zb_sM S (zbM_so (zb_M S) v)
def zbM_bd (x : zb_TM) : Int32 := x.2.2.2.2.1
def zb_bd (S : zb_S) : Int32 := zbM_bd (zb_M S)
def zbM_sbd (x : zb_TM) (v : Int32) : zb_TM := (x.1, x.2.1, x.2.2.1, x.2.2.2.1, v, x.2.2.2.2.2)
def zb_sbd (S : zb_S) (v : Int32) : zb_S := zb_sM S (zbM_sbd (zb_M S) v)
def zbM_de (x : zb_TM) : Int32 := x.2.2.2.2.2
def zb_de (S : zb_S) : Int32 := zbM_de (zb_M S)
def zbM_sde (x : zb_TM) (v : Int32) : zb_TM := (x.1, x.2.1, x.2.2.1, x.2.2.2.1, x.2.2.2.2.1, v)
def zb_sde (S : zb_S) (v : Int32) : zb_S := zb_sM S (zbM_sde (zb_M S) v)
abbrev zm_TA : Type := (Nat → Int32) × (Nat → Int32) × (Nat → Int32) × (Nat → Int32) × (Nat → Int64) × (Nat → Int64) × (Nat → Int32)
abbrev zm_TH : Type := (Nat → Int32) × (Nat → Int32)
abbrev zm_TO : Type := (Nat → Int32) × (Nat → Int32) × (Nat → Int32) × (Nat → Int32) × (Nat → Int32)
abbrev zm_TR : Type := (Nat → Int32) × Int32
abbrev zm_TD : Type := Int32 × Int32 × Int32 × Int32 × Int32 × Int32
abbrev zm_TL : Type := (Nat → Int64) × (Nat → Int64) × Int32 × Int32 × Int32 × Int32
abbrev zm_S : Type := zm_TA × zm_TH × zm_TO × zm_TR × zm_TD × zm_TL
def zm_A (S : zm_S) : zm_TA := S.1
def zm_sA (S : zm_S) (x : zm_TA) : zm_S := (x, S.2.1, S.2.2.1, S.2.2.2.1, S.2.2.2.2.1, S.2.2.2.2.2)
def zmA_cur (x : zm_TA) : Nat → Int32 := x.1
def zm_cur (S : zm_S) : Nat → Int32 := zmA_cur (zm_A S)
def zmA_scur (x : zm_TA) (v : Nat → Int32) : zm_TA := (v, x.2.1, x.2.2.1, x.2.2.2.1, x.2.2.2.2.1, x.2.2.2.2.2.1, x.2.2.2.2.2.2)
def zm_scur (S : zm_S) (v : Nat → Int32) : zm_S := zm_sA S (zmA_scur (zm_A S) v)
def zmA_bas (x : zm_TA) : Nat → Int32 := x.2.1
def zm_bas (S : zm_S) : Nat → Int32 := zmA_bas (zm_A S)
def zmA_sbas (x : zm_TA) (v : Nat → Int32) : zm_TA := (x.1, v, x.2.2.1, x.2.2.2.1, x.2.2.2.2.1, x.2.2.2.2.2.1, x.2.2.2.2.2.2)
def zm_sbas (S : zm_S) (v : Nat → Int32) : zm_S := zm_sA S (zmA_sbas (zm_A S) v)
def zmA_lim (x : zm_TA) : Nat → Int32 := x.2.2.1
def zm_lim (S : zm_S) : Nat → Int32 := zmA_lim (zm_A S)
def zmA_slim (x : zm_TA) (v : Nat → Int32) : zm_TA := (x.1, x.2.1, v, x.2.2.2.1, x.2.2.2.2.1, x.2.2.2.2.2.1, x.2.2.2.2.2.2)
def zm_slim (S : zm_S) (v : Nat → Int32) : zm_S := zm_sA S (zmA_slim (zm_A S) v)
def zmA_rat (x : zm_TA) : Nat → Int32 := x.2.2.2.1
def zm_rat (S : zm_S) : Nat → Int32 := zmA_rat (zm_A S)
def zmA_srat (x : zm_TA) (v : Nat → Int32) : zm_TA := (x.1, x.2.1, x.2.2.1, v, x.2.2.2.2.1, x.2.2.2.2.2.1, x.2.2.2.2.2.2)
def zm_srat (S : zm_S) (v : Nat → Int32) : zm_S := zm_sA S (zmA_srat (zm_A S) v)
def zmA_mon (x : zm_TA) : Nat → Int64 := x.2.2.2.2.1
def zm_mon (S : zm_S) : Nat → Int64 := zmA_mon (zm_A S)
def zmA_smon (x : zm_TA) (v : Nat → Int64) : zm_TA := (x.1, x.2.1, x.2.2.1, x.2.2.2.1, v, x.2.2.2.2.2.1, x.2.2.2.2.2.2)
def zm_smon (S : zm_S) (v : Nat → Int64) : zm_S := zm_sA S (zmA_smon (zm_A S) v)
def zmA_acr (x : zm_TA) : Nat → Int64 := x.2.2.2.2.2.1
def zm_acr (S : zm_S) : Nat → Int64 := zmA_acr (zm_A S)
def zmA_sacr (x : zm_TA) (v : Nat → Int64) : zm_TA := (x.1, x.2.1, x.2.2.1, x.2.2.2.1, x.2.2.2.2.1, v, x.2.2.2.2.2.2)
def zm_sacr (S : zm_S) (v : Nat → Int64) : zm_S := zm_sA S (zmA_sacr (zm_A S) v)
def zmA_mrk (x : zm_TA) : Nat → Int32 := x.2.2.2.2.2.2
def zm_mrk (S : zm_S) : Nat → Int32 := zmA_mrk (zm_A S)
def zmA_smrk (x : zm_TA) (v : Nat → Int32) : zm_TA := (x.1, x.2.1, x.2.2.1, x.2.2.2.1, x.2.2.2.2.1, x.2.2.2.2.2.1, v)
def zm_smrk (S : zm_S) (v : Nat → Int32) : zm_S := zm_sA S (zmA_smrk (zm_A S) v)
def zm_H (S : zm_S) : zm_TH := S.2.1
def zm_sH (S : zm_S) (x : zm_TH) : zm_S := (S.1, x, S.2.2.1, S.2.2.2.1, S.2.2.2.2.1, S.2.2.2.2.2)
def zmH_hof (x : zm_TH) : Nat → Int32 := x.1
def zm_hof (S : zm_S) : Nat → Int32 := zmH_hof (zm_H S)
def zmH_shof (x : zm_TH) (v : Nat → Int32) : zm_TH := (v, x.2)
def zm_shof (S : zm_S) (v : Nat → Int32) : zm_S := zm_sH S (zmH_shof (zm_H S) v)
def zmH_ham (x : zm_TH) : Nat → Int32 := x.2
def zm_ham (S : zm_S) : Nat → Int32 := zmH_ham (zm_H S)
def zmH_sham (x : zm_TH) (v : Nat → Int32) : zm_TH := (x.1, v)
def zm_sham (S : zm_S) (v : Nat → Int32) : zm_S := zm_sH S (zmH_sham (zm_H S) v)
def zm_O (S : zm_S) : zm_TO := S.2.2.1
def zm_sO (S : zm_S) (x : zm_TO) : zm_S := (S.1, S.2.1, x, S.2.2.2.1, S.2.2.2.2.1, S.2.2.2.2.2)
def zmO_pyr (x : zm_TO) : Nat → Int32 := x.1
def zm_pyr (S : zm_S) : Nat → Int32 := zmO_pyr (zm_O S)
def zmO_spyr (x : zm_TO) (v : Nat → Int32) : zm_TO := (v, x.2.1, x.2.2.1, x.2.2.2.1, x.2.2.2.2)
def zm_spyr (S : zm_S) (v : Nat → Int32) : zm_S := zm_sO S (zmO_spyr (zm_O S) v)
def zmO_pye (x : zm_TO) : Nat → Int32 := x.2.1
def zm_pye (S : zm_S) : Nat → Int32 := zmO_pye (zm_O S)
def zmO_spye (x : zm_TO) (v : Nat → Int32) : zm_TO := (x.1, v, x.2.2.1, x.2.2.2.1, x.2.2.2.2)
def zm_spye (S : zm_S) (v : Nat → Int32) : zm_S := zm_sO S (zmO_spye (zm_O S) v)
def zmO_sum (x : zm_TO) : Nat → Int32 := x.2.2.1
def zm_sum (S : zm_S) : Nat → Int32 := zmO_sum (zm_O S)
def zmO_ssum (x : zm_TO) (v : Nat → Int32) : zm_TO := (x.1, x.2.1, v, x.2.2.2.1, x.2.2.2.2)
def zm_ssum (S : zm_S) (v : Nat → Int32) : zm_S := zm_sO S (zmO_ssum (zm_O S) v)
def zmO_ody (x : zm_TO) : Nat → Int32 := x.2.2.2.1
def zm_ody (S : zm_S) : Nat → Int32 := zmO_ody (zm_O S)
def zmO_sody (x : zm_TO) (v : Nat → Int32) : zm_TO := (x.1, x.2.1, x.2.2.1, v, x.2.2.2.2)
def zm_sody (S : zm_S) (v : Nat → Int32) : zm_S := zm_sO S (zmO_sody (zm_O S) v)
def zmO_mis (x : zm_TO) : Nat → Int32 := x.2.2.2.2
def zm_mis (S : zm_S) : Nat → Int32 := zmO_mis (zm_O S)
def zmO_smis (x : zm_TO) (v : Nat → Int32) : zm_TO := (x.1, x.2.1, x.2.2.1, x.2.2.2.1, v)
def zm_smis (S : zm_S) (v : Nat → Int32) : zm_S := zm_sO S (zmO_smis (zm_O S) v)
def zm_R (S : zm_S) : zm_TR := S.2.2.2.1
def zm_sR (S : zm_S) (x : zm_TR) : zm_S := (S.1, S.2.1, S.2.2.1, x, S.2.2.2.2.1, S.2.2.2.2.2)
def zmR_dat (x : zm_TR) : Nat → Int32 := x.1
def zm_dat (S : zm_S) : Nat → Int32 := zmR_dat (zm_R S)
def zmR_sdat (x : zm_TR) (v : Nat → Int32) : zm_TR := (v, x.2)
def zm_sdat (S : zm_S) (v : Nat → Int32) : zm_S := zm_sR S (zmR_sdat (zm_R S) v)
def zmR_rst (x : zm_TR) : Int32 := x.2
def zm_rst (S : zm_S) : Int32 := zmR_rst (zm_R S)
def zmR_srst (x : zm_TR) (v : Int32) : zm_TR := (x.1, v)
def zm_srst (S : zm_S) (v : Int32) : zm_S := zm_sR S (zmR_srst (zm_R S) v)
def zm_D (S : zm_S) : zm_TD := S.2.2.2.2.1
def zm_sD (S : zm_S) (x : zm_TD) : zm_S := (S.1, S.2.1, S.2.2.1, S.2.2.2.1, x, S.2.2.2.2.2)
def zmD_stp (x : zm_TD) : Int32 := x.1
def zm_stp (S : zm_S) : Int32 := zmD_stp (zm_D S)
def zmD_sstp (x : zm_TD) (v : Int32) : zm_TD := (v, x.2.1, x.2.2.1, x.2.2.2.1, x.2.2.2.2.1, x.2.2.2.2.2)
def zm_sstp (S : zm_S) (v : Int32) : zm_S := zm_sD S (zmD_sstp (zm_D S) v)
def zmD_wri (x : zm_TD) : Int32 := x.2.1
def zm_wri (S : zm_S) : Int32 := zmD_wri (zm_D S)
def zmD_swri (x : zm_TD) (v : Int32) : zm_TD := (x.1, v, x.2.2.1, x.2.2.2.1, x.2.2.2.2.1, x.2.2.2.2.2)
def zm_swri (S : zm_S) (v : Int32) : zm_S := zm_sD S (zmD_swri (zm_D S) v)
def zmD_lft (x : zm_TD) : Int32 := x.2.2.1
def zm_lft (S : zm_S) : Int32 := zmD_lft (zm_D S)
def zmD_slft (x : zm_TD) (v : Int32) : zm_TD := (x.1, x.2.1, v, x.2.2.2.1, x.2.2.2.2.1, x.2.2.2.2.2)
def zm_slft (S : zm_S) (v : Int32) : zm_S := zm_sD S (zmD_slft (zm_D S) v)
def zmD_inl (x : zm_TD) : Int32 := x.2.2.2.1
def zm_inl (S : zm_S) : Int32 := zmD_inl (zm_D S)
def zmD_sinl (x : zm_TD) (v : Int32) : zm_TD := (x.1, x.2.1, x.2.2.1, v, x.2.2.2.2.1, x.2.2.2.2.2)
def zm_sinl (S : zm_S) (v : Int32) : zm_S := zm_sD S (zmD_sinl (zm_D S) v)
def zmD_edd (x : zm_TD) : Int32 := x.2.2.2.2.1
def zm_edd (S : zm_S) : Int32 := zmD_edd (zm_D S)
def zmD_sedd (x : zm_TD) (v : Int32) : zm_TD := (x.1, x.2.1, x.2.2.1, x.2.2.2.1, v, x.2.2.2.2.2)
def zm_sedd (S : zm_S) (v : Int32) : zm_S := zm_sD S (zmD_sedd (zm_D S) v)
def zmD_tch (x : zm_TD) : Int32 := x.2.2.2.2.2
def zm_tch (S : zm_S) : Int32 := zmD_tch (zm_D S)
def zmD_stch (x : zm_TD) (v : Int32) : zm_TD := (x.1, x.2.1, x.2.2.1, x.2.2.2.1, x.2.2.2.2.1, v)
def zm_stch (S : zm_S) (v : Int32) : zm_S := zm_sD S (zmD_stch (zm_D S) v)
def zm_L (S : zm_S) : zm_TL := S.2.2.2.2.2
def zm_sL (S : zm_S) (x : zm_TL) : zm_S := (S.1, S.2.1, S.2.2.1, S.2.2.2.1, S.2.2.2.2.1, x)
def zmL_csh (x : zm_TL) : Nat → Int64 := x.1
def zm_csh (S : zm_S) : Nat → Int64 := zmL_csh (zm_L S)
def zmL_scsh (x : zm_TL) (v : Nat → Int64) : zm_TL := (v, x.2.1, x.2.2.1, x.2.2.2.1, x.2.2.2.2.1, x.2.2.2.2.2)
def zm_scsh (S : zm_S) (v : Nat → Int64) : zm_S := zm_sL S (zmL_scsh (zm_L S) v)
def zmL_itr (x : zm_TL) : Nat → Int64 := x.2.1
def zm_itr (S : zm_S) : Nat → Int64 := zmL_itr (zm_L S)
def zmL_sitr (x : zm_TL) (v : Nat → Int64) : zm_TL := (x.1, v, x.2.2.1, x.2.2.2.1, x.2.2.2.2.1, x.2.2.2.2.2)
def zm_sitr (S : zm_S) (v : Nat → Int64) : zm_S := zm_sL S (zmL_sitr (zm_L S) v)
def zmL_acs (x : zm_TL) : Int32 := x.2.2.1
def zm_acs (S : zm_S) : Int32 := zmL_acs (zm_L S)
def zmL_sacs (x : zm_TL) (v : Int32) : zm_TL := (x.1, x.2.1, v, x.2.2.2.1, x.2.2.2.2.1, x.2.2.2.2.2)
def zm_sacs (S : zm_S) (v : Int32) : zm_S := zm_sL S (zmL_sacs (zm_L S) v)
def zmL_ors (x : zm_TL) : Int32 := x.2.2.2.1
def zm_ors (S : zm_S) : Int32 := zmL_ors (zm_L S)
def zmL_sors (x : zm_TL) (v : Int32) : zm_TL := (x.1, x.2.1, x.2.2.1, v, x.2.2.2.2.1, x.2.2.2.2.2)
def zm_sors (S : zm_S) (v : Int32) : zm_S := zm_sL S (zmL_sors (zm_L S) v)
def zmL_now (x : zm_TL) : Int32 := x.2.2.2.2.1
def zm_now (S : zm_S) : Int32 := zmL_now (zm_L S)
def zmL_snow (x : zm_TL) (v : Int32) : zm_TL := (x.1, x.2.1, x.2.2.1, x.2.2.2.1, v, x.2.2.2.2.2)
def zm_snow (S : zm_S) (v : Int32) : zm_S := zm_sL S (zmL_snow (zm_L S) v)
def zmL_end (x : zm_TL) : Int32 := x.2.2.2.2.2
def zm_end (S : zm_S) : Int32 := zmL_end (zm_L S)
def zmL_send (x : zm_TL) (v : Int32) : zm_TL := (x.1, x.2.1, x.2.2.1, x.2.2.2.1, x.2.2.2.2.1, v)
def zm_send (S : zm_S) (v : Int32) : zm_S := zm_sL S (zmL_send (zm_L S) v)
abbrev zm_Y : Type := Int32 × Int32 × Int32
abbrev zg_TP : Type := Nat × Nat × Nat × Nat × Nat × Nat × Nat × Nat × Nat
abbrev zg_TF : Type := (Nat → Nat) × (Nat → Nat) × (Nat → Nat)
abbrev zg_TC : Type := ClassId × ClassId × ClassId × ClassId × ClassId
abbrev zg_G : Type := zg_TP × zg_TF × zg_TC
def zg_P (S : zg_G) : zg_TP := S.1
def zgP_bnk (x : zg_TP) : Nat := x.1
def zg_bnk (S : zg_G) : Nat := zgP_bnk (zg_P S)
def zgP_aac (x : zg_TP) : Nat := x.2.1
def zg_aac (S : zg_G) : Nat := zgP_aac (zg_P S)
def zgP_aho (x : zg_TP) : Nat := x.2.2.1
def zg_aho (S : zg_G) : Nat := zgP_aho (zg_P S)
def zgP_aor (x : zg_TP) : Nat := x.2.2.2.1
def zg_aor (S : zg_G) : Nat := zgP_aor (zg_P S)
def zgP_rst (x : zg_TP) : Nat := x.2.2.2.2.1
def zg_rst (S : zg_G) : Nat := zgP_rst (zg_P S)
def zgP_dsk (x : zg_TP) : Nat := x.2.2.2.2.2.1
def zg_dsk (S : zg_G) : Nat := zgP_dsk (zg_P S)
def zgP_csh (x : zg_TP) : Nat := x.2.2.2.2.2.2.1
def zg_csh (S : zg_G) : Nat := zgP_csh (zg_P S)
def zgP_itr (x : zg_TP) : Nat := x.2.2.2.2.2.2.2.1
def zg_itr (S : zg_G) : Nat := zgP_itr (zg_P S)
def zgP_dat (x : zg_TP) : Nat := x.2.2.2.2.2.2.2.2
def zg_dat (S : zg_G) : Nat := zgP_dat (zg_P S)
def zg_F (S : zg_G) : zg_TF := S.2.1
def zgF_acc (x : zg_TF) : Nat → Nat := x.1
def zg_acc (S : zg_G) : Nat → Nat := zgF_acc (zg_F S)
def zgF_hld (x : zg_TF) : Nat → Nat := x.2.1
def zg_hld (S : zg_G) : Nat → Nat := zgF_hld (zg_F S)
def zgF_ord (x : zg_TF) : Nat → Nat := x.2.2
def zg_ord (S : zg_G) : Nat → Nat := zgF_ord (zg_F S)
def zg_C (S : zg_G) : zg_TC := S.2.2
def zgC_cA (x : zg_TC) : ClassId := x.1
def zg_cA (S : zg_G) : ClassId := zgC_cA (zg_C S)
def zgC_cH (x : zg_TC) : ClassId := x.2.1
def zg_cH (S : zg_G) : ClassId := zgC_cH (zg_C S)
def zgC_cO (x : zg_TC) : ClassId := x.2.2.1
def zg_cO (S : zg_G) : ClassId := zgC_cO (zg_C S)
def zgC_cI (x : zg_TC) : ClassId := x.2.2.2.1
def zg_cI (S : zg_G) : ClassId := zgC_cI (zg_C S)
def zgC_cJ (x : zg_TC) : ClassId := x.2.2.2.2
def zg_cJ (S : zg_G) : ClassId := zgC_cJ (zg_C S)
abbrev zh_TP : Type := Nat × Nat × Nat × Nat × Nat × Nat × Nat × Nat × Nat × Nat × Nat × Nat × Nat × Nat × Nat × Nat × Nat × Nat
abbrev zh_TC : Type := ClassId × ClassId
abbrev zh_G : Type := zh_TP × zh_TC
def zh_P (S : zh_G) : zh_TP := S.1
def zhP_mdl (x : zh_TP) : Nat := x.1
def zh_mdl (S : zh_G) : Nat := zhP_mdl (zh_P S)
def zhP_cur (x : zh_TP) : Nat := x.2.1
def zh_cur (S : zh_G) : Nat := zhP_cur (zh_P S)
def zhP_bas (x : zh_TP) : Nat := x.2.2.1
def zh_bas (S : zh_G) : Nat := zhP_bas (zh_P S)
def zhP_lim (x : zh_TP) : Nat := x.2.2.2.1
def zh_lim (S : zh_G) : Nat := zhP_lim (zh_P S)
def zhP_rat (x : zh_TP) : Nat := x.2.2.2.2.1
def zh_rat (S : zh_G) : Nat := zhP_rat (zh_P S)
def zhP_mrk (x : zh_TP) : Nat := x.2.2.2.2.2.1
def zh_mrk (S : zh_G) : Nat := zhP_mrk (zh_P S)
def zhP_mon (x : zh_TP) : Nat := x.2.2.2.2.2.2.1
def zh_mon (S : zh_G) : Nat := zhP_mon (zh_P S)
def zhP_acr (x : zh_TP) : Nat := x.2.2.2.2.2.2.2.1
def zh_acr (S : zh_G) : Nat := zhP_acr (zh_P S)
def zhP_hof (x : zh_TP) : Nat := x.2.2.2.2.2.2.2.2.1
def zh_hof (S : zh_G) : Nat := zhP_hof (zh_P S)
def zhP_ham (x : zh_TP) : Nat := x.2.2.2.2.2.2.2.2.2.1
def zh_ham (S : zh_G) : Nat := zhP_ham (zh_P S)
def zhP_pyr (x : zh_TP) : Nat := x.2.2.2.2.2.2.2.2.2.2.1
def zh_pyr (S : zh_G) : Nat := zhP_pyr (zh_P S)
def zhP_pye (x : zh_TP) : Nat := x.2.2.2.2.2.2.2.2.2.2.2.1
def zh_pye (S : zh_G) : Nat := zhP_pye (zh_P S)
def zhP_sum (x : zh_TP) : Nat := x.2.2.2.2.2.2.2.2.2.2.2.2.1
def zh_sum (S : zh_G) : Nat := zhP_sum (zh_P S)
def zhP_ody (x : zh_TP) : Nat := x.2.2.2.2.2.2.2.2.2.2.2.2.2.1
def zh_ody (S : zh_G) : Nat := zhP_ody (zh_P S)
def zhP_mis (x : zh_TP) : Nat := x.2.2.2.2.2.2.2.2.2.2.2.2.2.2.1
def zh_mis (S : zh_G) : Nat := zhP_mis (zh_P S)
def zhP_dat (x : zh_TP) : Nat := x.2.2.2.2.2.2.2.2.2.2.2.2.2.2.2.1
def zh_dat (S : zh_G) : Nat := zhP_dat (zh_P S)
def zhP_csh (x : zh_TP) : Nat := x.2.2.2.2.2.2.2.2.2.2.2.2.2.2.2.2.1
def zh_csh (S : zh_G) : Nat := zhP_csh (zh_P S)
def zhP_itr (x : zh_TP) : Nat := x.2.2.2.2.2.2.2.2.2.2.2.2.2.2.2.2.2
def zh_itr (S : zh_G) : Nat := zhP_itr (zh_P S)
def zh_C (S : zh_G) : zh_TC := S.2
def zhC_cI (x : zh_TC) : ClassId := x.1
def zh_cI (S : zh_G) : ClassId := zhC_cI (zh_C S)
def zhC_cJ (x : zh_TC) : ClassId := x.2
def zh_cJ (S : zh_G) : ClassId := zhC_cJ (zh_C S)
end
section
/-! WORLDS: the cells of the class and of the reference; a row for each read and write of a field or an array. -/
def zb_fB (G : zg_G) (S : zb_S) : List Value := [.ref (zg_aac G), .ref (zg_aho G), .ref (zg_aor G), .ref (zg_rst G), .ref (zg_dsk G), .ref (zg_csh G), .ref (zg_itr G), .int (zb_n S), .int (zb_o S), .int (zb_bd S), .int (zb_de S)]
def zb_fA (S : zb_S) (i : Nat) : List Value := [.int (nI i), .int (zb_cur S i), .int (zb_bas S i), .int (zb_lim S i), .int (zb_rat S i), .long (zb_bal S i), .long (zb_hel S i), .long (zb_acr S i), .int (zb_mrk S i)]
def zb_fH (G : zg_G) (S : zb_S) (k : Nat) : List Value := [va_re (zg_acc G) (zb_hol S k), .int (zb_ham S k)]
def zb_fO (G : zg_G) (S : zb_S) (k : Nat) : List Value := [va_re (zg_acc G) (zb_pyr S k), va_re (zg_acc G) (zb_pye S k), .int (zb_oam S k), .int (zb_ody S k), .int (zb_oms S k), .int (zb_odu S k), .int (zb_opd S k)]
def zb_fR (G : zg_G) (S : zb_S) : List Value := [.ref (zg_dat G), .int (zb_dm S)]
def zb_fD (S : zb_S) : List Value := [.int (zb_stp S), .int (zb_wm S), .int (zb_wl S), .int (zb_lin S), .int (zb_trn S), .int (zb_chg S)]
def zb_cells (G : zg_G) (S : zb_S) : va_W := [(zg_bnk G, .inr (0, zb_fB G S)),
  (zg_aac G, .inl (zg_cA G, 6, .inr (.inr (.inr (.inr (fun k => some (zg_acc G k))))))),
  (zg_aho G, .inl (zg_cH G, 8, .inr (.inr (.inr (.inr (fun k => some (zg_hld G k))))))),
  (zg_aor G, .inl (zg_cO G, 6, .inr (.inr (.inr (.inr (fun k => some (zg_ord G k))))))),
  (zg_rst G, .inr (4, zb_fR G S)),
  (zg_dsk G, .inr (5, zb_fD S)),
  (zg_csh G, .inl (zg_cJ G, 3, .inr (.inl (zb_csh S)))),
  (zg_itr G, .inl (zg_cJ G, 3, .inr (.inl (zb_itr S)))),
  (zg_dat G, .inl (zg_cI G, 8, .inl (zb_dat S))),
  (zg_acc G 0, .inr (1, zb_fA S 0)),
  (zg_acc G 1, .inr (1, zb_fA S 1)),
  (zg_acc G 2, .inr (1, zb_fA S 2)),
  (zg_acc G 3, .inr (1, zb_fA S 3)),
  (zg_acc G 4, .inr (1, zb_fA S 4)),
  (zg_acc G 5, .inr (1, zb_fA S 5)),
  (zg_hld G 0, .inr (2, zb_fH G S 0)),
  (zg_hld G 1, .inr (2, zb_fH G S 1)),
  (zg_hld G 2, .inr (2, zb_fH G S 2)),
  (zg_hld G 3, .inr (2, zb_fH G S 3)),
  (zg_hld G 4, .inr (2, zb_fH G S 4)),
  (zg_hld G 5, .inr (2, zb_fH G S 5)),
  (zg_hld G 6, .inr (2, zb_fH G S 6)),
  (zg_hld G 7, .inr (2, zb_fH G S 7)),
  (zg_ord G 0, .inr (3, zb_fO G S 0)),
  (zg_ord G 1, .inr (3, zb_fO G S 1)),
  (zg_ord G 2, .inr (3, zb_fO G S 2)),
  (zg_ord G 3, .inr (3, zb_fO G S 3)),
  (zg_ord G 4, .inr (3, zb_fO G S 4)),
  (zg_ord G 5, .inr (3, zb_fO G S 5))]
def zb_adr (G : zg_G) : List Nat := [zg_bnk G, zg_aac G, zg_aho G, zg_aor G, zg_rst G, zg_dsk G, zg_csh G, zg_itr G, zg_dat G, zg_acc G 0, zg_acc G 1, zg_acc G 2, zg_acc G 3, zg_acc G 4, zg_acc G 5, zg_hld G 0, zg_hld G 1, zg_hld G 2, zg_hld G 3, zg_hld G 4, zg_hld G 5, zg_hld G 6, zg_hld G 7, zg_ord G 0, zg_ord G 1, zg_ord G 2, zg_ord G 3, zg_ord G 4, zg_ord G 5]
theorem zb_cells_adr (G : zg_G) (S : zb_S) : (zb_cells G S).map (·.1) = zb_adr G := rfl
def zb_tys (G : zg_G) : List (ClassId × FieldType) := [(zg_cA G, .object "DayEndBank$Account"), (zg_cH G, .object "DayEndBank$Hold"), (zg_cO G, .object "DayEndBank$Order"), (zg_cI G, .int), (zg_cJ G, .long)]
/-- the addresses are apart -/
def zw_apart (as : List Nat) : Prop := ∀ (i j a : Nat), as[i]? = some a → as[j]? = some a → i = j
theorem zw_D_of {ws : va_W} (h : zw_apart (ws.map (·.1))) : va_D (fun q => q ∈ ws.map (·.1)) ws := by
  refine ⟨fun i j x y hx hy e => h i j x.1 ?_ ?_, fun k q hk => ?_⟩
  · rw [List.getElem?_map, hx]; rfl
  · rw [List.getElem?_map, hy, e]; rfl
  · exact List.mem_of_getElem? (i := k) (by rw [List.getElem?_map, hk]; rfl)
def zb_Ad (G : zg_G) : Nat → Prop := fun q => q ∈ zb_adr G
theorem zb_Dd {G : zg_G} (h : zw_apart (zb_adr G)) (S : zb_S) : va_D (zb_Ad G) (zb_cells G S) := zw_D_of h
theorem zb_atA {G : zg_G} {S : zb_S} {i : Nat} (h : i < 6) : (zb_cells G S)[9 + i]? = some (zg_acc G i, .inr (1, zb_fA S i)) := by
  rcases (show i = 0 ∨ i = 1 ∨ i = 2 ∨ i = 3 ∨ i = 4 ∨ i = 5 by omega) with rfl | rfl | rfl | rfl | rfl | rfl <;> rfl
theorem zb_atH {G : zg_G} {S : zb_S} {i : Nat} (h : i < 8) : (zb_cells G S)[15 + i]? = some (zg_hld G i, .inr (2, zb_fH G S i)) := by
  rcases (show i = 0 ∨ i = 1 ∨ i = 2 ∨ i = 3 ∨ i = 4 ∨ i = 5 ∨ i = 6 ∨ i = 7 by omega) with rfl | rfl | rfl | rfl | rfl | rfl | rfl | rfl <;> rfl
theorem zb_atO {G : zg_G} {S : zb_S} {i : Nat} (h : i < 6) : (zb_cells G S)[23 + i]? = some (zg_ord G i, .inr (3, zb_fO G S i)) := by
  rcases (show i = 0 ∨ i = 1 ∨ i = 2 ∨ i = 3 ∨ i = 4 ∨ i = 5 by omega) with rfl | rfl | rfl | rfl | rfl | rfl <;> rfl
theorem zb_acc_inj {G : zg_G} (h : zw_apart (zb_adr G)) {i j : Nat} (hi : i < 6) (hj : j < 6) (e : zg_acc G i = zg_acc G j) : i = j := by
  have h1 : ∀ k, k < 6 → (zb_adr G)[9 + k]? = some (zg_acc G k) := fun k hk => by
    rcases (show k = 0 ∨ k = 1 ∨ k = 2 ∨ k = 3 ∨ k = 4 ∨ k = 5 by omega) with rfl | rfl | rfl | rfl | rfl | rfl <;> rfl
  have := h (9 + i) (9 + j) _ (h1 i hi) (by rw [e]; exact h1 j hj)
  omega
section ZSET
variable {G : zg_G} {S : zb_S}
theorem zb_set_cur {i : Nat} (h : i < 6) (v : Int32) : (zb_cells G S).set (9 + i) (zg_acc G i, .inr (1, (zb_fA S i).set 1 (.int v))) = zb_cells G (zb_scur S (upd (zb_cur S) i v)) := by
  rcases (show i = 0 ∨ i = 1 ∨ i = 2 ∨ i = 3 ∨ i = 4 ∨ i = 5 by omega) with rfl | rfl | rfl | rfl | rfl | rfl <;> rfl
theorem zb_set_bas {i : Nat} (h : i < 6) (v : Int32) : (zb_cells G S).set (9 + i) (zg_acc G i, .inr (1, (zb_fA S i).set 2 (.int v))) = zb_cells G (zb_sbas S (upd (zb_bas S) i v)) := by
  rcases (show i = 0 ∨ i = 1 ∨ i = 2 ∨ i = 3 ∨ i = 4 ∨ i = 5 by omega) with rfl | rfl | rfl | rfl | rfl | rfl <;> rfl
theorem zb_set_lim {i : Nat} (h : i < 6) (v : Int32) : (zb_cells G S).set (9 + i) (zg_acc G i, .inr (1, (zb_fA S i).set 3 (.int v))) = zb_cells G (zb_slim S (upd (zb_lim S) i v)) := by
  rcases (show i = 0 ∨ i = 1 ∨ i = 2 ∨ i = 3 ∨ i = 4 ∨ i = 5 by omega) with rfl | rfl | rfl | rfl | rfl | rfl <;> rfl
theorem zb_set_rat {i : Nat} (h : i < 6) (v : Int32) : (zb_cells G S).set (9 + i) (zg_acc G i, .inr (1, (zb_fA S i).set 4 (.int v))) = zb_cells G (zb_srat S (upd (zb_rat S) i v)) := by
  rcases (show i = 0 ∨ i = 1 ∨ i = 2 ∨ i = 3 ∨ i = 4 ∨ i = 5 by omega) with rfl | rfl | rfl | rfl | rfl | rfl <;> rfl
theorem zb_set_bal {i : Nat} (h : i < 6) (v : Int64) : (zb_cells G S).set (9 + i) (zg_acc G i, .inr (1, (zb_fA S i).set 5 (.long v))) = zb_cells G (zb_sbal S (vp_updL (zb_bal S) i v)) := by
  rcases (show i = 0 ∨ i = 1 ∨ i = 2 ∨ i = 3 ∨ i = 4 ∨ i = 5 by omega) with rfl | rfl | rfl | rfl | rfl | rfl <;> rfl
theorem zb_set_hel {i : Nat} (h : i < 6) (v : Int64) : (zb_cells G S).set (9 + i) (zg_acc G i, .inr (1, (zb_fA S i).set 6 (.long v))) = zb_cells G (zb_shel S (vp_updL (zb_hel S) i v)) := by
  rcases (show i = 0 ∨ i = 1 ∨ i = 2 ∨ i = 3 ∨ i = 4 ∨ i = 5 by omega) with rfl | rfl | rfl | rfl | rfl | rfl <;> rfl
theorem zb_set_acr {i : Nat} (h : i < 6) (v : Int64) : (zb_cells G S).set (9 + i) (zg_acc G i, .inr (1, (zb_fA S i).set 7 (.long v))) = zb_cells G (zb_sacr S (vp_updL (zb_acr S) i v)) := by
  rcases (show i = 0 ∨ i = 1 ∨ i = 2 ∨ i = 3 ∨ i = 4 ∨ i = 5 by omega) with rfl | rfl | rfl | rfl | rfl | rfl <;> rfl
theorem zb_set_mrk {i : Nat} (h : i < 6) (v : Int32) : (zb_cells G S).set (9 + i) (zg_acc G i, .inr (1, (zb_fA S i).set 8 (.int v))) = zb_cells G (zb_smrk S (upd (zb_mrk S) i v)) := by
  rcases (show i = 0 ∨ i = 1 ∨ i = 2 ∨ i = 3 ∨ i = 4 ∨ i = 5 by omega) with rfl | rfl | rfl | rfl | rfl | rfl <;> rfl
theorem zb_set_hol {i : Nat} (h : i < 8) (v : Option Nat) : (zb_cells G S).set (15 + i) (zg_hld G i, .inr (2, (zb_fH G S i).set 0 (va_re (zg_acc G) v))) = zb_cells G (zb_shol S (va_up (zb_hol S) i v)) := by
  rcases (show i = 0 ∨ i = 1 ∨ i = 2 ∨ i = 3 ∨ i = 4 ∨ i = 5 ∨ i = 6 ∨ i = 7 by omega) with rfl | rfl | rfl | rfl | rfl | rfl | rfl | rfl <;> rfl
theorem zb_set_ham {i : Nat} (h : i < 8) (v : Int32) : (zb_cells G S).set (15 + i) (zg_hld G i, .inr (2, (zb_fH G S i).set 1 (.int v))) = zb_cells G (zb_sham S (upd (zb_ham S) i v)) := by
  rcases (show i = 0 ∨ i = 1 ∨ i = 2 ∨ i = 3 ∨ i = 4 ∨ i = 5 ∨ i = 6 ∨ i = 7 by omega) with rfl | rfl | rfl | rfl | rfl | rfl | rfl | rfl <;> rfl
theorem zb_set_pyr {i : Nat} (h : i < 6) (v : Option Nat) : (zb_cells G S).set (23 + i) (zg_ord G i, .inr (3, (zb_fO G S i).set 0 (va_re (zg_acc G) v))) = zb_cells G (zb_spyr S (va_up (zb_pyr S) i v)) := by
  rcases (show i = 0 ∨ i = 1 ∨ i = 2 ∨ i = 3 ∨ i = 4 ∨ i = 5 by omega) with rfl | rfl | rfl | rfl | rfl | rfl <;> rfl
theorem zb_set_pye {i : Nat} (h : i < 6) (v : Option Nat) : (zb_cells G S).set (23 + i) (zg_ord G i, .inr (3, (zb_fO G S i).set 1 (va_re (zg_acc G) v))) = zb_cells G (zb_spye S (va_up (zb_pye S) i v)) := by
  rcases (show i = 0 ∨ i = 1 ∨ i = 2 ∨ i = 3 ∨ i = 4 ∨ i = 5 by omega) with rfl | rfl | rfl | rfl | rfl | rfl <;> rfl
theorem zb_set_oam {i : Nat} (h : i < 6) (v : Int32) : (zb_cells G S).set (23 + i) (zg_ord G i, .inr (3, (zb_fO G S i).set 2 (.int v))) = zb_cells G (zb_soam S (upd (zb_oam S) i v)) := by
  rcases (show i = 0 ∨ i = 1 ∨ i = 2 ∨ i = 3 ∨ i = 4 ∨ i = 5 by omega) with rfl | rfl | rfl | rfl | rfl | rfl <;> rfl
theorem zb_set_ody {i : Nat} (h : i < 6) (v : Int32) : (zb_cells G S).set (23 + i) (zg_ord G i, .inr (3, (zb_fO G S i).set 3 (.int v))) = zb_cells G (zb_sody S (upd (zb_ody S) i v)) := by
  rcases (show i = 0 ∨ i = 1 ∨ i = 2 ∨ i = 3 ∨ i = 4 ∨ i = 5 by omega) with rfl | rfl | rfl | rfl | rfl | rfl <;> rfl
theorem zb_set_oms {i : Nat} (h : i < 6) (v : Int32) : (zb_cells G S).set (23 + i) (zg_ord G i, .inr (3, (zb_fO G S i).set 4 (.int v))) = zb_cells G (zb_soms S (upd (zb_oms S) i v)) := by
  rcases (show i = 0 ∨ i = 1 ∨ i = 2 ∨ i = 3 ∨ i = 4 ∨ i = 5 by omega) with rfl | rfl | rfl | rfl | rfl | rfl <;> rfl
theorem zb_set_odu {i : Nat} (h : i < 6) (v : Int32) : (zb_cells G S).set (23 + i) (zg_ord G i, .inr (3, (zb_fO G S i).set 5 (.int v))) = zb_cells G (zb_sodu S (upd (zb_odu S) i v)) := by
  rcases (show i = 0 ∨ i = 1 ∨ i = 2 ∨ i = 3 ∨ i = 4 ∨ i = 5 by omega) with rfl | rfl | rfl | rfl | rfl | rfl <;> rfl
theorem zb_set_opd {i : Nat} (h : i < 6) (v : Int32) : (zb_cells G S).set (23 + i) (zg_ord G i, .inr (3, (zb_fO G S i).set 6 (.int v))) = zb_cells G (zb_sopd S (upd (zb_opd S) i v)) := by
  rcases (show i = 0 ∨ i = 1 ∨ i = 2 ∨ i = 3 ∨ i = 4 ∨ i = 5 by omega) with rfl | rfl | rfl | rfl | rfl | rfl <;> rfl
theorem zb_set_dm (v : Int32) : (zb_cells G S).set (4) (zg_rst G, .inr (4, (zb_fR G S).set 1 (.int v))) = zb_cells G (zb_sdm S v) := rfl
theorem zb_set_stp (v : Int32) : (zb_cells G S).set (5) (zg_dsk G, .inr (5, (zb_fD S).set 0 (.int v))) = zb_cells G (zb_sstp S v) := rfl
theorem zb_set_wm (v : Int32) : (zb_cells G S).set (5) (zg_dsk G, .inr (5, (zb_fD S).set 1 (.int v))) = zb_cells G (zb_swm S v) := rfl
theorem zb_set_wl (v : Int32) : (zb_cells G S).set (5) (zg_dsk G, .inr (5, (zb_fD S).set 2 (.int v))) = zb_cells G (zb_swl S v) := rfl
theorem zb_set_lin (v : Int32) : (zb_cells G S).set (5) (zg_dsk G, .inr (5, (zb_fD S).set 3 (.int v))) = zb_cells G (zb_slin S v) := rfl
theorem zb_set_trn (v : Int32) : (zb_cells G S).set (5) (zg_dsk G, .inr (5, (zb_fD S).set 4 (.int v))) = zb_cells G (zb_strn S v) := rfl
theorem zb_set_chg (v : Int32) : (zb_cells G S).set (5) (zg_dsk G, .inr (5, (zb_fD S).set 5 (.int v))) = zb_cells G (zb_schg S v) := rfl
theorem zb_set_n (v : Int32) : (zb_cells G S).set (0) (zg_bnk G, .inr (0, (zb_fB G S).set 7 (.int v))) = zb_cells G (zb_sn S v) := rfl
theorem zb_set_o (v : Int32) : (zb_cells G S).set (0) (zg_bnk G, .inr (0, (zb_fB G S).set 8 (.int v))) = zb_cells G (zb_so S v) := rfl
theorem zb_set_bd (v : Int32) : (zb_cells G S).set (0) (zg_bnk G, .inr (0, (zb_fB G S).set 9 (.int v))) = zb_cells G (zb_sbd S v) := rfl
theorem zb_set_de (v : Int32) : (zb_cells G S).set (0) (zg_bnk G, .inr (0, (zb_fB G S).set 10 (.int v))) = zb_cells G (zb_sde S v) := rfl
theorem zb_set_csh (f : Nat → Int64) : (zb_cells G S).set 6 (zg_csh G, .inl (zg_cJ G, 3, .inr (.inl f))) = zb_cells G (zb_scsh S f) := rfl
theorem zb_set_itr (f : Nat → Int64) : (zb_cells G S).set 7 (zg_itr G, .inl (zg_cJ G, 3, .inr (.inl f))) = zb_cells G (zb_sitr S f) := rfl
theorem zb_set_dat (f : Nat → Int32) : (zb_cells G S).set 8 (zg_dat G, .inl (zg_cI G, 8, .inl f)) = zb_cells G (zb_sdat S f) := rfl
end ZSET
section ZBW
variable {p : Program} {l : Launch} {e : Env} {R : Room} {s : State} {m : MethodId} {args : Array Value} {below : List Frame} {meth : Method} {c : Code} {H : Heap} {locs : List Loc} {cells slots : Nat} {Q : State → Prop}
variable {cc : ByteArray} {pc index : Nat} {ls : Array Slot} {rest : List Value} {D : va_G} {H0 : Heap} {own : String}
variable {G : zg_G} {S : zb_S}
theorem zb_getB (hx : p.tables.exec = Jvm.exec) (hb : c.code = cc) (hts : ∀ w ∈ zw_big, w.before args s = true) (hown : s.vm.findClass own = some m.cls) (hK : va_K D vwCl (zb_tys G) s) (hP : va_P D vwCl (zb_cells G S) H) (k : Nat) (hk : k < 11) (hlink : (Cond.fieldLink own index (nT_B k).1 (nT_B k).2.1 (nT_B k).2.2.1).before args s = true) {v : Value} (hv : (zb_fB G S)[k]? = some v) (hdg : decode cc pc = .ok (.getfield index, 3))
    (kk : W p l e R s m args below meth c H locs cells slots Q (F0 m (pc + 3) ls (v :: rest))) : W p l e R s m args below meth c H locs cells slots Q (F0 m pc ls (.ref (zg_bnk G) :: rest)) :=
  va_get (ci := 0) (C := nR_B) (T := nT_B) (N := 11) hx hb hts zw_inB hown hK hP (0) (rfl) rfl k hk hlink (fun _ h => h) hv hdg kk
theorem zb_getA (hx : p.tables.exec = Jvm.exec) (hb : c.code = cc) (hts : ∀ w ∈ zw_big, w.before args s = true) (hown : s.vm.findClass own = some m.cls) (hK : va_K D vwCl (zb_tys G) s) (hP : va_P D vwCl (zb_cells G S) H) {i : Nat} (hi : i < 6) (k : Nat) (hk : k < 9) (hlink : (Cond.fieldLink own index (nT_A k).1 (nT_A k).2.1 (nT_A k).2.2.1).before args s = true) {v : Value} (hv : (zb_fA S i)[k]? = some v) (hdg : decode cc pc = .ok (.getfield index, 3))
    (kk : W p l e R s m args below meth c H locs cells slots Q (F0 m (pc + 3) ls (v :: rest))) : W p l e R s m args below meth c H locs cells slots Q (F0 m pc ls (.ref (zg_acc G i) :: rest)) :=
  va_get (ci := 1) (C := nR_A) (T := nT_A) (N := 9) hx hb hts zw_inA hown hK hP (9 + i) (zb_atA hi) rfl k hk hlink (fun _ h => h) hv hdg kk
theorem zb_getH (hx : p.tables.exec = Jvm.exec) (hb : c.code = cc) (hts : ∀ w ∈ zw_big, w.before args s = true) (hown : s.vm.findClass own = some m.cls) (hK : va_K D vwCl (zb_tys G) s) (hP : va_P D vwCl (zb_cells G S) H) {i : Nat} (hi : i < 8) (k : Nat) (hk : k < 2) (hlink : (Cond.fieldLink own index (nT_H k).1 (nT_H k).2.1 (nT_H k).2.2.1).before args s = true) {v : Value} (hv : (zb_fH G S i)[k]? = some v) (hdg : decode cc pc = .ok (.getfield index, 3))
    (kk : W p l e R s m args below meth c H locs cells slots Q (F0 m (pc + 3) ls (v :: rest))) : W p l e R s m args below meth c H locs cells slots Q (F0 m pc ls (.ref (zg_hld G i) :: rest)) :=
  va_get (ci := 2) (C := nR_H) (T := nT_H) (N := 2) hx hb hts zw_inH hown hK hP (15 + i) (zb_atH hi) rfl k hk hlink (fun _ h => h) hv hdg kk
theorem zb_getO (hx : p.tables.exec = Jvm.exec) (hb : c.code = cc) (hts : ∀ w ∈ zw_big, w.before args s = true) (hown : s.vm.findClass own = some m.cls) (hK : va_K D vwCl (zb_tys G) s) (hP : va_P D vwCl (zb_cells G S) H) {i : Nat} (hi : i < 6) (k : Nat) (hk : k < 7) (hlink : (Cond.fieldLink own index (nT_O k).1 (nT_O k).2.1 (nT_O k).2.2.1).before args s = true) {v : Value} (hv : (zb_fO G S i)[k]? = some v) (hdg : decode cc pc = .ok (.getfield index, 3))
    (kk : W p l e R s m args below meth c H locs cells slots Q (F0 m (pc + 3) ls (v :: rest))) : W p l e R s m args below meth c H locs cells slots Q (F0 m pc ls (.ref (zg_ord G i) :: rest)) :=
  va_get (ci := 3) (C := nR_O) (T := nT_O) (N := 7) hx hb hts zw_inO hown hK hP (23 + i) (zb_atO hi) rfl k hk hlink (fun _ h => h) hv hdg kk
theorem zb_getR (hx : p.tables.exec = Jvm.exec) (hb : c.code = cc) (hts : ∀ w ∈ zw_big, w.before args s = true) (hown : s.vm.findClass own = some m.cls) (hK : va_K D vwCl (zb_tys G) s) (hP : va_P D vwCl (zb_cells G S) H) (k : Nat) (hk : k < 2) (hlink : (Cond.fieldLink own index (nT_R k).1 (nT_R k).2.1 (nT_R k).2.2.1).before args s = true) {v : Value} (hv : (zb_fR G S)[k]? = some v) (hdg : decode cc pc = .ok (.getfield index, 3))
    (kk : W p l e R s m args below meth c H locs cells slots Q (F0 m (pc + 3) ls (v :: rest))) : W p l e R s m args below meth c H locs cells slots Q (F0 m pc ls (.ref (zg_rst G) :: rest)) :=
  va_get (ci := 4) (C := nR_R) (T := nT_R) (N := 2) hx hb hts zw_inR hown hK hP (4) (rfl) rfl k hk hlink (fun _ h => h) hv hdg kk
theorem zb_getD (hx : p.tables.exec = Jvm.exec) (hb : c.code = cc) (hts : ∀ w ∈ zw_big, w.before args s = true) (hown : s.vm.findClass own = some m.cls) (hK : va_K D vwCl (zb_tys G) s) (hP : va_P D vwCl (zb_cells G S) H) (k : Nat) (hk : k < 6) (hlink : (Cond.fieldLink own index (nT_D k).1 (nT_D k).2.1 (nT_D k).2.2.1).before args s = true) {v : Value} (hv : (zb_fD S)[k]? = some v) (hdg : decode cc pc = .ok (.getfield index, 3))
    (kk : W p l e R s m args below meth c H locs cells slots Q (F0 m (pc + 3) ls (v :: rest))) : W p l e R s m args below meth c H locs cells slots Q (F0 m pc ls (.ref (zg_dsk G) :: rest)) :=
  va_get (ci := 5) (C := nR_D) (T := nT_D) (N := 6) hx hb hts zw_inD hown hK hP (5) (rfl) rfl k hk hlink (fun _ h => h) hv hdg kk
theorem zb_put_cur (hx : p.tables.exec = Jvm.exec) (hb : c.code = cc) (hts : ∀ w ∈ zw_big, w.before args s = true) (hown : s.vm.findClass own = some m.cls) (hK : va_K D vwCl (zb_tys G) s) (hG : zw_apart (zb_adr G)) (hP : va_P D vwCl (zb_cells G S) H) (hS : va_S (zb_Ad G) H0 H locs) {i : Nat} (hi : i < 6) {v : Int32} (hlink : (Cond.fieldLink own index (nT_A 1).1 (nT_A 1).2.1 (nT_A 1).2.2.1).before args s = true) (hdg : decode cc pc = .ok (.putfield index, 3))
    (kk : ∀ (H1 : Heap) (locs1 : List Loc), va_P D vwCl (zb_cells G (zb_scur S (upd (zb_cur S) i v))) H1 → va_S (zb_Ad G) H0 H1 locs1 → W p l e R s m args below meth c H1 locs1 cells slots Q (F0 m (pc + 3) ls rest)) : W p l e R s m args below meth c H locs cells slots Q (F0 m pc ls (.int v :: .ref (zg_acc G i) :: rest)) :=
  va_put (ci := 1) (C := nR_A) (T := nT_A) (N := 9) (ty := .int) hx hb hts zw_inA nt_A zw_tyA zw_nmA hown hK hP (zb_Dd hG S) hS (9 + i) (zb_atA hi) rfl 1 (by decide) hlink (fun _ h => h) rfl (by decide +kernel) rfl rfl (Nat.le_of_ble_eq_true rfl) hdg (fun H1 locs1 hP1 _ hS1 => kk H1 locs1 (by rw [zb_set_cur hi v] at hP1; exact hP1) hS1)
theorem zb_put_bas (hx : p.tables.exec = Jvm.exec) (hb : c.code = cc) (hts : ∀ w ∈ zw_big, w.before args s = true) (hown : s.vm.findClass own = some m.cls) (hK : va_K D vwCl (zb_tys G) s) (hG : zw_apart (zb_adr G)) (hP : va_P D vwCl (zb_cells G S) H) (hS : va_S (zb_Ad G) H0 H locs) {i : Nat} (hi : i < 6) {v : Int32} (hlink : (Cond.fieldLink own index (nT_A 2).1 (nT_A 2).2.1 (nT_A 2).2.2.1).before args s = true) (hdg : decode cc pc = .ok (.putfield index, 3))
    (kk : ∀ (H1 : Heap) (locs1 : List Loc), va_P D vwCl (zb_cells G (zb_sbas S (upd (zb_bas S) i v))) H1 → va_S (zb_Ad G) H0 H1 locs1 → W p l e R s m args below meth c H1 locs1 cells slots Q (F0 m (pc + 3) ls rest)) : W p l e R s m args below meth c H locs cells slots Q (F0 m pc ls (.int v :: .ref (zg_acc G i) :: rest)) :=
  va_put (ci := 1) (C := nR_A) (T := nT_A) (N := 9) (ty := .int) hx hb hts zw_inA nt_A zw_tyA zw_nmA hown hK hP (zb_Dd hG S) hS (9 + i) (zb_atA hi) rfl 2 (by decide) hlink (fun _ h => h) rfl (by decide +kernel) rfl rfl (Nat.le_of_ble_eq_true rfl) hdg (fun H1 locs1 hP1 _ hS1 => kk H1 locs1 (by rw [zb_set_bas hi v] at hP1; exact hP1) hS1)
theorem zb_put_lim (hx : p.tables.exec = Jvm.exec) (hb : c.code = cc) (hts : ∀ w ∈ zw_big, w.before args s = true) (hown : s.vm.findClass own = some m.cls) (hK : va_K D vwCl (zb_tys G) s) (hG : zw_apart (zb_adr G)) (hP : va_P D vwCl (zb_cells G S) H) (hS : va_S (zb_Ad G) H0 H locs) {i : Nat} (hi : i < 6) {v : Int32} (hlink : (Cond.fieldLink own index (nT_A 3).1 (nT_A 3).2.1 (nT_A 3).2.2.1).before args s = true) (hdg : decode cc pc = .ok (.putfield index, 3))
    (kk : ∀ (H1 : Heap) (locs1 : List Loc), va_P D vwCl (zb_cells G (zb_slim S (upd (zb_lim S) i v))) H1 → va_S (zb_Ad G) H0 H1 locs1 → W p l e R s m args below meth c H1 locs1 cells slots Q (F0 m (pc + 3) ls rest)) : W p l e R s m args below meth c H locs cells slots Q (F0 m pc ls (.int v :: .ref (zg_acc G i) :: rest)) :=
  va_put (ci := 1) (C := nR_A) (T := nT_A) (N := 9) (ty := .int) hx hb hts zw_inA nt_A zw_tyA zw_nmA hown hK hP (zb_Dd hG S) hS (9 + i) (zb_atA hi) rfl 3 (by decide) hlink (fun _ h => h) rfl (by decide +kernel) rfl rfl (Nat.le_of_ble_eq_true rfl) hdg (fun H1 locs1 hP1 _ hS1 => kk H1 locs1 (by rw [zb_set_lim hi v] at hP1; exact hP1) hS1)
theorem zb_put_rat (hx : p.tables.exec = Jvm.exec) (hb : c.code = cc) (hts : ∀ w ∈ zw_big, w.before args s = true) (hown : s.vm.findClass own = some m.cls) (hK : va_K D vwCl (zb_tys G) s) (hG : zw_apart (zb_adr G)) (hP : va_P D vwCl (zb_cells G S) H) (hS : va_S (zb_Ad G) H0 H locs) {i : Nat} (hi : i < 6) {v : Int32} (hlink : (Cond.fieldLink own index (nT_A 4).1 (nT_A 4).2.1 (nT_A 4).2.2.1).before args s = true) (hdg : decode cc pc = .ok (.putfield index, 3))
    (kk : ∀ (H1 : Heap) (locs1 : List Loc), va_P D vwCl (zb_cells G (zb_srat S (upd (zb_rat S) i v))) H1 → va_S (zb_Ad G) H0 H1 locs1 → W p l e R s m args below meth c H1 locs1 cells slots Q (F0 m (pc + 3) ls rest)) : W p l e R s m args below meth c H locs cells slots Q (F0 m pc ls (.int v :: .ref (zg_acc G i) :: rest)) :=
  va_put (ci := 1) (C := nR_A) (T := nT_A) (N := 9) (ty := .int) hx hb hts zw_inA nt_A zw_tyA zw_nmA hown hK hP (zb_Dd hG S) hS (9 + i) (zb_atA hi) rfl 4 (by decide) hlink (fun _ h => h) rfl (by decide +kernel) rfl rfl (Nat.le_of_ble_eq_true rfl) hdg (fun H1 locs1 hP1 _ hS1 => kk H1 locs1 (by rw [zb_set_rat hi v] at hP1; exact hP1) hS1)
theorem zb_put_bal (hx : p.tables.exec = Jvm.exec) (hb : c.code = cc) (hts : ∀ w ∈ zw_big, w.before args s = true) (hown : s.vm.findClass own = some m.cls) (hK : va_K D vwCl (zb_tys G) s) (hG : zw_apart (zb_adr G)) (hP : va_P D vwCl (zb_cells G S) H) (hS : va_S (zb_Ad G) H0 H locs) {i : Nat} (hi : i < 6) {v : Int64} (hlink : (Cond.fieldLink own index (nT_A 5).1 (nT_A 5).2.1 (nT_A 5).2.2.1).before args s = true) (hdg : decode cc pc = .ok (.putfield index, 3))
    (kk : ∀ (H1 : Heap) (locs1 : List Loc), va_P D vwCl (zb_cells G (zb_sbal S (vp_updL (zb_bal S) i v))) H1 → va_S (zb_Ad G) H0 H1 locs1 → W p l e R s m args below meth c H1 locs1 cells slots Q (F0 m (pc + 3) ls rest)) : W p l e R s m args below meth c H locs cells slots Q (F0 m pc ls (.long v :: .ref (zg_acc G i) :: rest)) :=
  va_put (ci := 1) (C := nR_A) (T := nT_A) (N := 9) (ty := .long) hx hb hts zw_inA nt_A zw_tyA zw_nmA hown hK hP (zb_Dd hG S) hS (9 + i) (zb_atA hi) rfl 5 (by decide) hlink (fun _ h => h) rfl (by decide +kernel) rfl rfl (Nat.le_of_ble_eq_true rfl) hdg (fun H1 locs1 hP1 _ hS1 => kk H1 locs1 (by rw [zb_set_bal hi v] at hP1; exact hP1) hS1)
theorem zb_put_hel (hx : p.tables.exec = Jvm.exec) (hb : c.code = cc) (hts : ∀ w ∈ zw_big, w.before args s = true) (hown : s.vm.findClass own = some m.cls) (hK : va_K D vwCl (zb_tys G) s) (hG : zw_apart (zb_adr G)) (hP : va_P D vwCl (zb_cells G S) H) (hS : va_S (zb_Ad G) H0 H locs) {i : Nat} (hi : i < 6) {v : Int64} (hlink : (Cond.fieldLink own index (nT_A 6).1 (nT_A 6).2.1 (nT_A 6).2.2.1).before args s = true) (hdg : decode cc pc = .ok (.putfield index, 3))
    (kk : ∀ (H1 : Heap) (locs1 : List Loc), va_P D vwCl (zb_cells G (zb_shel S (vp_updL (zb_hel S) i v))) H1 → va_S (zb_Ad G) H0 H1 locs1 → W p l e R s m args below meth c H1 locs1 cells slots Q (F0 m (pc + 3) ls rest)) : W p l e R s m args below meth c H locs cells slots Q (F0 m pc ls (.long v :: .ref (zg_acc G i) :: rest)) :=
  va_put (ci := 1) (C := nR_A) (T := nT_A) (N := 9) (ty := .long) hx hb hts zw_inA nt_A zw_tyA zw_nmA hown hK hP (zb_Dd hG S) hS (9 + i) (zb_atA hi) rfl 6 (by decide) hlink (fun _ h => h) rfl (by decide +kernel) rfl rfl (Nat.le_of_ble_eq_true rfl) hdg (fun H1 locs1 hP1 _ hS1 => kk H1 locs1 (by rw [zb_set_hel hi v] at hP1; exact hP1) hS1)
theorem zb_put_acr (hx : p.tables.exec = Jvm.exec) (hb : c.code = cc) (hts : ∀ w ∈ zw_big, w.before args s = true) (hown : s.vm.findClass own = some m.cls) (hK : va_K D vwCl (zb_tys G) s) (hG : zw_apart (zb_adr G)) (hP : va_P D vwCl (zb_cells G S) H) (hS : va_S (zb_Ad G) H0 H locs) {i : Nat} (hi : i < 6) {v : Int64} (hlink : (Cond.fieldLink own index (nT_A 7).1 (nT_A 7).2.1 (nT_A 7).2.2.1).before args s = true) (hdg : decode cc pc = .ok (.putfield index, 3))
    (kk : ∀ (H1 : Heap) (locs1 : List Loc), va_P D vwCl (zb_cells G (zb_sacr S (vp_updL (zb_acr S) i v))) H1 → va_S (zb_Ad G) H0 H1 locs1 → W p l e R s m args below meth c H1 locs1 cells slots Q (F0 m (pc + 3) ls rest)) : W p l e R s m args below meth c H locs cells slots Q (F0 m pc ls (.long v :: .ref (zg_acc G i) :: rest)) :=
  va_put (ci := 1) (C := nR_A) (T := nT_A) (N := 9) (ty := .long) hx hb hts zw_inA nt_A zw_tyA zw_nmA hown hK hP (zb_Dd hG S) hS (9 + i) (zb_atA hi) rfl 7 (by decide) hlink (fun _ h => h) rfl (by decide +kernel) rfl rfl (Nat.le_of_ble_eq_true rfl) hdg (fun H1 locs1 hP1 _ hS1 => kk H1 locs1 (by rw [zb_set_acr hi v] at hP1; exact hP1) hS1)
theorem zb_put_mrk (hx : p.tables.exec = Jvm.exec) (hb : c.code = cc) (hts : ∀ w ∈ zw_big, w.before args s = true) (hown : s.vm.findClass own = some m.cls) (hK : va_K D vwCl (zb_tys G) s) (hG : zw_apart (zb_adr G)) (hP : va_P D vwCl (zb_cells G S) H) (hS : va_S (zb_Ad G) H0 H locs) {i : Nat} (hi : i < 6) {v : Int32} (hlink : (Cond.fieldLink own index (nT_A 8).1 (nT_A 8).2.1 (nT_A 8).2.2.1).before args s = true) (hdg : decode cc pc = .ok (.putfield index, 3))
    (kk : ∀ (H1 : Heap) (locs1 : List Loc), va_P D vwCl (zb_cells G (zb_smrk S (upd (zb_mrk S) i v))) H1 → va_S (zb_Ad G) H0 H1 locs1 → W p l e R s m args below meth c H1 locs1 cells slots Q (F0 m (pc + 3) ls rest)) : W p l e R s m args below meth c H locs cells slots Q (F0 m pc ls (.int v :: .ref (zg_acc G i) :: rest)) :=
  va_put (ci := 1) (C := nR_A) (T := nT_A) (N := 9) (ty := .int) hx hb hts zw_inA nt_A zw_tyA zw_nmA hown hK hP (zb_Dd hG S) hS (9 + i) (zb_atA hi) rfl 8 (by decide) hlink (fun _ h => h) rfl (by decide +kernel) rfl rfl (Nat.le_of_ble_eq_true rfl) hdg (fun H1 locs1 hP1 _ hS1 => kk H1 locs1 (by rw [zb_set_mrk hi v] at hP1; exact hP1) hS1)
theorem zb_put_hol (hx : p.tables.exec = Jvm.exec) (hb : c.code = cc) (hts : ∀ w ∈ zw_big, w.before args s = true) (hown : s.vm.findClass own = some m.cls) (hK : va_K D vwCl (zb_tys G) s) (hG : zw_apart (zb_adr G)) (hP : va_P D vwCl (zb_cells G S) H) (hS : va_S (zb_Ad G) H0 H locs) {i : Nat} (hi : i < 8) {v : Option Nat} (hlink : (Cond.fieldLink own index (nT_H 0).1 (nT_H 0).2.1 (nT_H 0).2.2.1).before args s = true) (hdg : decode cc pc = .ok (.putfield index, 3))
    (kk : ∀ (H1 : Heap) (locs1 : List Loc), va_P D vwCl (zb_cells G (zb_shol S (va_up (zb_hol S) i v))) H1 → va_S (zb_Ad G) H0 H1 locs1 → W p l e R s m args below meth c H1 locs1 cells slots Q (F0 m (pc + 3) ls rest)) : W p l e R s m args below meth c H locs cells slots Q (F0 m pc ls (va_re (zg_acc G) v :: .ref (zg_hld G i) :: rest)) :=
  va_put (ci := 2) (C := nR_H) (T := nT_H) (N := 2) (ty := .object "DayEndBank$Account") hx hb hts zw_inH nt_H zw_tyH zw_nmH hown hK hP (zb_Dd hG S) hS (15 + i) (zb_atH hi) rfl 0 (by decide) hlink (fun _ h => h) rfl (by decide +kernel) (by cases v <;> rfl) (by cases v <;> rfl) (Nat.le_of_ble_eq_true rfl) hdg (fun H1 locs1 hP1 _ hS1 => kk H1 locs1 (by rw [zb_set_hol hi v] at hP1; exact hP1) hS1)
theorem zb_put_ham (hx : p.tables.exec = Jvm.exec) (hb : c.code = cc) (hts : ∀ w ∈ zw_big, w.before args s = true) (hown : s.vm.findClass own = some m.cls) (hK : va_K D vwCl (zb_tys G) s) (hG : zw_apart (zb_adr G)) (hP : va_P D vwCl (zb_cells G S) H) (hS : va_S (zb_Ad G) H0 H locs) {i : Nat} (hi : i < 8) {v : Int32} (hlink : (Cond.fieldLink own index (nT_H 1).1 (nT_H 1).2.1 (nT_H 1).2.2.1).before args s = true) (hdg : decode cc pc = .ok (.putfield index, 3))
    (kk : ∀ (H1 : Heap) (locs1 : List Loc), va_P D vwCl (zb_cells G (zb_sham S (upd (zb_ham S) i v))) H1 → va_S (zb_Ad G) H0 H1 locs1 → W p l e R s m args below meth c H1 locs1 cells slots Q (F0 m (pc + 3) ls rest)) : W p l e R s m args below meth c H locs cells slots Q (F0 m pc ls (.int v :: .ref (zg_hld G i) :: rest)) :=
  va_put (ci := 2) (C := nR_H) (T := nT_H) (N := 2) (ty := .int) hx hb hts zw_inH nt_H zw_tyH zw_nmH hown hK hP (zb_Dd hG S) hS (15 + i) (zb_atH hi) rfl 1 (by decide) hlink (fun _ h => h) rfl (by decide +kernel) rfl rfl (Nat.le_of_ble_eq_true rfl) hdg (fun H1 locs1 hP1 _ hS1 => kk H1 locs1 (by rw [zb_set_ham hi v] at hP1; exact hP1) hS1)
theorem zb_put_pyr (hx : p.tables.exec = Jvm.exec) (hb : c.code = cc) (hts : ∀ w ∈ zw_big, w.before args s = true) (hown : s.vm.findClass own = some m.cls) (hK : va_K D vwCl (zb_tys G) s) (hG : zw_apart (zb_adr G)) (hP : va_P D vwCl (zb_cells G S) H) (hS : va_S (zb_Ad G) H0 H locs) {i : Nat} (hi : i < 6) {v : Option Nat} (hlink : (Cond.fieldLink own index (nT_O 0).1 (nT_O 0).2.1 (nT_O 0).2.2.1).before args s = true) (hdg : decode cc pc = .ok (.putfield index, 3))
    (kk : ∀ (H1 : Heap) (locs1 : List Loc), va_P D vwCl (zb_cells G (zb_spyr S (va_up (zb_pyr S) i v))) H1 → va_S (zb_Ad G) H0 H1 locs1 → W p l e R s m args below meth c H1 locs1 cells slots Q (F0 m (pc + 3) ls rest)) : W p l e R s m args below meth c H locs cells slots Q (F0 m pc ls (va_re (zg_acc G) v :: .ref (zg_ord G i) :: rest)) :=
  va_put (ci := 3) (C := nR_O) (T := nT_O) (N := 7) (ty := .object "DayEndBank$Account") hx hb hts zw_inO nt_O zw_tyO zw_nmO hown hK hP (zb_Dd hG S) hS (23 + i) (zb_atO hi) rfl 0 (by decide) hlink (fun _ h => h) rfl (by decide +kernel) (by cases v <;> rfl) (by cases v <;> rfl) (Nat.le_of_ble_eq_true rfl) hdg (fun H1 locs1 hP1 _ hS1 => kk H1 locs1 (by rw [zb_set_pyr hi v] at hP1; exact hP1) hS1)
theorem zb_put_pye (hx : p.tables.exec = Jvm.exec) (hb : c.code = cc) (hts : ∀ w ∈ zw_big, w.before args s = true) (hown : s.vm.findClass own = some m.cls) (hK : va_K D vwCl (zb_tys G) s) (hG : zw_apart (zb_adr G)) (hP : va_P D vwCl (zb_cells G S) H) (hS : va_S (zb_Ad G) H0 H locs) {i : Nat} (hi : i < 6) {v : Option Nat} (hlink : (Cond.fieldLink own index (nT_O 1).1 (nT_O 1).2.1 (nT_O 1).2.2.1).before args s = true) (hdg : decode cc pc = .ok (.putfield index, 3))
    (kk : ∀ (H1 : Heap) (locs1 : List Loc), va_P D vwCl (zb_cells G (zb_spye S (va_up (zb_pye S) i v))) H1 → va_S (zb_Ad G) H0 H1 locs1 → W p l e R s m args below meth c H1 locs1 cells slots Q (F0 m (pc + 3) ls rest)) : W p l e R s m args below meth c H locs cells slots Q (F0 m pc ls (va_re (zg_acc G) v :: .ref (zg_ord G i) :: rest)) :=
  va_put (ci := 3) (C := nR_O) (T := nT_O) (N := 7) (ty := .object "DayEndBank$Account") hx hb hts zw_inO nt_O zw_tyO zw_nmO hown hK hP (zb_Dd hG S) hS (23 + i) (zb_atO hi) rfl 1 (by decide) hlink (fun _ h => h) rfl (by decide +kernel) (by cases v <;> rfl) (by cases v <;> rfl) (Nat.le_of_ble_eq_true rfl) hdg (fun H1 locs1 hP1 _ hS1 => kk H1 locs1 (by rw [zb_set_pye hi v] at hP1; exact hP1) hS1)
theorem zb_put_oam (hx : p.tables.exec = Jvm.exec) (hb : c.code = cc) (hts : ∀ w ∈ zw_big, w.before args s = true) (hown : s.vm.findClass own = some m.cls) (hK : va_K D vwCl (zb_tys G) s) (hG : zw_apart (zb_adr G)) (hP : va_P D vwCl (zb_cells G S) H) (hS : va_S (zb_Ad G) H0 H locs) {i : Nat} (hi : i < 6) {v : Int32} (hlink : (Cond.fieldLink own index (nT_O 2).1 (nT_O 2).2.1 (nT_O 2).2.2.1).before args s = true) (hdg : decode cc pc = .ok (.putfield index, 3))
    (kk : ∀ (H1 : Heap) (locs1 : List Loc), va_P D vwCl (zb_cells G (zb_soam S (upd (zb_oam S) i v))) H1 → va_S (zb_Ad G) H0 H1 locs1 → W p l e R s m args below meth c H1 locs1 cells slots Q (F0 m (pc + 3) ls rest)) : W p l e R s m args below meth c H locs cells slots Q (F0 m pc ls (.int v :: .ref (zg_ord G i) :: rest)) :=
  va_put (ci := 3) (C := nR_O) (T := nT_O) (N := 7) (ty := .int) hx hb hts zw_inO nt_O zw_tyO zw_nmO hown hK hP (zb_Dd hG S) hS (23 + i) (zb_atO hi) rfl 2 (by decide) hlink (fun _ h => h) rfl (by decide +kernel) rfl rfl (Nat.le_of_ble_eq_true rfl) hdg (fun H1 locs1 hP1 _ hS1 => kk H1 locs1 (by rw [zb_set_oam hi v] at hP1; exact hP1) hS1)
theorem zb_put_ody (hx : p.tables.exec = Jvm.exec) (hb : c.code = cc) (hts : ∀ w ∈ zw_big, w.before args s = true) (hown : s.vm.findClass own = some m.cls) (hK : va_K D vwCl (zb_tys G) s) (hG : zw_apart (zb_adr G)) (hP : va_P D vwCl (zb_cells G S) H) (hS : va_S (zb_Ad G) H0 H locs) {i : Nat} (hi : i < 6) {v : Int32} (hlink : (Cond.fieldLink own index (nT_O 3).1 (nT_O 3).2.1 (nT_O 3).2.2.1).before args s = true) (hdg : decode cc pc = .ok (.putfield index, 3))
    (kk : ∀ (H1 : Heap) (locs1 : List Loc), va_P D vwCl (zb_cells G (zb_sody S (upd (zb_ody S) i v))) H1 → va_S (zb_Ad G) H0 H1 locs1 → W p l e R s m args below meth c H1 locs1 cells slots Q (F0 m (pc + 3) ls rest)) : W p l e R s m args below meth c H locs cells slots Q (F0 m pc ls (.int v :: .ref (zg_ord G i) :: rest)) :=
  va_put (ci := 3) (C := nR_O) (T := nT_O) (N := 7) (ty := .int) hx hb hts zw_inO nt_O zw_tyO zw_nmO hown hK hP (zb_Dd hG S) hS (23 + i) (zb_atO hi) rfl 3 (by decide) hlink (fun _ h => h) rfl (by decide +kernel) rfl rfl (Nat.le_of_ble_eq_true rfl) hdg (fun H1 locs1 hP1 _ hS1 => kk H1 locs1 (by rw [zb_set_ody hi v] at hP1; exact hP1) hS1)
theorem zb_put_oms (hx : p.tables.exec = Jvm.exec) (hb : c.code = cc) (hts : ∀ w ∈ zw_big, w.before args s = true) (hown : s.vm.findClass own = some m.cls) (hK : va_K D vwCl (zb_tys G) s) (hG : zw_apart (zb_adr G)) (hP : va_P D vwCl (zb_cells G S) H) (hS : va_S (zb_Ad G) H0 H locs) {i : Nat} (hi : i < 6) {v : Int32} (hlink : (Cond.fieldLink own index (nT_O 4).1 (nT_O 4).2.1 (nT_O 4).2.2.1).before args s = true) (hdg : decode cc pc = .ok (.putfield index, 3))
    (kk : ∀ (H1 : Heap) (locs1 : List Loc), va_P D vwCl (zb_cells G (zb_soms S (upd (zb_oms S) i v))) H1 → va_S (zb_Ad G) H0 H1 locs1 → W p l e R s m args below meth c H1 locs1 cells slots Q (F0 m (pc + 3) ls rest)) : W p l e R s m args below meth c H locs cells slots Q (F0 m pc ls (.int v :: .ref (zg_ord G i) :: rest)) :=
  va_put (ci := 3) (C := nR_O) (T := nT_O) (N := 7) (ty := .int) hx hb hts zw_inO nt_O zw_tyO zw_nmO hown hK hP (zb_Dd hG S) hS (23 + i) (zb_atO hi) rfl 4 (by decide) hlink (fun _ h => h) rfl (by decide +kernel) rfl rfl (Nat.le_of_ble_eq_true rfl) hdg (fun H1 locs1 hP1 _ hS1 => kk H1 locs1 (by rw [zb_set_oms hi v] at hP1; exact hP1) hS1)
theorem zb_put_odu (hx : p.tables.exec = Jvm.exec) (hb : c.code = cc) (hts : ∀ w ∈ zw_big, w.before args s = true) (hown : s.vm.findClass own = some m.cls) (hK : va_K D vwCl (zb_tys G) s) (hG : zw_apart (zb_adr G)) (hP : va_P D vwCl (zb_cells G S) H) (hS : va_S (zb_Ad G) H0 H locs) {i : Nat} (hi : i < 6) {v : Int32} (hv : v = 0 ∨ v = 1) (hlink : (Cond.fieldLink own index (nT_O 5).1 (nT_O 5).2.1 (nT_O 5).2.2.1).before args s = true) (hdg : decode cc pc = .ok (.putfield index, 3))
    (kk : ∀ (H1 : Heap) (locs1 : List Loc), va_P D vwCl (zb_cells G (zb_sodu S (upd (zb_odu S) i v))) H1 → va_S (zb_Ad G) H0 H1 locs1 → W p l e R s m args below meth c H1 locs1 cells slots Q (F0 m (pc + 3) ls rest)) : W p l e R s m args below meth c H locs cells slots Q (F0 m pc ls (.int v :: .ref (zg_ord G i) :: rest)) :=
  va_put (ci := 3) (C := nR_O) (T := nT_O) (N := 7) (ty := .boolean) hx hb hts zw_inO nt_O zw_tyO zw_nmO hown hK hP (zb_Dd hG S) hS (23 + i) (zb_atO hi) rfl 5 (by decide) hlink (fun _ h => h) rfl (by decide +kernel) (by rcases hv with rfl | rfl <;> rfl) (by rcases hv with rfl | rfl <;> rfl) (Nat.le_of_ble_eq_true rfl) hdg (fun H1 locs1 hP1 _ hS1 => kk H1 locs1 (by rw [zb_set_odu hi v] at hP1; exact hP1) hS1)
theorem zb_put_opd (hx : p.tables.exec = Jvm.exec) (hb : c.code = cc) (hts : ∀ w ∈ zw_big, w.before args s = true) (hown : s.vm.findClass own = some m.cls) (hK : va_K D vwCl (zb_tys G) s) (hG : zw_apart (zb_adr G)) (hP : va_P D vwCl (zb_cells G S) H) (hS : va_S (zb_Ad G) H0 H locs) {i : Nat} (hi : i < 6) {v : Int32} (hv : v = 0 ∨ v = 1) (hlink : (Cond.fieldLink own index (nT_O 6).1 (nT_O 6).2.1 (nT_O 6).2.2.1).before args s = true) (hdg : decode cc pc = .ok (.putfield index, 3))
    (kk : ∀ (H1 : Heap) (locs1 : List Loc), va_P D vwCl (zb_cells G (zb_sopd S (upd (zb_opd S) i v))) H1 → va_S (zb_Ad G) H0 H1 locs1 → W p l e R s m args below meth c H1 locs1 cells slots Q (F0 m (pc + 3) ls rest)) : W p l e R s m args below meth c H locs cells slots Q (F0 m pc ls (.int v :: .ref (zg_ord G i) :: rest)) :=
  va_put (ci := 3) (C := nR_O) (T := nT_O) (N := 7) (ty := .boolean) hx hb hts zw_inO nt_O zw_tyO zw_nmO hown hK hP (zb_Dd hG S) hS (23 + i) (zb_atO hi) rfl 6 (by decide) hlink (fun _ h => h) rfl (by decide +kernel) (by rcases hv with rfl | rfl <;> rfl) (by rcases hv with rfl | rfl <;> rfl) (Nat.le_of_ble_eq_true rfl) hdg (fun H1 locs1 hP1 _ hS1 => kk H1 locs1 (by rw [zb_set_opd hi v] at hP1; exact hP1) hS1)
theorem zb_put_dm (hx : p.tables.exec = Jvm.exec) (hb : c.code = cc) (hts : ∀ w ∈ zw_big, w.before args s = true) (hown : s.vm.findClass own = some m.cls) (hK : va_K D vwCl (zb_tys G) s) (hG : zw_apart (zb_adr G)) (hP : va_P D vwCl (zb_cells G S) H) (hS : va_S (zb_Ad G) H0 H locs) {v : Int32} (hlink : (Cond.fieldLink own index (nT_R 1).1 (nT_R 1).2.1 (nT_R 1).2.2.1).before args s = true) (hdg : decode cc pc = .ok (.putfield index, 3))
    (kk : ∀ (H1 : Heap) (locs1 : List Loc), va_P D vwCl (zb_cells G (zb_sdm S v)) H1 → va_S (zb_Ad G) H0 H1 locs1 → W p l e R s m args below meth c H1 locs1 cells slots Q (F0 m (pc + 3) ls rest)) : W p l e R s m args below meth c H locs cells slots Q (F0 m pc ls (.int v :: .ref (zg_rst G) :: rest)) :=
  va_put (ci := 4) (C := nR_R) (T := nT_R) (N := 2) (ty := .int) hx hb hts zw_inR nt_R zw_tyR zw_nmR hown hK hP (zb_Dd hG S) hS (4) (rfl) rfl 1 (by decide) hlink (fun _ h => h) rfl (by decide +kernel) rfl rfl (Nat.le_of_ble_eq_true rfl) hdg (fun H1 locs1 hP1 _ hS1 => kk H1 locs1 (by rw [zb_set_dm v] at hP1; exact hP1) hS1)
theorem zb_put_stp (hx : p.tables.exec = Jvm.exec) (hb : c.code = cc) (hts : ∀ w ∈ zw_big, w.before args s = true) (hown : s.vm.findClass own = some m.cls) (hK : va_K D vwCl (zb_tys G) s) (hG : zw_apart (zb_adr G)) (hP : va_P D vwCl (zb_cells G S) H) (hS : va_S (zb_Ad G) H0 H locs) {v : Int32} (hv : v = 0 ∨ v = 1) (hlink : (Cond.fieldLink own index (nT_D 0).1 (nT_D 0).2.1 (nT_D 0).2.2.1).before args s = true) (hdg : decode cc pc = .ok (.putfield index, 3))
    (kk : ∀ (H1 : Heap) (locs1 : List Loc), va_P D vwCl (zb_cells G (zb_sstp S v)) H1 → va_S (zb_Ad G) H0 H1 locs1 → W p l e R s m args below meth c H1 locs1 cells slots Q (F0 m (pc + 3) ls rest)) : W p l e R s m args below meth c H locs cells slots Q (F0 m pc ls (.int v :: .ref (zg_dsk G) :: rest)) :=
  va_put (ci := 5) (C := nR_D) (T := nT_D) (N := 6) (ty := .boolean) hx hb hts zw_inD nt_D zw_tyD zw_nmD hown hK hP (zb_Dd hG S) hS (5) (rfl) rfl 0 (by decide) hlink (fun _ h => h) rfl (by decide +kernel) (by rcases hv with rfl | rfl <;> rfl) (by rcases hv with rfl | rfl <;> rfl) (Nat.le_of_ble_eq_true rfl) hdg (fun H1 locs1 hP1 _ hS1 => kk H1 locs1 (by rw [zb_set_stp v] at hP1; exact hP1) hS1)
theorem zb_put_wm (hx : p.tables.exec = Jvm.exec) (hb : c.code = cc) (hts : ∀ w ∈ zw_big, w.before args s = true) (hown : s.vm.findClass own = some m.cls) (hK : va_K D vwCl (zb_tys G) s) (hG : zw_apart (zb_adr G)) (hP : va_P D vwCl (zb_cells G S) H) (hS : va_S (zb_Ad G) H0 H locs) {v : Int32} (hlink : (Cond.fieldLink own index (nT_D 1).1 (nT_D 1).2.1 (nT_D 1).2.2.1).before args s = true) (hdg : decode cc pc = .ok (.putfield index, 3))
    (kk : ∀ (H1 : Heap) (locs1 : List Loc), va_P D vwCl (zb_cells G (zb_swm S v)) H1 → va_S (zb_Ad G) H0 H1 locs1 → W p l e R s m args below meth c H1 locs1 cells slots Q (F0 m (pc + 3) ls rest)) : W p l e R s m args below meth c H locs cells slots Q (F0 m pc ls (.int v :: .ref (zg_dsk G) :: rest)) :=
  va_put (ci := 5) (C := nR_D) (T := nT_D) (N := 6) (ty := .int) hx hb hts zw_inD nt_D zw_tyD zw_nmD hown hK hP (zb_Dd hG S) hS (5) (rfl) rfl 1 (by decide) hlink (fun _ h => h) rfl (by decide +kernel) rfl rfl (Nat.le_of_ble_eq_true rfl) hdg (fun H1 locs1 hP1 _ hS1 => kk H1 locs1 (by rw [zb_set_wm v] at hP1; exact hP1) hS1)
theorem zb_put_wl (hx : p.tables.exec = Jvm.exec) (hb : c.code = cc) (hts : ∀ w ∈ zw_big, w.before args s = true) (hown : s.vm.findClass own = some m.cls) (hK : va_K D vwCl (zb_tys G) s) (hG : zw_apart (zb_adr G)) (hP : va_P D vwCl (zb_cells G S) H) (hS : va_S (zb_Ad G) H0 H locs) {v : Int32} (hlink : (Cond.fieldLink own index (nT_D 2).1 (nT_D 2).2.1 (nT_D 2).2.2.1).before args s = true) (hdg : decode cc pc = .ok (.putfield index, 3))
    (kk : ∀ (H1 : Heap) (locs1 : List Loc), va_P D vwCl (zb_cells G (zb_swl S v)) H1 → va_S (zb_Ad G) H0 H1 locs1 → W p l e R s m args below meth c H1 locs1 cells slots Q (F0 m (pc + 3) ls rest)) : W p l e R s m args below meth c H locs cells slots Q (F0 m pc ls (.int v :: .ref (zg_dsk G) :: rest)) :=
  va_put (ci := 5) (C := nR_D) (T := nT_D) (N := 6) (ty := .int) hx hb hts zw_inD nt_D zw_tyD zw_nmD hown hK hP (zb_Dd hG S) hS (5) (rfl) rfl 2 (by decide) hlink (fun _ h => h) rfl (by decide +kernel) rfl rfl (Nat.le_of_ble_eq_true rfl) hdg (fun H1 locs1 hP1 _ hS1 => kk H1 locs1 (by rw [zb_set_wl v] at hP1; exact hP1) hS1)
theorem zb_put_lin (hx : p.tables.exec = Jvm.exec) (hb : c.code = cc) (hts : ∀ w ∈ zw_big, w.before args s = true) (hown : s.vm.findClass own = some m.cls) (hK : va_K D vwCl (zb_tys G) s) (hG : zw_apart (zb_adr G)) (hP : va_P D vwCl (zb_cells G S) H) (hS : va_S (zb_Ad G) H0 H locs) {v : Int32} (hlink : (Cond.fieldLink own index (nT_D 3).1 (nT_D 3).2.1 (nT_D 3).2.2.1).before args s = true) (hdg : decode cc pc = .ok (.putfield index, 3))
    (kk : ∀ (H1 : Heap) (locs1 : List Loc), va_P D vwCl (zb_cells G (zb_slin S v)) H1 → va_S (zb_Ad G) H0 H1 locs1 → W p l e R s m args below meth c H1 locs1 cells slots Q (F0 m (pc + 3) ls rest)) : W p l e R s m args below meth c H locs cells slots Q (F0 m pc ls (.int v :: .ref (zg_dsk G) :: rest)) :=
  va_put (ci := 5) (C := nR_D) (T := nT_D) (N := 6) (ty := .int) hx hb hts zw_inD nt_D zw_tyD zw_nmD hown hK hP (zb_Dd hG S) hS (5) (rfl) rfl 3 (by decide) hlink (fun _ h => h) rfl (by decide +kernel) rfl rfl (Nat.le_of_ble_eq_true rfl) hdg (fun H1 locs1 hP1 _ hS1 => kk H1 locs1 (by rw [zb_set_lin v] at hP1; exact hP1) hS1)
theorem zb_put_trn (hx : p.tables.exec = Jvm.exec) (hb : c.code = cc) (hts : ∀ w ∈ zw_big, w.before args s = true) (hown : s.vm.findClass own = some m.cls) (hK : va_K D vwCl (zb_tys G) s) (hG : zw_apart (zb_adr G)) (hP : va_P D vwCl (zb_cells G S) H) (hS : va_S (zb_Ad G) H0 H locs) {v : Int32} (hlink : (Cond.fieldLink own index (nT_D 4).1 (nT_D 4).2.1 (nT_D 4).2.2.1).before args s = true) (hdg : decode cc pc = .ok (.putfield index, 3))
    (kk : ∀ (H1 : Heap) (locs1 : List Loc), va_P D vwCl (zb_cells G (zb_strn S v)) H1 → va_S (zb_Ad G) H0 H1 locs1 → W p l e R s m args below meth c H1 locs1 cells slots Q (F0 m (pc + 3) ls rest)) : W p l e R s m args below meth c H locs cells slots Q (F0 m pc ls (.int v :: .ref (zg_dsk G) :: rest)) :=
  va_put (ci := 5) (C := nR_D) (T := nT_D) (N := 6) (ty := .int) hx hb hts zw_inD nt_D zw_tyD zw_nmD hown hK hP (zb_Dd hG S) hS (5) (rfl) rfl 4 (by decide) hlink (fun _ h => h) rfl (by decide +kernel) rfl rfl (Nat.le_of_ble_eq_true rfl) hdg (fun H1 locs1 hP1 _ hS1 => kk H1 locs1 (by rw [zb_set_trn v] at hP1; exact hP1) hS1)
theorem zb_put_chg (hx : p.tables.exec = Jvm.exec) (hb : c.code = cc) (hts : ∀ w ∈ zw_big, w.before args s = true) (hown : s.vm.findClass own = some m.cls) (hK : va_K D vwCl (zb_tys G) s) (hG : zw_apart (zb_adr G)) (hP : va_P D vwCl (zb_cells G S) H) (hS : va_S (zb_Ad G) H0 H locs) {v : Int32} (hlink : (Cond.fieldLink own index (nT_D 5).1 (nT_D 5).2.1 (nT_D 5).2.2.1).before args s = true) (hdg : decode cc pc = .ok (.putfield index, 3))
    (kk : ∀ (H1 : Heap) (locs1 : List Loc), va_P D vwCl (zb_cells G (zb_schg S v)) H1 → va_S (zb_Ad G) H0 H1 locs1 → W p l e R s m args below meth c H1 locs1 cells slots Q (F0 m (pc + 3) ls rest)) : W p l e R s m args below meth c H locs cells slots Q (F0 m pc ls (.int v :: .ref (zg_dsk G) :: rest)) :=
  va_put (ci := 5) (C := nR_D) (T := nT_D) (N := 6) (ty := .int) hx hb hts zw_inD nt_D zw_tyD zw_nmD hown hK hP (zb_Dd hG S) hS (5) (rfl) rfl 5 (by decide) hlink (fun _ h => h) rfl (by decide +kernel) rfl rfl (Nat.le_of_ble_eq_true rfl) hdg (fun H1 locs1 hP1 _ hS1 => kk H1 locs1 (by rw [zb_set_chg v] at hP1; exact hP1) hS1)
theorem zb_put_n (hx : p.tables.exec = Jvm.exec) (hb : c.code = cc) (hts : ∀ w ∈ zw_big, w.before args s = true) (hown : s.vm.findClass own = some m.cls) (hK : va_K D vwCl (zb_tys G) s) (hG : zw_apart (zb_adr G)) (hP : va_P D vwCl (zb_cells G S) H) (hS : va_S (zb_Ad G) H0 H locs) {v : Int32} (hlink : (Cond.fieldLink own index (nT_B 7).1 (nT_B 7).2.1 (nT_B 7).2.2.1).before args s = true) (hdg : decode cc pc = .ok (.putfield index, 3))
    (kk : ∀ (H1 : Heap) (locs1 : List Loc), va_P D vwCl (zb_cells G (zb_sn S v)) H1 → va_S (zb_Ad G) H0 H1 locs1 → W p l e R s m args below meth c H1 locs1 cells slots Q (F0 m (pc + 3) ls rest)) : W p l e R s m args below meth c H locs cells slots Q (F0 m pc ls (.int v :: .ref (zg_bnk G) :: rest)) :=
  va_put (ci := 0) (C := nR_B) (T := nT_B) (N := 11) (ty := .int) hx hb hts zw_inB nt_B zw_tyB zw_nmB hown hK hP (zb_Dd hG S) hS (0) (rfl) rfl 7 (by decide) hlink (fun _ h => h) rfl (by decide +kernel) rfl rfl (Nat.le_of_ble_eq_true rfl) hdg (fun H1 locs1 hP1 _ hS1 => kk H1 locs1 (by rw [zb_set_n v] at hP1; exact hP1) hS1)
theorem zb_put_o (hx : p.tables.exec = Jvm.exec) (hb : c.code = cc) (hts : ∀ w ∈ zw_big, w.before args s = true) (hown : s.vm.findClass own = some m.cls) (hK : va_K D vwCl (zb_tys G) s) (hG : zw_apart (zb_adr G)) (hP : va_P D vwCl (zb_cells G S) H) (hS : va_S (zb_Ad G) H0 H locs) {v : Int32} (hlink : (Cond.fieldLink own index (nT_B 8).1 (nT_B 8).2.1 (nT_B 8).2.2.1).before args s = true) (hdg : decode cc pc = .ok (.putfield index, 3))
    (kk : ∀ (H1 : Heap) (locs1 : List Loc), va_P D vwCl (zb_cells G (zb_so S v)) H1 → va_S (zb_Ad G) H0 H1 locs1 → W p l e R s m args below meth c H1 locs1 cells slots Q (F0 m (pc + 3) ls rest)) : W p l e R s m args below meth c H locs cells slots Q (F0 m pc ls (.int v :: .ref (zg_bnk G) :: rest)) :=
  va_put (ci := 0) (C := nR_B) (T := nT_B) (N := 11) (ty := .int) hx hb hts zw_inB nt_B zw_tyB zw_nmB hown hK hP (zb_Dd hG S) hS (0) (rfl) rfl 8 (by decide) hlink (fun _ h => h) rfl (by decide +kernel) rfl rfl (Nat.le_of_ble_eq_true rfl) hdg (fun H1 locs1 hP1 _ hS1 => kk H1 locs1 (by rw [zb_set_o v] at hP1; exact hP1) hS1)
theorem zb_put_bd (hx : p.tables.exec = Jvm.exec) (hb : c.code = cc) (hts : ∀ w ∈ zw_big, w.before args s = true) (hown : s.vm.findClass own = some m.cls) (hK : va_K D vwCl (zb_tys G) s) (hG : zw_apart (zb_adr G)) (hP : va_P D vwCl (zb_cells G S) H) (hS : va_S (zb_Ad G) H0 H locs) {v : Int32} (hlink : (Cond.fieldLink own index (nT_B 9).1 (nT_B 9).2.1 (nT_B 9).2.2.1).before args s = true) (hdg : decode cc pc = .ok (.putfield index, 3))
    (kk : ∀ (H1 : Heap) (locs1 : List Loc), va_P D vwCl (zb_cells G (zb_sbd S v)) H1 → va_S (zb_Ad G) H0 H1 locs1 → W p l e R s m args below meth c H1 locs1 cells slots Q (F0 m (pc + 3) ls rest)) : W p l e R s m args below meth c H locs cells slots Q (F0 m pc ls (.int v :: .ref (zg_bnk G) :: rest)) :=
  va_put (ci := 0) (C := nR_B) (T := nT_B) (N := 11) (ty := .int) hx hb hts zw_inB nt_B zw_tyB zw_nmB hown hK hP (zb_Dd hG S) hS (0) (rfl) rfl 9 (by decide) hlink (fun _ h => h) rfl (by decide +kernel) rfl rfl (Nat.le_of_ble_eq_true rfl) hdg (fun H1 locs1 hP1 _ hS1 => kk H1 locs1 (by rw [zb_set_bd v] at hP1; exact hP1) hS1)
theorem zb_put_de (hx : p.tables.exec = Jvm.exec) (hb : c.code = cc) (hts : ∀ w ∈ zw_big, w.before args s = true) (hown : s.vm.findClass own = some m.cls) (hK : va_K D vwCl (zb_tys G) s) (hG : zw_apart (zb_adr G)) (hP : va_P D vwCl (zb_cells G S) H) (hS : va_S (zb_Ad G) H0 H locs) {v : Int32} (hv : v = 0 ∨ v = 1) (hlink : (Cond.fieldLink own index (nT_B 10).1 (nT_B 10).2.1 (nT_B 10).2.2.1).before args s = true) (hdg : decode cc pc = .ok (.putfield index, 3))
    (kk : ∀ (H1 : Heap) (locs1 : List Loc), va_P D vwCl (zb_cells G (zb_sde S v)) H1 → va_S (zb_Ad G) H0 H1 locs1 → W p l e R s m args below meth c H1 locs1 cells slots Q (F0 m (pc + 3) ls rest)) : W p l e R s m args below meth c H locs cells slots Q (F0 m pc ls (.int v :: .ref (zg_bnk G) :: rest)) :=
  va_put (ci := 0) (C := nR_B) (T := nT_B) (N := 11) (ty := .boolean) hx hb hts zw_inB nt_B zw_tyB zw_nmB hown hK hP (zb_Dd hG S) hS (0) (rfl) rfl 10 (by decide) hlink (fun _ h => h) rfl (by decide +kernel) (by rcases hv with rfl | rfl <;> rfl) (by rcases hv with rfl | rfl <;> rfl) (Nat.le_of_ble_eq_true rfl) hdg (fun H1 locs1 hP1 _ hS1 => kk H1 locs1 (by rw [zb_set_de v] at hP1; exact hP1) hS1)
theorem zb_ald_acc (hx : p.tables.exec = Jvm.exec) (hb : c.code = cc) (hK : va_K D vwCl (zb_tys G) s) (hP : va_P D vwCl (zb_cells G S) H) {i : Int32} (hin : vp_in i 6) (hdg : decode cc pc = .ok (.aaload, 1))
    (kk : W p l e R s m args below meth c H locs cells slots Q (F0 m (pc + 1) ls (.ref (zg_acc G i.toNatClampNeg) :: rest))) : W p l e R s m args below meth c H locs cells slots Q (F0 m pc ls (.int i :: .ref (zg_aac G) :: rest)) := va_aldq hx hb hK hP 1 0 rfl rfl hin hdg kk
theorem zb_ald_hld (hx : p.tables.exec = Jvm.exec) (hb : c.code = cc) (hK : va_K D vwCl (zb_tys G) s) (hP : va_P D vwCl (zb_cells G S) H) {i : Int32} (hin : vp_in i 8) (hdg : decode cc pc = .ok (.aaload, 1))
    (kk : W p l e R s m args below meth c H locs cells slots Q (F0 m (pc + 1) ls (.ref (zg_hld G i.toNatClampNeg) :: rest))) : W p l e R s m args below meth c H locs cells slots Q (F0 m pc ls (.int i :: .ref (zg_aho G) :: rest)) := va_aldq hx hb hK hP 2 1 rfl rfl hin hdg kk
theorem zb_ald_ord (hx : p.tables.exec = Jvm.exec) (hb : c.code = cc) (hK : va_K D vwCl (zb_tys G) s) (hP : va_P D vwCl (zb_cells G S) H) {i : Int32} (hin : vp_in i 6) (hdg : decode cc pc = .ok (.aaload, 1))
    (kk : W p l e R s m args below meth c H locs cells slots Q (F0 m (pc + 1) ls (.ref (zg_ord G i.toNatClampNeg) :: rest))) : W p l e R s m args below meth c H locs cells slots Q (F0 m pc ls (.int i :: .ref (zg_aor G) :: rest)) := va_aldq hx hb hK hP 3 2 rfl rfl hin hdg kk
theorem zb_ald_csh (hx : p.tables.exec = Jvm.exec) (hb : c.code = cc) (hK : va_K D vwCl (zb_tys G) s) (hP : va_P D vwCl (zb_cells G S) H) {i : Int32} (hin : vp_in i 3) (hdg : decode cc pc = .ok (.laload, 1))
    (kk : W p l e R s m args below meth c H locs cells slots Q (F0 m (pc + 1) ls (.long (zb_csh S i.toNatClampNeg) :: rest))) : W p l e R s m args below meth c H locs cells slots Q (F0 m pc ls (.int i :: .ref (zg_csh G) :: rest)) := va_lald hx hb hK hP 6 4 rfl rfl hin hdg kk
theorem zb_ald_itr (hx : p.tables.exec = Jvm.exec) (hb : c.code = cc) (hK : va_K D vwCl (zb_tys G) s) (hP : va_P D vwCl (zb_cells G S) H) {i : Int32} (hin : vp_in i 3) (hdg : decode cc pc = .ok (.laload, 1))
    (kk : W p l e R s m args below meth c H locs cells slots Q (F0 m (pc + 1) ls (.long (zb_itr S i.toNatClampNeg) :: rest))) : W p l e R s m args below meth c H locs cells slots Q (F0 m pc ls (.int i :: .ref (zg_itr G) :: rest)) := va_lald hx hb hK hP 7 4 rfl rfl hin hdg kk
theorem zb_ald_dat (hx : p.tables.exec = Jvm.exec) (hb : c.code = cc) (hK : va_K D vwCl (zb_tys G) s) (hP : va_P D vwCl (zb_cells G S) H) {i : Int32} (hin : vp_in i 8) (hdg : decode cc pc = .ok (.iaload, 1))
    (kk : W p l e R s m args below meth c H locs cells slots Q (F0 m (pc + 1) ls (.int (zb_dat S i.toNatClampNeg) :: rest))) : W p l e R s m args below meth c H locs cells slots Q (F0 m pc ls (.int i :: .ref (zg_dat G) :: rest)) := va_iald hx hb hK hP 8 3 rfl rfl hin hdg kk
theorem zb_ast_csh (hx : p.tables.exec = Jvm.exec) (hb : c.code = cc) (hK : va_K D vwCl (zb_tys G) s) (hG : zw_apart (zb_adr G)) (hP : va_P D vwCl (zb_cells G S) H) (hS : va_S (zb_Ad G) H0 H locs) {i : Int32} {x : Int64} (hin : vp_in i 3) (hdg : decode cc pc = .ok (.lastore, 1))
    (kk : ∀ (H1 : Heap) (locs1 : List Loc), va_P D vwCl (zb_cells G (zb_scsh S (vp_updL (zb_csh S) i.toNatClampNeg x))) H1 → va_S (zb_Ad G) H0 H1 locs1 → W p l e R s m args below meth c H1 locs1 cells slots Q (F0 m (pc + 1) ls rest)) : W p l e R s m args below meth c H locs cells slots Q (F0 m pc ls (.long x :: .int i :: .ref (zg_csh G) :: rest)) :=
  va_last hx hb hK hP (zb_Dd hG S) hS 6 4 rfl rfl hin hdg (fun H1 locs1 hP1 _ hS1 => kk H1 locs1 hP1 hS1)
theorem zb_ast_itr (hx : p.tables.exec = Jvm.exec) (hb : c.code = cc) (hK : va_K D vwCl (zb_tys G) s) (hG : zw_apart (zb_adr G)) (hP : va_P D vwCl (zb_cells G S) H) (hS : va_S (zb_Ad G) H0 H locs) {i : Int32} {x : Int64} (hin : vp_in i 3) (hdg : decode cc pc = .ok (.lastore, 1))
    (kk : ∀ (H1 : Heap) (locs1 : List Loc), va_P D vwCl (zb_cells G (zb_sitr S (vp_updL (zb_itr S) i.toNatClampNeg x))) H1 → va_S (zb_Ad G) H0 H1 locs1 → W p l e R s m args below meth c H1 locs1 cells slots Q (F0 m (pc + 1) ls rest)) : W p l e R s m args below meth c H locs cells slots Q (F0 m pc ls (.long x :: .int i :: .ref (zg_itr G) :: rest)) :=
  va_last hx hb hK hP (zb_Dd hG S) hS 7 4 rfl rfl hin hdg (fun H1 locs1 hP1 _ hS1 => kk H1 locs1 hP1 hS1)
theorem zb_ast_dat (hx : p.tables.exec = Jvm.exec) (hb : c.code = cc) (hK : va_K D vwCl (zb_tys G) s) (hG : zw_apart (zb_adr G)) (hP : va_P D vwCl (zb_cells G S) H) (hS : va_S (zb_Ad G) H0 H locs) {i : Int32} {x : Int32} (hin : vp_in i 8) (hdg : decode cc pc = .ok (.iastore, 1))
    (kk : ∀ (H1 : Heap) (locs1 : List Loc), va_P D vwCl (zb_cells G (zb_sdat S (upd (zb_dat S) i.toNatClampNeg x))) H1 → va_S (zb_Ad G) H0 H1 locs1 → W p l e R s m args below meth c H1 locs1 cells slots Q (F0 m (pc + 1) ls rest)) : W p l e R s m args below meth c H locs cells slots Q (F0 m pc ls (.int x :: .int i :: .ref (zg_dat G) :: rest)) :=
  va_iast hx hb hK hP (zb_Dd hG S) hS 8 3 rfl rfl hin hdg (fun H1 locs1 hP1 _ hS1 => kk H1 locs1 hP1 hS1)
end ZBW
end
section
/-! WORLD OF THE REFERENCE -/
def zm_fM (G : zh_G) (T : zm_S) (Y : zm_Y) : List Value := [.int (zm_acs T), .ref (zh_cur G), .ref (zh_bas G), .ref (zh_lim G), .ref (zh_rat G), .ref (zh_mrk G), .ref (zh_mon G), .ref (zh_acr G), .ref (zh_hof G), .ref (zh_ham G), .int (zm_ors T), .ref (zh_pyr G), .ref (zh_pye G), .ref (zh_sum G), .ref (zh_ody G), .ref (zh_mis G), .int (zm_rst T), .ref (zh_dat G), .ref (zh_csh G), .ref (zh_itr G), .int (zm_now T), .int (zm_end T), .int (zm_stp T), .int (zm_lft T), .int (zm_wri T), .int (zm_inl T), .int (zm_edd T), .int (zm_tch T), .int Y.1, .int Y.2.1, .int Y.2.2]
def zm_cells (G : zh_G) (T : zm_S) (Y : zm_Y) : va_W := [(zh_mdl G, .inr (6, zm_fM G T Y)),
  (zh_cur G, .inl (zh_cI G, 6, .inl (zm_cur T))),
  (zh_bas G, .inl (zh_cI G, 6, .inl (zm_bas T))),
  (zh_lim G, .inl (zh_cI G, 6, .inl (zm_lim T))),
  (zh_rat G, .inl (zh_cI G, 6, .inl (zm_rat T))),
  (zh_mrk G, .inl (zh_cI G, 6, .inl (zm_mrk T))),
  (zh_mon G, .inl (zh_cJ G, 6, .inr (.inl (zm_mon T)))),
  (zh_acr G, .inl (zh_cJ G, 6, .inr (.inl (zm_acr T)))),
  (zh_hof G, .inl (zh_cI G, 8, .inl (zm_hof T))),
  (zh_ham G, .inl (zh_cI G, 8, .inl (zm_ham T))),
  (zh_pyr G, .inl (zh_cI G, 6, .inl (zm_pyr T))),
  (zh_pye G, .inl (zh_cI G, 6, .inl (zm_pye T))),
  (zh_sum G, .inl (zh_cI G, 6, .inl (zm_sum T))),
  (zh_ody G, .inl (zh_cI G, 6, .inl (zm_ody T))),
  (zh_mis G, .inl (zh_cI G, 6, .inl (zm_mis T))),
  (zh_dat G, .inl (zh_cI G, 8, .inl (zm_dat T))),
  (zh_csh G, .inl (zh_cJ G, 3, .inr (.inl (zm_csh T)))),
  (zh_itr G, .inl (zh_cJ G, 3, .inr (.inl (zm_itr T))))]
def zm_adr (G : zh_G) : List Nat := [zh_mdl G, zh_cur G, zh_bas G, zh_lim G, zh_rat G, zh_mrk G, zh_mon G, zh_acr G, zh_hof G, zh_ham G, zh_pyr G, zh_pye G, zh_sum G, zh_ody G, zh_mis G, zh_dat G, zh_csh G, zh_itr G]
theorem zm_cells_adr (G : zh_G) (T : zm_S) (Y : zm_Y) : (zm_cells G T Y).map (·.1) = zm_adr G := rfl
def zm_tys (G : zh_G) : List (ClassId × FieldType) := [(zh_cI G, .int), (zh_cJ G, .long)]
def zm_Ad (G : zh_G) : Nat → Prop := fun q => q ∈ zm_adr G
theorem zm_Dd {G : zh_G} (h : zw_apart (zm_adr G)) (T : zm_S) (Y : zm_Y) : va_D (zm_Ad G) (zm_cells G T Y) := zw_D_of h
section ZMW
variable {p : Program} {l : Launch} {e : Env} {R : Room} {s : State} {m : MethodId} {args : Array Value} {below : List Frame} {meth : Method} {c : Code} {H : Heap} {locs : List Loc} {cells slots : Nat} {Q : State → Prop}
variable {cc : ByteArray} {pc index : Nat} {ls : Array Slot} {rest : List Value} {D : va_G} {H0 : Heap} {own : String}
variable {G : zh_G} {T : zm_S} {Y : zm_Y}
theorem zm_get (hx : p.tables.exec = Jvm.exec) (hb : c.code = cc) (hts : ∀ w ∈ zw_big, w.before args s = true) (hown : s.vm.findClass own = some m.cls) (hK : va_K D vwCl (zm_tys G) s) (hP : va_P D vwCl (zm_cells G T Y) H) (k : Nat) (hk : k < 31) (hlink : (Cond.fieldLink own index (nT_M k).1 (nT_M k).2.1 (nT_M k).2.2.1).before args s = true) {v : Value} (hv : (zm_fM G T Y)[k]? = some v) (hdg : decode cc pc = .ok (.getfield index, 3))
    (kk : W p l e R s m args below meth c H locs cells slots Q (F0 m (pc + 3) ls (v :: rest))) : W p l e R s m args below meth c H locs cells slots Q (F0 m pc ls (.ref (zh_mdl G) :: rest)) :=
  va_get (ci := 6) (C := nR_M) (T := nT_M) (N := 31) hx hb hts zw_inM hown hK hP 0 rfl rfl k hk hlink (fun _ h => h) hv hdg kk
theorem zm_put_acs (hx : p.tables.exec = Jvm.exec) (hb : c.code = cc) (hts : ∀ w ∈ zw_big, w.before args s = true) (hown : s.vm.findClass own = some m.cls) (hK : va_K D vwCl (zm_tys G) s) (hG : zw_apart (zm_adr G)) (hP : va_P D vwCl (zm_cells G T Y) H) (hS : va_S (zm_Ad G) H0 H locs) {v : Int32} (hlink : (Cond.fieldLink own index (nT_M 0).1 (nT_M 0).2.1 (nT_M 0).2.2.1).before args s = true) (hdg : decode cc pc = .ok (.putfield index, 3))
    (kk : ∀ (H1 : Heap) (locs1 : List Loc), va_P D vwCl (zm_cells G (zm_sacs T v) Y) H1 → va_S (zm_Ad G) H0 H1 locs1 → W p l e R s m args below meth c H1 locs1 cells slots Q (F0 m (pc + 3) ls rest)) : W p l e R s m args below meth c H locs cells slots Q (F0 m pc ls (.int v :: .ref (zh_mdl G) :: rest)) :=
  va_put (ci := 6) (C := nR_M) (T := nT_M) (N := 31) (ty := .int) hx hb hts zw_inM nt_M zw_tyM zw_nmM hown hK hP (zm_Dd hG T Y) hS 0 rfl rfl 0 (by decide) hlink (fun _ h => h) rfl (by decide +kernel) rfl rfl (Nat.le_of_ble_eq_true rfl) hdg (fun H1 locs1 hP1 _ hS1 => kk H1 locs1 hP1 hS1)
theorem zm_put_ors (hx : p.tables.exec = Jvm.exec) (hb : c.code = cc) (hts : ∀ w ∈ zw_big, w.before args s = true) (hown : s.vm.findClass own = some m.cls) (hK : va_K D vwCl (zm_tys G) s) (hG : zw_apart (zm_adr G)) (hP : va_P D vwCl (zm_cells G T Y) H) (hS : va_S (zm_Ad G) H0 H locs) {v : Int32} (hlink : (Cond.fieldLink own index (nT_M 10).1 (nT_M 10).2.1 (nT_M 10).2.2.1).before args s = true) (hdg : decode cc pc = .ok (.putfield index, 3))
    (kk : ∀ (H1 : Heap) (locs1 : List Loc), va_P D vwCl (zm_cells G (zm_sors T v) Y) H1 → va_S (zm_Ad G) H0 H1 locs1 → W p l e R s m args below meth c H1 locs1 cells slots Q (F0 m (pc + 3) ls rest)) : W p l e R s m args below meth c H locs cells slots Q (F0 m pc ls (.int v :: .ref (zh_mdl G) :: rest)) :=
  va_put (ci := 6) (C := nR_M) (T := nT_M) (N := 31) (ty := .int) hx hb hts zw_inM nt_M zw_tyM zw_nmM hown hK hP (zm_Dd hG T Y) hS 0 rfl rfl 10 (by decide) hlink (fun _ h => h) rfl (by decide +kernel) rfl rfl (Nat.le_of_ble_eq_true rfl) hdg (fun H1 locs1 hP1 _ hS1 => kk H1 locs1 hP1 hS1)
theorem zm_put_rst (hx : p.tables.exec = Jvm.exec) (hb : c.code = cc) (hts : ∀ w ∈ zw_big, w.before args s = true) (hown : s.vm.findClass own = some m.cls) (hK : va_K D vwCl (zm_tys G) s) (hG : zw_apart (zm_adr G)) (hP : va_P D vwCl (zm_cells G T Y) H) (hS : va_S (zm_Ad G) H0 H locs) {v : Int32} (hlink : (Cond.fieldLink own index (nT_M 16).1 (nT_M 16).2.1 (nT_M 16).2.2.1).before args s = true) (hdg : decode cc pc = .ok (.putfield index, 3))
    (kk : ∀ (H1 : Heap) (locs1 : List Loc), va_P D vwCl (zm_cells G (zm_srst T v) Y) H1 → va_S (zm_Ad G) H0 H1 locs1 → W p l e R s m args below meth c H1 locs1 cells slots Q (F0 m (pc + 3) ls rest)) : W p l e R s m args below meth c H locs cells slots Q (F0 m pc ls (.int v :: .ref (zh_mdl G) :: rest)) :=
  va_put (ci := 6) (C := nR_M) (T := nT_M) (N := 31) (ty := .int) hx hb hts zw_inM nt_M zw_tyM zw_nmM hown hK hP (zm_Dd hG T Y) hS 0 rfl rfl 16 (by decide) hlink (fun _ h => h) rfl (by decide +kernel) rfl rfl (Nat.le_of_ble_eq_true rfl) hdg (fun H1 locs1 hP1 _ hS1 => kk H1 locs1 hP1 hS1)
theorem zm_put_now (hx : p.tables.exec = Jvm.exec) (hb : c.code = cc) (hts : ∀ w ∈ zw_big, w.before args s = true) (hown : s.vm.findClass own = some m.cls) (hK : va_K D vwCl (zm_tys G) s) (hG : zw_apart (zm_adr G)) (hP : va_P D vwCl (zm_cells G T Y) H) (hS : va_S (zm_Ad G) H0 H locs) {v : Int32} (hlink : (Cond.fieldLink own index (nT_M 20).1 (nT_M 20).2.1 (nT_M 20).2.2.1).before args s = true) (hdg : decode cc pc = .ok (.putfield index, 3))
    (kk : ∀ (H1 : Heap) (locs1 : List Loc), va_P D vwCl (zm_cells G (zm_snow T v) Y) H1 → va_S (zm_Ad G) H0 H1 locs1 → W p l e R s m args below meth c H1 locs1 cells slots Q (F0 m (pc + 3) ls rest)) : W p l e R s m args below meth c H locs cells slots Q (F0 m pc ls (.int v :: .ref (zh_mdl G) :: rest)) :=
  va_put (ci := 6) (C := nR_M) (T := nT_M) (N := 31) (ty := .int) hx hb hts zw_inM nt_M zw_tyM zw_nmM hown hK hP (zm_Dd hG T Y) hS 0 rfl rfl 20 (by decide) hlink (fun _ h => h) rfl (by decide +kernel) rfl rfl (Nat.le_of_ble_eq_true rfl) hdg (fun H1 locs1 hP1 _ hS1 => kk H1 locs1 hP1 hS1)
theorem zm_put_end (hx : p.tables.exec = Jvm.exec) (hb : c.code = cc) (hts : ∀ w ∈ zw_big, w.before args s = true) (hown : s.vm.findClass own = some m.cls) (hK : va_K D vwCl (zm_tys G) s) (hG : zw_apart (zm_adr G)) (hP : va_P D vwCl (zm_cells G T Y) H) (hS : va_S (zm_Ad G) H0 H locs) {v : Int32} (hv : v = 0 ∨ v = 1) (hlink : (Cond.fieldLink own index (nT_M 21).1 (nT_M 21).2.1 (nT_M 21).2.2.1).before args s = true) (hdg : decode cc pc = .ok (.putfield index, 3))
    (kk : ∀ (H1 : Heap) (locs1 : List Loc), va_P D vwCl (zm_cells G (zm_send T v) Y) H1 → va_S (zm_Ad G) H0 H1 locs1 → W p l e R s m args below meth c H1 locs1 cells slots Q (F0 m (pc + 3) ls rest)) : W p l e R s m args below meth c H locs cells slots Q (F0 m pc ls (.int v :: .ref (zh_mdl G) :: rest)) :=
  va_put (ci := 6) (C := nR_M) (T := nT_M) (N := 31) (ty := .boolean) hx hb hts zw_inM nt_M zw_tyM zw_nmM hown hK hP (zm_Dd hG T Y) hS 0 rfl rfl 21 (by decide) hlink (fun _ h => h) rfl (by decide +kernel) (by rcases hv with rfl | rfl <;> rfl) (by rcases hv with rfl | rfl <;> rfl) (Nat.le_of_ble_eq_true rfl) hdg (fun H1 locs1 hP1 _ hS1 => kk H1 locs1 hP1 hS1)
theorem zm_put_stp (hx : p.tables.exec = Jvm.exec) (hb : c.code = cc) (hts : ∀ w ∈ zw_big, w.before args s = true) (hown : s.vm.findClass own = some m.cls) (hK : va_K D vwCl (zm_tys G) s) (hG : zw_apart (zm_adr G)) (hP : va_P D vwCl (zm_cells G T Y) H) (hS : va_S (zm_Ad G) H0 H locs) {v : Int32} (hv : v = 0 ∨ v = 1) (hlink : (Cond.fieldLink own index (nT_M 22).1 (nT_M 22).2.1 (nT_M 22).2.2.1).before args s = true) (hdg : decode cc pc = .ok (.putfield index, 3))
    (kk : ∀ (H1 : Heap) (locs1 : List Loc), va_P D vwCl (zm_cells G (zm_sstp T v) Y) H1 → va_S (zm_Ad G) H0 H1 locs1 → W p l e R s m args below meth c H1 locs1 cells slots Q (F0 m (pc + 3) ls rest)) : W p l e R s m args below meth c H locs cells slots Q (F0 m pc ls (.int v :: .ref (zh_mdl G) :: rest)) :=
  va_put (ci := 6) (C := nR_M) (T := nT_M) (N := 31) (ty := .boolean) hx hb hts zw_inM nt_M zw_tyM zw_nmM hown hK hP (zm_Dd hG T Y) hS 0 rfl rfl 22 (by decide) hlink (fun _ h => h) rfl (by decide +kernel) (by rcases hv with rfl | rfl <;> rfl) (by rcases hv with rfl | rfl <;> rfl) (Nat.le_of_ble_eq_true rfl) hdg (fun H1 locs1 hP1 _ hS1 => kk H1 locs1 hP1 hS1)
theorem zm_put_lft (hx : p.tables.exec = Jvm.exec) (hb : c.code = cc) (hts : ∀ w ∈ zw_big, w.before args s = true) (hown : s.vm.findClass own = some m.cls) (hK : va_K D vwCl (zm_tys G) s) (hG : zw_apart (zm_adr G)) (hP : va_P D vwCl (zm_cells G T Y) H) (hS : va_S (zm_Ad G) H0 H locs) {v : Int32} (hlink : (Cond.fieldLink own index (nT_M 23).1 (nT_M 23).2.1 (nT_M 23).2.2.1).before args s = true) (hdg : decode cc pc = .ok (.putfield index, 3))
    (kk : ∀ (H1 : Heap) (locs1 : List Loc), va_P D vwCl (zm_cells G (zm_slft T v) Y) H1 → va_S (zm_Ad G) H0 H1 locs1 → W p l e R s m args below meth c H1 locs1 cells slots Q (F0 m (pc + 3) ls rest)) : W p l e R s m args below meth c H locs cells slots Q (F0 m pc ls (.int v :: .ref (zh_mdl G) :: rest)) :=
  va_put (ci := 6) (C := nR_M) (T := nT_M) (N := 31) (ty := .int) hx hb hts zw_inM nt_M zw_tyM zw_nmM hown hK hP (zm_Dd hG T Y) hS 0 rfl rfl 23 (by decide) hlink (fun _ h => h) rfl (by decide +kernel) rfl rfl (Nat.le_of_ble_eq_true rfl) hdg (fun H1 locs1 hP1 _ hS1 => kk H1 locs1 hP1 hS1)
theorem zm_put_wri (hx : p.tables.exec = Jvm.exec) (hb : c.code = cc) (hts : ∀ w ∈ zw_big, w.before args s = true) (hown : s.vm.findClass own = some m.cls) (hK : va_K D vwCl (zm_tys G) s) (hG : zw_apart (zm_adr G)) (hP : va_P D vwCl (zm_cells G T Y) H) (hS : va_S (zm_Ad G) H0 H locs) {v : Int32} (hlink : (Cond.fieldLink own index (nT_M 24).1 (nT_M 24).2.1 (nT_M 24).2.2.1).before args s = true) (hdg : decode cc pc = .ok (.putfield index, 3))
    (kk : ∀ (H1 : Heap) (locs1 : List Loc), va_P D vwCl (zm_cells G (zm_swri T v) Y) H1 → va_S (zm_Ad G) H0 H1 locs1 → W p l e R s m args below meth c H1 locs1 cells slots Q (F0 m (pc + 3) ls rest)) : W p l e R s m args below meth c H locs cells slots Q (F0 m pc ls (.int v :: .ref (zh_mdl G) :: rest)) :=
  va_put (ci := 6) (C := nR_M) (T := nT_M) (N := 31) (ty := .int) hx hb hts zw_inM nt_M zw_tyM zw_nmM hown hK hP (zm_Dd hG T Y) hS 0 rfl rfl 24 (by decide) hlink (fun _ h => h) rfl (by decide +kernel) rfl rfl (Nat.le_of_ble_eq_true rfl) hdg (fun H1 locs1 hP1 _ hS1 => kk H1 locs1 hP1 hS1)
theorem zm_put_inl (hx : p.tables.exec = Jvm.exec) (hb : c.code = cc) (hts : ∀ w ∈ zw_big, w.before args s = true) (hown : s.vm.findClass own = some m.cls) (hK : va_K D vwCl (zm_tys G) s) (hG : zw_apart (zm_adr G)) (hP : va_P D vwCl (zm_cells G T Y) H) (hS : va_S (zm_Ad G) H0 H locs) {v : Int32} (hlink : (Cond.fieldLink own index (nT_M 25).1 (nT_M 25).2.1 (nT_M 25).2.2.1).before args s = true) (hdg : decode cc pc = .ok (.putfield index, 3))
    (kk : ∀ (H1 : Heap) (locs1 : List Loc), va_P D vwCl (zm_cells G (zm_sinl T v) Y) H1 → va_S (zm_Ad G) H0 H1 locs1 → W p l e R s m args below meth c H1 locs1 cells slots Q (F0 m (pc + 3) ls rest)) : W p l e R s m args below meth c H locs cells slots Q (F0 m pc ls (.int v :: .ref (zh_mdl G) :: rest)) :=
  va_put (ci := 6) (C := nR_M) (T := nT_M) (N := 31) (ty := .int) hx hb hts zw_inM nt_M zw_tyM zw_nmM hown hK hP (zm_Dd hG T Y) hS 0 rfl rfl 25 (by decide) hlink (fun _ h => h) rfl (by decide +kernel) rfl rfl (Nat.le_of_ble_eq_true rfl) hdg (fun H1 locs1 hP1 _ hS1 => kk H1 locs1 hP1 hS1)
theorem zm_put_edd (hx : p.tables.exec = Jvm.exec) (hb : c.code = cc) (hts : ∀ w ∈ zw_big, w.before args s = true) (hown : s.vm.findClass own = some m.cls) (hK : va_K D vwCl (zm_tys G) s) (hG : zw_apart (zm_adr G)) (hP : va_P D vwCl (zm_cells G T Y) H) (hS : va_S (zm_Ad G) H0 H locs) {v : Int32} (hlink : (Cond.fieldLink own index (nT_M 26).1 (nT_M 26).2.1 (nT_M 26).2.2.1).before args s = true) (hdg : decode cc pc = .ok (.putfield index, 3))
    (kk : ∀ (H1 : Heap) (locs1 : List Loc), va_P D vwCl (zm_cells G (zm_sedd T v) Y) H1 → va_S (zm_Ad G) H0 H1 locs1 → W p l e R s m args below meth c H1 locs1 cells slots Q (F0 m (pc + 3) ls rest)) : W p l e R s m args below meth c H locs cells slots Q (F0 m pc ls (.int v :: .ref (zh_mdl G) :: rest)) :=
  va_put (ci := 6) (C := nR_M) (T := nT_M) (N := 31) (ty := .int) hx hb hts zw_inM nt_M zw_tyM zw_nmM hown hK hP (zm_Dd hG T Y) hS 0 rfl rfl 26 (by decide) hlink (fun _ h => h) rfl (by decide +kernel) rfl rfl (Nat.le_of_ble_eq_true rfl) hdg (fun H1 locs1 hP1 _ hS1 => kk H1 locs1 hP1 hS1)
theorem zm_put_tch (hx : p.tables.exec = Jvm.exec) (hb : c.code = cc) (hts : ∀ w ∈ zw_big, w.before args s = true) (hown : s.vm.findClass own = some m.cls) (hK : va_K D vwCl (zm_tys G) s) (hG : zw_apart (zm_adr G)) (hP : va_P D vwCl (zm_cells G T Y) H) (hS : va_S (zm_Ad G) H0 H locs) {v : Int32} (hlink : (Cond.fieldLink own index (nT_M 27).1 (nT_M 27).2.1 (nT_M 27).2.2.1).before args s = true) (hdg : decode cc pc = .ok (.putfield index, 3))
    (kk : ∀ (H1 : Heap) (locs1 : List Loc), va_P D vwCl (zm_cells G (zm_stch T v) Y) H1 → va_S (zm_Ad G) H0 H1 locs1 → W p l e R s m args below meth c H1 locs1 cells slots Q (F0 m (pc + 3) ls rest)) : W p l e R s m args below meth c H locs cells slots Q (F0 m pc ls (.int v :: .ref (zh_mdl G) :: rest)) :=
  va_put (ci := 6) (C := nR_M) (T := nT_M) (N := 31) (ty := .int) hx hb hts zw_inM nt_M zw_tyM zw_nmM hown hK hP (zm_Dd hG T Y) hS 0 rfl rfl 27 (by decide) hlink (fun _ h => h) rfl (by decide +kernel) rfl rfl (Nat.le_of_ble_eq_true rfl) hdg (fun H1 locs1 hP1 _ hS1 => kk H1 locs1 hP1 hS1)
theorem zm_put_yr (hx : p.tables.exec = Jvm.exec) (hb : c.code = cc) (hts : ∀ w ∈ zw_big, w.before args s = true) (hown : s.vm.findClass own = some m.cls) (hK : va_K D vwCl (zm_tys G) s) (hG : zw_apart (zm_adr G)) (hP : va_P D vwCl (zm_cells G T Y) H) (hS : va_S (zm_Ad G) H0 H locs) {v : Int32} (hlink : (Cond.fieldLink own index (nT_M 28).1 (nT_M 28).2.1 (nT_M 28).2.2.1).before args s = true) (hdg : decode cc pc = .ok (.putfield index, 3))
    (kk : ∀ (H1 : Heap) (locs1 : List Loc), va_P D vwCl (zm_cells G T (v, Y.2.1, Y.2.2)) H1 → va_S (zm_Ad G) H0 H1 locs1 → W p l e R s m args below meth c H1 locs1 cells slots Q (F0 m (pc + 3) ls rest)) : W p l e R s m args below meth c H locs cells slots Q (F0 m pc ls (.int v :: .ref (zh_mdl G) :: rest)) :=
  va_put (ci := 6) (C := nR_M) (T := nT_M) (N := 31) (ty := .int) hx hb hts zw_inM nt_M zw_tyM zw_nmM hown hK hP (zm_Dd hG T Y) hS 0 rfl rfl 28 (by decide) hlink (fun _ h => h) rfl (by decide +kernel) rfl rfl (Nat.le_of_ble_eq_true rfl) hdg (fun H1 locs1 hP1 _ hS1 => kk H1 locs1 hP1 hS1)
theorem zm_put_mo (hx : p.tables.exec = Jvm.exec) (hb : c.code = cc) (hts : ∀ w ∈ zw_big, w.before args s = true) (hown : s.vm.findClass own = some m.cls) (hK : va_K D vwCl (zm_tys G) s) (hG : zw_apart (zm_adr G)) (hP : va_P D vwCl (zm_cells G T Y) H) (hS : va_S (zm_Ad G) H0 H locs) {v : Int32} (hlink : (Cond.fieldLink own index (nT_M 29).1 (nT_M 29).2.1 (nT_M 29).2.2.1).before args s = true) (hdg : decode cc pc = .ok (.putfield index, 3))
    (kk : ∀ (H1 : Heap) (locs1 : List Loc), va_P D vwCl (zm_cells G T (Y.1, v, Y.2.2)) H1 → va_S (zm_Ad G) H0 H1 locs1 → W p l e R s m args below meth c H1 locs1 cells slots Q (F0 m (pc + 3) ls rest)) : W p l e R s m args below meth c H locs cells slots Q (F0 m pc ls (.int v :: .ref (zh_mdl G) :: rest)) :=
  va_put (ci := 6) (C := nR_M) (T := nT_M) (N := 31) (ty := .int) hx hb hts zw_inM nt_M zw_tyM zw_nmM hown hK hP (zm_Dd hG T Y) hS 0 rfl rfl 29 (by decide) hlink (fun _ h => h) rfl (by decide +kernel) rfl rfl (Nat.le_of_ble_eq_true rfl) hdg (fun H1 locs1 hP1 _ hS1 => kk H1 locs1 hP1 hS1)
theorem zm_put_dy (hx : p.tables.exec = Jvm.exec) (hb : c.code = cc) (hts : ∀ w ∈ zw_big, w.before args s = true) (hown : s.vm.findClass own = some m.cls) (hK : va_K D vwCl (zm_tys G) s) (hG : zw_apart (zm_adr G)) (hP : va_P D vwCl (zm_cells G T Y) H) (hS : va_S (zm_Ad G) H0 H locs) {v : Int32} (hlink : (Cond.fieldLink own index (nT_M 30).1 (nT_M 30).2.1 (nT_M 30).2.2.1).before args s = true) (hdg : decode cc pc = .ok (.putfield index, 3))
    (kk : ∀ (H1 : Heap) (locs1 : List Loc), va_P D vwCl (zm_cells G T (Y.1, Y.2.1, v)) H1 → va_S (zm_Ad G) H0 H1 locs1 → W p l e R s m args below meth c H1 locs1 cells slots Q (F0 m (pc + 3) ls rest)) : W p l e R s m args below meth c H locs cells slots Q (F0 m pc ls (.int v :: .ref (zh_mdl G) :: rest)) :=
  va_put (ci := 6) (C := nR_M) (T := nT_M) (N := 31) (ty := .int) hx hb hts zw_inM nt_M zw_tyM zw_nmM hown hK hP (zm_Dd hG T Y) hS 0 rfl rfl 30 (by decide) hlink (fun _ h => h) rfl (by decide +kernel) rfl rfl (Nat.le_of_ble_eq_true rfl) hdg (fun H1 locs1 hP1 _ hS1 => kk H1 locs1 hP1 hS1)
theorem zm_ald_cur (hx : p.tables.exec = Jvm.exec) (hb : c.code = cc) (hK : va_K D vwCl (zm_tys G) s) (hP : va_P D vwCl (zm_cells G T Y) H) {i : Int32} (hin : vp_in i 6) (hdg : decode cc pc = .ok (.iaload, 1))
    (kk : W p l e R s m args below meth c H locs cells slots Q (F0 m (pc + 1) ls (.int (zm_cur T i.toNatClampNeg) :: rest))) : W p l e R s m args below meth c H locs cells slots Q (F0 m pc ls (.int i :: .ref (zh_cur G) :: rest)) := va_iald hx hb hK hP 1 0 rfl rfl hin hdg kk
theorem zm_ast_cur (hx : p.tables.exec = Jvm.exec) (hb : c.code = cc) (hK : va_K D vwCl (zm_tys G) s) (hG : zw_apart (zm_adr G)) (hP : va_P D vwCl (zm_cells G T Y) H) (hS : va_S (zm_Ad G) H0 H locs) {i : Int32} {x : Int32} (hin : vp_in i 6) (hdg : decode cc pc = .ok (.iastore, 1))
    (kk : ∀ (H1 : Heap) (locs1 : List Loc), va_P D vwCl (zm_cells G (zm_scur T (upd (zm_cur T) i.toNatClampNeg x)) Y) H1 → va_S (zm_Ad G) H0 H1 locs1 → W p l e R s m args below meth c H1 locs1 cells slots Q (F0 m (pc + 1) ls rest)) : W p l e R s m args below meth c H locs cells slots Q (F0 m pc ls (.int x :: .int i :: .ref (zh_cur G) :: rest)) :=
  va_iast hx hb hK hP (zm_Dd hG T Y) hS 1 0 rfl rfl hin hdg (fun H1 locs1 hP1 _ hS1 => kk H1 locs1 hP1 hS1)
theorem zm_ald_bas (hx : p.tables.exec = Jvm.exec) (hb : c.code = cc) (hK : va_K D vwCl (zm_tys G) s) (hP : va_P D vwCl (zm_cells G T Y) H) {i : Int32} (hin : vp_in i 6) (hdg : decode cc pc = .ok (.iaload, 1))
    (kk : W p l e R s m args below meth c H locs cells slots Q (F0 m (pc + 1) ls (.int (zm_bas T i.toNatClampNeg) :: rest))) : W p l e R s m args below meth c H locs cells slots Q (F0 m pc ls (.int i :: .ref (zh_bas G) :: rest)) := va_iald hx hb hK hP 2 0 rfl rfl hin hdg kk
theorem zm_ast_bas (hx : p.tables.exec = Jvm.exec) (hb : c.code = cc) (hK : va_K D vwCl (zm_tys G) s) (hG : zw_apart (zm_adr G)) (hP : va_P D vwCl (zm_cells G T Y) H) (hS : va_S (zm_Ad G) H0 H locs) {i : Int32} {x : Int32} (hin : vp_in i 6) (hdg : decode cc pc = .ok (.iastore, 1))
    (kk : ∀ (H1 : Heap) (locs1 : List Loc), va_P D vwCl (zm_cells G (zm_sbas T (upd (zm_bas T) i.toNatClampNeg x)) Y) H1 → va_S (zm_Ad G) H0 H1 locs1 → W p l e R s m args below meth c H1 locs1 cells slots Q (F0 m (pc + 1) ls rest)) : W p l e R s m args below meth c H locs cells slots Q (F0 m pc ls (.int x :: .int i :: .ref (zh_bas G) :: rest)) :=
  va_iast hx hb hK hP (zm_Dd hG T Y) hS 2 0 rfl rfl hin hdg (fun H1 locs1 hP1 _ hS1 => kk H1 locs1 hP1 hS1)
theorem zm_ald_lim (hx : p.tables.exec = Jvm.exec) (hb : c.code = cc) (hK : va_K D vwCl (zm_tys G) s) (hP : va_P D vwCl (zm_cells G T Y) H) {i : Int32} (hin : vp_in i 6) (hdg : decode cc pc = .ok (.iaload, 1))
    (kk : W p l e R s m args below meth c H locs cells slots Q (F0 m (pc + 1) ls (.int (zm_lim T i.toNatClampNeg) :: rest))) : W p l e R s m args below meth c H locs cells slots Q (F0 m pc ls (.int i :: .ref (zh_lim G) :: rest)) := va_iald hx hb hK hP 3 0 rfl rfl hin hdg kk
theorem zm_ast_lim (hx : p.tables.exec = Jvm.exec) (hb : c.code = cc) (hK : va_K D vwCl (zm_tys G) s) (hG : zw_apart (zm_adr G)) (hP : va_P D vwCl (zm_cells G T Y) H) (hS : va_S (zm_Ad G) H0 H locs) {i : Int32} {x : Int32} (hin : vp_in i 6) (hdg : decode cc pc = .ok (.iastore, 1))
    (kk : ∀ (H1 : Heap) (locs1 : List Loc), va_P D vwCl (zm_cells G (zm_slim T (upd (zm_lim T) i.toNatClampNeg x)) Y) H1 → va_S (zm_Ad G) H0 H1 locs1 → W p l e R s m args below meth c H1 locs1 cells slots Q (F0 m (pc + 1) ls rest)) : W p l e R s m args below meth c H locs cells slots Q (F0 m pc ls (.int x :: .int i :: .ref (zh_lim G) :: rest)) :=
  va_iast hx hb hK hP (zm_Dd hG T Y) hS 3 0 rfl rfl hin hdg (fun H1 locs1 hP1 _ hS1 => kk H1 locs1 hP1 hS1)
theorem zm_ald_rat (hx : p.tables.exec = Jvm.exec) (hb : c.code = cc) (hK : va_K D vwCl (zm_tys G) s) (hP : va_P D vwCl (zm_cells G T Y) H) {i : Int32} (hin : vp_in i 6) (hdg : decode cc pc = .ok (.iaload, 1))
    (kk : W p l e R s m args below meth c H locs cells slots Q (F0 m (pc + 1) ls (.int (zm_rat T i.toNatClampNeg) :: rest))) : W p l e R s m args below meth c H locs cells slots Q (F0 m pc ls (.int i :: .ref (zh_rat G) :: rest)) := va_iald hx hb hK hP 4 0 rfl rfl hin hdg kk
theorem zm_ast_rat (hx : p.tables.exec = Jvm.exec) (hb : c.code = cc) (hK : va_K D vwCl (zm_tys G) s) (hG : zw_apart (zm_adr G)) (hP : va_P D vwCl (zm_cells G T Y) H) (hS : va_S (zm_Ad G) H0 H locs) {i : Int32} {x : Int32} (hin : vp_in i 6) (hdg : decode cc pc = .ok (.iastore, 1))
    (kk : ∀ (H1 : Heap) (locs1 : List Loc), va_P D vwCl (zm_cells G (zm_srat T (upd (zm_rat T) i.toNatClampNeg x)) Y) H1 → va_S (zm_Ad G) H0 H1 locs1 → W p l e R s m args below meth c H1 locs1 cells slots Q (F0 m (pc + 1) ls rest)) : W p l e R s m args below meth c H locs cells slots Q (F0 m pc ls (.int x :: .int i :: .ref (zh_rat G) :: rest)) :=
  va_iast hx hb hK hP (zm_Dd hG T Y) hS 4 0 rfl rfl hin hdg (fun H1 locs1 hP1 _ hS1 => kk H1 locs1 hP1 hS1)
theorem zm_ald_mrk (hx : p.tables.exec = Jvm.exec) (hb : c.code = cc) (hK : va_K D vwCl (zm_tys G) s) (hP : va_P D vwCl (zm_cells G T Y) H) {i : Int32} (hin : vp_in i 6) (hdg : decode cc pc = .ok (.iaload, 1))
    (kk : W p l e R s m args below meth c H locs cells slots Q (F0 m (pc + 1) ls (.int (zm_mrk T i.toNatClampNeg) :: rest))) : W p l e R s m args below meth c H locs cells slots Q (F0 m pc ls (.int i :: .ref (zh_mrk G) :: rest)) := va_iald hx hb hK hP 5 0 rfl rfl hin hdg kk
theorem zm_ast_mrk (hx : p.tables.exec = Jvm.exec) (hb : c.code = cc) (hK : va_K D vwCl (zm_tys G) s) (hG : zw_apart (zm_adr G)) (hP : va_P D vwCl (zm_cells G T Y) H) (hS : va_S (zm_Ad G) H0 H locs) {i : Int32} {x : Int32} (hin : vp_in i 6) (hdg : decode cc pc = .ok (.iastore, 1))
    (kk : ∀ (H1 : Heap) (locs1 : List Loc), va_P D vwCl (zm_cells G (zm_smrk T (upd (zm_mrk T) i.toNatClampNeg x)) Y) H1 → va_S (zm_Ad G) H0 H1 locs1 → W p l e R s m args below meth c H1 locs1 cells slots Q (F0 m (pc + 1) ls rest)) : W p l e R s m args below meth c H locs cells slots Q (F0 m pc ls (.int x :: .int i :: .ref (zh_mrk G) :: rest)) :=
  va_iast hx hb hK hP (zm_Dd hG T Y) hS 5 0 rfl rfl hin hdg (fun H1 locs1 hP1 _ hS1 => kk H1 locs1 hP1 hS1)
theorem zm_ald_mon (hx : p.tables.exec = Jvm.exec) (hb : c.code = cc) (hK : va_K D vwCl (zm_tys G) s) (hP : va_P D vwCl (zm_cells G T Y) H) {i : Int32} (hin : vp_in i 6) (hdg : decode cc pc = .ok (.laload, 1))
    (kk : W p l e R s m args below meth c H locs cells slots Q (F0 m (pc + 1) ls (.long (zm_mon T i.toNatClampNeg) :: rest))) : W p l e R s m args below meth c H locs cells slots Q (F0 m pc ls (.int i :: .ref (zh_mon G) :: rest)) := va_lald hx hb hK hP 6 1 rfl rfl hin hdg kk
theorem zm_ast_mon (hx : p.tables.exec = Jvm.exec) (hb : c.code = cc) (hK : va_K D vwCl (zm_tys G) s) (hG : zw_apart (zm_adr G)) (hP : va_P D vwCl (zm_cells G T Y) H) (hS : va_S (zm_Ad G) H0 H locs) {i : Int32} {x : Int64} (hin : vp_in i 6) (hdg : decode cc pc = .ok (.lastore, 1))
    (kk : ∀ (H1 : Heap) (locs1 : List Loc), va_P D vwCl (zm_cells G (zm_smon T (vp_updL (zm_mon T) i.toNatClampNeg x)) Y) H1 → va_S (zm_Ad G) H0 H1 locs1 → W p l e R s m args below meth c H1 locs1 cells slots Q (F0 m (pc + 1) ls rest)) : W p l e R s m args below meth c H locs cells slots Q (F0 m pc ls (.long x :: .int i :: .ref (zh_mon G) :: rest)) :=
  va_last hx hb hK hP (zm_Dd hG T Y) hS 6 1 rfl rfl hin hdg (fun H1 locs1 hP1 _ hS1 => kk H1 locs1 hP1 hS1)
theorem zm_ald_acr (hx : p.tables.exec = Jvm.exec) (hb : c.code = cc) (hK : va_K D vwCl (zm_tys G) s) (hP : va_P D vwCl (zm_cells G T Y) H) {i : Int32} (hin : vp_in i 6) (hdg : decode cc pc = .ok (.laload, 1))
    (kk : W p l e R s m args below meth c H locs cells slots Q (F0 m (pc + 1) ls (.long (zm_acr T i.toNatClampNeg) :: rest))) : W p l e R s m args below meth c H locs cells slots Q (F0 m pc ls (.int i :: .ref (zh_acr G) :: rest)) := va_lald hx hb hK hP 7 1 rfl rfl hin hdg kk
theorem zm_ast_acr (hx : p.tables.exec = Jvm.exec) (hb : c.code = cc) (hK : va_K D vwCl (zm_tys G) s) (hG : zw_apart (zm_adr G)) (hP : va_P D vwCl (zm_cells G T Y) H) (hS : va_S (zm_Ad G) H0 H locs) {i : Int32} {x : Int64} (hin : vp_in i 6) (hdg : decode cc pc = .ok (.lastore, 1))
    (kk : ∀ (H1 : Heap) (locs1 : List Loc), va_P D vwCl (zm_cells G (zm_sacr T (vp_updL (zm_acr T) i.toNatClampNeg x)) Y) H1 → va_S (zm_Ad G) H0 H1 locs1 → W p l e R s m args below meth c H1 locs1 cells slots Q (F0 m (pc + 1) ls rest)) : W p l e R s m args below meth c H locs cells slots Q (F0 m pc ls (.long x :: .int i :: .ref (zh_acr G) :: rest)) :=
  va_last hx hb hK hP (zm_Dd hG T Y) hS 7 1 rfl rfl hin hdg (fun H1 locs1 hP1 _ hS1 => kk H1 locs1 hP1 hS1)
theorem zm_ald_hof (hx : p.tables.exec = Jvm.exec) (hb : c.code = cc) (hK : va_K D vwCl (zm_tys G) s) (hP : va_P D vwCl (zm_cells G T Y) H) {i : Int32} (hin : vp_in i 8) (hdg : decode cc pc = .ok (.iaload, 1))
    (kk : W p l e R s m args below meth c H locs cells slots Q (F0 m (pc + 1) ls (.int (zm_hof T i.toNatClampNeg) :: rest))) : W p l e R s m args below meth c H locs cells slots Q (F0 m pc ls (.int i :: .ref (zh_hof G) :: rest)) := va_iald hx hb hK hP 8 0 rfl rfl hin hdg kk
theorem zm_ast_hof (hx : p.tables.exec = Jvm.exec) (hb : c.code = cc) (hK : va_K D vwCl (zm_tys G) s) (hG : zw_apart (zm_adr G)) (hP : va_P D vwCl (zm_cells G T Y) H) (hS : va_S (zm_Ad G) H0 H locs) {i : Int32} {x : Int32} (hin : vp_in i 8) (hdg : decode cc pc = .ok (.iastore, 1))
    (kk : ∀ (H1 : Heap) (locs1 : List Loc), va_P D vwCl (zm_cells G (zm_shof T (upd (zm_hof T) i.toNatClampNeg x)) Y) H1 → va_S (zm_Ad G) H0 H1 locs1 → W p l e R s m args below meth c H1 locs1 cells slots Q (F0 m (pc + 1) ls rest)) : W p l e R s m args below meth c H locs cells slots Q (F0 m pc ls (.int x :: .int i :: .ref (zh_hof G) :: rest)) :=
  va_iast hx hb hK hP (zm_Dd hG T Y) hS 8 0 rfl rfl hin hdg (fun H1 locs1 hP1 _ hS1 => kk H1 locs1 hP1 hS1)
theorem zm_ald_ham (hx : p.tables.exec = Jvm.exec) (hb : c.code = cc) (hK : va_K D vwCl (zm_tys G) s) (hP : va_P D vwCl (zm_cells G T Y) H) {i : Int32} (hin : vp_in i 8) (hdg : decode cc pc = .ok (.iaload, 1))
    (kk : W p l e R s m args below meth c H locs cells slots Q (F0 m (pc + 1) ls (.int (zm_ham T i.toNatClampNeg) :: rest))) : W p l e R s m args below meth c H locs cells slots Q (F0 m pc ls (.int i :: .ref (zh_ham G) :: rest)) := va_iald hx hb hK hP 9 0 rfl rfl hin hdg kk
theorem zm_ast_ham (hx : p.tables.exec = Jvm.exec) (hb : c.code = cc) (hK : va_K D vwCl (zm_tys G) s) (hG : zw_apart (zm_adr G)) (hP : va_P D vwCl (zm_cells G T Y) H) (hS : va_S (zm_Ad G) H0 H locs) {i : Int32} {x : Int32} (hin : vp_in i 8) (hdg : decode cc pc = .ok (.iastore, 1))
    (kk : ∀ (H1 : Heap) (locs1 : List Loc), va_P D vwCl (zm_cells G (zm_sham T (upd (zm_ham T) i.toNatClampNeg x)) Y) H1 → va_S (zm_Ad G) H0 H1 locs1 → W p l e R s m args below meth c H1 locs1 cells slots Q (F0 m (pc + 1) ls rest)) : W p l e R s m args below meth c H locs cells slots Q (F0 m pc ls (.int x :: .int i :: .ref (zh_ham G) :: rest)) :=
  va_iast hx hb hK hP (zm_Dd hG T Y) hS 9 0 rfl rfl hin hdg (fun H1 locs1 hP1 _ hS1 => kk H1 locs1 hP1 hS1)
theorem zm_ald_pyr (hx : p.tables.exec = Jvm.exec) (hb : c.code = cc) (hK : va_K D vwCl (zm_tys G) s) (hP : va_P D vwCl (zm_cells G T Y) H) {i : Int32} (hin : vp_in i 6) (hdg : decode cc pc = .ok (.iaload, 1))
    (kk : W p l e R s m args below meth c H locs cells slots Q (F0 m (pc + 1) ls (.int (zm_pyr T i.toNatClampNeg) :: rest))) : W p l e R s m args below meth c H locs cells slots Q (F0 m pc ls (.int i :: .ref (zh_pyr G) :: rest)) := va_iald hx hb hK hP 10 0 rfl rfl hin hdg kk
theorem zm_ast_pyr (hx : p.tables.exec = Jvm.exec) (hb : c.code = cc) (hK : va_K D vwCl (zm_tys G) s) (hG : zw_apart (zm_adr G)) (hP : va_P D vwCl (zm_cells G T Y) H) (hS : va_S (zm_Ad G) H0 H locs) {i : Int32} {x : Int32} (hin : vp_in i 6) (hdg : decode cc pc = .ok (.iastore, 1))
    (kk : ∀ (H1 : Heap) (locs1 : List Loc), va_P D vwCl (zm_cells G (zm_spyr T (upd (zm_pyr T) i.toNatClampNeg x)) Y) H1 → va_S (zm_Ad G) H0 H1 locs1 → W p l e R s m args below meth c H1 locs1 cells slots Q (F0 m (pc + 1) ls rest)) : W p l e R s m args below meth c H locs cells slots Q (F0 m pc ls (.int x :: .int i :: .ref (zh_pyr G) :: rest)) :=
  va_iast hx hb hK hP (zm_Dd hG T Y) hS 10 0 rfl rfl hin hdg (fun H1 locs1 hP1 _ hS1 => kk H1 locs1 hP1 hS1)
theorem zm_ald_pye (hx : p.tables.exec = Jvm.exec) (hb : c.code = cc) (hK : va_K D vwCl (zm_tys G) s) (hP : va_P D vwCl (zm_cells G T Y) H) {i : Int32} (hin : vp_in i 6) (hdg : decode cc pc = .ok (.iaload, 1))
    (kk : W p l e R s m args below meth c H locs cells slots Q (F0 m (pc + 1) ls (.int (zm_pye T i.toNatClampNeg) :: rest))) : W p l e R s m args below meth c H locs cells slots Q (F0 m pc ls (.int i :: .ref (zh_pye G) :: rest)) := va_iald hx hb hK hP 11 0 rfl rfl hin hdg kk
theorem zm_ast_pye (hx : p.tables.exec = Jvm.exec) (hb : c.code = cc) (hK : va_K D vwCl (zm_tys G) s) (hG : zw_apart (zm_adr G)) (hP : va_P D vwCl (zm_cells G T Y) H) (hS : va_S (zm_Ad G) H0 H locs) {i : Int32} {x : Int32} (hin : vp_in i 6) (hdg : decode cc pc = .ok (.iastore, 1))
    (kk : ∀ (H1 : Heap) (locs1 : List Loc), va_P D vwCl (zm_cells G (zm_spye T (upd (zm_pye T) i.toNatClampNeg x)) Y) H1 → va_S (zm_Ad G) H0 H1 locs1 → W p l e R s m args below meth c H1 locs1 cells slots Q (F0 m (pc + 1) ls rest)) : W p l e R s m args below meth c H locs cells slots Q (F0 m pc ls (.int x :: .int i :: .ref (zh_pye G) :: rest)) :=
  va_iast hx hb hK hP (zm_Dd hG T Y) hS 11 0 rfl rfl hin hdg (fun H1 locs1 hP1 _ hS1 => kk H1 locs1 hP1 hS1)
theorem zm_ald_sum (hx : p.tables.exec = Jvm.exec) (hb : c.code = cc) (hK : va_K D vwCl (zm_tys G) s) (hP : va_P D vwCl (zm_cells G T Y) H) {i : Int32} (hin : vp_in i 6) (hdg : decode cc pc = .ok (.iaload, 1))
    (kk : W p l e R s m args below meth c H locs cells slots Q (F0 m (pc + 1) ls (.int (zm_sum T i.toNatClampNeg) :: rest))) : W p l e R s m args below meth c H locs cells slots Q (F0 m pc ls (.int i :: .ref (zh_sum G) :: rest)) := va_iald hx hb hK hP 12 0 rfl rfl hin hdg kk
theorem zm_ast_sum (hx : p.tables.exec = Jvm.exec) (hb : c.code = cc) (hK : va_K D vwCl (zm_tys G) s) (hG : zw_apart (zm_adr G)) (hP : va_P D vwCl (zm_cells G T Y) H) (hS : va_S (zm_Ad G) H0 H locs) {i : Int32} {x : Int32} (hin : vp_in i 6) (hdg : decode cc pc = .ok (.iastore, 1))
    (kk : ∀ (H1 : Heap) (locs1 : List Loc), va_P D vwCl (zm_cells G (zm_ssum T (upd (zm_sum T) i.toNatClampNeg x)) Y) H1 → va_S (zm_Ad G) H0 H1 locs1 → W p l e R s m args below meth c H1 locs1 cells slots Q (F0 m (pc + 1) ls rest)) : W p l e R s m args below meth c H locs cells slots Q (F0 m pc ls (.int x :: .int i :: .ref (zh_sum G) :: rest)) :=
  va_iast hx hb hK hP (zm_Dd hG T Y) hS 12 0 rfl rfl hin hdg (fun H1 locs1 hP1 _ hS1 => kk H1 locs1 hP1 hS1)
theorem zm_ald_ody (hx : p.tables.exec = Jvm.exec) (hb : c.code = cc) (hK : va_K D vwCl (zm_tys G) s) (hP : va_P D vwCl (zm_cells G T Y) H) {i : Int32} (hin : vp_in i 6) (hdg : decode cc pc = .ok (.iaload, 1))
    (kk : W p l e R s m args below meth c H locs cells slots Q (F0 m (pc + 1) ls (.int (zm_ody T i.toNatClampNeg) :: rest))) : W p l e R s m args below meth c H locs cells slots Q (F0 m pc ls (.int i :: .ref (zh_ody G) :: rest)) := va_iald hx hb hK hP 13 0 rfl rfl hin hdg kk
theorem zm_ast_ody (hx : p.tables.exec = Jvm.exec) (hb : c.code = cc) (hK : va_K D vwCl (zm_tys G) s) (hG : zw_apart (zm_adr G)) (hP : va_P D vwCl (zm_cells G T Y) H) (hS : va_S (zm_Ad G) H0 H locs) {i : Int32} {x : Int32} (hin : vp_in i 6) (hdg : decode cc pc = .ok (.iastore, 1))
    (kk : ∀ (H1 : Heap) (locs1 : List Loc), va_P D vwCl (zm_cells G (zm_sody T (upd (zm_ody T) i.toNatClampNeg x)) Y) H1 → va_S (zm_Ad G) H0 H1 locs1 → W p l e R s m args below meth c H1 locs1 cells slots Q (F0 m (pc + 1) ls rest)) : W p l e R s m args below meth c H locs cells slots Q (F0 m pc ls (.int x :: .int i :: .ref (zh_ody G) :: rest)) :=
  va_iast hx hb hK hP (zm_Dd hG T Y) hS 13 0 rfl rfl hin hdg (fun H1 locs1 hP1 _ hS1 => kk H1 locs1 hP1 hS1)
theorem zm_ald_mis (hx : p.tables.exec = Jvm.exec) (hb : c.code = cc) (hK : va_K D vwCl (zm_tys G) s) (hP : va_P D vwCl (zm_cells G T Y) H) {i : Int32} (hin : vp_in i 6) (hdg : decode cc pc = .ok (.iaload, 1))
    (kk : W p l e R s m args below meth c H locs cells slots Q (F0 m (pc + 1) ls (.int (zm_mis T i.toNatClampNeg) :: rest))) : W p l e R s m args below meth c H locs cells slots Q (F0 m pc ls (.int i :: .ref (zh_mis G) :: rest)) := va_iald hx hb hK hP 14 0 rfl rfl hin hdg kk
theorem zm_ast_mis (hx : p.tables.exec = Jvm.exec) (hb : c.code = cc) (hK : va_K D vwCl (zm_tys G) s) (hG : zw_apart (zm_adr G)) (hP : va_P D vwCl (zm_cells G T Y) H) (hS : va_S (zm_Ad G) H0 H locs) {i : Int32} {x : Int32} (hin : vp_in i 6) (hdg : decode cc pc = .ok (.iastore, 1))
    (kk : ∀ (H1 : Heap) (locs1 : List Loc), va_P D vwCl (zm_cells G (zm_smis T (upd (zm_mis T) i.toNatClampNeg x)) Y) H1 → va_S (zm_Ad G) H0 H1 locs1 → W p l e R s m args below meth c H1 locs1 cells slots Q (F0 m (pc + 1) ls rest)) : W p l e R s m args below meth c H locs cells slots Q (F0 m pc ls (.int x :: .int i :: .ref (zh_mis G) :: rest)) :=
  va_iast hx hb hK hP (zm_Dd hG T Y) hS 14 0 rfl rfl hin hdg (fun H1 locs1 hP1 _ hS1 => kk H1 locs1 hP1 hS1)
theorem zm_ald_dat (hx : p.tables.exec = Jvm.exec) (hb : c.code = cc) (hK : va_K D vwCl (zm_tys G) s) (hP : va_P D vwCl (zm_cells G T Y) H) {i : Int32} (hin : vp_in i 8) (hdg : decode cc pc = .ok (.iaload, 1))
    (kk : W p l e R s m args below meth c H locs cells slots Q (F0 m (pc + 1) ls (.int (zm_dat T i.toNatClampNeg) :: rest))) : W p l e R s m args below meth c H locs cells slots Q (F0 m pc ls (.int i :: .ref (zh_dat G) :: rest)) := va_iald hx hb hK hP 15 0 rfl rfl hin hdg kk
theorem zm_ast_dat (hx : p.tables.exec = Jvm.exec) (hb : c.code = cc) (hK : va_K D vwCl (zm_tys G) s) (hG : zw_apart (zm_adr G)) (hP : va_P D vwCl (zm_cells G T Y) H) (hS : va_S (zm_Ad G) H0 H locs) {i : Int32} {x : Int32} (hin : vp_in i 8) (hdg : decode cc pc = .ok (.iastore, 1))
    (kk : ∀ (H1 : Heap) (locs1 : List Loc), va_P D vwCl (zm_cells G (zm_sdat T (upd (zm_dat T) i.toNatClampNeg x)) Y) H1 → va_S (zm_Ad G) H0 H1 locs1 → W p l e R s m args below meth c H1 locs1 cells slots Q (F0 m (pc + 1) ls rest)) : W p l e R s m args below meth c H locs cells slots Q (F0 m pc ls (.int x :: .int i :: .ref (zh_dat G) :: rest)) :=
  va_iast hx hb hK hP (zm_Dd hG T Y) hS 15 0 rfl rfl hin hdg (fun H1 locs1 hP1 _ hS1 => kk H1 locs1 hP1 hS1)
theorem zm_ald_csh (hx : p.tables.exec = Jvm.exec) (hb : c.code = cc) (hK : va_K D vwCl (zm_tys G) s) (hP : va_P D vwCl (zm_cells G T Y) H) {i : Int32} (hin : vp_in i 3) (hdg : decode cc pc = .ok (.laload, 1))
    (kk : W p l e R s m args below meth c H locs cells slots Q (F0 m (pc + 1) ls (.long (zm_csh T i.toNatClampNeg) :: rest))) : W p l e R s m args below meth c H locs cells slots Q (F0 m pc ls (.int i :: .ref (zh_csh G) :: rest)) := va_lald hx hb hK hP 16 1 rfl rfl hin hdg kk
theorem zm_ast_csh (hx : p.tables.exec = Jvm.exec) (hb : c.code = cc) (hK : va_K D vwCl (zm_tys G) s) (hG : zw_apart (zm_adr G)) (hP : va_P D vwCl (zm_cells G T Y) H) (hS : va_S (zm_Ad G) H0 H locs) {i : Int32} {x : Int64} (hin : vp_in i 3) (hdg : decode cc pc = .ok (.lastore, 1))
    (kk : ∀ (H1 : Heap) (locs1 : List Loc), va_P D vwCl (zm_cells G (zm_scsh T (vp_updL (zm_csh T) i.toNatClampNeg x)) Y) H1 → va_S (zm_Ad G) H0 H1 locs1 → W p l e R s m args below meth c H1 locs1 cells slots Q (F0 m (pc + 1) ls rest)) : W p l e R s m args below meth c H locs cells slots Q (F0 m pc ls (.long x :: .int i :: .ref (zh_csh G) :: rest)) :=
  va_last hx hb hK hP (zm_Dd hG T Y) hS 16 1 rfl rfl hin hdg (fun H1 locs1 hP1 _ hS1 => kk H1 locs1 hP1 hS1)
theorem zm_ald_itr (hx : p.tables.exec = Jvm.exec) (hb : c.code = cc) (hK : va_K D vwCl (zm_tys G) s) (hP : va_P D vwCl (zm_cells G T Y) H) {i : Int32} (hin : vp_in i 3) (hdg : decode cc pc = .ok (.laload, 1))
    (kk : W p l e R s m args below meth c H locs cells slots Q (F0 m (pc + 1) ls (.long (zm_itr T i.toNatClampNeg) :: rest))) : W p l e R s m args below meth c H locs cells slots Q (F0 m pc ls (.int i :: .ref (zh_itr G) :: rest)) := va_lald hx hb hK hP 17 1 rfl rfl hin hdg kk
theorem zm_ast_itr (hx : p.tables.exec = Jvm.exec) (hb : c.code = cc) (hK : va_K D vwCl (zm_tys G) s) (hG : zw_apart (zm_adr G)) (hP : va_P D vwCl (zm_cells G T Y) H) (hS : va_S (zm_Ad G) H0 H locs) {i : Int32} {x : Int64} (hin : vp_in i 3) (hdg : decode cc pc = .ok (.lastore, 1))
    (kk : ∀ (H1 : Heap) (locs1 : List Loc), va_P D vwCl (zm_cells G (zm_sitr T (vp_updL (zm_itr T) i.toNatClampNeg x)) Y) H1 → va_S (zm_Ad G) H0 H1 locs1 → W p l e R s m args below meth c H1 locs1 cells slots Q (F0 m (pc + 1) ls rest)) : W p l e R s m args below meth c H locs cells slots Q (F0 m pc ls (.long x :: .int i :: .ref (zh_itr G) :: rest)) :=
  va_last hx hb hK hP (zm_Dd hG T Y) hS 17 1 rfl rfl hin hdg (fun H1 locs1 hP1 _ hS1 => kk H1 locs1 hP1 hS1)
end ZMW
end
section
/-! ENDS of the methods that write, on either side. -/
def zb_Qi (D : va_G) (G : zg_G) (F : Int32 × zb_S) : Array Value → State → Outcome → State → Prop := zw_Q (some (.int F.1)) (va_P D vwCl (zb_cells G F.2)) (zb_Ad G)
def zb_Ql (D : va_G) (G : zg_G) (F : Int64 × zb_S) : Array Value → State → Outcome → State → Prop := zw_Q (some (.long F.1)) (va_P D vwCl (zb_cells G F.2)) (zb_Ad G)
def zb_Qv (D : va_G) (G : zg_G) (F : zb_S) : Array Value → State → Outcome → State → Prop := zw_Q none (va_P D vwCl (zb_cells G F)) (zb_Ad G)
def zm_PX (D : va_G) (G : zh_G) (T : zm_S) (H : Heap) : Prop := ∃ Y : zm_Y, va_P D vwCl (zm_cells G T Y) H
def zm_Qi (D : va_G) (G : zh_G) (F : Int32 × zm_S) : Array Value → State → Outcome → State → Prop := zw_Q (some (.int F.1)) (zm_PX D G F.2) (zm_Ad G)
def zm_Ql (D : va_G) (G : zh_G) (F : Int64 × zm_S) : Array Value → State → Outcome → State → Prop := zw_Q (some (.long F.1)) (zm_PX D G F.2) (zm_Ad G)
def zm_Qv (D : va_G) (G : zh_G) (F : zm_S) : Array Value → State → Outcome → State → Prop := zw_Q none (zm_PX D G F) (zm_Ad G)
section ZE
variable {p : Program} {l : Launch} {e : Env} {R : Room} {s : State} {m : MethodId} {args : Array Value} {below : List Frame} {meth : Method} {c : Code} {H : Heap} {locs : List Loc} {cells slots : Nat}
variable {cc : ByteArray} {pc : Nat} {ls : Array Slot} {D : va_G} {G : zg_G} {S1 : zb_S} {K : zh_G} {T1 : zm_S} {Y1 : zm_Y}
theorem zb_iret {v2 : Int32} {F : Int32 × zb_S} (hx : p.tables.exec = Jvm.exec) (hb : c.code = cc) (hr : meth.sig.returnType = some .int) (hlk : meth.locks = false) (hdg : decode cc pc = .ok (.ireturn, 1)) (hP : va_P D vwCl (zb_cells G S1) H) (hS : va_S (zb_Ad G) s.heap H locs) (hF : F = (v2, S1)) :
    W p l e R s m args below meth c H locs cells slots (MQ below (zb_Qi D G F) args s cells slots (zb_Ad G)) (F0 m pc ls [.int v2]) := by
  subst hF
  exact W.iret hx hb hr (fun t ht _ => ⟨rfl, by rw [ht]; exact hP, hS.F ht⟩) hS.2.2 hdg hlk
theorem zb_zret {v2 : Int32} {F : Int32 × zb_S} (hx : p.tables.exec = Jvm.exec) (hb : c.code = cc) (hr : meth.sig.returnType = some .boolean) (hlk : meth.locks = false) (hdg : decode cc pc = .ok (.ireturn, 1)) (hP : va_P D vwCl (zb_cells G S1) H) (hS : va_S (zb_Ad G) s.heap H locs) (hn : v2 = 0 ∨ v2 = 1) (hF : F = (v2, S1)) :
    W p l e R s m args below meth c H locs cells slots (MQ below (zb_Qi D G F) args s cells slots (zb_Ad G)) (F0 m pc ls [.int v2]) := by
  subst hF
  exact W.zret hx hb hr (by rcases hn with rfl | rfl <;> rfl) (fun t ht _ => ⟨rfl, by rw [ht]; exact hP, hS.F ht⟩) hS.2.2 hdg hlk
theorem zb_lret {v2 : Int64} {F : Int64 × zb_S} (hx : p.tables.exec = Jvm.exec) (hb : c.code = cc) (hr : meth.sig.returnType = some .long) (hlk : meth.locks = false) (hdg : decode cc pc = .ok (.lreturn, 1)) (hP : va_P D vwCl (zb_cells G S1) H) (hS : va_S (zb_Ad G) s.heap H locs) (hF : F = (v2, S1)) :
    W p l e R s m args below meth c H locs cells slots (MQ below (zb_Ql D G F) args s cells slots (zb_Ad G)) (F0 m pc ls [.long v2]) := by
  subst hF
  exact W.lret hx hb hr (fun t ht _ => ⟨rfl, by rw [ht]; exact hP, hS.F ht⟩) hS.2.2 hdg hlk
theorem zb_vret {F : zb_S} (hx : p.tables.exec = Jvm.exec) (hb : c.code = cc) (hr : meth.sig.returnType = none) (hlk : meth.locks = false) (hdg : decode cc pc = .ok (.return_, 1)) (hP : va_P D vwCl (zb_cells G S1) H) (hS : va_S (zb_Ad G) s.heap H locs) (hF : F = S1) :
    W p l e R s m args below meth c H locs cells slots (MQ below (zb_Qv D G F) args s cells slots (zb_Ad G)) (F0 m pc ls []) := by
  subst hF
  exact W.vret hx hb hr (fun t ht _ => ⟨rfl, by rw [ht]; exact hP, hS.F ht⟩) hS.2.2 hdg hlk
theorem zm_iret {v2 : Int32} {F : Int32 × zm_S} (hx : p.tables.exec = Jvm.exec) (hb : c.code = cc) (hr : meth.sig.returnType = some .int) (hlk : meth.locks = false) (hdg : decode cc pc = .ok (.ireturn, 1)) (hP : va_P D vwCl (zm_cells K T1 Y1) H) (hS : va_S (zm_Ad K) s.heap H locs) (hF : F = (v2, T1)) :
    W p l e R s m args below meth c H locs cells slots (MQ below (zm_Qi D K F) args s cells slots (zm_Ad K)) (F0 m pc ls [.int v2]) := by
  subst hF
  exact W.iret hx hb hr (fun t ht _ => ⟨rfl, ⟨Y1, by rw [ht]; exact hP⟩, hS.F ht⟩) hS.2.2 hdg hlk
theorem zm_zret {v2 : Int32} {F : Int32 × zm_S} (hx : p.tables.exec = Jvm.exec) (hb : c.code = cc) (hr : meth.sig.returnType = some .boolean) (hlk : meth.locks = false) (hdg : decode cc pc = .ok (.ireturn, 1)) (hP : va_P D vwCl (zm_cells K T1 Y1) H) (hS : va_S (zm_Ad K) s.heap H locs) (hn : v2 = 0 ∨ v2 = 1) (hF : F = (v2, T1)) :
    W p l e R s m args below meth c H locs cells slots (MQ below (zm_Qi D K F) args s cells slots (zm_Ad K)) (F0 m pc ls [.int v2]) := by
  subst hF
  exact W.zret hx hb hr (by rcases hn with rfl | rfl <;> rfl) (fun t ht _ => ⟨rfl, ⟨Y1, by rw [ht]; exact hP⟩, hS.F ht⟩) hS.2.2 hdg hlk
theorem zm_lret {v2 : Int64} {F : Int64 × zm_S} (hx : p.tables.exec = Jvm.exec) (hb : c.code = cc) (hr : meth.sig.returnType = some .long) (hlk : meth.locks = false) (hdg : decode cc pc = .ok (.lreturn, 1)) (hP : va_P D vwCl (zm_cells K T1 Y1) H) (hS : va_S (zm_Ad K) s.heap H locs) (hF : F = (v2, T1)) :
    W p l e R s m args below meth c H locs cells slots (MQ below (zm_Ql D K F) args s cells slots (zm_Ad K)) (F0 m pc ls [.long v2]) := by
  subst hF
  exact W.lret hx hb hr (fun t ht _ => ⟨rfl, ⟨Y1, by rw [ht]; exact hP⟩, hS.F ht⟩) hS.2.2 hdg hlk
theorem zm_vret {F : zm_S} (hx : p.tables.exec = Jvm.exec) (hb : c.code = cc) (hr : meth.sig.returnType = none) (hlk : meth.locks = false) (hdg : decode cc pc = .ok (.return_, 1)) (hP : va_P D vwCl (zm_cells K T1 Y1) H) (hS : va_S (zm_Ad K) s.heap H locs) (hF : F = T1) :
    W p l e R s m args below meth c H locs cells slots (MQ below (zm_Qv D K F) args s cells slots (zm_Ad K)) (F0 m pc ls []) := by
  subst hF
  exact W.vret hx hb hr (fun t ht _ => ⟨rfl, ⟨Y1, by rw [ht]; exact hP⟩, hS.F ht⟩) hS.2.2 hdg hlk
end ZE
section ZC
variable {p : Program} {l : Launch} {e : Env} {R : Room} {s : State} {m : MethodId} {args : Array Value} {below : List Frame} {meth : Method} {c : Code} {H : Heap} {locs : List Loc} {cells slots : Nat} {Q : State → Prop}
variable {cc bytes : ByteArray} {pc nL maxL index n : Nat} {ls : Array Slot} {rest st0 As : List Value} {own : String} {y : MethodName} {ret : Option FieldType} {rm : Room} {b : Nat} {H0 : Heap} {Pc : Array Value → State → Prop} {D : va_G}
theorem zb_vWi {G : zg_G} {F1 : Int32 × zb_S} (F : CallFix p m c cc nL s args zw_big own) (hM : Met l y (Cond.code y bytes maxL ret :: zw_big) rm Pc (zb_Qi D G F1) 0 0 (zb_Ad G)) (hp : PreV s H y.cls b Pc As) (hY : zw_YV y bytes maxL ret n) (hl : Cond.methodLink own index y ∈ zw_big) (hrm : rm.cells = 0 ∧ rm.slots = 0 ∧ rm.frames + 1 ≤ R.frames ∧ 8 + (maxL + 11) + rm.locals ≤ R.locals) (hn : As.length = n) (hz : ls.size = nL) (hst : st0 = As.reverse ++ .ref b :: rest) (hW : (rest.map fun v => v.category).sum ≤ 8) (hc : cells ≤ R.cells ∧ slots ≤ R.slots) (hdg : decode cc pc = .ok (.invokevirtual index, 3)) (hS : va_S (zb_Ad G) H0 H locs)
    (kk : ∀ (H1 : Heap) (locs1 : List Loc), va_P D vwCl (zb_cells G F1.2) H1 → va_S (zb_Ad G) H0 H1 locs1 → W p l e R s m args below meth c H1 locs1 cells slots Q (F0 m (pc + 3) ls (.int F1.1 :: rest))) : W p l e R s m args below meth c H locs cells slots Q (F0 m pc ls st0) :=
  zw_vW F hM hp hY hl hrm hn hz hst hW hc hdg hS kk
theorem zb_vWl {G : zg_G} {F1 : Int64 × zb_S} (F : CallFix p m c cc nL s args zw_big own) (hM : Met l y (Cond.code y bytes maxL ret :: zw_big) rm Pc (zb_Ql D G F1) 0 0 (zb_Ad G)) (hp : PreV s H y.cls b Pc As) (hY : zw_YV y bytes maxL ret n) (hl : Cond.methodLink own index y ∈ zw_big) (hrm : rm.cells = 0 ∧ rm.slots = 0 ∧ rm.frames + 1 ≤ R.frames ∧ 8 + (maxL + 11) + rm.locals ≤ R.locals) (hn : As.length = n) (hz : ls.size = nL) (hst : st0 = As.reverse ++ .ref b :: rest) (hW : (rest.map fun v => v.category).sum ≤ 8) (hc : cells ≤ R.cells ∧ slots ≤ R.slots) (hdg : decode cc pc = .ok (.invokevirtual index, 3)) (hS : va_S (zb_Ad G) H0 H locs)
    (kk : ∀ (H1 : Heap) (locs1 : List Loc), va_P D vwCl (zb_cells G F1.2) H1 → va_S (zb_Ad G) H0 H1 locs1 → W p l e R s m args below meth c H1 locs1 cells slots Q (F0 m (pc + 3) ls (.long F1.1 :: rest))) : W p l e R s m args below meth c H locs cells slots Q (F0 m pc ls st0) :=
  zw_vW F hM hp hY hl hrm hn hz hst hW hc hdg hS kk
theorem zb_vWv {G : zg_G} {F1 : zb_S} (F : CallFix p m c cc nL s args zw_big own) (hM : Met l y (Cond.code y bytes maxL ret :: zw_big) rm Pc (zb_Qv D G F1) 0 0 (zb_Ad G)) (hp : PreV s H y.cls b Pc As) (hY : zw_YV y bytes maxL ret n) (hl : Cond.methodLink own index y ∈ zw_big) (hrm : rm.cells = 0 ∧ rm.slots = 0 ∧ rm.frames + 1 ≤ R.frames ∧ 8 + (maxL + 11) + rm.locals ≤ R.locals) (hn : As.length = n) (hz : ls.size = nL) (hst : st0 = As.reverse ++ .ref b :: rest) (hW : (rest.map fun v => v.category).sum ≤ 8) (hc : cells ≤ R.cells ∧ slots ≤ R.slots) (hdg : decode cc pc = .ok (.invokevirtual index, 3)) (hS : va_S (zb_Ad G) H0 H locs)
    (kk : ∀ (H1 : Heap) (locs1 : List Loc), va_P D vwCl (zb_cells G F1) H1 → va_S (zb_Ad G) H0 H1 locs1 → W p l e R s m args below meth c H1 locs1 cells slots Q (F0 m (pc + 3) ls (rest))) : W p l e R s m args below meth c H locs cells slots Q (F0 m pc ls st0) :=
  zw_vW F hM hp hY hl hrm hn hz hst hW hc hdg hS kk
theorem zm_vWi {G : zh_G} {F1 : Int32 × zm_S} (F : CallFix p m c cc nL s args zw_big own) (hM : Met l y (Cond.code y bytes maxL ret :: zw_big) rm Pc (zm_Qi D G F1) 0 0 (zm_Ad G)) (hp : PreV s H y.cls b Pc As) (hY : zw_YV y bytes maxL ret n) (hl : Cond.methodLink own index y ∈ zw_big) (hrm : rm.cells = 0 ∧ rm.slots = 0 ∧ rm.frames + 1 ≤ R.frames ∧ 8 + (maxL + 11) + rm.locals ≤ R.locals) (hn : As.length = n) (hz : ls.size = nL) (hst : st0 = As.reverse ++ .ref b :: rest) (hW : (rest.map fun v => v.category).sum ≤ 8) (hc : cells ≤ R.cells ∧ slots ≤ R.slots) (hdg : decode cc pc = .ok (.invokevirtual index, 3)) (hS : va_S (zm_Ad G) H0 H locs)
    (kk : ∀ (Y1 : zm_Y) (H1 : Heap) (locs1 : List Loc), va_P D vwCl (zm_cells G F1.2 Y1) H1 → va_S (zm_Ad G) H0 H1 locs1 → W p l e R s m args below meth c H1 locs1 cells slots Q (F0 m (pc + 3) ls (.int F1.1 :: rest))) : W p l e R s m args below meth c H locs cells slots Q (F0 m pc ls st0) :=
  zw_vW F hM hp hY hl hrm hn hz hst hW hc hdg hS (fun H1 locs1 hP1 hS1 => by obtain ⟨Y1, hP1⟩ := hP1; exact kk Y1 H1 locs1 hP1 hS1)
theorem zm_vWl {G : zh_G} {F1 : Int64 × zm_S} (F : CallFix p m c cc nL s args zw_big own) (hM : Met l y (Cond.code y bytes maxL ret :: zw_big) rm Pc (zm_Ql D G F1) 0 0 (zm_Ad G)) (hp : PreV s H y.cls b Pc As) (hY : zw_YV y bytes maxL ret n) (hl : Cond.methodLink own index y ∈ zw_big) (hrm : rm.cells = 0 ∧ rm.slots = 0 ∧ rm.frames + 1 ≤ R.frames ∧ 8 + (maxL + 11) + rm.locals ≤ R.locals) (hn : As.length = n) (hz : ls.size = nL) (hst : st0 = As.reverse ++ .ref b :: rest) (hW : (rest.map fun v => v.category).sum ≤ 8) (hc : cells ≤ R.cells ∧ slots ≤ R.slots) (hdg : decode cc pc = .ok (.invokevirtual index, 3)) (hS : va_S (zm_Ad G) H0 H locs)
    (kk : ∀ (Y1 : zm_Y) (H1 : Heap) (locs1 : List Loc), va_P D vwCl (zm_cells G F1.2 Y1) H1 → va_S (zm_Ad G) H0 H1 locs1 → W p l e R s m args below meth c H1 locs1 cells slots Q (F0 m (pc + 3) ls (.long F1.1 :: rest))) : W p l e R s m args below meth c H locs cells slots Q (F0 m pc ls st0) :=
  zw_vW F hM hp hY hl hrm hn hz hst hW hc hdg hS (fun H1 locs1 hP1 hS1 => by obtain ⟨Y1, hP1⟩ := hP1; exact kk Y1 H1 locs1 hP1 hS1)
theorem zm_vWv {G : zh_G} {F1 : zm_S} (F : CallFix p m c cc nL s args zw_big own) (hM : Met l y (Cond.code y bytes maxL ret :: zw_big) rm Pc (zm_Qv D G F1) 0 0 (zm_Ad G)) (hp : PreV s H y.cls b Pc As) (hY : zw_YV y bytes maxL ret n) (hl : Cond.methodLink own index y ∈ zw_big) (hrm : rm.cells = 0 ∧ rm.slots = 0 ∧ rm.frames + 1 ≤ R.frames ∧ 8 + (maxL + 11) + rm.locals ≤ R.locals) (hn : As.length = n) (hz : ls.size = nL) (hst : st0 = As.reverse ++ .ref b :: rest) (hW : (rest.map fun v => v.category).sum ≤ 8) (hc : cells ≤ R.cells ∧ slots ≤ R.slots) (hdg : decode cc pc = .ok (.invokevirtual index, 3)) (hS : va_S (zm_Ad G) H0 H locs)
    (kk : ∀ (Y1 : zm_Y) (H1 : Heap) (locs1 : List Loc), va_P D vwCl (zm_cells G F1 Y1) H1 → va_S (zm_Ad G) H0 H1 locs1 → W p l e R s m args below meth c H1 locs1 cells slots Q (F0 m (pc + 3) ls (rest))) : W p l e R s m args below meth c H locs cells slots Q (F0 m pc ls st0) :=
  zw_vW F hM hp hY hl hrm hn hz hst hW hc hdg hS (fun H1 locs1 hP1 hS1 => by obtain ⟨Y1, hP1⟩ := hP1; exact kk Y1 H1 locs1 hP1 hS1)
end ZC
end
section
/-! decode rows -/
theorem nd_B_init_0 : decode nc_B_init 0 = .ok (.aload_n 0, 1) := by decide +kernel
theorem nd_B_init_1 : decode nc_B_init 1 = .ok (.invokespecial 1, 3) := by decide +kernel
theorem nd_B_init_4 : decode nc_B_init 4 = .ok (.aload_n 0, 1) := by decide +kernel
theorem nd_B_init_5 : decode nc_B_init 5 = .ok (.bipush 6, 2) := by decide +kernel
theorem nd_B_init_7 : decode nc_B_init 7 = .ok (.anewarray 9, 3) := by decide +kernel
theorem nd_B_init_10 : decode nc_B_init 10 = .ok (.putfield 11, 3) := by decide +kernel
theorem nd_B_init_13 : decode nc_B_init 13 = .ok (.aload_n 0, 1) := by decide +kernel
theorem nd_B_init_14 : decode nc_B_init 14 = .ok (.bipush 8, 2) := by decide +kernel
theorem nd_B_init_16 : decode nc_B_init 16 = .ok (.anewarray 15, 3) := by decide +kernel
theorem nd_B_init_19 : decode nc_B_init 19 = .ok (.putfield 17, 3) := by decide +kernel
theorem nd_B_init_22 : decode nc_B_init 22 = .ok (.aload_n 0, 1) := by decide +kernel
theorem nd_B_init_23 : decode nc_B_init 23 = .ok (.bipush 6, 2) := by decide +kernel
theorem nd_B_init_25 : decode nc_B_init 25 = .ok (.anewarray 21, 3) := by decide +kernel
theorem nd_B_init_28 : decode nc_B_init 28 = .ok (.putfield 23, 3) := by decide +kernel
theorem nd_B_init_31 : decode nc_B_init 31 = .ok (.aload_n 0, 1) := by decide +kernel
theorem nd_B_init_32 : decode nc_B_init 32 = .ok (.new 27, 3) := by decide +kernel
theorem nd_B_init_35 : decode nc_B_init 35 = .ok (.dup, 1) := by decide +kernel
theorem nd_B_init_36 : decode nc_B_init 36 = .ok (.invokespecial 29, 3) := by decide +kernel
theorem nd_B_init_39 : decode nc_B_init 39 = .ok (.putfield 30, 3) := by decide +kernel
theorem nd_B_init_42 : decode nc_B_init 42 = .ok (.aload_n 0, 1) := by decide +kernel
theorem nd_B_init_43 : decode nc_B_init 43 = .ok (.new 34, 3) := by decide +kernel
theorem nd_B_init_46 : decode nc_B_init 46 = .ok (.dup, 1) := by decide +kernel
theorem nd_B_init_47 : decode nc_B_init 47 = .ok (.invokespecial 36, 3) := by decide +kernel
theorem nd_B_init_50 : decode nc_B_init 50 = .ok (.putfield 37, 3) := by decide +kernel
theorem nd_B_init_53 : decode nc_B_init 53 = .ok (.aload_n 0, 1) := by decide +kernel
theorem nd_B_init_54 : decode nc_B_init 54 = .ok (.iconst 3, 1) := by decide +kernel
theorem nd_B_init_55 : decode nc_B_init 55 = .ok (.newarray .long, 2) := by decide +kernel
theorem nd_B_init_57 : decode nc_B_init 57 = .ok (.putfield 41, 3) := by decide +kernel
theorem nd_B_init_60 : decode nc_B_init 60 = .ok (.aload_n 0, 1) := by decide +kernel
theorem nd_B_init_61 : decode nc_B_init 61 = .ok (.iconst 3, 1) := by decide +kernel
theorem nd_B_init_62 : decode nc_B_init 62 = .ok (.newarray .long, 2) := by decide +kernel
theorem nd_B_init_64 : decode nc_B_init 64 = .ok (.putfield 45, 3) := by decide +kernel
theorem nd_B_init_67 : decode nc_B_init 67 = .ok (.iconst 0, 1) := by decide +kernel
theorem nd_B_init_68 : decode nc_B_init 68 = .ok (.istore_n 1, 1) := by decide +kernel
theorem nd_B_init_69 : decode nc_B_init 69 = .ok (.iload_n 1, 1) := by decide +kernel
theorem nd_B_init_70 : decode nc_B_init 70 = .ok (.bipush 6, 2) := by decide +kernel
theorem nd_B_init_72 : decode nc_B_init 72 = .ok (.if_icmp .ge 23, 3) := by decide +kernel
theorem nd_B_init_75 : decode nc_B_init 75 = .ok (.aload_n 0, 1) := by decide +kernel
theorem nd_B_init_76 : decode nc_B_init 76 = .ok (.getfield 11, 3) := by decide +kernel
theorem nd_B_init_79 : decode nc_B_init 79 = .ok (.iload_n 1, 1) := by decide +kernel
theorem nd_B_init_80 : decode nc_B_init 80 = .ok (.new 9, 3) := by decide +kernel
theorem nd_B_init_83 : decode nc_B_init 83 = .ok (.dup, 1) := by decide +kernel
theorem nd_B_init_84 : decode nc_B_init 84 = .ok (.iload_n 1, 1) := by decide +kernel
theorem nd_B_init_85 : decode nc_B_init 85 = .ok (.invokespecial 48, 3) := by decide +kernel
theorem nd_B_init_88 : decode nc_B_init 88 = .ok (.aastore, 1) := by decide +kernel
theorem nd_B_init_89 : decode nc_B_init 89 = .ok (.iinc 1 1, 3) := by decide +kernel
theorem nd_B_init_92 : decode nc_B_init 92 = .ok (.goto (-23), 3) := by decide +kernel
theorem nd_B_init_95 : decode nc_B_init 95 = .ok (.iconst 0, 1) := by decide +kernel
theorem nd_B_init_96 : decode nc_B_init 96 = .ok (.istore_n 1, 1) := by decide +kernel
theorem nd_B_init_97 : decode nc_B_init 97 = .ok (.iload_n 1, 1) := by decide +kernel
theorem nd_B_init_98 : decode nc_B_init 98 = .ok (.bipush 8, 2) := by decide +kernel
theorem nd_B_init_100 : decode nc_B_init 100 = .ok (.if_icmp .ge 22, 3) := by decide +kernel
theorem nd_B_init_103 : decode nc_B_init 103 = .ok (.aload_n 0, 1) := by decide +kernel
theorem nd_B_init_104 : decode nc_B_init 104 = .ok (.getfield 17, 3) := by decide +kernel
theorem nd_B_init_107 : decode nc_B_init 107 = .ok (.iload_n 1, 1) := by decide +kernel
theorem nd_B_init_108 : decode nc_B_init 108 = .ok (.new 15, 3) := by decide +kernel
theorem nd_B_init_111 : decode nc_B_init 111 = .ok (.dup, 1) := by decide +kernel
theorem nd_B_init_112 : decode nc_B_init 112 = .ok (.invokespecial 51, 3) := by decide +kernel
theorem nd_B_init_115 : decode nc_B_init 115 = .ok (.aastore, 1) := by decide +kernel
theorem nd_B_init_116 : decode nc_B_init 116 = .ok (.iinc 1 1, 3) := by decide +kernel
theorem nd_B_init_119 : decode nc_B_init 119 = .ok (.goto (-22), 3) := by decide +kernel
theorem nd_B_init_122 : decode nc_B_init 122 = .ok (.iconst 0, 1) := by decide +kernel
theorem nd_B_init_123 : decode nc_B_init 123 = .ok (.istore_n 1, 1) := by decide +kernel
theorem nd_B_init_124 : decode nc_B_init 124 = .ok (.iload_n 1, 1) := by decide +kernel
theorem nd_B_init_125 : decode nc_B_init 125 = .ok (.bipush 6, 2) := by decide +kernel
theorem nd_B_init_127 : decode nc_B_init 127 = .ok (.if_icmp .ge 22, 3) := by decide +kernel
theorem nd_B_init_130 : decode nc_B_init 130 = .ok (.aload_n 0, 1) := by decide +kernel
theorem nd_B_init_131 : decode nc_B_init 131 = .ok (.getfield 23, 3) := by decide +kernel
theorem nd_B_init_134 : decode nc_B_init 134 = .ok (.iload_n 1, 1) := by decide +kernel
theorem nd_B_init_135 : decode nc_B_init 135 = .ok (.new 21, 3) := by decide +kernel
theorem nd_B_init_138 : decode nc_B_init 138 = .ok (.dup, 1) := by decide +kernel
theorem nd_B_init_139 : decode nc_B_init 139 = .ok (.invokespecial 52, 3) := by decide +kernel
theorem nd_B_init_142 : decode nc_B_init 142 = .ok (.aastore, 1) := by decide +kernel
theorem nd_B_init_143 : decode nc_B_init 143 = .ok (.iinc 1 1, 3) := by decide +kernel
theorem nd_B_init_146 : decode nc_B_init 146 = .ok (.goto (-22), 3) := by decide +kernel
theorem nd_B_init_149 : decode nc_B_init 149 = .ok (.return_, 1) := by decide +kernel
theorem nd_R_init_0 : decode nc_R_init 0 = .ok (.aload_n 0, 1) := by decide +kernel
theorem nd_R_init_1 : decode nc_R_init 1 = .ok (.invokespecial 1, 3) := by decide +kernel
theorem nd_R_init_4 : decode nc_R_init 4 = .ok (.aload_n 0, 1) := by decide +kernel
theorem nd_R_init_5 : decode nc_R_init 5 = .ok (.bipush 8, 2) := by decide +kernel
theorem nd_R_init_7 : decode nc_R_init 7 = .ok (.newarray .int, 2) := by decide +kernel
theorem nd_R_init_9 : decode nc_R_init 9 = .ok (.putfield 9, 3) := by decide +kernel
theorem nd_R_init_12 : decode nc_R_init 12 = .ok (.return_, 1) := by decide +kernel
theorem nd_D_init_0 : decode nc_D_init 0 = .ok (.aload_n 0, 1) := by decide +kernel
theorem nd_D_init_1 : decode nc_D_init 1 = .ok (.invokespecial 1, 3) := by decide +kernel
theorem nd_D_init_4 : decode nc_D_init 4 = .ok (.aload_n 0, 1) := by decide +kernel
theorem nd_D_init_5 : decode nc_D_init 5 = .ok (.iconst (-1), 1) := by decide +kernel
theorem nd_D_init_6 : decode nc_D_init 6 = .ok (.putfield 9, 3) := by decide +kernel
theorem nd_D_init_9 : decode nc_D_init 9 = .ok (.return_, 1) := by decide +kernel
theorem nd_A_init_0 : decode nc_A_init 0 = .ok (.aload_n 0, 1) := by decide +kernel
theorem nd_A_init_1 : decode nc_A_init 1 = .ok (.invokespecial 1, 3) := by decide +kernel
theorem nd_A_init_4 : decode nc_A_init 4 = .ok (.aload_n 0, 1) := by decide +kernel
theorem nd_A_init_5 : decode nc_A_init 5 = .ok (.iload_n 1, 1) := by decide +kernel
theorem nd_A_init_6 : decode nc_A_init 6 = .ok (.putfield 7, 3) := by decide +kernel
theorem nd_A_init_9 : decode nc_A_init 9 = .ok (.return_, 1) := by decide +kernel
theorem nd_H_init_0 : decode nc_H_init 0 = .ok (.aload_n 0, 1) := by decide +kernel
theorem nd_H_init_1 : decode nc_H_init 1 = .ok (.invokespecial 1, 3) := by decide +kernel
theorem nd_H_init_4 : decode nc_H_init 4 = .ok (.return_, 1) := by decide +kernel
theorem nd_O_init_0 : decode nc_O_init 0 = .ok (.aload_n 0, 1) := by decide +kernel
theorem nd_O_init_1 : decode nc_O_init 1 = .ok (.invokespecial 1, 3) := by decide +kernel
theorem nd_O_init_4 : decode nc_O_init 4 = .ok (.return_, 1) := by decide +kernel
theorem nd_B_open_0 : decode nc_B_open 0 = .ok (.aload_n 0, 1) := by decide +kernel
theorem nd_B_open_1 : decode nc_B_open 1 = .ok (.invokevirtual 53, 3) := by decide +kernel
theorem nd_B_open_4 : decode nc_B_open 4 = .ok (.istore 5, 2) := by decide +kernel
theorem nd_B_open_6 : decode nc_B_open 6 = .ok (.iload 5, 2) := by decide +kernel
theorem nd_B_open_8 : decode nc_B_open 8 = .ok (.ifCond .eq 6, 3) := by decide +kernel
theorem nd_B_open_11 : decode nc_B_open 11 = .ok (.iload 5, 2) := by decide +kernel
theorem nd_B_open_13 : decode nc_B_open 13 = .ok (.ireturn, 1) := by decide +kernel
theorem nd_B_open_14 : decode nc_B_open 14 = .ok (.iload_n 1, 1) := by decide +kernel
theorem nd_B_open_15 : decode nc_B_open 15 = .ok (.invokestatic 57, 3) := by decide +kernel
theorem nd_B_open_18 : decode nc_B_open 18 = .ok (.ifCond .eq 10, 3) := by decide +kernel
theorem nd_B_open_21 : decode nc_B_open 21 = .ok (.iload_n 2, 1) := by decide +kernel
theorem nd_B_open_22 : decode nc_B_open 22 = .ok (.invokestatic 61, 3) := by decide +kernel
theorem nd_B_open_25 : decode nc_B_open 25 = .ok (.ifCond .ne 6, 3) := by decide +kernel
theorem nd_B_open_28 : decode nc_B_open 28 = .ok (.bipush (-3), 2) := by decide +kernel
theorem nd_B_open_30 : decode nc_B_open 30 = .ok (.ireturn, 1) := by decide +kernel
theorem nd_B_open_31 : decode nc_B_open 31 = .ok (.iload_n 3, 1) := by decide +kernel
theorem nd_B_open_32 : decode nc_B_open 32 = .ok (.iconst 0, 1) := by decide +kernel
theorem nd_B_open_33 : decode nc_B_open 33 = .ok (.ldc 66, 2) := by decide +kernel
theorem nd_B_open_35 : decode nc_B_open 35 = .ok (.invokestatic 67, 3) := by decide +kernel
theorem nd_B_open_38 : decode nc_B_open 38 = .ok (.ifCond .eq 15, 3) := by decide +kernel
theorem nd_B_open_41 : decode nc_B_open 41 = .ok (.iload 4, 2) := by decide +kernel
theorem nd_B_open_43 : decode nc_B_open 43 = .ok (.iconst 0, 1) := by decide +kernel
theorem nd_B_open_44 : decode nc_B_open 44 = .ok (.sipush 1000, 3) := by decide +kernel
theorem nd_B_open_47 : decode nc_B_open 47 = .ok (.invokestatic 67, 3) := by decide +kernel
theorem nd_B_open_50 : decode nc_B_open 50 = .ok (.ifCond .ne 6, 3) := by decide +kernel
theorem nd_B_open_53 : decode nc_B_open 53 = .ok (.bipush (-3), 2) := by decide +kernel
theorem nd_B_open_55 : decode nc_B_open 55 = .ok (.ireturn, 1) := by decide +kernel
theorem nd_B_open_56 : decode nc_B_open 56 = .ok (.aload_n 0, 1) := by decide +kernel
theorem nd_B_open_57 : decode nc_B_open 57 = .ok (.getfield 71, 3) := by decide +kernel
theorem nd_B_open_60 : decode nc_B_open 60 = .ok (.bipush 6, 2) := by decide +kernel
theorem nd_B_open_62 : decode nc_B_open 62 = .ok (.if_icmp .lt 6, 3) := by decide +kernel
theorem nd_B_open_65 : decode nc_B_open 65 = .ok (.bipush (-4), 2) := by decide +kernel
theorem nd_B_open_67 : decode nc_B_open 67 = .ok (.ireturn, 1) := by decide +kernel
theorem nd_B_open_68 : decode nc_B_open 68 = .ok (.aload_n 0, 1) := by decide +kernel
theorem nd_B_open_69 : decode nc_B_open 69 = .ok (.getfield 11, 3) := by decide +kernel
theorem nd_B_open_72 : decode nc_B_open 72 = .ok (.aload_n 0, 1) := by decide +kernel
theorem nd_B_open_73 : decode nc_B_open 73 = .ok (.getfield 71, 3) := by decide +kernel
theorem nd_B_open_76 : decode nc_B_open 76 = .ok (.aaload, 1) := by decide +kernel
theorem nd_B_open_77 : decode nc_B_open 77 = .ok (.astore 6, 2) := by decide +kernel
theorem nd_B_open_79 : decode nc_B_open 79 = .ok (.aload_n 0, 1) := by decide +kernel
theorem nd_B_open_80 : decode nc_B_open 80 = .ok (.getfield 37, 3) := by decide +kernel
theorem nd_B_open_83 : decode nc_B_open 83 = .ok (.aload 6, 2) := by decide +kernel
theorem nd_B_open_85 : decode nc_B_open 85 = .ok (.invokestatic 75, 3) := by decide +kernel
theorem nd_B_open_88 : decode nc_B_open 88 = .ok (.invokevirtual 79, 3) := by decide +kernel
theorem nd_B_open_91 : decode nc_B_open 91 = .ok (.ifCond .ne 5, 3) := by decide +kernel
theorem nd_B_open_94 : decode nc_B_open 94 = .ok (.iconst (-1), 1) := by decide +kernel
theorem nd_B_open_95 : decode nc_B_open 95 = .ok (.ireturn, 1) := by decide +kernel
theorem nd_B_open_96 : decode nc_B_open 96 = .ok (.aload 6, 2) := by decide +kernel
theorem nd_B_open_98 : decode nc_B_open 98 = .ok (.iload_n 1, 1) := by decide +kernel
theorem nd_B_open_99 : decode nc_B_open 99 = .ok (.putfield 82, 3) := by decide +kernel
theorem nd_B_open_102 : decode nc_B_open 102 = .ok (.aload 6, 2) := by decide +kernel
theorem nd_B_open_104 : decode nc_B_open 104 = .ok (.iload_n 2, 1) := by decide +kernel
theorem nd_B_open_105 : decode nc_B_open 105 = .ok (.putfield 85, 3) := by decide +kernel
theorem nd_B_open_108 : decode nc_B_open 108 = .ok (.aload 6, 2) := by decide +kernel
theorem nd_B_open_110 : decode nc_B_open 110 = .ok (.iload_n 3, 1) := by decide +kernel
theorem nd_B_open_111 : decode nc_B_open 111 = .ok (.putfield 88, 3) := by decide +kernel
theorem nd_B_open_114 : decode nc_B_open 114 = .ok (.aload 6, 2) := by decide +kernel
theorem nd_B_open_116 : decode nc_B_open 116 = .ok (.iload 4, 2) := by decide +kernel
theorem nd_B_open_118 : decode nc_B_open 118 = .ok (.putfield 91, 3) := by decide +kernel
theorem nd_B_open_121 : decode nc_B_open 121 = .ok (.aload 6, 2) := by decide +kernel
theorem nd_B_open_123 : decode nc_B_open 123 = .ok (.aload_n 0, 1) := by decide +kernel
theorem nd_B_open_124 : decode nc_B_open 124 = .ok (.getfield 94, 3) := by decide +kernel
theorem nd_B_open_127 : decode nc_B_open 127 = .ok (.iconst 1, 1) := by decide +kernel
theorem nd_B_open_128 : decode nc_B_open 128 = .ok (.isub, 1) := by decide +kernel
theorem nd_B_open_129 : decode nc_B_open 129 = .ok (.putfield 97, 3) := by decide +kernel
theorem nd_B_open_132 : decode nc_B_open 132 = .ok (.aload_n 0, 1) := by decide +kernel
theorem nd_B_open_133 : decode nc_B_open 133 = .ok (.dup, 1) := by decide +kernel
theorem nd_B_open_134 : decode nc_B_open 134 = .ok (.getfield 71, 3) := by decide +kernel
theorem nd_B_open_137 : decode nc_B_open 137 = .ok (.iconst 1, 1) := by decide +kernel
theorem nd_B_open_138 : decode nc_B_open 138 = .ok (.iadd, 1) := by decide +kernel
theorem nd_B_open_139 : decode nc_B_open 139 = .ok (.putfield 71, 3) := by decide +kernel
theorem nd_B_open_142 : decode nc_B_open 142 = .ok (.aload 6, 2) := by decide +kernel
theorem nd_B_open_144 : decode nc_B_open 144 = .ok (.getfield 100, 3) := by decide +kernel
theorem nd_B_open_147 : decode nc_B_open 147 = .ok (.ireturn, 1) := by decide +kernel
theorem nd_B_refusalOfChange_0 : decode nc_B_refusalOfChange 0 = .ok (.aload_n 0, 1) := by decide +kernel
theorem nd_B_refusalOfChange_1 : decode nc_B_refusalOfChange 1 = .ok (.getfield 37, 3) := by decide +kernel
theorem nd_B_refusalOfChange_4 : decode nc_B_refusalOfChange 4 = .ok (.getfield 163, 3) := by decide +kernel
theorem nd_B_refusalOfChange_7 : decode nc_B_refusalOfChange 7 = .ok (.ifCond .eq 5, 3) := by decide +kernel
theorem nd_B_refusalOfChange_10 : decode nc_B_refusalOfChange 10 = .ok (.iconst (-1), 1) := by decide +kernel
theorem nd_B_refusalOfChange_11 : decode nc_B_refusalOfChange 11 = .ok (.ireturn, 1) := by decide +kernel
theorem nd_B_refusalOfChange_12 : decode nc_B_refusalOfChange 12 = .ok (.aload_n 0, 1) := by decide +kernel
theorem nd_B_refusalOfChange_13 : decode nc_B_refusalOfChange 13 = .ok (.getfield 204, 3) := by decide +kernel
theorem nd_B_refusalOfChange_16 : decode nc_B_refusalOfChange 16 = .ok (.ifCond .eq 8, 3) := by decide +kernel
theorem nd_B_refusalOfChange_19 : decode nc_B_refusalOfChange 19 = .ok (.bipush (-2), 2) := by decide +kernel
theorem nd_B_refusalOfChange_21 : decode nc_B_refusalOfChange 21 = .ok (.goto 4, 3) := by decide +kernel
theorem nd_B_refusalOfChange_24 : decode nc_B_refusalOfChange 24 = .ok (.iconst 0, 1) := by decide +kernel
theorem nd_B_refusalOfChange_25 : decode nc_B_refusalOfChange 25 = .ok (.ireturn, 1) := by decide +kernel
theorem nd_B_isCurrency_0 : decode nc_B_isCurrency 0 = .ok (.iload_n 0, 1) := by decide +kernel
theorem nd_B_isCurrency_1 : decode nc_B_isCurrency 1 = .ok (.iconst 0, 1) := by decide +kernel
theorem nd_B_isCurrency_2 : decode nc_B_isCurrency 2 = .ok (.iconst 2, 1) := by decide +kernel
theorem nd_B_isCurrency_3 : decode nc_B_isCurrency 3 = .ok (.invokestatic 67, 3) := by decide +kernel
theorem nd_B_isCurrency_6 : decode nc_B_isCurrency 6 = .ok (.ireturn, 1) := by decide +kernel
theorem nd_B_isWithin_0 : decode nc_B_isWithin 0 = .ok (.iload_n 1, 1) := by decide +kernel
theorem nd_B_isWithin_1 : decode nc_B_isWithin 1 = .ok (.iload_n 0, 1) := by decide +kernel
theorem nd_B_isWithin_2 : decode nc_B_isWithin 2 = .ok (.if_icmp .gt 12, 3) := by decide +kernel
theorem nd_B_isWithin_5 : decode nc_B_isWithin 5 = .ok (.iload_n 0, 1) := by decide +kernel
theorem nd_B_isWithin_6 : decode nc_B_isWithin 6 = .ok (.iload_n 2, 1) := by decide +kernel
theorem nd_B_isWithin_7 : decode nc_B_isWithin 7 = .ok (.if_icmp .gt 7, 3) := by decide +kernel
theorem nd_B_isWithin_10 : decode nc_B_isWithin 10 = .ok (.iconst 1, 1) := by decide +kernel
theorem nd_B_isWithin_11 : decode nc_B_isWithin 11 = .ok (.goto 4, 3) := by decide +kernel
theorem nd_B_isWithin_14 : decode nc_B_isWithin 14 = .ok (.iconst 0, 1) := by decide +kernel
theorem nd_B_isWithin_15 : decode nc_B_isWithin 15 = .ok (.ireturn, 1) := by decide +kernel
theorem nd_C_isBasis_0 : decode nc_C_isBasis 0 = .ok (.iconst 0, 1) := by decide +kernel
theorem nd_C_isBasis_1 : decode nc_C_isBasis 1 = .ok (.iload_n 0, 1) := by decide +kernel
theorem nd_C_isBasis_2 : decode nc_C_isBasis 2 = .ok (.if_icmp .gt 12, 3) := by decide +kernel
theorem nd_C_isBasis_5 : decode nc_C_isBasis 5 = .ok (.iload_n 0, 1) := by decide +kernel
theorem nd_C_isBasis_6 : decode nc_C_isBasis 6 = .ok (.iconst 3, 1) := by decide +kernel
theorem nd_C_isBasis_7 : decode nc_C_isBasis 7 = .ok (.if_icmp .ge 7, 3) := by decide +kernel
theorem nd_C_isBasis_10 : decode nc_C_isBasis 10 = .ok (.iconst 1, 1) := by decide +kernel
theorem nd_C_isBasis_11 : decode nc_C_isBasis 11 = .ok (.goto 4, 3) := by decide +kernel
theorem nd_C_isBasis_14 : decode nc_C_isBasis 14 = .ok (.iconst 0, 1) := by decide +kernel
theorem nd_C_isBasis_15 : decode nc_C_isBasis 15 = .ok (.ireturn, 1) := by decide +kernel
theorem nd_B_bitOf_0 : decode nc_B_bitOf 0 = .ok (.aload_n 0, 1) := by decide +kernel
theorem nd_B_bitOf_1 : decode nc_B_bitOf 1 = .ok (.ifnonnull 7, 3) := by decide +kernel
theorem nd_B_bitOf_4 : decode nc_B_bitOf 4 = .ok (.iconst 0, 1) := by decide +kernel
theorem nd_B_bitOf_5 : decode nc_B_bitOf 5 = .ok (.goto 9, 3) := by decide +kernel
theorem nd_B_bitOf_8 : decode nc_B_bitOf 8 = .ok (.iconst 1, 1) := by decide +kernel
theorem nd_B_bitOf_9 : decode nc_B_bitOf 9 = .ok (.aload_n 0, 1) := by decide +kernel
theorem nd_B_bitOf_10 : decode nc_B_bitOf 10 = .ok (.getfield 100, 3) := by decide +kernel
theorem nd_B_bitOf_13 : decode nc_B_bitOf 13 = .ok (.ishl, 1) := by decide +kernel
theorem nd_B_bitOf_14 : decode nc_B_bitOf 14 = .ok (.ireturn, 1) := by decide +kernel
theorem nd_D_writeTransaction_0 : decode nc_D_writeTransaction 0 = .ok (.aload_n 0, 1) := by decide +kernel
theorem nd_D_writeTransaction_1 : decode nc_D_writeTransaction 1 = .ok (.iload_n 1, 1) := by decide +kernel
theorem nd_D_writeTransaction_2 : decode nc_D_writeTransaction 2 = .ok (.iload_n 1, 1) := by decide +kernel
theorem nd_D_writeTransaction_3 : decode nc_D_writeTransaction 3 = .ok (.invokestatic 13, 3) := by decide +kernel
theorem nd_D_writeTransaction_6 : decode nc_D_writeTransaction 6 = .ok (.iconst 1, 1) := by decide +kernel
theorem nd_D_writeTransaction_7 : decode nc_D_writeTransaction 7 = .ok (.iadd, 1) := by decide +kernel
theorem nd_D_writeTransaction_8 : decode nc_D_writeTransaction 8 = .ok (.invokevirtual 19, 3) := by decide +kernel
theorem nd_D_writeTransaction_11 : decode nc_D_writeTransaction 11 = .ok (.ireturn, 1) := by decide +kernel
theorem nd_I_bitCount_0 : decode nc_I_bitCount 0 = .ok (.iload_n 0, 1) := by decide +kernel
theorem nd_I_bitCount_1 : decode nc_I_bitCount 1 = .ok (.iload_n 0, 1) := by decide +kernel
theorem nd_I_bitCount_2 : decode nc_I_bitCount 2 = .ok (.iconst 1, 1) := by decide +kernel
theorem nd_I_bitCount_3 : decode nc_I_bitCount 3 = .ok (.iushr, 1) := by decide +kernel
theorem nd_I_bitCount_4 : decode nc_I_bitCount 4 = .ok (.ldc_w 265, 3) := by decide +kernel
theorem nd_I_bitCount_7 : decode nc_I_bitCount 7 = .ok (.iand, 1) := by decide +kernel
theorem nd_I_bitCount_8 : decode nc_I_bitCount 8 = .ok (.isub, 1) := by decide +kernel
theorem nd_I_bitCount_9 : decode nc_I_bitCount 9 = .ok (.istore_n 0, 1) := by decide +kernel
theorem nd_I_bitCount_10 : decode nc_I_bitCount 10 = .ok (.iload_n 0, 1) := by decide +kernel
theorem nd_I_bitCount_11 : decode nc_I_bitCount 11 = .ok (.ldc_w 266, 3) := by decide +kernel
theorem nd_I_bitCount_14 : decode nc_I_bitCount 14 = .ok (.iand, 1) := by decide +kernel
theorem nd_I_bitCount_15 : decode nc_I_bitCount 15 = .ok (.iload_n 0, 1) := by decide +kernel
theorem nd_I_bitCount_16 : decode nc_I_bitCount 16 = .ok (.iconst 2, 1) := by decide +kernel
theorem nd_I_bitCount_17 : decode nc_I_bitCount 17 = .ok (.iushr, 1) := by decide +kernel
theorem nd_I_bitCount_18 : decode nc_I_bitCount 18 = .ok (.ldc_w 266, 3) := by decide +kernel
theorem nd_I_bitCount_21 : decode nc_I_bitCount 21 = .ok (.iand, 1) := by decide +kernel
theorem nd_I_bitCount_22 : decode nc_I_bitCount 22 = .ok (.iadd, 1) := by decide +kernel
theorem nd_I_bitCount_23 : decode nc_I_bitCount 23 = .ok (.istore_n 0, 1) := by decide +kernel
theorem nd_I_bitCount_24 : decode nc_I_bitCount 24 = .ok (.iload_n 0, 1) := by decide +kernel
theorem nd_I_bitCount_25 : decode nc_I_bitCount 25 = .ok (.iload_n 0, 1) := by decide +kernel
theorem nd_I_bitCount_26 : decode nc_I_bitCount 26 = .ok (.iconst 4, 1) := by decide +kernel
theorem nd_I_bitCount_27 : decode nc_I_bitCount 27 = .ok (.iushr, 1) := by decide +kernel
theorem nd_I_bitCount_28 : decode nc_I_bitCount 28 = .ok (.iadd, 1) := by decide +kernel
theorem nd_I_bitCount_29 : decode nc_I_bitCount 29 = .ok (.ldc_w 267, 3) := by decide +kernel
theorem nd_I_bitCount_32 : decode nc_I_bitCount 32 = .ok (.iand, 1) := by decide +kernel
theorem nd_I_bitCount_33 : decode nc_I_bitCount 33 = .ok (.istore_n 0, 1) := by decide +kernel
theorem nd_I_bitCount_34 : decode nc_I_bitCount 34 = .ok (.iload_n 0, 1) := by decide +kernel
theorem nd_I_bitCount_35 : decode nc_I_bitCount 35 = .ok (.iload_n 0, 1) := by decide +kernel
theorem nd_I_bitCount_36 : decode nc_I_bitCount 36 = .ok (.bipush 8, 2) := by decide +kernel
theorem nd_I_bitCount_38 : decode nc_I_bitCount 38 = .ok (.iushr, 1) := by decide +kernel
theorem nd_I_bitCount_39 : decode nc_I_bitCount 39 = .ok (.iadd, 1) := by decide +kernel
theorem nd_I_bitCount_40 : decode nc_I_bitCount 40 = .ok (.istore_n 0, 1) := by decide +kernel
theorem nd_I_bitCount_41 : decode nc_I_bitCount 41 = .ok (.iload_n 0, 1) := by decide +kernel
theorem nd_I_bitCount_42 : decode nc_I_bitCount 42 = .ok (.iload_n 0, 1) := by decide +kernel
theorem nd_I_bitCount_43 : decode nc_I_bitCount 43 = .ok (.bipush 16, 2) := by decide +kernel
theorem nd_I_bitCount_45 : decode nc_I_bitCount 45 = .ok (.iushr, 1) := by decide +kernel
theorem nd_I_bitCount_46 : decode nc_I_bitCount 46 = .ok (.iadd, 1) := by decide +kernel
theorem nd_I_bitCount_47 : decode nc_I_bitCount 47 = .ok (.istore_n 0, 1) := by decide +kernel
theorem nd_I_bitCount_48 : decode nc_I_bitCount 48 = .ok (.iload_n 0, 1) := by decide +kernel
theorem nd_I_bitCount_49 : decode nc_I_bitCount 49 = .ok (.bipush 63, 2) := by decide +kernel
theorem nd_I_bitCount_51 : decode nc_I_bitCount 51 = .ok (.iand, 1) := by decide +kernel
theorem nd_I_bitCount_52 : decode nc_I_bitCount 52 = .ok (.ireturn, 1) := by decide +kernel
theorem nd_D_writeLines_0 : decode nc_D_writeLines 0 = .ok (.aload_n 0, 1) := by decide +kernel
theorem nd_D_writeLines_1 : decode nc_D_writeLines 1 = .ok (.getfield 23, 3) := by decide +kernel
theorem nd_D_writeLines_4 : decode nc_D_writeLines 4 = .ok (.iload_n 2, 1) := by decide +kernel
theorem nd_D_writeLines_5 : decode nc_D_writeLines 5 = .ok (.iadd, 1) := by decide +kernel
theorem nd_D_writeLines_6 : decode nc_D_writeLines 6 = .ok (.bipush 24, 2) := by decide +kernel
theorem nd_D_writeLines_8 : decode nc_D_writeLines 8 = .ok (.if_icmp .le 12, 3) := by decide +kernel
theorem nd_D_writeLines_11 : decode nc_D_writeLines 11 = .ok (.aload_n 0, 1) := by decide +kernel
theorem nd_D_writeLines_12 : decode nc_D_writeLines 12 = .ok (.invokevirtual 26, 3) := by decide +kernel
theorem nd_D_writeLines_15 : decode nc_D_writeLines 15 = .ok (.ifCond .ne 5, 3) := by decide +kernel
theorem nd_D_writeLines_18 : decode nc_D_writeLines 18 = .ok (.iconst 0, 1) := by decide +kernel
theorem nd_D_writeLines_19 : decode nc_D_writeLines 19 = .ok (.ireturn, 1) := by decide +kernel
theorem nd_D_writeLines_20 : decode nc_D_writeLines 20 = .ok (.iconst 0, 1) := by decide +kernel
theorem nd_D_writeLines_21 : decode nc_D_writeLines 21 = .ok (.istore_n 3, 1) := by decide +kernel
theorem nd_D_writeLines_22 : decode nc_D_writeLines 22 = .ok (.iload_n 3, 1) := by decide +kernel
theorem nd_D_writeLines_23 : decode nc_D_writeLines 23 = .ok (.iload_n 2, 1) := by decide +kernel
theorem nd_D_writeLines_24 : decode nc_D_writeLines 24 = .ok (.if_icmp .ge 18, 3) := by decide +kernel
theorem nd_D_writeLines_27 : decode nc_D_writeLines 27 = .ok (.aload_n 0, 1) := by decide +kernel
theorem nd_D_writeLines_28 : decode nc_D_writeLines 28 = .ok (.invokevirtual 30, 3) := by decide +kernel
theorem nd_D_writeLines_31 : decode nc_D_writeLines 31 = .ok (.ifCond .ne 5, 3) := by decide +kernel
theorem nd_D_writeLines_34 : decode nc_D_writeLines 34 = .ok (.iconst 0, 1) := by decide +kernel
theorem nd_D_writeLines_35 : decode nc_D_writeLines 35 = .ok (.ireturn, 1) := by decide +kernel
theorem nd_D_writeLines_36 : decode nc_D_writeLines 36 = .ok (.iinc 3 1, 3) := by decide +kernel
theorem nd_D_writeLines_39 : decode nc_D_writeLines 39 = .ok (.goto (-17), 3) := by decide +kernel
theorem nd_D_writeLines_42 : decode nc_D_writeLines 42 = .ok (.aload_n 0, 1) := by decide +kernel
theorem nd_D_writeLines_43 : decode nc_D_writeLines 43 = .ok (.dup, 1) := by decide +kernel
theorem nd_D_writeLines_44 : decode nc_D_writeLines 44 = .ok (.getfield 23, 3) := by decide +kernel
theorem nd_D_writeLines_47 : decode nc_D_writeLines 47 = .ok (.iload_n 2, 1) := by decide +kernel
theorem nd_D_writeLines_48 : decode nc_D_writeLines 48 = .ok (.iadd, 1) := by decide +kernel
theorem nd_D_writeLines_49 : decode nc_D_writeLines 49 = .ok (.putfield 23, 3) := by decide +kernel
theorem nd_D_writeLines_52 : decode nc_D_writeLines 52 = .ok (.aload_n 0, 1) := by decide +kernel
theorem nd_D_writeLines_53 : decode nc_D_writeLines 53 = .ok (.dup, 1) := by decide +kernel
theorem nd_D_writeLines_54 : decode nc_D_writeLines 54 = .ok (.getfield 33, 3) := by decide +kernel
theorem nd_D_writeLines_57 : decode nc_D_writeLines 57 = .ok (.iconst 1, 1) := by decide +kernel
theorem nd_D_writeLines_58 : decode nc_D_writeLines 58 = .ok (.iadd, 1) := by decide +kernel
theorem nd_D_writeLines_59 : decode nc_D_writeLines 59 = .ok (.putfield 33, 3) := by decide +kernel
theorem nd_D_writeLines_62 : decode nc_D_writeLines 62 = .ok (.aload_n 0, 1) := by decide +kernel
theorem nd_D_writeLines_63 : decode nc_D_writeLines 63 = .ok (.dup, 1) := by decide +kernel
theorem nd_D_writeLines_64 : decode nc_D_writeLines 64 = .ok (.getfield 36, 3) := by decide +kernel
theorem nd_D_writeLines_67 : decode nc_D_writeLines 67 = .ok (.iload_n 1, 1) := by decide +kernel
theorem nd_D_writeLines_68 : decode nc_D_writeLines 68 = .ok (.ior, 1) := by decide +kernel
theorem nd_D_writeLines_69 : decode nc_D_writeLines 69 = .ok (.putfield 36, 3) := by decide +kernel
theorem nd_D_writeLines_72 : decode nc_D_writeLines 72 = .ok (.iconst 1, 1) := by decide +kernel
theorem nd_D_writeLines_73 : decode nc_D_writeLines 73 = .ok (.ireturn, 1) := by decide +kernel
theorem nd_D_makeCheckpoint_0 : decode nc_D_makeCheckpoint 0 = .ok (.aload_n 0, 1) := by decide +kernel
theorem nd_D_makeCheckpoint_1 : decode nc_D_makeCheckpoint 1 = .ok (.getfield 36, 3) := by decide +kernel
theorem nd_D_makeCheckpoint_4 : decode nc_D_makeCheckpoint 4 = .ok (.invokestatic 13, 3) := by decide +kernel
theorem nd_D_makeCheckpoint_7 : decode nc_D_makeCheckpoint 7 = .ok (.istore_n 1, 1) := by decide +kernel
theorem nd_D_makeCheckpoint_8 : decode nc_D_makeCheckpoint 8 = .ok (.iconst 0, 1) := by decide +kernel
theorem nd_D_makeCheckpoint_9 : decode nc_D_makeCheckpoint 9 = .ok (.istore_n 2, 1) := by decide +kernel
theorem nd_D_makeCheckpoint_10 : decode nc_D_makeCheckpoint 10 = .ok (.iload_n 2, 1) := by decide +kernel
theorem nd_D_makeCheckpoint_11 : decode nc_D_makeCheckpoint 11 = .ok (.iload_n 1, 1) := by decide +kernel
theorem nd_D_makeCheckpoint_12 : decode nc_D_makeCheckpoint 12 = .ok (.if_icmp .ge 18, 3) := by decide +kernel
theorem nd_D_makeCheckpoint_15 : decode nc_D_makeCheckpoint 15 = .ok (.aload_n 0, 1) := by decide +kernel
theorem nd_D_makeCheckpoint_16 : decode nc_D_makeCheckpoint 16 = .ok (.invokevirtual 30, 3) := by decide +kernel
theorem nd_D_makeCheckpoint_19 : decode nc_D_makeCheckpoint 19 = .ok (.ifCond .ne 5, 3) := by decide +kernel
theorem nd_D_makeCheckpoint_22 : decode nc_D_makeCheckpoint 22 = .ok (.iconst 0, 1) := by decide +kernel
theorem nd_D_makeCheckpoint_23 : decode nc_D_makeCheckpoint 23 = .ok (.ireturn, 1) := by decide +kernel
theorem nd_D_makeCheckpoint_24 : decode nc_D_makeCheckpoint 24 = .ok (.iinc 2 1, 3) := by decide +kernel
theorem nd_D_makeCheckpoint_27 : decode nc_D_makeCheckpoint 27 = .ok (.goto (-17), 3) := by decide +kernel
theorem nd_D_makeCheckpoint_30 : decode nc_D_makeCheckpoint 30 = .ok (.aload_n 0, 1) := by decide +kernel
theorem nd_D_makeCheckpoint_31 : decode nc_D_makeCheckpoint 31 = .ok (.invokevirtual 30, 3) := by decide +kernel
theorem nd_D_makeCheckpoint_34 : decode nc_D_makeCheckpoint 34 = .ok (.ifCond .ne 5, 3) := by decide +kernel
theorem nd_D_makeCheckpoint_37 : decode nc_D_makeCheckpoint 37 = .ok (.iconst 0, 1) := by decide +kernel
theorem nd_D_makeCheckpoint_38 : decode nc_D_makeCheckpoint 38 = .ok (.ireturn, 1) := by decide +kernel
theorem nd_D_makeCheckpoint_39 : decode nc_D_makeCheckpoint 39 = .ok (.aload_n 0, 1) := by decide +kernel
theorem nd_D_makeCheckpoint_40 : decode nc_D_makeCheckpoint 40 = .ok (.iconst 0, 1) := by decide +kernel
theorem nd_D_makeCheckpoint_41 : decode nc_D_makeCheckpoint 41 = .ok (.putfield 23, 3) := by decide +kernel
theorem nd_D_makeCheckpoint_44 : decode nc_D_makeCheckpoint 44 = .ok (.aload_n 0, 1) := by decide +kernel
theorem nd_D_makeCheckpoint_45 : decode nc_D_makeCheckpoint 45 = .ok (.iconst 0, 1) := by decide +kernel
theorem nd_D_makeCheckpoint_46 : decode nc_D_makeCheckpoint 46 = .ok (.putfield 33, 3) := by decide +kernel
theorem nd_D_makeCheckpoint_49 : decode nc_D_makeCheckpoint 49 = .ok (.aload_n 0, 1) := by decide +kernel
theorem nd_D_makeCheckpoint_50 : decode nc_D_makeCheckpoint 50 = .ok (.iconst 0, 1) := by decide +kernel
theorem nd_D_makeCheckpoint_51 : decode nc_D_makeCheckpoint 51 = .ok (.putfield 36, 3) := by decide +kernel
theorem nd_D_makeCheckpoint_54 : decode nc_D_makeCheckpoint 54 = .ok (.iconst 1, 1) := by decide +kernel
theorem nd_D_makeCheckpoint_55 : decode nc_D_makeCheckpoint 55 = .ok (.ireturn, 1) := by decide +kernel
theorem nd_D_writeOnce_0 : decode nc_D_writeOnce 0 = .ok (.aload_n 0, 1) := by decide +kernel
theorem nd_D_writeOnce_1 : decode nc_D_writeOnce 1 = .ok (.getfield 9, 3) := by decide +kernel
theorem nd_D_writeOnce_4 : decode nc_D_writeOnce 4 = .ok (.ifCond .ne 10, 3) := by decide +kernel
theorem nd_D_writeOnce_7 : decode nc_D_writeOnce 7 = .ok (.aload_n 0, 1) := by decide +kernel
theorem nd_D_writeOnce_8 : decode nc_D_writeOnce 8 = .ok (.iconst 1, 1) := by decide +kernel
theorem nd_D_writeOnce_9 : decode nc_D_writeOnce 9 = .ok (.putfield 39, 3) := by decide +kernel
theorem nd_D_writeOnce_12 : decode nc_D_writeOnce 12 = .ok (.iconst 0, 1) := by decide +kernel
theorem nd_D_writeOnce_13 : decode nc_D_writeOnce 13 = .ok (.ireturn, 1) := by decide +kernel
theorem nd_D_writeOnce_14 : decode nc_D_writeOnce 14 = .ok (.aload_n 0, 1) := by decide +kernel
theorem nd_D_writeOnce_15 : decode nc_D_writeOnce 15 = .ok (.getfield 9, 3) := by decide +kernel
theorem nd_D_writeOnce_18 : decode nc_D_writeOnce 18 = .ok (.ifCond .le 13, 3) := by decide +kernel
theorem nd_D_writeOnce_21 : decode nc_D_writeOnce 21 = .ok (.aload_n 0, 1) := by decide +kernel
theorem nd_D_writeOnce_22 : decode nc_D_writeOnce 22 = .ok (.dup, 1) := by decide +kernel
theorem nd_D_writeOnce_23 : decode nc_D_writeOnce 23 = .ok (.getfield 9, 3) := by decide +kernel
theorem nd_D_writeOnce_26 : decode nc_D_writeOnce 26 = .ok (.iconst 1, 1) := by decide +kernel
theorem nd_D_writeOnce_27 : decode nc_D_writeOnce 27 = .ok (.isub, 1) := by decide +kernel
theorem nd_D_writeOnce_28 : decode nc_D_writeOnce 28 = .ok (.putfield 9, 3) := by decide +kernel
theorem nd_D_writeOnce_31 : decode nc_D_writeOnce 31 = .ok (.aload_n 0, 1) := by decide +kernel
theorem nd_D_writeOnce_32 : decode nc_D_writeOnce 32 = .ok (.dup, 1) := by decide +kernel
theorem nd_D_writeOnce_33 : decode nc_D_writeOnce 33 = .ok (.getfield 43, 3) := by decide +kernel
theorem nd_D_writeOnce_36 : decode nc_D_writeOnce 36 = .ok (.iconst 1, 1) := by decide +kernel
theorem nd_D_writeOnce_37 : decode nc_D_writeOnce 37 = .ok (.iadd, 1) := by decide +kernel
theorem nd_D_writeOnce_38 : decode nc_D_writeOnce 38 = .ok (.putfield 43, 3) := by decide +kernel
theorem nd_D_writeOnce_41 : decode nc_D_writeOnce 41 = .ok (.iconst 1, 1) := by decide +kernel
theorem nd_D_writeOnce_42 : decode nc_D_writeOnce 42 = .ok (.ireturn, 1) := by decide +kernel
theorem nd_B_pay_0 : decode nc_B_pay 0 = .ok (.aload_n 0, 1) := by decide +kernel
theorem nd_B_pay_1 : decode nc_B_pay 1 = .ok (.invokevirtual 53, 3) := by decide +kernel
theorem nd_B_pay_4 : decode nc_B_pay 4 = .ok (.istore 4, 2) := by decide +kernel
theorem nd_B_pay_6 : decode nc_B_pay 6 = .ok (.iload 4, 2) := by decide +kernel
theorem nd_B_pay_8 : decode nc_B_pay 8 = .ok (.ifCond .eq 6, 3) := by decide +kernel
theorem nd_B_pay_11 : decode nc_B_pay 11 = .ok (.iload 4, 2) := by decide +kernel
theorem nd_B_pay_13 : decode nc_B_pay 13 = .ok (.ireturn, 1) := by decide +kernel
theorem nd_B_pay_14 : decode nc_B_pay 14 = .ok (.aload_n 0, 1) := by decide +kernel
theorem nd_B_pay_15 : decode nc_B_pay 15 = .ok (.iload_n 1, 1) := by decide +kernel
theorem nd_B_pay_16 : decode nc_B_pay 16 = .ok (.iload_n 2, 1) := by decide +kernel
theorem nd_B_pay_17 : decode nc_B_pay 17 = .ok (.invokevirtual 103, 3) := by decide +kernel
theorem nd_B_pay_20 : decode nc_B_pay 20 = .ok (.ifCond .eq 10, 3) := by decide +kernel
theorem nd_B_pay_23 : decode nc_B_pay 23 = .ok (.iload_n 3, 1) := by decide +kernel
theorem nd_B_pay_24 : decode nc_B_pay 24 = .ok (.invokestatic 107, 3) := by decide +kernel
theorem nd_B_pay_27 : decode nc_B_pay 27 = .ok (.ifCond .ne 6, 3) := by decide +kernel
theorem nd_B_pay_30 : decode nc_B_pay 30 = .ok (.bipush (-3), 2) := by decide +kernel
theorem nd_B_pay_32 : decode nc_B_pay 32 = .ok (.ireturn, 1) := by decide +kernel
theorem nd_B_pay_33 : decode nc_B_pay 33 = .ok (.aload_n 0, 1) := by decide +kernel
theorem nd_B_pay_34 : decode nc_B_pay 34 = .ok (.iload_n 1, 1) := by decide +kernel
theorem nd_B_pay_35 : decode nc_B_pay 35 = .ok (.invokevirtual 110, 3) := by decide +kernel
theorem nd_B_pay_38 : decode nc_B_pay 38 = .ok (.astore 5, 2) := by decide +kernel
theorem nd_B_pay_40 : decode nc_B_pay 40 = .ok (.aload_n 0, 1) := by decide +kernel
theorem nd_B_pay_41 : decode nc_B_pay 41 = .ok (.iload_n 2, 1) := by decide +kernel
theorem nd_B_pay_42 : decode nc_B_pay 42 = .ok (.invokevirtual 110, 3) := by decide +kernel
theorem nd_B_pay_45 : decode nc_B_pay 45 = .ok (.astore 6, 2) := by decide +kernel
theorem nd_B_pay_47 : decode nc_B_pay 47 = .ok (.aload 5, 2) := by decide +kernel
theorem nd_B_pay_49 : decode nc_B_pay 49 = .ok (.ifnull 17, 3) := by decide +kernel
theorem nd_B_pay_52 : decode nc_B_pay 52 = .ok (.iload_n 3, 1) := by decide +kernel
theorem nd_B_pay_53 : decode nc_B_pay 53 = .ok (.i2l, 1) := by decide +kernel
theorem nd_B_pay_54 : decode nc_B_pay 54 = .ok (.aload 5, 2) := by decide +kernel
theorem nd_B_pay_56 : decode nc_B_pay 56 = .ok (.invokevirtual 114, 3) := by decide +kernel
theorem nd_B_pay_59 : decode nc_B_pay 59 = .ok (.lcmp, 1) := by decide +kernel
theorem nd_B_pay_60 : decode nc_B_pay 60 = .ok (.ifCond .le 6, 3) := by decide +kernel
theorem nd_B_pay_63 : decode nc_B_pay 63 = .ok (.bipush (-5), 2) := by decide +kernel
theorem nd_B_pay_65 : decode nc_B_pay 65 = .ok (.ireturn, 1) := by decide +kernel
theorem nd_B_pay_66 : decode nc_B_pay 66 = .ok (.aload_n 0, 1) := by decide +kernel
theorem nd_B_pay_67 : decode nc_B_pay 67 = .ok (.getfield 37, 3) := by decide +kernel
theorem nd_B_pay_70 : decode nc_B_pay 70 = .ok (.aload 5, 2) := by decide +kernel
theorem nd_B_pay_72 : decode nc_B_pay 72 = .ok (.invokestatic 75, 3) := by decide +kernel
theorem nd_B_pay_75 : decode nc_B_pay 75 = .ok (.aload 6, 2) := by decide +kernel
theorem nd_B_pay_77 : decode nc_B_pay 77 = .ok (.invokestatic 75, 3) := by decide +kernel
theorem nd_B_pay_80 : decode nc_B_pay 80 = .ok (.ior, 1) := by decide +kernel
theorem nd_B_pay_81 : decode nc_B_pay 81 = .ok (.invokevirtual 79, 3) := by decide +kernel
theorem nd_B_pay_84 : decode nc_B_pay 84 = .ok (.ifCond .ne 5, 3) := by decide +kernel
theorem nd_B_pay_87 : decode nc_B_pay 87 = .ok (.iconst (-1), 1) := by decide +kernel
theorem nd_B_pay_88 : decode nc_B_pay 88 = .ok (.ireturn, 1) := by decide +kernel
theorem nd_B_pay_89 : decode nc_B_pay 89 = .ok (.aload_n 0, 1) := by decide +kernel
theorem nd_B_pay_90 : decode nc_B_pay 90 = .ok (.aload 5, 2) := by decide +kernel
theorem nd_B_pay_92 : decode nc_B_pay 92 = .ok (.aload 6, 2) := by decide +kernel
theorem nd_B_pay_94 : decode nc_B_pay 94 = .ok (.iload_n 3, 1) := by decide +kernel
theorem nd_B_pay_95 : decode nc_B_pay 95 = .ok (.invokevirtual 118, 3) := by decide +kernel
theorem nd_B_pay_98 : decode nc_B_pay 98 = .ok (.iconst 0, 1) := by decide +kernel
theorem nd_B_pay_99 : decode nc_B_pay 99 = .ok (.ireturn, 1) := by decide +kernel
theorem nd_B_isPayable_0 : decode nc_B_isPayable 0 = .ok (.iload_n 1, 1) := by decide +kernel
theorem nd_B_isPayable_1 : decode nc_B_isPayable 1 = .ok (.iload_n 2, 1) := by decide +kernel
theorem nd_B_isPayable_2 : decode nc_B_isPayable 2 = .ok (.if_icmp .eq 19, 3) := by decide +kernel
theorem nd_B_isPayable_5 : decode nc_B_isPayable 5 = .ok (.aload_n 0, 1) := by decide +kernel
theorem nd_B_isPayable_6 : decode nc_B_isPayable 6 = .ok (.iload_n 1, 1) := by decide +kernel
theorem nd_B_isPayable_7 : decode nc_B_isPayable 7 = .ok (.invokevirtual 207, 3) := by decide +kernel
theorem nd_B_isPayable_10 : decode nc_B_isPayable 10 = .ok (.ifCond .eq 11, 3) := by decide +kernel
theorem nd_B_isPayable_13 : decode nc_B_isPayable 13 = .ok (.aload_n 0, 1) := by decide +kernel
theorem nd_B_isPayable_14 : decode nc_B_isPayable 14 = .ok (.iload_n 2, 1) := by decide +kernel
theorem nd_B_isPayable_15 : decode nc_B_isPayable 15 = .ok (.invokevirtual 207, 3) := by decide +kernel
theorem nd_B_isPayable_18 : decode nc_B_isPayable 18 = .ok (.ifCond .ne 5, 3) := by decide +kernel
theorem nd_B_isPayable_21 : decode nc_B_isPayable 21 = .ok (.iconst 0, 1) := by decide +kernel
theorem nd_B_isPayable_22 : decode nc_B_isPayable 22 = .ok (.ireturn, 1) := by decide +kernel
theorem nd_B_isPayable_23 : decode nc_B_isPayable 23 = .ok (.aload_n 0, 1) := by decide +kernel
theorem nd_B_isPayable_24 : decode nc_B_isPayable 24 = .ok (.iload_n 1, 1) := by decide +kernel
theorem nd_B_isPayable_25 : decode nc_B_isPayable 25 = .ok (.invokevirtual 110, 3) := by decide +kernel
theorem nd_B_isPayable_28 : decode nc_B_isPayable 28 = .ok (.astore_n 3, 1) := by decide +kernel
theorem nd_B_isPayable_29 : decode nc_B_isPayable 29 = .ok (.aload_n 0, 1) := by decide +kernel
theorem nd_B_isPayable_30 : decode nc_B_isPayable 30 = .ok (.iload_n 2, 1) := by decide +kernel
theorem nd_B_isPayable_31 : decode nc_B_isPayable 31 = .ok (.invokevirtual 110, 3) := by decide +kernel
theorem nd_B_isPayable_34 : decode nc_B_isPayable 34 = .ok (.astore 4, 2) := by decide +kernel
theorem nd_B_isPayable_36 : decode nc_B_isPayable 36 = .ok (.aload_n 3, 1) := by decide +kernel
theorem nd_B_isPayable_37 : decode nc_B_isPayable 37 = .ok (.ifnull 20, 3) := by decide +kernel
theorem nd_B_isPayable_40 : decode nc_B_isPayable 40 = .ok (.aload 4, 2) := by decide +kernel
theorem nd_B_isPayable_42 : decode nc_B_isPayable 42 = .ok (.ifnull 15, 3) := by decide +kernel
theorem nd_B_isPayable_45 : decode nc_B_isPayable 45 = .ok (.aload_n 3, 1) := by decide +kernel
theorem nd_B_isPayable_46 : decode nc_B_isPayable 46 = .ok (.getfield 82, 3) := by decide +kernel
theorem nd_B_isPayable_49 : decode nc_B_isPayable 49 = .ok (.aload 4, 2) := by decide +kernel
theorem nd_B_isPayable_51 : decode nc_B_isPayable 51 = .ok (.getfield 82, 3) := by decide +kernel
theorem nd_B_isPayable_54 : decode nc_B_isPayable 54 = .ok (.if_icmp .ne 7, 3) := by decide +kernel
theorem nd_B_isPayable_57 : decode nc_B_isPayable 57 = .ok (.iconst 1, 1) := by decide +kernel
theorem nd_B_isPayable_58 : decode nc_B_isPayable 58 = .ok (.goto 4, 3) := by decide +kernel
theorem nd_B_isPayable_61 : decode nc_B_isPayable 61 = .ok (.iconst 0, 1) := by decide +kernel
theorem nd_B_isPayable_62 : decode nc_B_isPayable 62 = .ok (.ireturn, 1) := by decide +kernel
theorem nd_B_isParty_0 : decode nc_B_isParty 0 = .ok (.iload_n 1, 1) := by decide +kernel
theorem nd_B_isParty_1 : decode nc_B_isParty 1 = .ok (.iconst (-1), 1) := by decide +kernel
theorem nd_B_isParty_2 : decode nc_B_isParty 2 = .ok (.if_icmp .eq 11, 3) := by decide +kernel
theorem nd_B_isParty_5 : decode nc_B_isParty 5 = .ok (.aload_n 0, 1) := by decide +kernel
theorem nd_B_isParty_6 : decode nc_B_isParty 6 = .ok (.iload_n 1, 1) := by decide +kernel
theorem nd_B_isParty_7 : decode nc_B_isParty 7 = .ok (.invokevirtual 110, 3) := by decide +kernel
theorem nd_B_isParty_10 : decode nc_B_isParty 10 = .ok (.ifnull 7, 3) := by decide +kernel
theorem nd_B_isParty_13 : decode nc_B_isParty 13 = .ok (.iconst 1, 1) := by decide +kernel
theorem nd_B_isParty_14 : decode nc_B_isParty 14 = .ok (.goto 4, 3) := by decide +kernel
theorem nd_B_isParty_17 : decode nc_B_isParty 17 = .ok (.iconst 0, 1) := by decide +kernel
theorem nd_B_isParty_18 : decode nc_B_isParty 18 = .ok (.ireturn, 1) := by decide +kernel
theorem nd_B_accountOf_0 : decode nc_B_accountOf 0 = .ok (.iload_n 1, 1) := by decide +kernel
theorem nd_B_accountOf_1 : decode nc_B_accountOf 1 = .ok (.iconst 0, 1) := by decide +kernel
theorem nd_B_accountOf_2 : decode nc_B_accountOf 2 = .ok (.aload_n 0, 1) := by decide +kernel
theorem nd_B_accountOf_3 : decode nc_B_accountOf 3 = .ok (.getfield 71, 3) := by decide +kernel
theorem nd_B_accountOf_6 : decode nc_B_accountOf 6 = .ok (.iconst 1, 1) := by decide +kernel
theorem nd_B_accountOf_7 : decode nc_B_accountOf 7 = .ok (.isub, 1) := by decide +kernel
theorem nd_B_accountOf_8 : decode nc_B_accountOf 8 = .ok (.invokestatic 67, 3) := by decide +kernel
theorem nd_B_accountOf_11 : decode nc_B_accountOf 11 = .ok (.ifCond .eq 12, 3) := by decide +kernel
theorem nd_B_accountOf_14 : decode nc_B_accountOf 14 = .ok (.aload_n 0, 1) := by decide +kernel
theorem nd_B_accountOf_15 : decode nc_B_accountOf 15 = .ok (.getfield 11, 3) := by decide +kernel
theorem nd_B_accountOf_18 : decode nc_B_accountOf 18 = .ok (.iload_n 1, 1) := by decide +kernel
theorem nd_B_accountOf_19 : decode nc_B_accountOf 19 = .ok (.aaload, 1) := by decide +kernel
theorem nd_B_accountOf_20 : decode nc_B_accountOf 20 = .ok (.goto 4, 3) := by decide +kernel
theorem nd_B_accountOf_23 : decode nc_B_accountOf 23 = .ok (.aconst_null, 1) := by decide +kernel
theorem nd_B_accountOf_24 : decode nc_B_accountOf 24 = .ok (.areturn, 1) := by decide +kernel
theorem nd_B_isAmount_0 : decode nc_B_isAmount 0 = .ok (.iload_n 0, 1) := by decide +kernel
theorem nd_B_isAmount_1 : decode nc_B_isAmount 1 = .ok (.iconst 1, 1) := by decide +kernel
theorem nd_B_isAmount_2 : decode nc_B_isAmount 2 = .ok (.ldc 66, 2) := by decide +kernel
theorem nd_B_isAmount_4 : decode nc_B_isAmount 4 = .ok (.invokestatic 67, 3) := by decide +kernel
theorem nd_B_isAmount_7 : decode nc_B_isAmount 7 = .ok (.ireturn, 1) := by decide +kernel
theorem nd_A_spendable_0 : decode nc_A_spendable 0 = .ok (.aload_n 0, 1) := by decide +kernel
theorem nd_A_spendable_1 : decode nc_A_spendable 1 = .ok (.getfield 13, 3) := by decide +kernel
theorem nd_A_spendable_4 : decode nc_A_spendable 4 = .ok (.aload_n 0, 1) := by decide +kernel
theorem nd_A_spendable_5 : decode nc_A_spendable 5 = .ok (.getfield 17, 3) := by decide +kernel
theorem nd_A_spendable_8 : decode nc_A_spendable 8 = .ok (.i2l, 1) := by decide +kernel
theorem nd_A_spendable_9 : decode nc_A_spendable 9 = .ok (.ladd, 1) := by decide +kernel
theorem nd_A_spendable_10 : decode nc_A_spendable 10 = .ok (.aload_n 0, 1) := by decide +kernel
theorem nd_A_spendable_11 : decode nc_A_spendable 11 = .ok (.getfield 20, 3) := by decide +kernel
theorem nd_A_spendable_14 : decode nc_A_spendable 14 = .ok (.lsub, 1) := by decide +kernel
theorem nd_A_spendable_15 : decode nc_A_spendable 15 = .ok (.lreturn, 1) := by decide +kernel
theorem nd_B_transfer_0 : decode nc_B_transfer 0 = .ok (.aload_n 1, 1) := by decide +kernel
theorem nd_B_transfer_1 : decode nc_B_transfer 1 = .ok (.ifnull 17, 3) := by decide +kernel
theorem nd_B_transfer_4 : decode nc_B_transfer 4 = .ok (.aload_n 1, 1) := by decide +kernel
theorem nd_B_transfer_5 : decode nc_B_transfer 5 = .ok (.dup, 1) := by decide +kernel
theorem nd_B_transfer_6 : decode nc_B_transfer 6 = .ok (.getfield 179, 3) := by decide +kernel
theorem nd_B_transfer_9 : decode nc_B_transfer 9 = .ok (.iload_n 3, 1) := by decide +kernel
theorem nd_B_transfer_10 : decode nc_B_transfer 10 = .ok (.i2l, 1) := by decide +kernel
theorem nd_B_transfer_11 : decode nc_B_transfer 11 = .ok (.lsub, 1) := by decide +kernel
theorem nd_B_transfer_12 : decode nc_B_transfer 12 = .ok (.putfield 179, 3) := by decide +kernel
theorem nd_B_transfer_15 : decode nc_B_transfer 15 = .ok (.goto 21, 3) := by decide +kernel
theorem nd_B_transfer_18 : decode nc_B_transfer 18 = .ok (.aload_n 2, 1) := by decide +kernel
theorem nd_B_transfer_19 : decode nc_B_transfer 19 = .ok (.ifnull 17, 3) := by decide +kernel
theorem nd_B_transfer_22 : decode nc_B_transfer 22 = .ok (.aload_n 0, 1) := by decide +kernel
theorem nd_B_transfer_23 : decode nc_B_transfer 23 = .ok (.getfield 41, 3) := by decide +kernel
theorem nd_B_transfer_26 : decode nc_B_transfer 26 = .ok (.aload_n 2, 1) := by decide +kernel
theorem nd_B_transfer_27 : decode nc_B_transfer 27 = .ok (.getfield 82, 3) := by decide +kernel
theorem nd_B_transfer_30 : decode nc_B_transfer 30 = .ok (.dup2, 1) := by decide +kernel
theorem nd_B_transfer_31 : decode nc_B_transfer 31 = .ok (.laload, 1) := by decide +kernel
theorem nd_B_transfer_32 : decode nc_B_transfer 32 = .ok (.iload_n 3, 1) := by decide +kernel
theorem nd_B_transfer_33 : decode nc_B_transfer 33 = .ok (.i2l, 1) := by decide +kernel
theorem nd_B_transfer_34 : decode nc_B_transfer 34 = .ok (.ladd, 1) := by decide +kernel
theorem nd_B_transfer_35 : decode nc_B_transfer 35 = .ok (.lastore, 1) := by decide +kernel
theorem nd_B_transfer_36 : decode nc_B_transfer 36 = .ok (.aload_n 2, 1) := by decide +kernel
theorem nd_B_transfer_37 : decode nc_B_transfer 37 = .ok (.ifnull 17, 3) := by decide +kernel
theorem nd_B_transfer_40 : decode nc_B_transfer 40 = .ok (.aload_n 2, 1) := by decide +kernel
theorem nd_B_transfer_41 : decode nc_B_transfer 41 = .ok (.dup, 1) := by decide +kernel
theorem nd_B_transfer_42 : decode nc_B_transfer 42 = .ok (.getfield 179, 3) := by decide +kernel
theorem nd_B_transfer_45 : decode nc_B_transfer 45 = .ok (.iload_n 3, 1) := by decide +kernel
theorem nd_B_transfer_46 : decode nc_B_transfer 46 = .ok (.i2l, 1) := by decide +kernel
theorem nd_B_transfer_47 : decode nc_B_transfer 47 = .ok (.ladd, 1) := by decide +kernel
theorem nd_B_transfer_48 : decode nc_B_transfer 48 = .ok (.putfield 179, 3) := by decide +kernel
theorem nd_B_transfer_51 : decode nc_B_transfer 51 = .ok (.goto 21, 3) := by decide +kernel
theorem nd_B_transfer_54 : decode nc_B_transfer 54 = .ok (.aload_n 1, 1) := by decide +kernel
theorem nd_B_transfer_55 : decode nc_B_transfer 55 = .ok (.ifnull 17, 3) := by decide +kernel
theorem nd_B_transfer_58 : decode nc_B_transfer 58 = .ok (.aload_n 0, 1) := by decide +kernel
theorem nd_B_transfer_59 : decode nc_B_transfer 59 = .ok (.getfield 41, 3) := by decide +kernel
theorem nd_B_transfer_62 : decode nc_B_transfer 62 = .ok (.aload_n 1, 1) := by decide +kernel
theorem nd_B_transfer_63 : decode nc_B_transfer 63 = .ok (.getfield 82, 3) := by decide +kernel
theorem nd_B_transfer_66 : decode nc_B_transfer 66 = .ok (.dup2, 1) := by decide +kernel
theorem nd_B_transfer_67 : decode nc_B_transfer 67 = .ok (.laload, 1) := by decide +kernel
theorem nd_B_transfer_68 : decode nc_B_transfer 68 = .ok (.iload_n 3, 1) := by decide +kernel
theorem nd_B_transfer_69 : decode nc_B_transfer 69 = .ok (.i2l, 1) := by decide +kernel
theorem nd_B_transfer_70 : decode nc_B_transfer 70 = .ok (.lsub, 1) := by decide +kernel
theorem nd_B_transfer_71 : decode nc_B_transfer 71 = .ok (.lastore, 1) := by decide +kernel
theorem nd_B_transfer_72 : decode nc_B_transfer 72 = .ok (.return_, 1) := by decide +kernel
theorem nd_B_hold_0 : decode nc_B_hold 0 = .ok (.aload_n 0, 1) := by decide +kernel
theorem nd_B_hold_1 : decode nc_B_hold 1 = .ok (.invokevirtual 53, 3) := by decide +kernel
theorem nd_B_hold_4 : decode nc_B_hold 4 = .ok (.istore_n 3, 1) := by decide +kernel
theorem nd_B_hold_5 : decode nc_B_hold 5 = .ok (.iload_n 3, 1) := by decide +kernel
theorem nd_B_hold_6 : decode nc_B_hold 6 = .ok (.ifCond .eq 5, 3) := by decide +kernel
theorem nd_B_hold_9 : decode nc_B_hold 9 = .ok (.iload_n 3, 1) := by decide +kernel
theorem nd_B_hold_10 : decode nc_B_hold 10 = .ok (.ireturn, 1) := by decide +kernel
theorem nd_B_hold_11 : decode nc_B_hold 11 = .ok (.aload_n 0, 1) := by decide +kernel
theorem nd_B_hold_12 : decode nc_B_hold 12 = .ok (.iload_n 1, 1) := by decide +kernel
theorem nd_B_hold_13 : decode nc_B_hold 13 = .ok (.invokevirtual 110, 3) := by decide +kernel
theorem nd_B_hold_16 : decode nc_B_hold 16 = .ok (.astore 4, 2) := by decide +kernel
theorem nd_B_hold_18 : decode nc_B_hold 18 = .ok (.aload 4, 2) := by decide +kernel
theorem nd_B_hold_20 : decode nc_B_hold 20 = .ok (.ifnull 10, 3) := by decide +kernel
theorem nd_B_hold_23 : decode nc_B_hold 23 = .ok (.iload_n 2, 1) := by decide +kernel
theorem nd_B_hold_24 : decode nc_B_hold 24 = .ok (.invokestatic 107, 3) := by decide +kernel
theorem nd_B_hold_27 : decode nc_B_hold 27 = .ok (.ifCond .ne 6, 3) := by decide +kernel
theorem nd_B_hold_30 : decode nc_B_hold 30 = .ok (.bipush (-3), 2) := by decide +kernel
theorem nd_B_hold_32 : decode nc_B_hold 32 = .ok (.ireturn, 1) := by decide +kernel
theorem nd_B_hold_33 : decode nc_B_hold 33 = .ok (.aload_n 0, 1) := by decide +kernel
theorem nd_B_hold_34 : decode nc_B_hold 34 = .ok (.invokevirtual 122, 3) := by decide +kernel
theorem nd_B_hold_37 : decode nc_B_hold 37 = .ok (.istore 5, 2) := by decide +kernel
theorem nd_B_hold_39 : decode nc_B_hold 39 = .ok (.iload 5, 2) := by decide +kernel
theorem nd_B_hold_41 : decode nc_B_hold 41 = .ok (.bipush 8, 2) := by decide +kernel
theorem nd_B_hold_43 : decode nc_B_hold 43 = .ok (.if_icmp .lt 6, 3) := by decide +kernel
theorem nd_B_hold_46 : decode nc_B_hold 46 = .ok (.bipush (-4), 2) := by decide +kernel
theorem nd_B_hold_48 : decode nc_B_hold 48 = .ok (.ireturn, 1) := by decide +kernel
theorem nd_B_hold_49 : decode nc_B_hold 49 = .ok (.iload_n 2, 1) := by decide +kernel
theorem nd_B_hold_50 : decode nc_B_hold 50 = .ok (.i2l, 1) := by decide +kernel
theorem nd_B_hold_51 : decode nc_B_hold 51 = .ok (.aload 4, 2) := by decide +kernel
theorem nd_B_hold_53 : decode nc_B_hold 53 = .ok (.invokevirtual 114, 3) := by decide +kernel
theorem nd_B_hold_56 : decode nc_B_hold 56 = .ok (.lcmp, 1) := by decide +kernel
theorem nd_B_hold_57 : decode nc_B_hold 57 = .ok (.ifCond .le 6, 3) := by decide +kernel
theorem nd_B_hold_60 : decode nc_B_hold 60 = .ok (.bipush (-5), 2) := by decide +kernel
theorem nd_B_hold_62 : decode nc_B_hold 62 = .ok (.ireturn, 1) := by decide +kernel
theorem nd_B_hold_63 : decode nc_B_hold 63 = .ok (.aload_n 0, 1) := by decide +kernel
theorem nd_B_hold_64 : decode nc_B_hold 64 = .ok (.getfield 37, 3) := by decide +kernel
theorem nd_B_hold_67 : decode nc_B_hold 67 = .ok (.aload 4, 2) := by decide +kernel
theorem nd_B_hold_69 : decode nc_B_hold 69 = .ok (.invokestatic 75, 3) := by decide +kernel
theorem nd_B_hold_72 : decode nc_B_hold 72 = .ok (.invokevirtual 79, 3) := by decide +kernel
theorem nd_B_hold_75 : decode nc_B_hold 75 = .ok (.ifCond .ne 5, 3) := by decide +kernel
theorem nd_B_hold_78 : decode nc_B_hold 78 = .ok (.iconst (-1), 1) := by decide +kernel
theorem nd_B_hold_79 : decode nc_B_hold 79 = .ok (.ireturn, 1) := by decide +kernel
theorem nd_B_hold_80 : decode nc_B_hold 80 = .ok (.aload_n 0, 1) := by decide +kernel
theorem nd_B_hold_81 : decode nc_B_hold 81 = .ok (.getfield 17, 3) := by decide +kernel
theorem nd_B_hold_84 : decode nc_B_hold 84 = .ok (.iload 5, 2) := by decide +kernel
theorem nd_B_hold_86 : decode nc_B_hold 86 = .ok (.aaload, 1) := by decide +kernel
theorem nd_B_hold_87 : decode nc_B_hold 87 = .ok (.aload 4, 2) := by decide +kernel
theorem nd_B_hold_89 : decode nc_B_hold 89 = .ok (.iload_n 2, 1) := by decide +kernel
theorem nd_B_hold_90 : decode nc_B_hold 90 = .ok (.invokevirtual 125, 3) := by decide +kernel
theorem nd_B_hold_93 : decode nc_B_hold 93 = .ok (.iload 5, 2) := by decide +kernel
theorem nd_B_hold_95 : decode nc_B_hold 95 = .ok (.ireturn, 1) := by decide +kernel
theorem nd_B_leastFreeHold_0 : decode nc_B_leastFreeHold 0 = .ok (.iconst 0, 1) := by decide +kernel
theorem nd_B_leastFreeHold_1 : decode nc_B_leastFreeHold 1 = .ok (.istore_n 1, 1) := by decide +kernel
theorem nd_B_leastFreeHold_2 : decode nc_B_leastFreeHold 2 = .ok (.iload_n 1, 1) := by decide +kernel
theorem nd_B_leastFreeHold_3 : decode nc_B_leastFreeHold 3 = .ok (.bipush 8, 2) := by decide +kernel
theorem nd_B_leastFreeHold_5 : decode nc_B_leastFreeHold 5 = .ok (.if_icmp .ge 21, 3) := by decide +kernel
theorem nd_B_leastFreeHold_8 : decode nc_B_leastFreeHold 8 = .ok (.aload_n 0, 1) := by decide +kernel
theorem nd_B_leastFreeHold_9 : decode nc_B_leastFreeHold 9 = .ok (.getfield 17, 3) := by decide +kernel
theorem nd_B_leastFreeHold_12 : decode nc_B_leastFreeHold 12 = .ok (.iload_n 1, 1) := by decide +kernel
theorem nd_B_leastFreeHold_13 : decode nc_B_leastFreeHold 13 = .ok (.aaload, 1) := by decide +kernel
theorem nd_B_leastFreeHold_14 : decode nc_B_leastFreeHold 14 = .ok (.getfield 133, 3) := by decide +kernel
theorem nd_B_leastFreeHold_17 : decode nc_B_leastFreeHold 17 = .ok (.ifnull 9, 3) := by decide +kernel
theorem nd_B_leastFreeHold_20 : decode nc_B_leastFreeHold 20 = .ok (.iinc 1 1, 3) := by decide +kernel
theorem nd_B_leastFreeHold_23 : decode nc_B_leastFreeHold 23 = .ok (.goto (-21), 3) := by decide +kernel
theorem nd_B_leastFreeHold_26 : decode nc_B_leastFreeHold 26 = .ok (.iload_n 1, 1) := by decide +kernel
theorem nd_B_leastFreeHold_27 : decode nc_B_leastFreeHold 27 = .ok (.ireturn, 1) := by decide +kernel
theorem nd_H_begin_0 : decode nc_H_begin 0 = .ok (.aload_n 0, 1) := by decide +kernel
theorem nd_H_begin_1 : decode nc_H_begin 1 = .ok (.aload_n 1, 1) := by decide +kernel
theorem nd_H_begin_2 : decode nc_H_begin 2 = .ok (.putfield 7, 3) := by decide +kernel
theorem nd_H_begin_5 : decode nc_H_begin 5 = .ok (.aload_n 0, 1) := by decide +kernel
theorem nd_H_begin_6 : decode nc_H_begin 6 = .ok (.iload_n 2, 1) := by decide +kernel
theorem nd_H_begin_7 : decode nc_H_begin 7 = .ok (.putfield 13, 3) := by decide +kernel
theorem nd_H_begin_10 : decode nc_H_begin 10 = .ok (.aload_n 1, 1) := by decide +kernel
theorem nd_H_begin_11 : decode nc_H_begin 11 = .ok (.dup, 1) := by decide +kernel
theorem nd_H_begin_12 : decode nc_H_begin 12 = .ok (.getfield 17, 3) := by decide +kernel
theorem nd_H_begin_15 : decode nc_H_begin 15 = .ok (.iload_n 2, 1) := by decide +kernel
theorem nd_H_begin_16 : decode nc_H_begin 16 = .ok (.i2l, 1) := by decide +kernel
theorem nd_H_begin_17 : decode nc_H_begin 17 = .ok (.ladd, 1) := by decide +kernel
theorem nd_H_begin_18 : decode nc_H_begin 18 = .ok (.putfield 17, 3) := by decide +kernel
theorem nd_H_begin_21 : decode nc_H_begin 21 = .ok (.return_, 1) := by decide +kernel
theorem nd_B_release_0 : decode nc_B_release 0 = .ok (.aload_n 0, 1) := by decide +kernel
theorem nd_B_release_1 : decode nc_B_release 1 = .ok (.invokevirtual 53, 3) := by decide +kernel
theorem nd_B_release_4 : decode nc_B_release 4 = .ok (.istore_n 2, 1) := by decide +kernel
theorem nd_B_release_5 : decode nc_B_release 5 = .ok (.iload_n 2, 1) := by decide +kernel
theorem nd_B_release_6 : decode nc_B_release 6 = .ok (.ifCond .eq 5, 3) := by decide +kernel
theorem nd_B_release_9 : decode nc_B_release 9 = .ok (.iload_n 2, 1) := by decide +kernel
theorem nd_B_release_10 : decode nc_B_release 10 = .ok (.ireturn, 1) := by decide +kernel
theorem nd_B_release_11 : decode nc_B_release 11 = .ok (.aload_n 0, 1) := by decide +kernel
theorem nd_B_release_12 : decode nc_B_release 12 = .ok (.iload_n 1, 1) := by decide +kernel
theorem nd_B_release_13 : decode nc_B_release 13 = .ok (.invokevirtual 129, 3) := by decide +kernel
theorem nd_B_release_16 : decode nc_B_release 16 = .ok (.astore_n 3, 1) := by decide +kernel
theorem nd_B_release_17 : decode nc_B_release 17 = .ok (.aload_n 3, 1) := by decide +kernel
theorem nd_B_release_18 : decode nc_B_release 18 = .ok (.ifnonnull 6, 3) := by decide +kernel
theorem nd_B_release_21 : decode nc_B_release 21 = .ok (.bipush (-3), 2) := by decide +kernel
theorem nd_B_release_23 : decode nc_B_release 23 = .ok (.ireturn, 1) := by decide +kernel
theorem nd_B_release_24 : decode nc_B_release 24 = .ok (.aload_n 0, 1) := by decide +kernel
theorem nd_B_release_25 : decode nc_B_release 25 = .ok (.getfield 37, 3) := by decide +kernel
theorem nd_B_release_28 : decode nc_B_release 28 = .ok (.aload_n 3, 1) := by decide +kernel
theorem nd_B_release_29 : decode nc_B_release 29 = .ok (.getfield 133, 3) := by decide +kernel
theorem nd_B_release_32 : decode nc_B_release 32 = .ok (.invokestatic 75, 3) := by decide +kernel
theorem nd_B_release_35 : decode nc_B_release 35 = .ok (.invokevirtual 79, 3) := by decide +kernel
theorem nd_B_release_38 : decode nc_B_release 38 = .ok (.ifCond .ne 5, 3) := by decide +kernel
theorem nd_B_release_41 : decode nc_B_release 41 = .ok (.iconst (-1), 1) := by decide +kernel
theorem nd_B_release_42 : decode nc_B_release 42 = .ok (.ireturn, 1) := by decide +kernel
theorem nd_B_release_43 : decode nc_B_release 43 = .ok (.aload_n 3, 1) := by decide +kernel
theorem nd_B_release_44 : decode nc_B_release 44 = .ok (.invokevirtual 137, 3) := by decide +kernel
theorem nd_B_release_47 : decode nc_B_release 47 = .ok (.iconst 0, 1) := by decide +kernel
theorem nd_B_release_48 : decode nc_B_release 48 = .ok (.ireturn, 1) := by decide +kernel
theorem nd_B_standingHold_0 : decode nc_B_standingHold 0 = .ok (.iload_n 1, 1) := by decide +kernel
theorem nd_B_standingHold_1 : decode nc_B_standingHold 1 = .ok (.iconst 0, 1) := by decide +kernel
theorem nd_B_standingHold_2 : decode nc_B_standingHold 2 = .ok (.bipush 7, 2) := by decide +kernel
theorem nd_B_standingHold_4 : decode nc_B_standingHold 4 = .ok (.invokestatic 67, 3) := by decide +kernel
theorem nd_B_standingHold_7 : decode nc_B_standingHold 7 = .ok (.ifCond .ne 5, 3) := by decide +kernel
theorem nd_B_standingHold_10 : decode nc_B_standingHold 10 = .ok (.aconst_null, 1) := by decide +kernel
theorem nd_B_standingHold_11 : decode nc_B_standingHold 11 = .ok (.areturn, 1) := by decide +kernel
theorem nd_B_standingHold_12 : decode nc_B_standingHold 12 = .ok (.aload_n 0, 1) := by decide +kernel
theorem nd_B_standingHold_13 : decode nc_B_standingHold 13 = .ok (.getfield 17, 3) := by decide +kernel
theorem nd_B_standingHold_16 : decode nc_B_standingHold 16 = .ok (.iload_n 1, 1) := by decide +kernel
theorem nd_B_standingHold_17 : decode nc_B_standingHold 17 = .ok (.aaload, 1) := by decide +kernel
theorem nd_B_standingHold_18 : decode nc_B_standingHold 18 = .ok (.getfield 133, 3) := by decide +kernel
theorem nd_B_standingHold_21 : decode nc_B_standingHold 21 = .ok (.ifnonnull 7, 3) := by decide +kernel
theorem nd_B_standingHold_24 : decode nc_B_standingHold 24 = .ok (.aconst_null, 1) := by decide +kernel
theorem nd_B_standingHold_25 : decode nc_B_standingHold 25 = .ok (.goto 9, 3) := by decide +kernel
theorem nd_B_standingHold_28 : decode nc_B_standingHold 28 = .ok (.aload_n 0, 1) := by decide +kernel
theorem nd_B_standingHold_29 : decode nc_B_standingHold 29 = .ok (.getfield 17, 3) := by decide +kernel
theorem nd_B_standingHold_32 : decode nc_B_standingHold 32 = .ok (.iload_n 1, 1) := by decide +kernel
theorem nd_B_standingHold_33 : decode nc_B_standingHold 33 = .ok (.aaload, 1) := by decide +kernel
theorem nd_B_standingHold_34 : decode nc_B_standingHold 34 = .ok (.areturn, 1) := by decide +kernel
theorem nd_H_end_0 : decode nc_H_end 0 = .ok (.aload_n 0, 1) := by decide +kernel
theorem nd_H_end_1 : decode nc_H_end 1 = .ok (.getfield 7, 3) := by decide +kernel
theorem nd_H_end_4 : decode nc_H_end 4 = .ok (.ifnull 20, 3) := by decide +kernel
theorem nd_H_end_7 : decode nc_H_end 7 = .ok (.aload_n 0, 1) := by decide +kernel
theorem nd_H_end_8 : decode nc_H_end 8 = .ok (.getfield 7, 3) := by decide +kernel
theorem nd_H_end_11 : decode nc_H_end 11 = .ok (.dup, 1) := by decide +kernel
theorem nd_H_end_12 : decode nc_H_end 12 = .ok (.getfield 17, 3) := by decide +kernel
theorem nd_H_end_15 : decode nc_H_end 15 = .ok (.aload_n 0, 1) := by decide +kernel
theorem nd_H_end_16 : decode nc_H_end 16 = .ok (.getfield 13, 3) := by decide +kernel
theorem nd_H_end_19 : decode nc_H_end 19 = .ok (.i2l, 1) := by decide +kernel
theorem nd_H_end_20 : decode nc_H_end 20 = .ok (.lsub, 1) := by decide +kernel
theorem nd_H_end_21 : decode nc_H_end 21 = .ok (.putfield 17, 3) := by decide +kernel
theorem nd_H_end_24 : decode nc_H_end 24 = .ok (.aload_n 0, 1) := by decide +kernel
theorem nd_H_end_25 : decode nc_H_end 25 = .ok (.aconst_null, 1) := by decide +kernel
theorem nd_H_end_26 : decode nc_H_end 26 = .ok (.putfield 7, 3) := by decide +kernel
theorem nd_H_end_29 : decode nc_H_end 29 = .ok (.aload_n 0, 1) := by decide +kernel
theorem nd_H_end_30 : decode nc_H_end 30 = .ok (.iconst 0, 1) := by decide +kernel
theorem nd_H_end_31 : decode nc_H_end 31 = .ok (.putfield 13, 3) := by decide +kernel
theorem nd_H_end_34 : decode nc_H_end 34 = .ok (.return_, 1) := by decide +kernel
theorem nd_B_settle_0 : decode nc_B_settle 0 = .ok (.aload_n 0, 1) := by decide +kernel
theorem nd_B_settle_1 : decode nc_B_settle 1 = .ok (.invokevirtual 53, 3) := by decide +kernel
theorem nd_B_settle_4 : decode nc_B_settle 4 = .ok (.istore 4, 2) := by decide +kernel
theorem nd_B_settle_6 : decode nc_B_settle 6 = .ok (.iload 4, 2) := by decide +kernel
theorem nd_B_settle_8 : decode nc_B_settle 8 = .ok (.ifCond .eq 6, 3) := by decide +kernel
theorem nd_B_settle_11 : decode nc_B_settle 11 = .ok (.iload 4, 2) := by decide +kernel
theorem nd_B_settle_13 : decode nc_B_settle 13 = .ok (.ireturn, 1) := by decide +kernel
theorem nd_B_settle_14 : decode nc_B_settle 14 = .ok (.aload_n 0, 1) := by decide +kernel
theorem nd_B_settle_15 : decode nc_B_settle 15 = .ok (.iload_n 1, 1) := by decide +kernel
theorem nd_B_settle_16 : decode nc_B_settle 16 = .ok (.invokevirtual 129, 3) := by decide +kernel
theorem nd_B_settle_19 : decode nc_B_settle 19 = .ok (.astore 5, 2) := by decide +kernel
theorem nd_B_settle_21 : decode nc_B_settle 21 = .ok (.aload 5, 2) := by decide +kernel
theorem nd_B_settle_23 : decode nc_B_settle 23 = .ok (.ifnull 16, 3) := by decide +kernel
theorem nd_B_settle_26 : decode nc_B_settle 26 = .ok (.iload_n 3, 1) := by decide +kernel
theorem nd_B_settle_27 : decode nc_B_settle 27 = .ok (.iconst 1, 1) := by decide +kernel
theorem nd_B_settle_28 : decode nc_B_settle 28 = .ok (.aload 5, 2) := by decide +kernel
theorem nd_B_settle_30 : decode nc_B_settle 30 = .ok (.getfield 140, 3) := by decide +kernel
theorem nd_B_settle_33 : decode nc_B_settle 33 = .ok (.invokestatic 67, 3) := by decide +kernel
theorem nd_B_settle_36 : decode nc_B_settle 36 = .ok (.ifCond .ne 6, 3) := by decide +kernel
theorem nd_B_settle_39 : decode nc_B_settle 39 = .ok (.bipush (-3), 2) := by decide +kernel
theorem nd_B_settle_41 : decode nc_B_settle 41 = .ok (.ireturn, 1) := by decide +kernel
theorem nd_B_settle_42 : decode nc_B_settle 42 = .ok (.aload 5, 2) := by decide +kernel
theorem nd_B_settle_44 : decode nc_B_settle 44 = .ok (.getfield 133, 3) := by decide +kernel
theorem nd_B_settle_47 : decode nc_B_settle 47 = .ok (.astore 6, 2) := by decide +kernel
theorem nd_B_settle_49 : decode nc_B_settle 49 = .ok (.aload 6, 2) := by decide +kernel
theorem nd_B_settle_51 : decode nc_B_settle 51 = .ok (.ifnull 16, 3) := by decide +kernel
theorem nd_B_settle_54 : decode nc_B_settle 54 = .ok (.aload_n 0, 1) := by decide +kernel
theorem nd_B_settle_55 : decode nc_B_settle 55 = .ok (.aload 6, 2) := by decide +kernel
theorem nd_B_settle_57 : decode nc_B_settle 57 = .ok (.getfield 100, 3) := by decide +kernel
theorem nd_B_settle_60 : decode nc_B_settle 60 = .ok (.iload_n 2, 1) := by decide +kernel
theorem nd_B_settle_61 : decode nc_B_settle 61 = .ok (.invokevirtual 103, 3) := by decide +kernel
theorem nd_B_settle_64 : decode nc_B_settle 64 = .ok (.ifCond .ne 6, 3) := by decide +kernel
theorem nd_B_settle_67 : decode nc_B_settle 67 = .ok (.bipush (-3), 2) := by decide +kernel
theorem nd_B_settle_69 : decode nc_B_settle 69 = .ok (.ireturn, 1) := by decide +kernel
theorem nd_B_settle_70 : decode nc_B_settle 70 = .ok (.aload_n 0, 1) := by decide +kernel
theorem nd_B_settle_71 : decode nc_B_settle 71 = .ok (.iload_n 2, 1) := by decide +kernel
theorem nd_B_settle_72 : decode nc_B_settle 72 = .ok (.invokevirtual 110, 3) := by decide +kernel
theorem nd_B_settle_75 : decode nc_B_settle 75 = .ok (.astore 7, 2) := by decide +kernel
theorem nd_B_settle_77 : decode nc_B_settle 77 = .ok (.aload_n 0, 1) := by decide +kernel
theorem nd_B_settle_78 : decode nc_B_settle 78 = .ok (.getfield 37, 3) := by decide +kernel
theorem nd_B_settle_81 : decode nc_B_settle 81 = .ok (.aload 6, 2) := by decide +kernel
theorem nd_B_settle_83 : decode nc_B_settle 83 = .ok (.invokestatic 75, 3) := by decide +kernel
theorem nd_B_settle_86 : decode nc_B_settle 86 = .ok (.aload 7, 2) := by decide +kernel
theorem nd_B_settle_88 : decode nc_B_settle 88 = .ok (.invokestatic 75, 3) := by decide +kernel
theorem nd_B_settle_91 : decode nc_B_settle 91 = .ok (.ior, 1) := by decide +kernel
theorem nd_B_settle_92 : decode nc_B_settle 92 = .ok (.invokevirtual 79, 3) := by decide +kernel
theorem nd_B_settle_95 : decode nc_B_settle 95 = .ok (.ifCond .ne 5, 3) := by decide +kernel
theorem nd_B_settle_98 : decode nc_B_settle 98 = .ok (.iconst (-1), 1) := by decide +kernel
theorem nd_B_settle_99 : decode nc_B_settle 99 = .ok (.ireturn, 1) := by decide +kernel
theorem nd_B_settle_100 : decode nc_B_settle 100 = .ok (.aload 5, 2) := by decide +kernel
theorem nd_B_settle_102 : decode nc_B_settle 102 = .ok (.invokevirtual 137, 3) := by decide +kernel
theorem nd_B_settle_105 : decode nc_B_settle 105 = .ok (.aload_n 0, 1) := by decide +kernel
theorem nd_B_settle_106 : decode nc_B_settle 106 = .ok (.aload 6, 2) := by decide +kernel
theorem nd_B_settle_108 : decode nc_B_settle 108 = .ok (.aload 7, 2) := by decide +kernel
theorem nd_B_settle_110 : decode nc_B_settle 110 = .ok (.iload_n 3, 1) := by decide +kernel
theorem nd_B_settle_111 : decode nc_B_settle 111 = .ok (.invokevirtual 118, 3) := by decide +kernel
theorem nd_B_settle_114 : decode nc_B_settle 114 = .ok (.iconst 0, 1) := by decide +kernel
theorem nd_B_settle_115 : decode nc_B_settle 115 = .ok (.ireturn, 1) := by decide +kernel
theorem nd_B_order_0 : decode nc_B_order 0 = .ok (.aload_n 0, 1) := by decide +kernel
theorem nd_B_order_1 : decode nc_B_order 1 = .ok (.invokevirtual 53, 3) := by decide +kernel
theorem nd_B_order_4 : decode nc_B_order 4 = .ok (.istore 5, 2) := by decide +kernel
theorem nd_B_order_6 : decode nc_B_order 6 = .ok (.iload 5, 2) := by decide +kernel
theorem nd_B_order_8 : decode nc_B_order 8 = .ok (.ifCond .eq 6, 3) := by decide +kernel
theorem nd_B_order_11 : decode nc_B_order 11 = .ok (.iload 5, 2) := by decide +kernel
theorem nd_B_order_13 : decode nc_B_order 13 = .ok (.ireturn, 1) := by decide +kernel
theorem nd_B_order_14 : decode nc_B_order 14 = .ok (.aload_n 0, 1) := by decide +kernel
theorem nd_B_order_15 : decode nc_B_order 15 = .ok (.iload_n 1, 1) := by decide +kernel
theorem nd_B_order_16 : decode nc_B_order 16 = .ok (.invokevirtual 110, 3) := by decide +kernel
theorem nd_B_order_19 : decode nc_B_order 19 = .ok (.astore 6, 2) := by decide +kernel
theorem nd_B_order_21 : decode nc_B_order 21 = .ok (.aload_n 0, 1) := by decide +kernel
theorem nd_B_order_22 : decode nc_B_order 22 = .ok (.iload_n 2, 1) := by decide +kernel
theorem nd_B_order_23 : decode nc_B_order 23 = .ok (.invokevirtual 110, 3) := by decide +kernel
theorem nd_B_order_26 : decode nc_B_order 26 = .ok (.astore 7, 2) := by decide +kernel
theorem nd_B_order_28 : decode nc_B_order 28 = .ok (.aload 6, 2) := by decide +kernel
theorem nd_B_order_30 : decode nc_B_order 30 = .ok (.ifnull 17, 3) := by decide +kernel
theorem nd_B_order_33 : decode nc_B_order 33 = .ok (.aload 7, 2) := by decide +kernel
theorem nd_B_order_35 : decode nc_B_order 35 = .ok (.ifnull 12, 3) := by decide +kernel
theorem nd_B_order_38 : decode nc_B_order 38 = .ok (.aload_n 0, 1) := by decide +kernel
theorem nd_B_order_39 : decode nc_B_order 39 = .ok (.iload_n 1, 1) := by decide +kernel
theorem nd_B_order_40 : decode nc_B_order 40 = .ok (.iload_n 2, 1) := by decide +kernel
theorem nd_B_order_41 : decode nc_B_order 41 = .ok (.invokevirtual 103, 3) := by decide +kernel
theorem nd_B_order_44 : decode nc_B_order 44 = .ok (.ifCond .ne 6, 3) := by decide +kernel
theorem nd_B_order_47 : decode nc_B_order 47 = .ok (.bipush (-3), 2) := by decide +kernel
theorem nd_B_order_49 : decode nc_B_order 49 = .ok (.ireturn, 1) := by decide +kernel
theorem nd_B_order_50 : decode nc_B_order 50 = .ok (.iload_n 3, 1) := by decide +kernel
theorem nd_B_order_51 : decode nc_B_order 51 = .ok (.invokestatic 107, 3) := by decide +kernel
theorem nd_B_order_54 : decode nc_B_order 54 = .ok (.ifCond .eq 14, 3) := by decide +kernel
theorem nd_B_order_57 : decode nc_B_order 57 = .ok (.iload 4, 2) := by decide +kernel
theorem nd_B_order_59 : decode nc_B_order 59 = .ok (.iconst 1, 1) := by decide +kernel
theorem nd_B_order_60 : decode nc_B_order 60 = .ok (.bipush 31, 2) := by decide +kernel
theorem nd_B_order_62 : decode nc_B_order 62 = .ok (.invokestatic 67, 3) := by decide +kernel
theorem nd_B_order_65 : decode nc_B_order 65 = .ok (.ifCond .ne 6, 3) := by decide +kernel
theorem nd_B_order_68 : decode nc_B_order 68 = .ok (.bipush (-3), 2) := by decide +kernel
theorem nd_B_order_70 : decode nc_B_order 70 = .ok (.ireturn, 1) := by decide +kernel
theorem nd_B_order_71 : decode nc_B_order 71 = .ok (.aload_n 0, 1) := by decide +kernel
theorem nd_B_order_72 : decode nc_B_order 72 = .ok (.getfield 143, 3) := by decide +kernel
theorem nd_B_order_75 : decode nc_B_order 75 = .ok (.bipush 6, 2) := by decide +kernel
theorem nd_B_order_77 : decode nc_B_order 77 = .ok (.if_icmp .lt 6, 3) := by decide +kernel
theorem nd_B_order_80 : decode nc_B_order 80 = .ok (.bipush (-4), 2) := by decide +kernel
theorem nd_B_order_82 : decode nc_B_order 82 = .ok (.ireturn, 1) := by decide +kernel
theorem nd_B_order_83 : decode nc_B_order 83 = .ok (.aload_n 0, 1) := by decide +kernel
theorem nd_B_order_84 : decode nc_B_order 84 = .ok (.getfield 37, 3) := by decide +kernel
theorem nd_B_order_87 : decode nc_B_order 87 = .ok (.aload 6, 2) := by decide +kernel
theorem nd_B_order_89 : decode nc_B_order 89 = .ok (.invokestatic 75, 3) := by decide +kernel
theorem nd_B_order_92 : decode nc_B_order 92 = .ok (.invokevirtual 79, 3) := by decide +kernel
theorem nd_B_order_95 : decode nc_B_order 95 = .ok (.ifCond .ne 5, 3) := by decide +kernel
theorem nd_B_order_98 : decode nc_B_order 98 = .ok (.iconst (-1), 1) := by decide +kernel
theorem nd_B_order_99 : decode nc_B_order 99 = .ok (.ireturn, 1) := by decide +kernel
theorem nd_B_order_100 : decode nc_B_order 100 = .ok (.aload_n 0, 1) := by decide +kernel
theorem nd_B_order_101 : decode nc_B_order 101 = .ok (.getfield 23, 3) := by decide +kernel
theorem nd_B_order_104 : decode nc_B_order 104 = .ok (.aload_n 0, 1) := by decide +kernel
theorem nd_B_order_105 : decode nc_B_order 105 = .ok (.getfield 143, 3) := by decide +kernel
theorem nd_B_order_108 : decode nc_B_order 108 = .ok (.aaload, 1) := by decide +kernel
theorem nd_B_order_109 : decode nc_B_order 109 = .ok (.aload 6, 2) := by decide +kernel
theorem nd_B_order_111 : decode nc_B_order 111 = .ok (.aload 7, 2) := by decide +kernel
theorem nd_B_order_113 : decode nc_B_order 113 = .ok (.iload_n 3, 1) := by decide +kernel
theorem nd_B_order_114 : decode nc_B_order 114 = .ok (.iload 4, 2) := by decide +kernel
theorem nd_B_order_116 : decode nc_B_order 116 = .ok (.invokevirtual 146, 3) := by decide +kernel
theorem nd_B_order_119 : decode nc_B_order 119 = .ok (.aload_n 0, 1) := by decide +kernel
theorem nd_B_order_120 : decode nc_B_order 120 = .ok (.dup, 1) := by decide +kernel
theorem nd_B_order_121 : decode nc_B_order 121 = .ok (.getfield 143, 3) := by decide +kernel
theorem nd_B_order_124 : decode nc_B_order 124 = .ok (.iconst 1, 1) := by decide +kernel
theorem nd_B_order_125 : decode nc_B_order 125 = .ok (.iadd, 1) := by decide +kernel
theorem nd_B_order_126 : decode nc_B_order 126 = .ok (.putfield 143, 3) := by decide +kernel
theorem nd_B_order_129 : decode nc_B_order 129 = .ok (.aload_n 0, 1) := by decide +kernel
theorem nd_B_order_130 : decode nc_B_order 130 = .ok (.getfield 143, 3) := by decide +kernel
theorem nd_B_order_133 : decode nc_B_order 133 = .ok (.iconst 1, 1) := by decide +kernel
theorem nd_B_order_134 : decode nc_B_order 134 = .ok (.isub, 1) := by decide +kernel
theorem nd_B_order_135 : decode nc_B_order 135 = .ok (.ireturn, 1) := by decide +kernel
theorem nd_O_make_0 : decode nc_O_make 0 = .ok (.aload_n 0, 1) := by decide +kernel
theorem nd_O_make_1 : decode nc_O_make 1 = .ok (.aload_n 1, 1) := by decide +kernel
theorem nd_O_make_2 : decode nc_O_make 2 = .ok (.putfield 7, 3) := by decide +kernel
theorem nd_O_make_5 : decode nc_O_make 5 = .ok (.aload_n 0, 1) := by decide +kernel
theorem nd_O_make_6 : decode nc_O_make 6 = .ok (.aload_n 2, 1) := by decide +kernel
theorem nd_O_make_7 : decode nc_O_make 7 = .ok (.putfield 13, 3) := by decide +kernel
theorem nd_O_make_10 : decode nc_O_make 10 = .ok (.aload_n 0, 1) := by decide +kernel
theorem nd_O_make_11 : decode nc_O_make 11 = .ok (.iload_n 3, 1) := by decide +kernel
theorem nd_O_make_12 : decode nc_O_make 12 = .ok (.putfield 16, 3) := by decide +kernel
theorem nd_O_make_15 : decode nc_O_make 15 = .ok (.aload_n 0, 1) := by decide +kernel
theorem nd_O_make_16 : decode nc_O_make 16 = .ok (.iload 4, 2) := by decide +kernel
theorem nd_O_make_18 : decode nc_O_make 18 = .ok (.putfield 20, 3) := by decide +kernel
theorem nd_O_make_21 : decode nc_O_make 21 = .ok (.return_, 1) := by decide +kernel
theorem nd_B_rest_0 : decode nc_B_rest 0 = .ok (.aload_n 0, 1) := by decide +kernel
theorem nd_B_rest_1 : decode nc_B_rest 1 = .ok (.invokevirtual 53, 3) := by decide +kernel
theorem nd_B_rest_4 : decode nc_B_rest 4 = .ok (.istore_n 2, 1) := by decide +kernel
theorem nd_B_rest_5 : decode nc_B_rest 5 = .ok (.iload_n 2, 1) := by decide +kernel
theorem nd_B_rest_6 : decode nc_B_rest 6 = .ok (.ifCond .eq 5, 3) := by decide +kernel
theorem nd_B_rest_9 : decode nc_B_rest 9 = .ok (.iload_n 2, 1) := by decide +kernel
theorem nd_B_rest_10 : decode nc_B_rest 10 = .ok (.ireturn, 1) := by decide +kernel
theorem nd_B_rest_11 : decode nc_B_rest 11 = .ok (.iload_n 1, 1) := by decide +kernel
theorem nd_B_rest_12 : decode nc_B_rest 12 = .ok (.iconst 0, 1) := by decide +kernel
theorem nd_B_rest_13 : decode nc_B_rest 13 = .ok (.sipush 20000, 3) := by decide +kernel
theorem nd_B_rest_16 : decode nc_B_rest 16 = .ok (.invokestatic 67, 3) := by decide +kernel
theorem nd_B_rest_19 : decode nc_B_rest 19 = .ok (.ifCond .eq 14, 3) := by decide +kernel
theorem nd_B_rest_22 : decode nc_B_rest 22 = .ok (.aload_n 0, 1) := by decide +kernel
theorem nd_B_rest_23 : decode nc_B_rest 23 = .ok (.getfield 30, 3) := by decide +kernel
theorem nd_B_rest_26 : decode nc_B_rest 26 = .ok (.iload_n 1, 1) := by decide +kernel
theorem nd_B_rest_27 : decode nc_B_rest 27 = .ok (.invokevirtual 150, 3) := by decide +kernel
theorem nd_B_rest_30 : decode nc_B_rest 30 = .ok (.ifCond .eq 6, 3) := by decide +kernel
theorem nd_B_rest_33 : decode nc_B_rest 33 = .ok (.bipush (-3), 2) := by decide +kernel
theorem nd_B_rest_35 : decode nc_B_rest 35 = .ok (.ireturn, 1) := by decide +kernel
theorem nd_B_rest_36 : decode nc_B_rest 36 = .ok (.aload_n 0, 1) := by decide +kernel
theorem nd_B_rest_37 : decode nc_B_rest 37 = .ok (.iload_n 1, 1) := by decide +kernel
theorem nd_B_rest_38 : decode nc_B_rest 38 = .ok (.invokevirtual 153, 3) := by decide +kernel
theorem nd_B_rest_41 : decode nc_B_rest 41 = .ok (.ifCond .ne 6, 3) := by decide +kernel
theorem nd_B_rest_44 : decode nc_B_rest 44 = .ok (.bipush (-3), 2) := by decide +kernel
theorem nd_B_rest_46 : decode nc_B_rest 46 = .ok (.ireturn, 1) := by decide +kernel
theorem nd_B_rest_47 : decode nc_B_rest 47 = .ok (.aload_n 0, 1) := by decide +kernel
theorem nd_B_rest_48 : decode nc_B_rest 48 = .ok (.getfield 30, 3) := by decide +kernel
theorem nd_B_rest_51 : decode nc_B_rest 51 = .ok (.invokevirtual 156, 3) := by decide +kernel
theorem nd_B_rest_54 : decode nc_B_rest 54 = .ok (.ifCond .eq 6, 3) := by decide +kernel
theorem nd_B_rest_57 : decode nc_B_rest 57 = .ok (.bipush (-4), 2) := by decide +kernel
theorem nd_B_rest_59 : decode nc_B_rest 59 = .ok (.ireturn, 1) := by decide +kernel
theorem nd_B_rest_60 : decode nc_B_rest 60 = .ok (.aload_n 0, 1) := by decide +kernel
theorem nd_B_rest_61 : decode nc_B_rest 61 = .ok (.getfield 37, 3) := by decide +kernel
theorem nd_B_rest_64 : decode nc_B_rest 64 = .ok (.iconst 0, 1) := by decide +kernel
theorem nd_B_rest_65 : decode nc_B_rest 65 = .ok (.invokevirtual 79, 3) := by decide +kernel
theorem nd_B_rest_68 : decode nc_B_rest 68 = .ok (.ifCond .ne 5, 3) := by decide +kernel
theorem nd_B_rest_71 : decode nc_B_rest 71 = .ok (.iconst (-1), 1) := by decide +kernel
theorem nd_B_rest_72 : decode nc_B_rest 72 = .ok (.ireturn, 1) := by decide +kernel
theorem nd_B_rest_73 : decode nc_B_rest 73 = .ok (.aload_n 0, 1) := by decide +kernel
theorem nd_B_rest_74 : decode nc_B_rest 74 = .ok (.getfield 30, 3) := by decide +kernel
theorem nd_B_rest_77 : decode nc_B_rest 77 = .ok (.iload_n 1, 1) := by decide +kernel
theorem nd_B_rest_78 : decode nc_B_rest 78 = .ok (.invokevirtual 160, 3) := by decide +kernel
theorem nd_B_rest_81 : decode nc_B_rest 81 = .ok (.iconst 0, 1) := by decide +kernel
theorem nd_B_rest_82 : decode nc_B_rest 82 = .ok (.ireturn, 1) := by decide +kernel
theorem nd_R_isRest_0 : decode nc_R_isRest 0 = .ok (.iload_n 1, 1) := by decide +kernel
theorem nd_R_isRest_1 : decode nc_R_isRest 1 = .ok (.bipush 7, 2) := by decide +kernel
theorem nd_R_isRest_3 : decode nc_R_isRest 3 = .ok (.irem, 1) := by decide +kernel
theorem nd_R_isRest_4 : decode nc_R_isRest 4 = .ok (.istore_n 2, 1) := by decide +kernel
theorem nd_R_isRest_5 : decode nc_R_isRest 5 = .ok (.iload_n 2, 1) := by decide +kernel
theorem nd_R_isRest_6 : decode nc_R_isRest 6 = .ok (.ifCond .eq 16, 3) := by decide +kernel
theorem nd_R_isRest_9 : decode nc_R_isRest 9 = .ok (.iload_n 2, 1) := by decide +kernel
theorem nd_R_isRest_10 : decode nc_R_isRest 10 = .ok (.iconst 1, 1) := by decide +kernel
theorem nd_R_isRest_11 : decode nc_R_isRest 11 = .ok (.if_icmp .eq 11, 3) := by decide +kernel
theorem nd_R_isRest_14 : decode nc_R_isRest 14 = .ok (.aload_n 0, 1) := by decide +kernel
theorem nd_R_isRest_15 : decode nc_R_isRest 15 = .ok (.iload_n 1, 1) := by decide +kernel
theorem nd_R_isRest_16 : decode nc_R_isRest 16 = .ok (.invokevirtual 21, 3) := by decide +kernel
theorem nd_R_isRest_19 : decode nc_R_isRest 19 = .ok (.ifCond .eq 7, 3) := by decide +kernel
theorem nd_R_isRest_22 : decode nc_R_isRest 22 = .ok (.iconst 1, 1) := by decide +kernel
theorem nd_R_isRest_23 : decode nc_R_isRest 23 = .ok (.goto 4, 3) := by decide +kernel
theorem nd_R_isRest_26 : decode nc_R_isRest 26 = .ok (.iconst 0, 1) := by decide +kernel
theorem nd_R_isRest_27 : decode nc_R_isRest 27 = .ok (.ireturn, 1) := by decide +kernel
theorem nd_R_wasMade_0 : decode nc_R_wasMade 0 = .ok (.iconst 0, 1) := by decide +kernel
theorem nd_R_wasMade_1 : decode nc_R_wasMade 1 = .ok (.istore_n 2, 1) := by decide +kernel
theorem nd_R_wasMade_2 : decode nc_R_wasMade 2 = .ok (.iload_n 2, 1) := by decide +kernel
theorem nd_R_wasMade_3 : decode nc_R_wasMade 3 = .ok (.aload_n 0, 1) := by decide +kernel
theorem nd_R_wasMade_4 : decode nc_R_wasMade 4 = .ok (.getfield 13, 3) := by decide +kernel
theorem nd_R_wasMade_7 : decode nc_R_wasMade 7 = .ok (.if_icmp .ge 21, 3) := by decide +kernel
theorem nd_R_wasMade_10 : decode nc_R_wasMade 10 = .ok (.aload_n 0, 1) := by decide +kernel
theorem nd_R_wasMade_11 : decode nc_R_wasMade 11 = .ok (.getfield 9, 3) := by decide +kernel
theorem nd_R_wasMade_14 : decode nc_R_wasMade 14 = .ok (.iload_n 2, 1) := by decide +kernel
theorem nd_R_wasMade_15 : decode nc_R_wasMade 15 = .ok (.iaload, 1) := by decide +kernel
theorem nd_R_wasMade_16 : decode nc_R_wasMade 16 = .ok (.iload_n 1, 1) := by decide +kernel
theorem nd_R_wasMade_17 : decode nc_R_wasMade 17 = .ok (.if_icmp .ne 5, 3) := by decide +kernel
theorem nd_R_wasMade_20 : decode nc_R_wasMade 20 = .ok (.iconst 1, 1) := by decide +kernel
theorem nd_R_wasMade_21 : decode nc_R_wasMade 21 = .ok (.ireturn, 1) := by decide +kernel
theorem nd_R_wasMade_22 : decode nc_R_wasMade 22 = .ok (.iinc 2 1, 3) := by decide +kernel
theorem nd_R_wasMade_25 : decode nc_R_wasMade 25 = .ok (.goto (-23), 3) := by decide +kernel
theorem nd_R_wasMade_28 : decode nc_R_wasMade 28 = .ok (.iconst 0, 1) := by decide +kernel
theorem nd_R_wasMade_29 : decode nc_R_wasMade 29 = .ok (.ireturn, 1) := by decide +kernel
theorem nd_B_isInLaterMonth_0 : decode nc_B_isInLaterMonth 0 = .ok (.iload_n 1, 1) := by decide +kernel
theorem nd_B_isInLaterMonth_1 : decode nc_B_isInLaterMonth 1 = .ok (.invokestatic 210, 3) := by decide +kernel
theorem nd_B_isInLaterMonth_4 : decode nc_B_isInLaterMonth 4 = .ok (.invokestatic 214, 3) := by decide +kernel
theorem nd_B_isInLaterMonth_7 : decode nc_B_isInLaterMonth 7 = .ok (.istore_n 2, 1) := by decide +kernel
theorem nd_B_isInLaterMonth_8 : decode nc_B_isInLaterMonth 8 = .ok (.iload_n 2, 1) := by decide +kernel
theorem nd_B_isInLaterMonth_9 : decode nc_B_isInLaterMonth 9 = .ok (.aload_n 0, 1) := by decide +kernel
theorem nd_B_isInLaterMonth_10 : decode nc_B_isInLaterMonth 10 = .ok (.getfield 94, 3) := by decide +kernel
theorem nd_B_isInLaterMonth_13 : decode nc_B_isInLaterMonth 13 = .ok (.invokestatic 210, 3) := by decide +kernel
theorem nd_B_isInLaterMonth_16 : decode nc_B_isInLaterMonth 16 = .ok (.invokestatic 214, 3) := by decide +kernel
theorem nd_B_isInLaterMonth_19 : decode nc_B_isInLaterMonth 19 = .ok (.if_icmp .le 7, 3) := by decide +kernel
theorem nd_B_isInLaterMonth_22 : decode nc_B_isInLaterMonth 22 = .ok (.iconst 1, 1) := by decide +kernel
theorem nd_B_isInLaterMonth_23 : decode nc_B_isInLaterMonth 23 = .ok (.goto 4, 3) := by decide +kernel
theorem nd_B_isInLaterMonth_26 : decode nc_B_isInLaterMonth 26 = .ok (.iconst 0, 1) := by decide +kernel
theorem nd_B_isInLaterMonth_27 : decode nc_B_isInLaterMonth 27 = .ok (.ireturn, 1) := by decide +kernel
theorem nd_C_monthAndDay_0 : decode nc_C_monthAndDay 0 = .ok (.iload_n 0, 1) := by decide +kernel
theorem nd_C_monthAndDay_1 : decode nc_C_monthAndDay 1 = .ok (.bipush 60, 2) := by decide +kernel
theorem nd_C_monthAndDay_3 : decode nc_C_monthAndDay 3 = .ok (.isub, 1) := by decide +kernel
theorem nd_C_monthAndDay_4 : decode nc_C_monthAndDay 4 = .ok (.istore_n 1, 1) := by decide +kernel
theorem nd_C_monthAndDay_5 : decode nc_C_monthAndDay 5 = .ok (.iload_n 1, 1) := by decide +kernel
theorem nd_C_monthAndDay_6 : decode nc_C_monthAndDay 6 = .ok (.ldc 28, 2) := by decide +kernel
theorem nd_C_monthAndDay_8 : decode nc_C_monthAndDay 8 = .ok (.invokestatic 29, 3) := by decide +kernel
theorem nd_C_monthAndDay_11 : decode nc_C_monthAndDay 11 = .ok (.istore_n 2, 1) := by decide +kernel
theorem nd_C_monthAndDay_12 : decode nc_C_monthAndDay 12 = .ok (.iload_n 1, 1) := by decide +kernel
theorem nd_C_monthAndDay_13 : decode nc_C_monthAndDay 13 = .ok (.ldc 28, 2) := by decide +kernel
theorem nd_C_monthAndDay_15 : decode nc_C_monthAndDay 15 = .ok (.invokestatic 32, 3) := by decide +kernel
theorem nd_C_monthAndDay_18 : decode nc_C_monthAndDay 18 = .ok (.istore_n 3, 1) := by decide +kernel
theorem nd_C_monthAndDay_19 : decode nc_C_monthAndDay 19 = .ok (.iload_n 3, 1) := by decide +kernel
theorem nd_C_monthAndDay_20 : decode nc_C_monthAndDay 20 = .ok (.sipush 1460, 3) := by decide +kernel
theorem nd_C_monthAndDay_23 : decode nc_C_monthAndDay 23 = .ok (.idiv, 1) := by decide +kernel
theorem nd_C_monthAndDay_24 : decode nc_C_monthAndDay 24 = .ok (.iload_n 3, 1) := by decide +kernel
theorem nd_C_monthAndDay_25 : decode nc_C_monthAndDay 25 = .ok (.ldc 35, 2) := by decide +kernel
theorem nd_C_monthAndDay_27 : decode nc_C_monthAndDay 27 = .ok (.idiv, 1) := by decide +kernel
theorem nd_C_monthAndDay_28 : decode nc_C_monthAndDay 28 = .ok (.isub, 1) := by decide +kernel
theorem nd_C_monthAndDay_29 : decode nc_C_monthAndDay 29 = .ok (.iload_n 3, 1) := by decide +kernel
theorem nd_C_monthAndDay_30 : decode nc_C_monthAndDay 30 = .ok (.ldc 36, 2) := by decide +kernel
theorem nd_C_monthAndDay_32 : decode nc_C_monthAndDay 32 = .ok (.idiv, 1) := by decide +kernel
theorem nd_C_monthAndDay_33 : decode nc_C_monthAndDay 33 = .ok (.iadd, 1) := by decide +kernel
theorem nd_C_monthAndDay_34 : decode nc_C_monthAndDay 34 = .ok (.istore 4, 2) := by decide +kernel
theorem nd_C_monthAndDay_36 : decode nc_C_monthAndDay 36 = .ok (.iload_n 3, 1) := by decide +kernel
theorem nd_C_monthAndDay_37 : decode nc_C_monthAndDay 37 = .ok (.iload 4, 2) := by decide +kernel
theorem nd_C_monthAndDay_39 : decode nc_C_monthAndDay 39 = .ok (.isub, 1) := by decide +kernel
theorem nd_C_monthAndDay_40 : decode nc_C_monthAndDay 40 = .ok (.sipush 365, 3) := by decide +kernel
theorem nd_C_monthAndDay_43 : decode nc_C_monthAndDay 43 = .ok (.idiv, 1) := by decide +kernel
theorem nd_C_monthAndDay_44 : decode nc_C_monthAndDay 44 = .ok (.istore 5, 2) := by decide +kernel
theorem nd_C_monthAndDay_46 : decode nc_C_monthAndDay 46 = .ok (.iload_n 3, 1) := by decide +kernel
theorem nd_C_monthAndDay_47 : decode nc_C_monthAndDay 47 = .ok (.sipush 365, 3) := by decide +kernel
theorem nd_C_monthAndDay_50 : decode nc_C_monthAndDay 50 = .ok (.iload 5, 2) := by decide +kernel
theorem nd_C_monthAndDay_52 : decode nc_C_monthAndDay 52 = .ok (.imul, 1) := by decide +kernel
theorem nd_C_monthAndDay_53 : decode nc_C_monthAndDay 53 = .ok (.iload 5, 2) := by decide +kernel
theorem nd_C_monthAndDay_55 : decode nc_C_monthAndDay 55 = .ok (.iconst 4, 1) := by decide +kernel
theorem nd_C_monthAndDay_56 : decode nc_C_monthAndDay 56 = .ok (.idiv, 1) := by decide +kernel
theorem nd_C_monthAndDay_57 : decode nc_C_monthAndDay 57 = .ok (.iadd, 1) := by decide +kernel
theorem nd_C_monthAndDay_58 : decode nc_C_monthAndDay 58 = .ok (.iload 5, 2) := by decide +kernel
theorem nd_C_monthAndDay_60 : decode nc_C_monthAndDay 60 = .ok (.bipush 100, 2) := by decide +kernel
theorem nd_C_monthAndDay_62 : decode nc_C_monthAndDay 62 = .ok (.idiv, 1) := by decide +kernel
theorem nd_C_monthAndDay_63 : decode nc_C_monthAndDay 63 = .ok (.isub, 1) := by decide +kernel
theorem nd_C_monthAndDay_64 : decode nc_C_monthAndDay 64 = .ok (.isub, 1) := by decide +kernel
theorem nd_C_monthAndDay_65 : decode nc_C_monthAndDay 65 = .ok (.istore 6, 2) := by decide +kernel
theorem nd_C_monthAndDay_67 : decode nc_C_monthAndDay 67 = .ok (.iconst 5, 1) := by decide +kernel
theorem nd_C_monthAndDay_68 : decode nc_C_monthAndDay 68 = .ok (.iload 6, 2) := by decide +kernel
theorem nd_C_monthAndDay_70 : decode nc_C_monthAndDay 70 = .ok (.imul, 1) := by decide +kernel
theorem nd_C_monthAndDay_71 : decode nc_C_monthAndDay 71 = .ok (.iconst 2, 1) := by decide +kernel
theorem nd_C_monthAndDay_72 : decode nc_C_monthAndDay 72 = .ok (.iadd, 1) := by decide +kernel
theorem nd_C_monthAndDay_73 : decode nc_C_monthAndDay 73 = .ok (.sipush 153, 3) := by decide +kernel
theorem nd_C_monthAndDay_76 : decode nc_C_monthAndDay 76 = .ok (.idiv, 1) := by decide +kernel
theorem nd_C_monthAndDay_77 : decode nc_C_monthAndDay 77 = .ok (.istore 7, 2) := by decide +kernel
theorem nd_C_monthAndDay_79 : decode nc_C_monthAndDay 79 = .ok (.iload 6, 2) := by decide +kernel
theorem nd_C_monthAndDay_81 : decode nc_C_monthAndDay 81 = .ok (.sipush 153, 3) := by decide +kernel
theorem nd_C_monthAndDay_84 : decode nc_C_monthAndDay 84 = .ok (.iload 7, 2) := by decide +kernel
theorem nd_C_monthAndDay_86 : decode nc_C_monthAndDay 86 = .ok (.imul, 1) := by decide +kernel
theorem nd_C_monthAndDay_87 : decode nc_C_monthAndDay 87 = .ok (.iconst 2, 1) := by decide +kernel
theorem nd_C_monthAndDay_88 : decode nc_C_monthAndDay 88 = .ok (.iadd, 1) := by decide +kernel
theorem nd_C_monthAndDay_89 : decode nc_C_monthAndDay 89 = .ok (.iconst 5, 1) := by decide +kernel
theorem nd_C_monthAndDay_90 : decode nc_C_monthAndDay 90 = .ok (.idiv, 1) := by decide +kernel
theorem nd_C_monthAndDay_91 : decode nc_C_monthAndDay 91 = .ok (.isub, 1) := by decide +kernel
theorem nd_C_monthAndDay_92 : decode nc_C_monthAndDay 92 = .ok (.iconst 1, 1) := by decide +kernel
theorem nd_C_monthAndDay_93 : decode nc_C_monthAndDay 93 = .ok (.iadd, 1) := by decide +kernel
theorem nd_C_monthAndDay_94 : decode nc_C_monthAndDay 94 = .ok (.istore 8, 2) := by decide +kernel
theorem nd_C_monthAndDay_96 : decode nc_C_monthAndDay 96 = .ok (.sipush 4800, 3) := by decide +kernel
theorem nd_C_monthAndDay_99 : decode nc_C_monthAndDay 99 = .ok (.iload_n 2, 1) := by decide +kernel
theorem nd_C_monthAndDay_100 : decode nc_C_monthAndDay 100 = .ok (.imul, 1) := by decide +kernel
theorem nd_C_monthAndDay_101 : decode nc_C_monthAndDay 101 = .ok (.bipush 12, 2) := by decide +kernel
theorem nd_C_monthAndDay_103 : decode nc_C_monthAndDay 103 = .ok (.iload 5, 2) := by decide +kernel
theorem nd_C_monthAndDay_105 : decode nc_C_monthAndDay 105 = .ok (.imul, 1) := by decide +kernel
theorem nd_C_monthAndDay_106 : decode nc_C_monthAndDay 106 = .ok (.iadd, 1) := by decide +kernel
theorem nd_C_monthAndDay_107 : decode nc_C_monthAndDay 107 = .ok (.iload 7, 2) := by decide +kernel
theorem nd_C_monthAndDay_109 : decode nc_C_monthAndDay 109 = .ok (.iadd, 1) := by decide +kernel
theorem nd_C_monthAndDay_110 : decode nc_C_monthAndDay 110 = .ok (.istore 9, 2) := by decide +kernel
theorem nd_C_monthAndDay_112 : decode nc_C_monthAndDay 112 = .ok (.iload 9, 2) := by decide +kernel
theorem nd_C_monthAndDay_114 : decode nc_C_monthAndDay 114 = .ok (.iconst 5, 1) := by decide +kernel
theorem nd_C_monthAndDay_115 : decode nc_C_monthAndDay 115 = .ok (.ishl, 1) := by decide +kernel
theorem nd_C_monthAndDay_116 : decode nc_C_monthAndDay 116 = .ok (.iload 8, 2) := by decide +kernel
theorem nd_C_monthAndDay_118 : decode nc_C_monthAndDay 118 = .ok (.iadd, 1) := by decide +kernel
theorem nd_C_monthAndDay_119 : decode nc_C_monthAndDay 119 = .ok (.ireturn, 1) := by decide +kernel
theorem nd_T_floorDiv_0 : decode nc_T_floorDiv 0 = .ok (.iload_n 0, 1) := by decide +kernel
theorem nd_T_floorDiv_1 : decode nc_T_floorDiv 1 = .ok (.iload_n 1, 1) := by decide +kernel
theorem nd_T_floorDiv_2 : decode nc_T_floorDiv 2 = .ok (.idiv, 1) := by decide +kernel
theorem nd_T_floorDiv_3 : decode nc_T_floorDiv 3 = .ok (.istore_n 2, 1) := by decide +kernel
theorem nd_T_floorDiv_4 : decode nc_T_floorDiv 4 = .ok (.iload_n 0, 1) := by decide +kernel
theorem nd_T_floorDiv_5 : decode nc_T_floorDiv 5 = .ok (.iload_n 1, 1) := by decide +kernel
theorem nd_T_floorDiv_6 : decode nc_T_floorDiv 6 = .ok (.ixor, 1) := by decide +kernel
theorem nd_T_floorDiv_7 : decode nc_T_floorDiv 7 = .ok (.ifCond .ge 14, 3) := by decide +kernel
theorem nd_T_floorDiv_10 : decode nc_T_floorDiv 10 = .ok (.iload_n 2, 1) := by decide +kernel
theorem nd_T_floorDiv_11 : decode nc_T_floorDiv 11 = .ok (.iload_n 1, 1) := by decide +kernel
theorem nd_T_floorDiv_12 : decode nc_T_floorDiv 12 = .ok (.imul, 1) := by decide +kernel
theorem nd_T_floorDiv_13 : decode nc_T_floorDiv 13 = .ok (.iload_n 0, 1) := by decide +kernel
theorem nd_T_floorDiv_14 : decode nc_T_floorDiv 14 = .ok (.if_icmp .eq 7, 3) := by decide +kernel
theorem nd_T_floorDiv_17 : decode nc_T_floorDiv 17 = .ok (.iload_n 2, 1) := by decide +kernel
theorem nd_T_floorDiv_18 : decode nc_T_floorDiv 18 = .ok (.iconst 1, 1) := by decide +kernel
theorem nd_T_floorDiv_19 : decode nc_T_floorDiv 19 = .ok (.isub, 1) := by decide +kernel
theorem nd_T_floorDiv_20 : decode nc_T_floorDiv 20 = .ok (.ireturn, 1) := by decide +kernel
theorem nd_T_floorDiv_21 : decode nc_T_floorDiv 21 = .ok (.iload_n 2, 1) := by decide +kernel
theorem nd_T_floorDiv_22 : decode nc_T_floorDiv 22 = .ok (.ireturn, 1) := by decide +kernel
theorem nd_T_floorMod_0 : decode nc_T_floorMod 0 = .ok (.iload_n 0, 1) := by decide +kernel
theorem nd_T_floorMod_1 : decode nc_T_floorMod 1 = .ok (.iload_n 1, 1) := by decide +kernel
theorem nd_T_floorMod_2 : decode nc_T_floorMod 2 = .ok (.irem, 1) := by decide +kernel
theorem nd_T_floorMod_3 : decode nc_T_floorMod 3 = .ok (.istore_n 2, 1) := by decide +kernel
theorem nd_T_floorMod_4 : decode nc_T_floorMod 4 = .ok (.iload_n 0, 1) := by decide +kernel
theorem nd_T_floorMod_5 : decode nc_T_floorMod 5 = .ok (.iload_n 1, 1) := by decide +kernel
theorem nd_T_floorMod_6 : decode nc_T_floorMod 6 = .ok (.ixor, 1) := by decide +kernel
theorem nd_T_floorMod_7 : decode nc_T_floorMod 7 = .ok (.ifCond .ge 11, 3) := by decide +kernel
theorem nd_T_floorMod_10 : decode nc_T_floorMod 10 = .ok (.iload_n 2, 1) := by decide +kernel
theorem nd_T_floorMod_11 : decode nc_T_floorMod 11 = .ok (.ifCond .eq 7, 3) := by decide +kernel
theorem nd_T_floorMod_14 : decode nc_T_floorMod 14 = .ok (.iload_n 2, 1) := by decide +kernel
theorem nd_T_floorMod_15 : decode nc_T_floorMod 15 = .ok (.iload_n 1, 1) := by decide +kernel
theorem nd_T_floorMod_16 : decode nc_T_floorMod 16 = .ok (.iadd, 1) := by decide +kernel
theorem nd_T_floorMod_17 : decode nc_T_floorMod 17 = .ok (.ireturn, 1) := by decide +kernel
theorem nd_T_floorMod_18 : decode nc_T_floorMod 18 = .ok (.iload_n 2, 1) := by decide +kernel
theorem nd_T_floorMod_19 : decode nc_T_floorMod 19 = .ok (.ireturn, 1) := by decide +kernel
theorem nd_C_monthIn_0 : decode nc_C_monthIn 0 = .ok (.iload_n 0, 1) := by decide +kernel
theorem nd_C_monthIn_1 : decode nc_C_monthIn 1 = .ok (.iconst 5, 1) := by decide +kernel
theorem nd_C_monthIn_2 : decode nc_C_monthIn 2 = .ok (.ishr, 1) := by decide +kernel
theorem nd_C_monthIn_3 : decode nc_C_monthIn 3 = .ok (.ireturn, 1) := by decide +kernel
theorem nd_R_isFull_0 : decode nc_R_isFull 0 = .ok (.aload_n 0, 1) := by decide +kernel
theorem nd_R_isFull_1 : decode nc_R_isFull 1 = .ok (.getfield 13, 3) := by decide +kernel
theorem nd_R_isFull_4 : decode nc_R_isFull 4 = .ok (.bipush 8, 2) := by decide +kernel
theorem nd_R_isFull_6 : decode nc_R_isFull 6 = .ok (.if_icmp .lt 7, 3) := by decide +kernel
theorem nd_R_isFull_9 : decode nc_R_isFull 9 = .ok (.iconst 1, 1) := by decide +kernel
theorem nd_R_isFull_10 : decode nc_R_isFull 10 = .ok (.goto 4, 3) := by decide +kernel
theorem nd_R_isFull_13 : decode nc_R_isFull 13 = .ok (.iconst 0, 1) := by decide +kernel
theorem nd_R_isFull_14 : decode nc_R_isFull 14 = .ok (.ireturn, 1) := by decide +kernel
theorem nd_R_add_0 : decode nc_R_add 0 = .ok (.aload_n 0, 1) := by decide +kernel
theorem nd_R_add_1 : decode nc_R_add 1 = .ok (.invokevirtual 17, 3) := by decide +kernel
theorem nd_R_add_4 : decode nc_R_add 4 = .ok (.ifCond .ne 23, 3) := by decide +kernel
theorem nd_R_add_7 : decode nc_R_add 7 = .ok (.aload_n 0, 1) := by decide +kernel
theorem nd_R_add_8 : decode nc_R_add 8 = .ok (.getfield 9, 3) := by decide +kernel
theorem nd_R_add_11 : decode nc_R_add 11 = .ok (.aload_n 0, 1) := by decide +kernel
theorem nd_R_add_12 : decode nc_R_add 12 = .ok (.getfield 13, 3) := by decide +kernel
theorem nd_R_add_15 : decode nc_R_add 15 = .ok (.iload_n 1, 1) := by decide +kernel
theorem nd_R_add_16 : decode nc_R_add 16 = .ok (.iastore, 1) := by decide +kernel
theorem nd_R_add_17 : decode nc_R_add 17 = .ok (.aload_n 0, 1) := by decide +kernel
theorem nd_R_add_18 : decode nc_R_add 18 = .ok (.dup, 1) := by decide +kernel
theorem nd_R_add_19 : decode nc_R_add 19 = .ok (.getfield 13, 3) := by decide +kernel
theorem nd_R_add_22 : decode nc_R_add 22 = .ok (.iconst 1, 1) := by decide +kernel
theorem nd_R_add_23 : decode nc_R_add 23 = .ok (.iadd, 1) := by decide +kernel
theorem nd_R_add_24 : decode nc_R_add 24 = .ok (.putfield 13, 3) := by decide +kernel
theorem nd_R_add_27 : decode nc_R_add 27 = .ok (.return_, 1) := by decide +kernel
theorem nd_B_run_0 : decode nc_B_run 0 = .ok (.aload_n 0, 1) := by decide +kernel
theorem nd_B_run_1 : decode nc_B_run 1 = .ok (.getfield 37, 3) := by decide +kernel
theorem nd_B_run_4 : decode nc_B_run 4 = .ok (.getfield 163, 3) := by decide +kernel
theorem nd_B_run_7 : decode nc_B_run 7 = .ok (.ifCond .eq 5, 3) := by decide +kernel
theorem nd_B_run_10 : decode nc_B_run 10 = .ok (.iconst (-1), 1) := by decide +kernel
theorem nd_B_run_11 : decode nc_B_run 11 = .ok (.ireturn, 1) := by decide +kernel
theorem nd_B_run_12 : decode nc_B_run 12 = .ok (.iload_n 1, 1) := by decide +kernel
theorem nd_B_run_13 : decode nc_B_run 13 = .ok (.iconst 1, 1) := by decide +kernel
theorem nd_B_run_14 : decode nc_B_run 14 = .ok (.bipush 31, 2) := by decide +kernel
theorem nd_B_run_16 : decode nc_B_run 16 = .ok (.invokestatic 67, 3) := by decide +kernel
theorem nd_B_run_19 : decode nc_B_run 19 = .ok (.ifCond .ne 6, 3) := by decide +kernel
theorem nd_B_run_22 : decode nc_B_run 22 = .ok (.bipush (-3), 2) := by decide +kernel
theorem nd_B_run_24 : decode nc_B_run 24 = .ok (.ireturn, 1) := by decide +kernel
theorem nd_B_run_25 : decode nc_B_run 25 = .ok (.iconst 0, 1) := by decide +kernel
theorem nd_B_run_26 : decode nc_B_run 26 = .ok (.istore_n 2, 1) := by decide +kernel
theorem nd_B_run_27 : decode nc_B_run 27 = .ok (.iload_n 2, 1) := by decide +kernel
theorem nd_B_run_28 : decode nc_B_run 28 = .ok (.iload_n 1, 1) := by decide +kernel
theorem nd_B_run_29 : decode nc_B_run 29 = .ok (.if_icmp .ge 18, 3) := by decide +kernel
theorem nd_B_run_32 : decode nc_B_run 32 = .ok (.aload_n 0, 1) := by decide +kernel
theorem nd_B_run_33 : decode nc_B_run 33 = .ok (.invokevirtual 167, 3) := by decide +kernel
theorem nd_B_run_36 : decode nc_B_run 36 = .ok (.ifCond .ne 5, 3) := by decide +kernel
theorem nd_B_run_39 : decode nc_B_run 39 = .ok (.iconst (-1), 1) := by decide +kernel
theorem nd_B_run_40 : decode nc_B_run 40 = .ok (.ireturn, 1) := by decide +kernel
theorem nd_B_run_41 : decode nc_B_run 41 = .ok (.iinc 2 1, 3) := by decide +kernel
theorem nd_B_run_44 : decode nc_B_run 44 = .ok (.goto (-17), 3) := by decide +kernel
theorem nd_B_run_47 : decode nc_B_run 47 = .ok (.iload_n 1, 1) := by decide +kernel
theorem nd_B_run_48 : decode nc_B_run 48 = .ok (.ireturn, 1) := by decide +kernel
theorem nd_B_makeDayEnd_0 : decode nc_B_makeDayEnd 0 = .ok (.aload_n 0, 1) := by decide +kernel
theorem nd_B_makeDayEnd_1 : decode nc_B_makeDayEnd 1 = .ok (.getfield 204, 3) := by decide +kernel
theorem nd_B_makeDayEnd_4 : decode nc_B_makeDayEnd 4 = .ok (.ifCond .ne 16, 3) := by decide +kernel
theorem nd_B_makeDayEnd_7 : decode nc_B_makeDayEnd 7 = .ok (.aload_n 0, 1) := by decide +kernel
theorem nd_B_makeDayEnd_8 : decode nc_B_makeDayEnd 8 = .ok (.getfield 37, 3) := by decide +kernel
theorem nd_B_makeDayEnd_11 : decode nc_B_makeDayEnd 11 = .ok (.iconst 0, 1) := by decide +kernel
theorem nd_B_makeDayEnd_12 : decode nc_B_makeDayEnd 12 = .ok (.invokevirtual 79, 3) := by decide +kernel
theorem nd_B_makeDayEnd_15 : decode nc_B_makeDayEnd 15 = .ok (.ifCond .ne 5, 3) := by decide +kernel
theorem nd_B_makeDayEnd_18 : decode nc_B_makeDayEnd 18 = .ok (.iconst 0, 1) := by decide +kernel
theorem nd_B_makeDayEnd_19 : decode nc_B_makeDayEnd 19 = .ok (.ireturn, 1) := by decide +kernel
theorem nd_B_makeDayEnd_20 : decode nc_B_makeDayEnd 20 = .ok (.aload_n 0, 1) := by decide +kernel
theorem nd_B_makeDayEnd_21 : decode nc_B_makeDayEnd 21 = .ok (.iconst 1, 1) := by decide +kernel
theorem nd_B_makeDayEnd_22 : decode nc_B_makeDayEnd 22 = .ok (.putfield 204, 3) := by decide +kernel
theorem nd_B_makeDayEnd_25 : decode nc_B_makeDayEnd 25 = .ok (.iconst 0, 1) := by decide +kernel
theorem nd_B_makeDayEnd_26 : decode nc_B_makeDayEnd 26 = .ok (.istore_n 1, 1) := by decide +kernel
theorem nd_B_makeDayEnd_27 : decode nc_B_makeDayEnd 27 = .ok (.iload_n 1, 1) := by decide +kernel
theorem nd_B_makeDayEnd_28 : decode nc_B_makeDayEnd 28 = .ok (.aload_n 0, 1) := by decide +kernel
theorem nd_B_makeDayEnd_29 : decode nc_B_makeDayEnd 29 = .ok (.getfield 71, 3) := by decide +kernel
theorem nd_B_makeDayEnd_32 : decode nc_B_makeDayEnd 32 = .ok (.if_icmp .ge 40, 3) := by decide +kernel
theorem nd_B_makeDayEnd_35 : decode nc_B_makeDayEnd 35 = .ok (.aload_n 0, 1) := by decide +kernel
theorem nd_B_makeDayEnd_36 : decode nc_B_makeDayEnd 36 = .ok (.getfield 11, 3) := by decide +kernel
theorem nd_B_makeDayEnd_39 : decode nc_B_makeDayEnd 39 = .ok (.iload_n 1, 1) := by decide +kernel
theorem nd_B_makeDayEnd_40 : decode nc_B_makeDayEnd 40 = .ok (.aaload, 1) := by decide +kernel
theorem nd_B_makeDayEnd_41 : decode nc_B_makeDayEnd 41 = .ok (.getfield 97, 3) := by decide +kernel
theorem nd_B_makeDayEnd_44 : decode nc_B_makeDayEnd 44 = .ok (.aload_n 0, 1) := by decide +kernel
theorem nd_B_makeDayEnd_45 : decode nc_B_makeDayEnd 45 = .ok (.getfield 94, 3) := by decide +kernel
theorem nd_B_makeDayEnd_48 : decode nc_B_makeDayEnd 48 = .ok (.if_icmp .ge 18, 3) := by decide +kernel
theorem nd_B_makeDayEnd_51 : decode nc_B_makeDayEnd 51 = .ok (.aload_n 0, 1) := by decide +kernel
theorem nd_B_makeDayEnd_52 : decode nc_B_makeDayEnd 52 = .ok (.aload_n 0, 1) := by decide +kernel
theorem nd_B_makeDayEnd_53 : decode nc_B_makeDayEnd 53 = .ok (.getfield 11, 3) := by decide +kernel
theorem nd_B_makeDayEnd_56 : decode nc_B_makeDayEnd 56 = .ok (.iload_n 1, 1) := by decide +kernel
theorem nd_B_makeDayEnd_57 : decode nc_B_makeDayEnd 57 = .ok (.aaload, 1) := by decide +kernel
theorem nd_B_makeDayEnd_58 : decode nc_B_makeDayEnd 58 = .ok (.invokevirtual 217, 3) := by decide +kernel
theorem nd_B_makeDayEnd_61 : decode nc_B_makeDayEnd 61 = .ok (.ifCond .ne 5, 3) := by decide +kernel
theorem nd_B_makeDayEnd_64 : decode nc_B_makeDayEnd 64 = .ok (.iconst 0, 1) := by decide +kernel
theorem nd_B_makeDayEnd_65 : decode nc_B_makeDayEnd 65 = .ok (.ireturn, 1) := by decide +kernel
theorem nd_B_makeDayEnd_66 : decode nc_B_makeDayEnd 66 = .ok (.iinc 1 1, 3) := by decide +kernel
theorem nd_B_makeDayEnd_69 : decode nc_B_makeDayEnd 69 = .ok (.goto (-42), 3) := by decide +kernel
theorem nd_B_makeDayEnd_72 : decode nc_B_makeDayEnd 72 = .ok (.aload_n 0, 1) := by decide +kernel
theorem nd_B_makeDayEnd_73 : decode nc_B_makeDayEnd 73 = .ok (.getfield 37, 3) := by decide +kernel
theorem nd_B_makeDayEnd_76 : decode nc_B_makeDayEnd 76 = .ok (.iconst 0, 1) := by decide +kernel
theorem nd_B_makeDayEnd_77 : decode nc_B_makeDayEnd 77 = .ok (.invokevirtual 79, 3) := by decide +kernel
theorem nd_B_makeDayEnd_80 : decode nc_B_makeDayEnd 80 = .ok (.ifCond .ne 5, 3) := by decide +kernel
theorem nd_B_makeDayEnd_83 : decode nc_B_makeDayEnd 83 = .ok (.iconst 0, 1) := by decide +kernel
theorem nd_B_makeDayEnd_84 : decode nc_B_makeDayEnd 84 = .ok (.ireturn, 1) := by decide +kernel
theorem nd_B_makeDayEnd_85 : decode nc_B_makeDayEnd 85 = .ok (.aload_n 0, 1) := by decide +kernel
theorem nd_B_makeDayEnd_86 : decode nc_B_makeDayEnd 86 = .ok (.dup, 1) := by decide +kernel
theorem nd_B_makeDayEnd_87 : decode nc_B_makeDayEnd 87 = .ok (.getfield 94, 3) := by decide +kernel
theorem nd_B_makeDayEnd_90 : decode nc_B_makeDayEnd 90 = .ok (.iconst 1, 1) := by decide +kernel
theorem nd_B_makeDayEnd_91 : decode nc_B_makeDayEnd 91 = .ok (.iadd, 1) := by decide +kernel
theorem nd_B_makeDayEnd_92 : decode nc_B_makeDayEnd 92 = .ok (.putfield 94, 3) := by decide +kernel
theorem nd_B_makeDayEnd_95 : decode nc_B_makeDayEnd 95 = .ok (.aload_n 0, 1) := by decide +kernel
theorem nd_B_makeDayEnd_96 : decode nc_B_makeDayEnd 96 = .ok (.iconst 0, 1) := by decide +kernel
theorem nd_B_makeDayEnd_97 : decode nc_B_makeDayEnd 97 = .ok (.putfield 204, 3) := by decide +kernel
theorem nd_B_makeDayEnd_100 : decode nc_B_makeDayEnd 100 = .ok (.iconst 1, 1) := by decide +kernel
theorem nd_B_makeDayEnd_101 : decode nc_B_makeDayEnd 101 = .ok (.ireturn, 1) := by decide +kernel
theorem nd_B_makeStep_0 : decode nc_B_makeStep 0 = .ok (.aload_n 0, 1) := by decide +kernel
theorem nd_B_makeStep_1 : decode nc_B_makeStep 1 = .ok (.aload_n 1, 1) := by decide +kernel
theorem nd_B_makeStep_2 : decode nc_B_makeStep 2 = .ok (.invokevirtual 221, 3) := by decide +kernel
theorem nd_B_makeStep_5 : decode nc_B_makeStep 5 = .ok (.aload_n 0, 1) := by decide +kernel
theorem nd_B_makeStep_6 : decode nc_B_makeStep 6 = .ok (.aload_n 1, 1) := by decide +kernel
theorem nd_B_makeStep_7 : decode nc_B_makeStep 7 = .ok (.invokevirtual 225, 3) := by decide +kernel
theorem nd_B_makeStep_10 : decode nc_B_makeStep 10 = .ok (.ifCond .ne 5, 3) := by decide +kernel
theorem nd_B_makeStep_13 : decode nc_B_makeStep 13 = .ok (.iconst 0, 1) := by decide +kernel
theorem nd_B_makeStep_14 : decode nc_B_makeStep 14 = .ok (.ireturn, 1) := by decide +kernel
theorem nd_B_makeStep_15 : decode nc_B_makeStep 15 = .ok (.aload_n 0, 1) := by decide +kernel
theorem nd_B_makeStep_16 : decode nc_B_makeStep 16 = .ok (.invokevirtual 228, 3) := by decide +kernel
theorem nd_B_makeStep_19 : decode nc_B_makeStep 19 = .ok (.aload_n 1, 1) := by decide +kernel
theorem nd_B_makeStep_20 : decode nc_B_makeStep 20 = .ok (.aload_n 1, 1) := by decide +kernel
theorem nd_B_makeStep_21 : decode nc_B_makeStep 21 = .ok (.getfield 85, 3) := by decide +kernel
theorem nd_B_makeStep_24 : decode nc_B_makeStep 24 = .ok (.aload_n 0, 1) := by decide +kernel
theorem nd_B_makeStep_25 : decode nc_B_makeStep 25 = .ok (.getfield 94, 3) := by decide +kernel
theorem nd_B_makeStep_28 : decode nc_B_makeStep 28 = .ok (.aload_n 0, 1) := by decide +kernel
theorem nd_B_makeStep_29 : decode nc_B_makeStep 29 = .ok (.getfield 94, 3) := by decide +kernel
theorem nd_B_makeStep_32 : decode nc_B_makeStep 32 = .ok (.iconst 1, 1) := by decide +kernel
theorem nd_B_makeStep_33 : decode nc_B_makeStep 33 = .ok (.iadd, 1) := by decide +kernel
theorem nd_B_makeStep_34 : decode nc_B_makeStep 34 = .ok (.invokestatic 194, 3) := by decide +kernel
theorem nd_B_makeStep_37 : decode nc_B_makeStep 37 = .ok (.invokevirtual 231, 3) := by decide +kernel
theorem nd_B_makeStep_40 : decode nc_B_makeStep 40 = .ok (.aload_n 0, 1) := by decide +kernel
theorem nd_B_makeStep_41 : decode nc_B_makeStep 41 = .ok (.getfield 94, 3) := by decide +kernel
theorem nd_B_makeStep_44 : decode nc_B_makeStep 44 = .ok (.invokestatic 234, 3) := by decide +kernel
theorem nd_B_makeStep_47 : decode nc_B_makeStep 47 = .ok (.ifCond .eq 19, 3) := by decide +kernel
theorem nd_B_makeStep_50 : decode nc_B_makeStep 50 = .ok (.aload_n 0, 1) := by decide +kernel
theorem nd_B_makeStep_51 : decode nc_B_makeStep 51 = .ok (.getfield 45, 3) := by decide +kernel
theorem nd_B_makeStep_54 : decode nc_B_makeStep 54 = .ok (.aload_n 1, 1) := by decide +kernel
theorem nd_B_makeStep_55 : decode nc_B_makeStep 55 = .ok (.getfield 82, 3) := by decide +kernel
theorem nd_B_makeStep_58 : decode nc_B_makeStep 58 = .ok (.dup2, 1) := by decide +kernel
theorem nd_B_makeStep_59 : decode nc_B_makeStep 59 = .ok (.laload, 1) := by decide +kernel
theorem nd_B_makeStep_60 : decode nc_B_makeStep 60 = .ok (.aload_n 1, 1) := by decide +kernel
theorem nd_B_makeStep_61 : decode nc_B_makeStep 61 = .ok (.invokevirtual 237, 3) := by decide +kernel
theorem nd_B_makeStep_64 : decode nc_B_makeStep 64 = .ok (.ladd, 1) := by decide +kernel
theorem nd_B_makeStep_65 : decode nc_B_makeStep 65 = .ok (.lastore, 1) := by decide +kernel
theorem nd_B_makeStep_66 : decode nc_B_makeStep 66 = .ok (.aload_n 1, 1) := by decide +kernel
theorem nd_B_makeStep_67 : decode nc_B_makeStep 67 = .ok (.aload_n 0, 1) := by decide +kernel
theorem nd_B_makeStep_68 : decode nc_B_makeStep 68 = .ok (.getfield 94, 3) := by decide +kernel
theorem nd_B_makeStep_71 : decode nc_B_makeStep 71 = .ok (.putfield 97, 3) := by decide +kernel
theorem nd_B_makeStep_74 : decode nc_B_makeStep 74 = .ok (.iconst 1, 1) := by decide +kernel
theorem nd_B_makeStep_75 : decode nc_B_makeStep 75 = .ok (.ireturn, 1) := by decide +kernel
theorem nd_B_planOrders_0 : decode nc_B_planOrders 0 = .ok (.aload_n 1, 1) := by decide +kernel
theorem nd_B_planOrders_1 : decode nc_B_planOrders 1 = .ok (.invokevirtual 114, 3) := by decide +kernel
theorem nd_B_planOrders_4 : decode nc_B_planOrders 4 = .ok (.lstore_n 2, 1) := by decide +kernel
theorem nd_B_planOrders_5 : decode nc_B_planOrders 5 = .ok (.iconst 0, 1) := by decide +kernel
theorem nd_B_planOrders_6 : decode nc_B_planOrders 6 = .ok (.istore 4, 2) := by decide +kernel
theorem nd_B_planOrders_8 : decode nc_B_planOrders 8 = .ok (.iload 4, 2) := by decide +kernel
theorem nd_B_planOrders_10 : decode nc_B_planOrders 10 = .ok (.aload_n 0, 1) := by decide +kernel
theorem nd_B_planOrders_11 : decode nc_B_planOrders 11 = .ok (.getfield 143, 3) := by decide +kernel
theorem nd_B_planOrders_14 : decode nc_B_planOrders 14 = .ok (.if_icmp .ge 106, 3) := by decide +kernel
theorem nd_B_planOrders_17 : decode nc_B_planOrders 17 = .ok (.aload_n 0, 1) := by decide +kernel
theorem nd_B_planOrders_18 : decode nc_B_planOrders 18 = .ok (.getfield 23, 3) := by decide +kernel
theorem nd_B_planOrders_21 : decode nc_B_planOrders 21 = .ok (.iload 4, 2) := by decide +kernel
theorem nd_B_planOrders_23 : decode nc_B_planOrders 23 = .ok (.aaload, 1) := by decide +kernel
theorem nd_B_planOrders_24 : decode nc_B_planOrders 24 = .ok (.astore 5, 2) := by decide +kernel
theorem nd_B_planOrders_26 : decode nc_B_planOrders 26 = .ok (.aload 5, 2) := by decide +kernel
theorem nd_B_planOrders_28 : decode nc_B_planOrders 28 = .ok (.aload 5, 2) := by decide +kernel
theorem nd_B_planOrders_30 : decode nc_B_planOrders 30 = .ok (.getfield 240, 3) := by decide +kernel
theorem nd_B_planOrders_33 : decode nc_B_planOrders 33 = .ok (.aload_n 1, 1) := by decide +kernel
theorem nd_B_planOrders_34 : decode nc_B_planOrders 34 = .ok (.if_acmp .ne 30, 3) := by decide +kernel
theorem nd_B_planOrders_37 : decode nc_B_planOrders 37 = .ok (.aload_n 0, 1) := by decide +kernel
theorem nd_B_planOrders_38 : decode nc_B_planOrders 38 = .ok (.getfield 30, 3) := by decide +kernel
theorem nd_B_planOrders_41 : decode nc_B_planOrders 41 = .ok (.aload 5, 2) := by decide +kernel
theorem nd_B_planOrders_43 : decode nc_B_planOrders 43 = .ok (.getfield 243, 3) := by decide +kernel
theorem nd_B_planOrders_46 : decode nc_B_planOrders 46 = .ok (.aload_n 0, 1) := by decide +kernel
theorem nd_B_planOrders_47 : decode nc_B_planOrders 47 = .ok (.getfield 94, 3) := by decide +kernel
theorem nd_B_planOrders_50 : decode nc_B_planOrders 50 = .ok (.invokevirtual 246, 3) := by decide +kernel
theorem nd_B_planOrders_53 : decode nc_B_planOrders 53 = .ok (.aload_n 0, 1) := by decide +kernel
theorem nd_B_planOrders_54 : decode nc_B_planOrders 54 = .ok (.getfield 94, 3) := by decide +kernel
theorem nd_B_planOrders_57 : decode nc_B_planOrders 57 = .ok (.if_icmp .ne 7, 3) := by decide +kernel
theorem nd_B_planOrders_60 : decode nc_B_planOrders 60 = .ok (.iconst 1, 1) := by decide +kernel
theorem nd_B_planOrders_61 : decode nc_B_planOrders 61 = .ok (.goto 4, 3) := by decide +kernel
theorem nd_B_planOrders_64 : decode nc_B_planOrders 64 = .ok (.iconst 0, 1) := by decide +kernel
theorem nd_B_planOrders_65 : decode nc_B_planOrders 65 = .ok (.putfield 250, 3) := by decide +kernel
theorem nd_B_planOrders_68 : decode nc_B_planOrders 68 = .ok (.aload 5, 2) := by decide +kernel
theorem nd_B_planOrders_70 : decode nc_B_planOrders 70 = .ok (.aload 5, 2) := by decide +kernel
theorem nd_B_planOrders_72 : decode nc_B_planOrders 72 = .ok (.getfield 250, 3) := by decide +kernel
theorem nd_B_planOrders_75 : decode nc_B_planOrders 75 = .ok (.ifCond .eq 18, 3) := by decide +kernel
theorem nd_B_planOrders_78 : decode nc_B_planOrders 78 = .ok (.aload 5, 2) := by decide +kernel
theorem nd_B_planOrders_80 : decode nc_B_planOrders 80 = .ok (.getfield 253, 3) := by decide +kernel
theorem nd_B_planOrders_83 : decode nc_B_planOrders 83 = .ok (.i2l, 1) := by decide +kernel
theorem nd_B_planOrders_84 : decode nc_B_planOrders 84 = .ok (.lload_n 2, 1) := by decide +kernel
theorem nd_B_planOrders_85 : decode nc_B_planOrders 85 = .ok (.lcmp, 1) := by decide +kernel
theorem nd_B_planOrders_86 : decode nc_B_planOrders 86 = .ok (.ifCond .gt 7, 3) := by decide +kernel
theorem nd_B_planOrders_89 : decode nc_B_planOrders 89 = .ok (.iconst 1, 1) := by decide +kernel
theorem nd_B_planOrders_90 : decode nc_B_planOrders 90 = .ok (.goto 4, 3) := by decide +kernel
theorem nd_B_planOrders_93 : decode nc_B_planOrders 93 = .ok (.iconst 0, 1) := by decide +kernel
theorem nd_B_planOrders_94 : decode nc_B_planOrders 94 = .ok (.putfield 254, 3) := by decide +kernel
theorem nd_B_planOrders_97 : decode nc_B_planOrders 97 = .ok (.aload 5, 2) := by decide +kernel
theorem nd_B_planOrders_99 : decode nc_B_planOrders 99 = .ok (.getfield 254, 3) := by decide +kernel
theorem nd_B_planOrders_102 : decode nc_B_planOrders 102 = .ok (.ifCond .eq 12, 3) := by decide +kernel
theorem nd_B_planOrders_105 : decode nc_B_planOrders 105 = .ok (.lload_n 2, 1) := by decide +kernel
theorem nd_B_planOrders_106 : decode nc_B_planOrders 106 = .ok (.aload 5, 2) := by decide +kernel
theorem nd_B_planOrders_108 : decode nc_B_planOrders 108 = .ok (.getfield 253, 3) := by decide +kernel
theorem nd_B_planOrders_111 : decode nc_B_planOrders 111 = .ok (.i2l, 1) := by decide +kernel
theorem nd_B_planOrders_112 : decode nc_B_planOrders 112 = .ok (.lsub, 1) := by decide +kernel
theorem nd_B_planOrders_113 : decode nc_B_planOrders 113 = .ok (.lstore_n 2, 1) := by decide +kernel
theorem nd_B_planOrders_114 : decode nc_B_planOrders 114 = .ok (.iinc 4 1, 3) := by decide +kernel
theorem nd_B_planOrders_117 : decode nc_B_planOrders 117 = .ok (.goto (-109), 3) := by decide +kernel
theorem nd_B_planOrders_120 : decode nc_B_planOrders 120 = .ok (.return_, 1) := by decide +kernel
theorem nd_R_dueDate_0 : decode nc_R_dueDate 0 = .ok (.iload_n 2, 1) := by decide +kernel
theorem nd_R_dueDate_1 : decode nc_R_dueDate 1 = .ok (.iload_n 2, 1) := by decide +kernel
theorem nd_R_dueDate_2 : decode nc_R_dueDate 2 = .ok (.invokestatic 25, 3) := by decide +kernel
theorem nd_R_dueDate_5 : decode nc_R_dueDate 5 = .ok (.invokestatic 31, 3) := by decide +kernel
theorem nd_R_dueDate_8 : decode nc_R_dueDate 8 = .ok (.isub, 1) := by decide +kernel
theorem nd_R_dueDate_9 : decode nc_R_dueDate 9 = .ok (.istore_n 3, 1) := by decide +kernel
theorem nd_R_dueDate_10 : decode nc_R_dueDate 10 = .ok (.bipush 32, 2) := by decide +kernel
theorem nd_R_dueDate_12 : decode nc_R_dueDate 12 = .ok (.iload_n 3, 1) := by decide +kernel
theorem nd_R_dueDate_13 : decode nc_R_dueDate 13 = .ok (.bipush 32, 2) := by decide +kernel
theorem nd_R_dueDate_15 : decode nc_R_dueDate 15 = .ok (.iadd, 1) := by decide +kernel
theorem nd_R_dueDate_16 : decode nc_R_dueDate 16 = .ok (.invokestatic 25, 3) := by decide +kernel
theorem nd_R_dueDate_19 : decode nc_R_dueDate 19 = .ok (.invokestatic 31, 3) := by decide +kernel
theorem nd_R_dueDate_22 : decode nc_R_dueDate 22 = .ok (.isub, 1) := by decide +kernel
theorem nd_R_dueDate_23 : decode nc_R_dueDate 23 = .ok (.istore 4, 2) := by decide +kernel
theorem nd_R_dueDate_25 : decode nc_R_dueDate 25 = .ok (.iload_n 1, 1) := by decide +kernel
theorem nd_R_dueDate_26 : decode nc_R_dueDate 26 = .ok (.iload 4, 2) := by decide +kernel
theorem nd_R_dueDate_28 : decode nc_R_dueDate 28 = .ok (.invokestatic 34, 3) := by decide +kernel
theorem nd_R_dueDate_31 : decode nc_R_dueDate 31 = .ok (.istore 5, 2) := by decide +kernel
theorem nd_R_dueDate_33 : decode nc_R_dueDate 33 = .ok (.iload 5, 2) := by decide +kernel
theorem nd_R_dueDate_35 : decode nc_R_dueDate 35 = .ok (.istore 6, 2) := by decide +kernel
theorem nd_R_dueDate_37 : decode nc_R_dueDate 37 = .ok (.iload 6, 2) := by decide +kernel
theorem nd_R_dueDate_39 : decode nc_R_dueDate 39 = .ok (.iload 4, 2) := by decide +kernel
theorem nd_R_dueDate_41 : decode nc_R_dueDate 41 = .ok (.if_icmp .gt 25, 3) := by decide +kernel
theorem nd_R_dueDate_44 : decode nc_R_dueDate 44 = .ok (.aload_n 0, 1) := by decide +kernel
theorem nd_R_dueDate_45 : decode nc_R_dueDate 45 = .ok (.iload_n 3, 1) := by decide +kernel
theorem nd_R_dueDate_46 : decode nc_R_dueDate 46 = .ok (.iload 6, 2) := by decide +kernel
theorem nd_R_dueDate_48 : decode nc_R_dueDate 48 = .ok (.iadd, 1) := by decide +kernel
theorem nd_R_dueDate_49 : decode nc_R_dueDate 49 = .ok (.invokevirtual 40, 3) := by decide +kernel
theorem nd_R_dueDate_52 : decode nc_R_dueDate 52 = .ok (.ifCond .ne 8, 3) := by decide +kernel
theorem nd_R_dueDate_55 : decode nc_R_dueDate 55 = .ok (.iload_n 3, 1) := by decide +kernel
theorem nd_R_dueDate_56 : decode nc_R_dueDate 56 = .ok (.iload 6, 2) := by decide +kernel
theorem nd_R_dueDate_58 : decode nc_R_dueDate 58 = .ok (.iadd, 1) := by decide +kernel
theorem nd_R_dueDate_59 : decode nc_R_dueDate 59 = .ok (.ireturn, 1) := by decide +kernel
theorem nd_R_dueDate_60 : decode nc_R_dueDate 60 = .ok (.iinc 6 1, 3) := by decide +kernel
theorem nd_R_dueDate_63 : decode nc_R_dueDate 63 = .ok (.goto (-26), 3) := by decide +kernel
theorem nd_R_dueDate_66 : decode nc_R_dueDate 66 = .ok (.iload 5, 2) := by decide +kernel
theorem nd_R_dueDate_68 : decode nc_R_dueDate 68 = .ok (.iconst 1, 1) := by decide +kernel
theorem nd_R_dueDate_69 : decode nc_R_dueDate 69 = .ok (.isub, 1) := by decide +kernel
theorem nd_R_dueDate_70 : decode nc_R_dueDate 70 = .ok (.istore 6, 2) := by decide +kernel
theorem nd_R_dueDate_72 : decode nc_R_dueDate 72 = .ok (.iload 6, 2) := by decide +kernel
theorem nd_R_dueDate_74 : decode nc_R_dueDate 74 = .ok (.iconst 1, 1) := by decide +kernel
theorem nd_R_dueDate_75 : decode nc_R_dueDate 75 = .ok (.if_icmp .lt 25, 3) := by decide +kernel
theorem nd_R_dueDate_78 : decode nc_R_dueDate 78 = .ok (.aload_n 0, 1) := by decide +kernel
theorem nd_R_dueDate_79 : decode nc_R_dueDate 79 = .ok (.iload_n 3, 1) := by decide +kernel
theorem nd_R_dueDate_80 : decode nc_R_dueDate 80 = .ok (.iload 6, 2) := by decide +kernel
theorem nd_R_dueDate_82 : decode nc_R_dueDate 82 = .ok (.iadd, 1) := by decide +kernel
theorem nd_R_dueDate_83 : decode nc_R_dueDate 83 = .ok (.invokevirtual 40, 3) := by decide +kernel
theorem nd_R_dueDate_86 : decode nc_R_dueDate 86 = .ok (.ifCond .ne 8, 3) := by decide +kernel
theorem nd_R_dueDate_89 : decode nc_R_dueDate 89 = .ok (.iload_n 3, 1) := by decide +kernel
theorem nd_R_dueDate_90 : decode nc_R_dueDate 90 = .ok (.iload 6, 2) := by decide +kernel
theorem nd_R_dueDate_92 : decode nc_R_dueDate 92 = .ok (.iadd, 1) := by decide +kernel
theorem nd_R_dueDate_93 : decode nc_R_dueDate 93 = .ok (.ireturn, 1) := by decide +kernel
theorem nd_R_dueDate_94 : decode nc_R_dueDate 94 = .ok (.iinc 6 (-1), 3) := by decide +kernel
theorem nd_R_dueDate_97 : decode nc_R_dueDate 97 = .ok (.goto (-25), 3) := by decide +kernel
theorem nd_R_dueDate_100 : decode nc_R_dueDate 100 = .ok (.iload_n 3, 1) := by decide +kernel
theorem nd_R_dueDate_101 : decode nc_R_dueDate 101 = .ok (.iload 5, 2) := by decide +kernel
theorem nd_R_dueDate_103 : decode nc_R_dueDate 103 = .ok (.iadd, 1) := by decide +kernel
theorem nd_R_dueDate_104 : decode nc_R_dueDate 104 = .ok (.ireturn, 1) := by decide +kernel
theorem nd_C_dayIn_0 : decode nc_C_dayIn 0 = .ok (.iload_n 0, 1) := by decide +kernel
theorem nd_C_dayIn_1 : decode nc_C_dayIn 1 = .ok (.bipush 31, 2) := by decide +kernel
theorem nd_C_dayIn_3 : decode nc_C_dayIn 3 = .ok (.iand, 1) := by decide +kernel
theorem nd_C_dayIn_4 : decode nc_C_dayIn 4 = .ok (.ireturn, 1) := by decide +kernel
theorem nd_T_min_0 : decode nc_T_min 0 = .ok (.iload_n 0, 1) := by decide +kernel
theorem nd_T_min_1 : decode nc_T_min 1 = .ok (.iload_n 1, 1) := by decide +kernel
theorem nd_T_min_2 : decode nc_T_min 2 = .ok (.if_icmp .gt 7, 3) := by decide +kernel
theorem nd_T_min_5 : decode nc_T_min 5 = .ok (.iload_n 0, 1) := by decide +kernel
theorem nd_T_min_6 : decode nc_T_min 6 = .ok (.goto 4, 3) := by decide +kernel
theorem nd_T_min_9 : decode nc_T_min 9 = .ok (.iload_n 1, 1) := by decide +kernel
theorem nd_T_min_10 : decode nc_T_min 10 = .ok (.ireturn, 1) := by decide +kernel
theorem nd_B_writeStep_0 : decode nc_B_writeStep 0 = .ok (.aload_n 1, 1) := by decide +kernel
theorem nd_B_writeStep_1 : decode nc_B_writeStep 1 = .ok (.invokestatic 75, 3) := by decide +kernel
theorem nd_B_writeStep_4 : decode nc_B_writeStep 4 = .ok (.istore_n 2, 1) := by decide +kernel
theorem nd_B_writeStep_5 : decode nc_B_writeStep 5 = .ok (.iconst 2, 1) := by decide +kernel
theorem nd_B_writeStep_6 : decode nc_B_writeStep 6 = .ok (.istore_n 3, 1) := by decide +kernel
theorem nd_B_writeStep_7 : decode nc_B_writeStep 7 = .ok (.iconst 0, 1) := by decide +kernel
theorem nd_B_writeStep_8 : decode nc_B_writeStep 8 = .ok (.istore 4, 2) := by decide +kernel
theorem nd_B_writeStep_10 : decode nc_B_writeStep 10 = .ok (.iload 4, 2) := by decide +kernel
theorem nd_B_writeStep_12 : decode nc_B_writeStep 12 = .ok (.aload_n 0, 1) := by decide +kernel
theorem nd_B_writeStep_13 : decode nc_B_writeStep 13 = .ok (.getfield 143, 3) := by decide +kernel
theorem nd_B_writeStep_16 : decode nc_B_writeStep 16 = .ok (.if_icmp .ge 41, 3) := by decide +kernel
theorem nd_B_writeStep_19 : decode nc_B_writeStep 19 = .ok (.aload_n 0, 1) := by decide +kernel
theorem nd_B_writeStep_20 : decode nc_B_writeStep 20 = .ok (.getfield 23, 3) := by decide +kernel
theorem nd_B_writeStep_23 : decode nc_B_writeStep 23 = .ok (.iload 4, 2) := by decide +kernel
theorem nd_B_writeStep_25 : decode nc_B_writeStep 25 = .ok (.aaload, 1) := by decide +kernel
theorem nd_B_writeStep_26 : decode nc_B_writeStep 26 = .ok (.getfield 254, 3) := by decide +kernel
theorem nd_B_writeStep_29 : decode nc_B_writeStep 29 = .ok (.ifCond .eq 22, 3) := by decide +kernel
theorem nd_B_writeStep_32 : decode nc_B_writeStep 32 = .ok (.iload_n 2, 1) := by decide +kernel
theorem nd_B_writeStep_33 : decode nc_B_writeStep 33 = .ok (.aload_n 0, 1) := by decide +kernel
theorem nd_B_writeStep_34 : decode nc_B_writeStep 34 = .ok (.getfield 23, 3) := by decide +kernel
theorem nd_B_writeStep_37 : decode nc_B_writeStep 37 = .ok (.iload 4, 2) := by decide +kernel
theorem nd_B_writeStep_39 : decode nc_B_writeStep 39 = .ok (.aaload, 1) := by decide +kernel
theorem nd_B_writeStep_40 : decode nc_B_writeStep 40 = .ok (.getfield 257, 3) := by decide +kernel
theorem nd_B_writeStep_43 : decode nc_B_writeStep 43 = .ok (.invokestatic 75, 3) := by decide +kernel
theorem nd_B_writeStep_46 : decode nc_B_writeStep 46 = .ok (.ior, 1) := by decide +kernel
theorem nd_B_writeStep_47 : decode nc_B_writeStep 47 = .ok (.istore_n 2, 1) := by decide +kernel
theorem nd_B_writeStep_48 : decode nc_B_writeStep 48 = .ok (.iinc 3 1, 3) := by decide +kernel
theorem nd_B_writeStep_51 : decode nc_B_writeStep 51 = .ok (.iinc 4 1, 3) := by decide +kernel
theorem nd_B_writeStep_54 : decode nc_B_writeStep 54 = .ok (.goto (-44), 3) := by decide +kernel
theorem nd_B_writeStep_57 : decode nc_B_writeStep 57 = .ok (.aload_n 0, 1) := by decide +kernel
theorem nd_B_writeStep_58 : decode nc_B_writeStep 58 = .ok (.getfield 37, 3) := by decide +kernel
theorem nd_B_writeStep_61 : decode nc_B_writeStep 61 = .ok (.iload_n 2, 1) := by decide +kernel
theorem nd_B_writeStep_62 : decode nc_B_writeStep 62 = .ok (.iload_n 3, 1) := by decide +kernel
theorem nd_B_writeStep_63 : decode nc_B_writeStep 63 = .ok (.invokevirtual 260, 3) := by decide +kernel
theorem nd_B_writeStep_66 : decode nc_B_writeStep 66 = .ok (.ireturn, 1) := by decide +kernel
theorem nd_B_carryOutOrders_0 : decode nc_B_carryOutOrders 0 = .ok (.iconst 0, 1) := by decide +kernel
theorem nd_B_carryOutOrders_1 : decode nc_B_carryOutOrders 1 = .ok (.istore_n 1, 1) := by decide +kernel
theorem nd_B_carryOutOrders_2 : decode nc_B_carryOutOrders 2 = .ok (.iload_n 1, 1) := by decide +kernel
theorem nd_B_carryOutOrders_3 : decode nc_B_carryOutOrders 3 = .ok (.aload_n 0, 1) := by decide +kernel
theorem nd_B_carryOutOrders_4 : decode nc_B_carryOutOrders 4 = .ok (.getfield 143, 3) := by decide +kernel
theorem nd_B_carryOutOrders_7 : decode nc_B_carryOutOrders 7 = .ok (.if_icmp .ge 59, 3) := by decide +kernel
theorem nd_B_carryOutOrders_10 : decode nc_B_carryOutOrders 10 = .ok (.aload_n 0, 1) := by decide +kernel
theorem nd_B_carryOutOrders_11 : decode nc_B_carryOutOrders 11 = .ok (.getfield 23, 3) := by decide +kernel
theorem nd_B_carryOutOrders_14 : decode nc_B_carryOutOrders 14 = .ok (.iload_n 1, 1) := by decide +kernel
theorem nd_B_carryOutOrders_15 : decode nc_B_carryOutOrders 15 = .ok (.aaload, 1) := by decide +kernel
theorem nd_B_carryOutOrders_16 : decode nc_B_carryOutOrders 16 = .ok (.astore_n 2, 1) := by decide +kernel
theorem nd_B_carryOutOrders_17 : decode nc_B_carryOutOrders 17 = .ok (.aload_n 2, 1) := by decide +kernel
theorem nd_B_carryOutOrders_18 : decode nc_B_carryOutOrders 18 = .ok (.getfield 254, 3) := by decide +kernel
theorem nd_B_carryOutOrders_21 : decode nc_B_carryOutOrders 21 = .ok (.ifCond .eq 22, 3) := by decide +kernel
theorem nd_B_carryOutOrders_24 : decode nc_B_carryOutOrders 24 = .ok (.aload_n 0, 1) := by decide +kernel
theorem nd_B_carryOutOrders_25 : decode nc_B_carryOutOrders 25 = .ok (.aload_n 2, 1) := by decide +kernel
theorem nd_B_carryOutOrders_26 : decode nc_B_carryOutOrders 26 = .ok (.getfield 240, 3) := by decide +kernel
theorem nd_B_carryOutOrders_29 : decode nc_B_carryOutOrders 29 = .ok (.aload_n 2, 1) := by decide +kernel
theorem nd_B_carryOutOrders_30 : decode nc_B_carryOutOrders 30 = .ok (.getfield 257, 3) := by decide +kernel
theorem nd_B_carryOutOrders_33 : decode nc_B_carryOutOrders 33 = .ok (.aload_n 2, 1) := by decide +kernel
theorem nd_B_carryOutOrders_34 : decode nc_B_carryOutOrders 34 = .ok (.getfield 253, 3) := by decide +kernel
theorem nd_B_carryOutOrders_37 : decode nc_B_carryOutOrders 37 = .ok (.invokevirtual 118, 3) := by decide +kernel
theorem nd_B_carryOutOrders_40 : decode nc_B_carryOutOrders 40 = .ok (.goto 20, 3) := by decide +kernel
theorem nd_B_carryOutOrders_43 : decode nc_B_carryOutOrders 43 = .ok (.aload_n 2, 1) := by decide +kernel
theorem nd_B_carryOutOrders_44 : decode nc_B_carryOutOrders 44 = .ok (.getfield 250, 3) := by decide +kernel
theorem nd_B_carryOutOrders_47 : decode nc_B_carryOutOrders 47 = .ok (.ifCond .eq 13, 3) := by decide +kernel
theorem nd_B_carryOutOrders_50 : decode nc_B_carryOutOrders 50 = .ok (.aload_n 2, 1) := by decide +kernel
theorem nd_B_carryOutOrders_51 : decode nc_B_carryOutOrders 51 = .ok (.dup, 1) := by decide +kernel
theorem nd_B_carryOutOrders_52 : decode nc_B_carryOutOrders 52 = .ok (.getfield 190, 3) := by decide +kernel
theorem nd_B_carryOutOrders_55 : decode nc_B_carryOutOrders 55 = .ok (.iconst 1, 1) := by decide +kernel
theorem nd_B_carryOutOrders_56 : decode nc_B_carryOutOrders 56 = .ok (.iadd, 1) := by decide +kernel
theorem nd_B_carryOutOrders_57 : decode nc_B_carryOutOrders 57 = .ok (.putfield 190, 3) := by decide +kernel
theorem nd_B_carryOutOrders_60 : decode nc_B_carryOutOrders 60 = .ok (.iinc 1 1, 3) := by decide +kernel
theorem nd_B_carryOutOrders_63 : decode nc_B_carryOutOrders 63 = .ok (.goto (-61), 3) := by decide +kernel
theorem nd_B_carryOutOrders_66 : decode nc_B_carryOutOrders 66 = .ok (.return_, 1) := by decide +kernel
theorem nd_C_dayCount_0 : decode nc_C_dayCount 0 = .ok (.iload_n 0, 1) := by decide +kernel
theorem nd_C_dayCount_1 : decode nc_C_dayCount 1 = .ok (.iconst 2, 1) := by decide +kernel
theorem nd_C_dayCount_2 : decode nc_C_dayCount 2 = .ok (.if_icmp .ne 11, 3) := by decide +kernel
theorem nd_C_dayCount_5 : decode nc_C_dayCount 5 = .ok (.iload_n 1, 1) := by decide +kernel
theorem nd_C_dayCount_6 : decode nc_C_dayCount 6 = .ok (.iload_n 2, 1) := by decide +kernel
theorem nd_C_dayCount_7 : decode nc_C_dayCount 7 = .ok (.invokestatic 9, 3) := by decide +kernel
theorem nd_C_dayCount_10 : decode nc_C_dayCount 10 = .ok (.goto 6, 3) := by decide +kernel
theorem nd_C_dayCount_13 : decode nc_C_dayCount 13 = .ok (.iload_n 2, 1) := by decide +kernel
theorem nd_C_dayCount_14 : decode nc_C_dayCount 14 = .ok (.iload_n 1, 1) := by decide +kernel
theorem nd_C_dayCount_15 : decode nc_C_dayCount 15 = .ok (.isub, 1) := by decide +kernel
theorem nd_C_dayCount_16 : decode nc_C_dayCount 16 = .ok (.ireturn, 1) := by decide +kernel
theorem nd_C_countByMonths_0 : decode nc_C_countByMonths 0 = .ok (.iload_n 0, 1) := by decide +kernel
theorem nd_C_countByMonths_1 : decode nc_C_countByMonths 1 = .ok (.invokestatic 13, 3) := by decide +kernel
theorem nd_C_countByMonths_4 : decode nc_C_countByMonths 4 = .ok (.istore_n 2, 1) := by decide +kernel
theorem nd_C_countByMonths_5 : decode nc_C_countByMonths 5 = .ok (.iload_n 1, 1) := by decide +kernel
theorem nd_C_countByMonths_6 : decode nc_C_countByMonths 6 = .ok (.invokestatic 13, 3) := by decide +kernel
theorem nd_C_countByMonths_9 : decode nc_C_countByMonths 9 = .ok (.istore_n 3, 1) := by decide +kernel
theorem nd_C_countByMonths_10 : decode nc_C_countByMonths 10 = .ok (.iload_n 2, 1) := by decide +kernel
theorem nd_C_countByMonths_11 : decode nc_C_countByMonths 11 = .ok (.invokestatic 17, 3) := by decide +kernel
theorem nd_C_countByMonths_14 : decode nc_C_countByMonths 14 = .ok (.bipush 30, 2) := by decide +kernel
theorem nd_C_countByMonths_16 : decode nc_C_countByMonths 16 = .ok (.invokestatic 20, 3) := by decide +kernel
theorem nd_C_countByMonths_19 : decode nc_C_countByMonths 19 = .ok (.istore 4, 2) := by decide +kernel
theorem nd_C_countByMonths_21 : decode nc_C_countByMonths 21 = .ok (.iload_n 3, 1) := by decide +kernel
theorem nd_C_countByMonths_22 : decode nc_C_countByMonths 22 = .ok (.invokestatic 17, 3) := by decide +kernel
theorem nd_C_countByMonths_25 : decode nc_C_countByMonths 25 = .ok (.istore 5, 2) := by decide +kernel
theorem nd_C_countByMonths_27 : decode nc_C_countByMonths 27 = .ok (.iload 4, 2) := by decide +kernel
theorem nd_C_countByMonths_29 : decode nc_C_countByMonths 29 = .ok (.bipush 30, 2) := by decide +kernel
theorem nd_C_countByMonths_31 : decode nc_C_countByMonths 31 = .ok (.if_icmp .ne 14, 3) := by decide +kernel
theorem nd_C_countByMonths_34 : decode nc_C_countByMonths 34 = .ok (.iload 5, 2) := by decide +kernel
theorem nd_C_countByMonths_36 : decode nc_C_countByMonths 36 = .ok (.bipush 31, 2) := by decide +kernel
theorem nd_C_countByMonths_38 : decode nc_C_countByMonths 38 = .ok (.if_icmp .ne 7, 3) := by decide +kernel
theorem nd_C_countByMonths_41 : decode nc_C_countByMonths 41 = .ok (.bipush 30, 2) := by decide +kernel
theorem nd_C_countByMonths_43 : decode nc_C_countByMonths 43 = .ok (.istore 5, 2) := by decide +kernel
theorem nd_C_countByMonths_45 : decode nc_C_countByMonths 45 = .ok (.bipush 30, 2) := by decide +kernel
theorem nd_C_countByMonths_47 : decode nc_C_countByMonths 47 = .ok (.iload_n 3, 1) := by decide +kernel
theorem nd_C_countByMonths_48 : decode nc_C_countByMonths 48 = .ok (.invokestatic 25, 3) := by decide +kernel
theorem nd_C_countByMonths_51 : decode nc_C_countByMonths 51 = .ok (.iload_n 2, 1) := by decide +kernel
theorem nd_C_countByMonths_52 : decode nc_C_countByMonths 52 = .ok (.invokestatic 25, 3) := by decide +kernel
theorem nd_C_countByMonths_55 : decode nc_C_countByMonths 55 = .ok (.isub, 1) := by decide +kernel
theorem nd_C_countByMonths_56 : decode nc_C_countByMonths 56 = .ok (.imul, 1) := by decide +kernel
theorem nd_C_countByMonths_57 : decode nc_C_countByMonths 57 = .ok (.iload 5, 2) := by decide +kernel
theorem nd_C_countByMonths_59 : decode nc_C_countByMonths 59 = .ok (.iadd, 1) := by decide +kernel
theorem nd_C_countByMonths_60 : decode nc_C_countByMonths 60 = .ok (.iload 4, 2) := by decide +kernel
theorem nd_C_countByMonths_62 : decode nc_C_countByMonths 62 = .ok (.isub, 1) := by decide +kernel
theorem nd_C_countByMonths_63 : decode nc_C_countByMonths 63 = .ok (.ireturn, 1) := by decide +kernel
theorem nd_A_accrue_0 : decode nc_A_accrue 0 = .ok (.aload_n 0, 1) := by decide +kernel
theorem nd_A_accrue_1 : decode nc_A_accrue 1 = .ok (.dup, 1) := by decide +kernel
theorem nd_A_accrue_2 : decode nc_A_accrue 2 = .ok (.getfield 23, 3) := by decide +kernel
theorem nd_A_accrue_5 : decode nc_A_accrue 5 = .ok (.aload_n 0, 1) := by decide +kernel
theorem nd_A_accrue_6 : decode nc_A_accrue 6 = .ok (.getfield 13, 3) := by decide +kernel
theorem nd_A_accrue_9 : decode nc_A_accrue 9 = .ok (.aload_n 0, 1) := by decide +kernel
theorem nd_A_accrue_10 : decode nc_A_accrue 10 = .ok (.getfield 26, 3) := by decide +kernel
theorem nd_A_accrue_13 : decode nc_A_accrue 13 = .ok (.i2l, 1) := by decide +kernel
theorem nd_A_accrue_14 : decode nc_A_accrue 14 = .ok (.lmul, 1) := by decide +kernel
theorem nd_A_accrue_15 : decode nc_A_accrue 15 = .ok (.iload_n 1, 1) := by decide +kernel
theorem nd_A_accrue_16 : decode nc_A_accrue 16 = .ok (.i2l, 1) := by decide +kernel
theorem nd_A_accrue_17 : decode nc_A_accrue 17 = .ok (.lmul, 1) := by decide +kernel
theorem nd_A_accrue_18 : decode nc_A_accrue 18 = .ok (.ladd, 1) := by decide +kernel
theorem nd_A_accrue_19 : decode nc_A_accrue 19 = .ok (.putfield 23, 3) := by decide +kernel
theorem nd_A_accrue_22 : decode nc_A_accrue 22 = .ok (.return_, 1) := by decide +kernel
theorem nd_C_isLastOfMonth_0 : decode nc_C_isLastOfMonth 0 = .ok (.iload_n 0, 1) := by decide +kernel
theorem nd_C_isLastOfMonth_1 : decode nc_C_isLastOfMonth 1 = .ok (.iconst 1, 1) := by decide +kernel
theorem nd_C_isLastOfMonth_2 : decode nc_C_isLastOfMonth 2 = .ok (.iadd, 1) := by decide +kernel
theorem nd_C_isLastOfMonth_3 : decode nc_C_isLastOfMonth 3 = .ok (.invokestatic 13, 3) := by decide +kernel
theorem nd_C_isLastOfMonth_6 : decode nc_C_isLastOfMonth 6 = .ok (.invokestatic 17, 3) := by decide +kernel
theorem nd_C_isLastOfMonth_9 : decode nc_C_isLastOfMonth 9 = .ok (.iconst 1, 1) := by decide +kernel
theorem nd_C_isLastOfMonth_10 : decode nc_C_isLastOfMonth 10 = .ok (.if_icmp .ne 7, 3) := by decide +kernel
theorem nd_C_isLastOfMonth_13 : decode nc_C_isLastOfMonth 13 = .ok (.iconst 1, 1) := by decide +kernel
theorem nd_C_isLastOfMonth_14 : decode nc_C_isLastOfMonth 14 = .ok (.goto 4, 3) := by decide +kernel
theorem nd_C_isLastOfMonth_17 : decode nc_C_isLastOfMonth 17 = .ok (.iconst 0, 1) := by decide +kernel
theorem nd_C_isLastOfMonth_18 : decode nc_C_isLastOfMonth 18 = .ok (.ireturn, 1) := by decide +kernel
theorem nd_A_takeInterest_0 : decode nc_A_takeInterest 0 = .ok (.ldc2_w 29, 3) := by decide +kernel
theorem nd_A_takeInterest_3 : decode nc_A_takeInterest 3 = .ok (.aload_n 0, 1) := by decide +kernel
theorem nd_A_takeInterest_4 : decode nc_A_takeInterest 4 = .ok (.getfield 31, 3) := by decide +kernel
theorem nd_A_takeInterest_7 : decode nc_A_takeInterest 7 = .ok (.invokestatic 34, 3) := by decide +kernel
theorem nd_A_takeInterest_10 : decode nc_A_takeInterest 10 = .ok (.i2l, 1) := by decide +kernel
theorem nd_A_takeInterest_11 : decode nc_A_takeInterest 11 = .ok (.lmul, 1) := by decide +kernel
theorem nd_A_takeInterest_12 : decode nc_A_takeInterest 12 = .ok (.lstore_n 1, 1) := by decide +kernel
theorem nd_A_takeInterest_13 : decode nc_A_takeInterest 13 = .ok (.aload_n 0, 1) := by decide +kernel
theorem nd_A_takeInterest_14 : decode nc_A_takeInterest 14 = .ok (.getfield 23, 3) := by decide +kernel
theorem nd_A_takeInterest_17 : decode nc_A_takeInterest 17 = .ok (.lload_n 1, 1) := by decide +kernel
theorem nd_A_takeInterest_18 : decode nc_A_takeInterest 18 = .ok (.invokestatic 40, 3) := by decide +kernel
theorem nd_A_takeInterest_21 : decode nc_A_takeInterest 21 = .ok (.lstore_n 3, 1) := by decide +kernel
theorem nd_A_takeInterest_22 : decode nc_A_takeInterest 22 = .ok (.aload_n 0, 1) := by decide +kernel
theorem nd_A_takeInterest_23 : decode nc_A_takeInterest 23 = .ok (.dup, 1) := by decide +kernel
theorem nd_A_takeInterest_24 : decode nc_A_takeInterest 24 = .ok (.getfield 13, 3) := by decide +kernel
theorem nd_A_takeInterest_27 : decode nc_A_takeInterest 27 = .ok (.lload_n 3, 1) := by decide +kernel
theorem nd_A_takeInterest_28 : decode nc_A_takeInterest 28 = .ok (.ladd, 1) := by decide +kernel
theorem nd_A_takeInterest_29 : decode nc_A_takeInterest 29 = .ok (.putfield 13, 3) := by decide +kernel
theorem nd_A_takeInterest_32 : decode nc_A_takeInterest 32 = .ok (.aload_n 0, 1) := by decide +kernel
theorem nd_A_takeInterest_33 : decode nc_A_takeInterest 33 = .ok (.dup, 1) := by decide +kernel
theorem nd_A_takeInterest_34 : decode nc_A_takeInterest 34 = .ok (.getfield 23, 3) := by decide +kernel
theorem nd_A_takeInterest_37 : decode nc_A_takeInterest 37 = .ok (.lload_n 3, 1) := by decide +kernel
theorem nd_A_takeInterest_38 : decode nc_A_takeInterest 38 = .ok (.lload_n 1, 1) := by decide +kernel
theorem nd_A_takeInterest_39 : decode nc_A_takeInterest 39 = .ok (.lmul, 1) := by decide +kernel
theorem nd_A_takeInterest_40 : decode nc_A_takeInterest 40 = .ok (.lsub, 1) := by decide +kernel
theorem nd_A_takeInterest_41 : decode nc_A_takeInterest 41 = .ok (.putfield 23, 3) := by decide +kernel
theorem nd_A_takeInterest_44 : decode nc_A_takeInterest 44 = .ok (.lload_n 3, 1) := by decide +kernel
theorem nd_A_takeInterest_45 : decode nc_A_takeInterest 45 = .ok (.lreturn, 1) := by decide +kernel
theorem nd_C_yearOf_0 : decode nc_C_yearOf 0 = .ok (.iload_n 0, 1) := by decide +kernel
theorem nd_C_yearOf_1 : decode nc_C_yearOf 1 = .ok (.ifCond .ne 9, 3) := by decide +kernel
theorem nd_C_yearOf_4 : decode nc_C_yearOf 4 = .ok (.sipush 365, 3) := by decide +kernel
theorem nd_C_yearOf_7 : decode nc_C_yearOf 7 = .ok (.goto 6, 3) := by decide +kernel
theorem nd_C_yearOf_10 : decode nc_C_yearOf 10 = .ok (.sipush 360, 3) := by decide +kernel
theorem nd_C_yearOf_13 : decode nc_C_yearOf 13 = .ok (.ireturn, 1) := by decide +kernel
theorem nd_A_nearest_0 : decode nc_A_nearest 0 = .ok (.lload_n 0, 1) := by decide +kernel
theorem nd_A_nearest_1 : decode nc_A_nearest 1 = .ok (.lload_n 2, 1) := by decide +kernel
theorem nd_A_nearest_2 : decode nc_A_nearest 2 = .ok (.invokestatic 44, 3) := by decide +kernel
theorem nd_A_nearest_5 : decode nc_A_nearest 5 = .ok (.lstore 4, 2) := by decide +kernel
theorem nd_A_nearest_7 : decode nc_A_nearest 7 = .ok (.ldc2_w 49, 3) := by decide +kernel
theorem nd_A_nearest_10 : decode nc_A_nearest 10 = .ok (.lload_n 0, 1) := by decide +kernel
theorem nd_A_nearest_11 : decode nc_A_nearest 11 = .ok (.lload 4, 2) := by decide +kernel
theorem nd_A_nearest_13 : decode nc_A_nearest 13 = .ok (.lload_n 2, 1) := by decide +kernel
theorem nd_A_nearest_14 : decode nc_A_nearest 14 = .ok (.lmul, 1) := by decide +kernel
theorem nd_A_nearest_15 : decode nc_A_nearest 15 = .ok (.lsub, 1) := by decide +kernel
theorem nd_A_nearest_16 : decode nc_A_nearest 16 = .ok (.lmul, 1) := by decide +kernel
theorem nd_A_nearest_17 : decode nc_A_nearest 17 = .ok (.lstore 6, 2) := by decide +kernel
theorem nd_A_nearest_19 : decode nc_A_nearest 19 = .ok (.lload 4, 2) := by decide +kernel
theorem nd_A_nearest_21 : decode nc_A_nearest 21 = .ok (.lconst 1, 1) := by decide +kernel
theorem nd_A_nearest_22 : decode nc_A_nearest 22 = .ok (.land, 1) := by decide +kernel
theorem nd_A_nearest_23 : decode nc_A_nearest 23 = .ok (.lconst 1, 1) := by decide +kernel
theorem nd_A_nearest_24 : decode nc_A_nearest 24 = .ok (.lcmp, 1) := by decide +kernel
theorem nd_A_nearest_25 : decode nc_A_nearest 25 = .ok (.ifCond .ne 7, 3) := by decide +kernel
theorem nd_A_nearest_28 : decode nc_A_nearest 28 = .ok (.iconst 1, 1) := by decide +kernel
theorem nd_A_nearest_29 : decode nc_A_nearest 29 = .ok (.goto 4, 3) := by decide +kernel
theorem nd_A_nearest_32 : decode nc_A_nearest 32 = .ok (.iconst 0, 1) := by decide +kernel
theorem nd_A_nearest_33 : decode nc_A_nearest 33 = .ok (.istore 8, 2) := by decide +kernel
theorem nd_A_nearest_35 : decode nc_A_nearest 35 = .ok (.lload 6, 2) := by decide +kernel
theorem nd_A_nearest_37 : decode nc_A_nearest 37 = .ok (.lload_n 2, 1) := by decide +kernel
theorem nd_A_nearest_38 : decode nc_A_nearest 38 = .ok (.lcmp, 1) := by decide +kernel
theorem nd_A_nearest_39 : decode nc_A_nearest 39 = .ok (.ifCond .gt 15, 3) := by decide +kernel
theorem nd_A_nearest_42 : decode nc_A_nearest 42 = .ok (.lload 6, 2) := by decide +kernel
theorem nd_A_nearest_44 : decode nc_A_nearest 44 = .ok (.lload_n 2, 1) := by decide +kernel
theorem nd_A_nearest_45 : decode nc_A_nearest 45 = .ok (.lcmp, 1) := by decide +kernel
theorem nd_A_nearest_46 : decode nc_A_nearest 46 = .ok (.ifCond .ne 12, 3) := by decide +kernel
theorem nd_A_nearest_49 : decode nc_A_nearest 49 = .ok (.iload 8, 2) := by decide +kernel
theorem nd_A_nearest_51 : decode nc_A_nearest 51 = .ok (.ifCond .eq 7, 3) := by decide +kernel
theorem nd_A_nearest_54 : decode nc_A_nearest 54 = .ok (.iconst 1, 1) := by decide +kernel
theorem nd_A_nearest_55 : decode nc_A_nearest 55 = .ok (.goto 4, 3) := by decide +kernel
theorem nd_A_nearest_58 : decode nc_A_nearest 58 = .ok (.iconst 0, 1) := by decide +kernel
theorem nd_A_nearest_59 : decode nc_A_nearest 59 = .ok (.istore 9, 2) := by decide +kernel
theorem nd_A_nearest_61 : decode nc_A_nearest 61 = .ok (.iload 9, 2) := by decide +kernel
theorem nd_A_nearest_63 : decode nc_A_nearest 63 = .ok (.ifCond .eq 10, 3) := by decide +kernel
theorem nd_A_nearest_66 : decode nc_A_nearest 66 = .ok (.lload 4, 2) := by decide +kernel
theorem nd_A_nearest_68 : decode nc_A_nearest 68 = .ok (.lconst 1, 1) := by decide +kernel
theorem nd_A_nearest_69 : decode nc_A_nearest 69 = .ok (.ladd, 1) := by decide +kernel
theorem nd_A_nearest_70 : decode nc_A_nearest 70 = .ok (.goto 5, 3) := by decide +kernel
theorem nd_A_nearest_73 : decode nc_A_nearest 73 = .ok (.lload 4, 2) := by decide +kernel
theorem nd_A_nearest_75 : decode nc_A_nearest 75 = .ok (.lreturn, 1) := by decide +kernel
theorem nd_T_floorDivL_0 : decode nc_T_floorDivL 0 = .ok (.lload_n 0, 1) := by decide +kernel
theorem nd_T_floorDivL_1 : decode nc_T_floorDivL 1 = .ok (.lload_n 2, 1) := by decide +kernel
theorem nd_T_floorDivL_2 : decode nc_T_floorDivL 2 = .ok (.ldiv, 1) := by decide +kernel
theorem nd_T_floorDivL_3 : decode nc_T_floorDivL 3 = .ok (.lstore 4, 2) := by decide +kernel
theorem nd_T_floorDivL_5 : decode nc_T_floorDivL 5 = .ok (.lload_n 0, 1) := by decide +kernel
theorem nd_T_floorDivL_6 : decode nc_T_floorDivL 6 = .ok (.lload_n 2, 1) := by decide +kernel
theorem nd_T_floorDivL_7 : decode nc_T_floorDivL 7 = .ok (.lxor, 1) := by decide +kernel
theorem nd_T_floorDivL_8 : decode nc_T_floorDivL 8 = .ok (.lconst 0, 1) := by decide +kernel
theorem nd_T_floorDivL_9 : decode nc_T_floorDivL 9 = .ok (.lcmp, 1) := by decide +kernel
theorem nd_T_floorDivL_10 : decode nc_T_floorDivL 10 = .ok (.ifCond .ge 17, 3) := by decide +kernel
theorem nd_T_floorDivL_13 : decode nc_T_floorDivL 13 = .ok (.lload 4, 2) := by decide +kernel
theorem nd_T_floorDivL_15 : decode nc_T_floorDivL 15 = .ok (.lload_n 2, 1) := by decide +kernel
theorem nd_T_floorDivL_16 : decode nc_T_floorDivL 16 = .ok (.lmul, 1) := by decide +kernel
theorem nd_T_floorDivL_17 : decode nc_T_floorDivL 17 = .ok (.lload_n 0, 1) := by decide +kernel
theorem nd_T_floorDivL_18 : decode nc_T_floorDivL 18 = .ok (.lcmp, 1) := by decide +kernel
theorem nd_T_floorDivL_19 : decode nc_T_floorDivL 19 = .ok (.ifCond .eq 8, 3) := by decide +kernel
theorem nd_T_floorDivL_22 : decode nc_T_floorDivL 22 = .ok (.lload 4, 2) := by decide +kernel
theorem nd_T_floorDivL_24 : decode nc_T_floorDivL 24 = .ok (.lconst 1, 1) := by decide +kernel
theorem nd_T_floorDivL_25 : decode nc_T_floorDivL 25 = .ok (.lsub, 1) := by decide +kernel
theorem nd_T_floorDivL_26 : decode nc_T_floorDivL 26 = .ok (.lreturn, 1) := by decide +kernel
theorem nd_T_floorDivL_27 : decode nc_T_floorDivL 27 = .ok (.lload 4, 2) := by decide +kernel
theorem nd_T_floorDivL_29 : decode nc_T_floorDivL 29 = .ok (.lreturn, 1) := by decide +kernel
theorem nd_B_fuse_0 : decode nc_B_fuse 0 = .ok (.aload_n 0, 1) := by decide +kernel
theorem nd_B_fuse_1 : decode nc_B_fuse 1 = .ok (.getfield 37, 3) := by decide +kernel
theorem nd_B_fuse_4 : decode nc_B_fuse 4 = .ok (.getfield 163, 3) := by decide +kernel
theorem nd_B_fuse_7 : decode nc_B_fuse 7 = .ok (.ifCond .ne 14, 3) := by decide +kernel
theorem nd_B_fuse_10 : decode nc_B_fuse 10 = .ok (.iload_n 1, 1) := by decide +kernel
theorem nd_B_fuse_11 : decode nc_B_fuse 11 = .ok (.iconst (-1), 1) := by decide +kernel
theorem nd_B_fuse_12 : decode nc_B_fuse 12 = .ok (.sipush 500, 3) := by decide +kernel
theorem nd_B_fuse_15 : decode nc_B_fuse 15 = .ok (.invokestatic 67, 3) := by decide +kernel
theorem nd_B_fuse_18 : decode nc_B_fuse 18 = .ok (.ifCond .ne 5, 3) := by decide +kernel
theorem nd_B_fuse_21 : decode nc_B_fuse 21 = .ok (.iconst 0, 1) := by decide +kernel
theorem nd_B_fuse_22 : decode nc_B_fuse 22 = .ok (.ireturn, 1) := by decide +kernel
theorem nd_B_fuse_23 : decode nc_B_fuse 23 = .ok (.aload_n 0, 1) := by decide +kernel
theorem nd_B_fuse_24 : decode nc_B_fuse 24 = .ok (.getfield 37, 3) := by decide +kernel
theorem nd_B_fuse_27 : decode nc_B_fuse 27 = .ok (.iload_n 1, 1) := by decide +kernel
theorem nd_B_fuse_28 : decode nc_B_fuse 28 = .ok (.putfield 170, 3) := by decide +kernel
theorem nd_B_fuse_31 : decode nc_B_fuse 31 = .ok (.iconst 1, 1) := by decide +kernel
theorem nd_B_fuse_32 : decode nc_B_fuse 32 = .ok (.ireturn, 1) := by decide +kernel
theorem nd_B_restart_0 : decode nc_B_restart 0 = .ok (.aload_n 0, 1) := by decide +kernel
theorem nd_B_restart_1 : decode nc_B_restart 1 = .ok (.getfield 37, 3) := by decide +kernel
theorem nd_B_restart_4 : decode nc_B_restart 4 = .ok (.getfield 163, 3) := by decide +kernel
theorem nd_B_restart_7 : decode nc_B_restart 7 = .ok (.ifCond .ne 6, 3) := by decide +kernel
theorem nd_B_restart_10 : decode nc_B_restart 10 = .ok (.bipush (-3), 2) := by decide +kernel
theorem nd_B_restart_12 : decode nc_B_restart 12 = .ok (.ireturn, 1) := by decide +kernel
theorem nd_B_restart_13 : decode nc_B_restart 13 = .ok (.aload_n 0, 1) := by decide +kernel
theorem nd_B_restart_14 : decode nc_B_restart 14 = .ok (.getfield 37, 3) := by decide +kernel
theorem nd_B_restart_17 : decode nc_B_restart 17 = .ok (.iconst 0, 1) := by decide +kernel
theorem nd_B_restart_18 : decode nc_B_restart 18 = .ok (.putfield 163, 3) := by decide +kernel
theorem nd_B_restart_21 : decode nc_B_restart 21 = .ok (.aload_n 0, 1) := by decide +kernel
theorem nd_B_restart_22 : decode nc_B_restart 22 = .ok (.getfield 37, 3) := by decide +kernel
theorem nd_B_restart_25 : decode nc_B_restart 25 = .ok (.iconst (-1), 1) := by decide +kernel
theorem nd_B_restart_26 : decode nc_B_restart 26 = .ok (.putfield 170, 3) := by decide +kernel
theorem nd_B_restart_29 : decode nc_B_restart 29 = .ok (.aload_n 0, 1) := by decide +kernel
theorem nd_B_restart_30 : decode nc_B_restart 30 = .ok (.getfield 37, 3) := by decide +kernel
theorem nd_B_restart_33 : decode nc_B_restart 33 = .ok (.getfield 173, 3) := by decide +kernel
theorem nd_B_restart_36 : decode nc_B_restart 36 = .ok (.ireturn, 1) := by decide +kernel
theorem nd_B_balance_0 : decode nc_B_balance 0 = .ok (.aload_n 0, 1) := by decide +kernel
theorem nd_B_balance_1 : decode nc_B_balance 1 = .ok (.iload_n 1, 1) := by decide +kernel
theorem nd_B_balance_2 : decode nc_B_balance 2 = .ok (.invokevirtual 176, 3) := by decide +kernel
theorem nd_B_balance_5 : decode nc_B_balance 5 = .ok (.astore_n 2, 1) := by decide +kernel
theorem nd_B_balance_6 : decode nc_B_balance 6 = .ok (.aload_n 2, 1) := by decide +kernel
theorem nd_B_balance_7 : decode nc_B_balance 7 = .ok (.ifnonnull 7, 3) := by decide +kernel
theorem nd_B_balance_10 : decode nc_B_balance 10 = .ok (.lconst 0, 1) := by decide +kernel
theorem nd_B_balance_11 : decode nc_B_balance 11 = .ok (.goto 7, 3) := by decide +kernel
theorem nd_B_balance_14 : decode nc_B_balance 14 = .ok (.aload_n 2, 1) := by decide +kernel
theorem nd_B_balance_15 : decode nc_B_balance 15 = .ok (.getfield 179, 3) := by decide +kernel
theorem nd_B_balance_18 : decode nc_B_balance 18 = .ok (.lreturn, 1) := by decide +kernel
theorem nd_B_shownAccount_0 : decode nc_B_shownAccount 0 = .ok (.aload_n 0, 1) := by decide +kernel
theorem nd_B_shownAccount_1 : decode nc_B_shownAccount 1 = .ok (.getfield 37, 3) := by decide +kernel
theorem nd_B_shownAccount_4 : decode nc_B_shownAccount 4 = .ok (.getfield 163, 3) := by decide +kernel
theorem nd_B_shownAccount_7 : decode nc_B_shownAccount 7 = .ok (.ifCond .eq 7, 3) := by decide +kernel
theorem nd_B_shownAccount_10 : decode nc_B_shownAccount 10 = .ok (.aconst_null, 1) := by decide +kernel
theorem nd_B_shownAccount_11 : decode nc_B_shownAccount 11 = .ok (.goto 8, 3) := by decide +kernel
theorem nd_B_shownAccount_14 : decode nc_B_shownAccount 14 = .ok (.aload_n 0, 1) := by decide +kernel
theorem nd_B_shownAccount_15 : decode nc_B_shownAccount 15 = .ok (.iload_n 1, 1) := by decide +kernel
theorem nd_B_shownAccount_16 : decode nc_B_shownAccount 16 = .ok (.invokevirtual 110, 3) := by decide +kernel
theorem nd_B_shownAccount_19 : decode nc_B_shownAccount 19 = .ok (.areturn, 1) := by decide +kernel
theorem nd_B_available_0 : decode nc_B_available 0 = .ok (.aload_n 0, 1) := by decide +kernel
theorem nd_B_available_1 : decode nc_B_available 1 = .ok (.iload_n 1, 1) := by decide +kernel
theorem nd_B_available_2 : decode nc_B_available 2 = .ok (.invokevirtual 176, 3) := by decide +kernel
theorem nd_B_available_5 : decode nc_B_available 5 = .ok (.astore_n 2, 1) := by decide +kernel
theorem nd_B_available_6 : decode nc_B_available 6 = .ok (.aload_n 2, 1) := by decide +kernel
theorem nd_B_available_7 : decode nc_B_available 7 = .ok (.ifnonnull 7, 3) := by decide +kernel
theorem nd_B_available_10 : decode nc_B_available 10 = .ok (.lconst 0, 1) := by decide +kernel
theorem nd_B_available_11 : decode nc_B_available 11 = .ok (.goto 7, 3) := by decide +kernel
theorem nd_B_available_14 : decode nc_B_available 14 = .ok (.aload_n 2, 1) := by decide +kernel
theorem nd_B_available_15 : decode nc_B_available 15 = .ok (.invokevirtual 114, 3) := by decide +kernel
theorem nd_B_available_18 : decode nc_B_available 18 = .ok (.lreturn, 1) := by decide +kernel
theorem nd_B_accrued_0 : decode nc_B_accrued 0 = .ok (.aload_n 0, 1) := by decide +kernel
theorem nd_B_accrued_1 : decode nc_B_accrued 1 = .ok (.iload_n 1, 1) := by decide +kernel
theorem nd_B_accrued_2 : decode nc_B_accrued 2 = .ok (.invokevirtual 176, 3) := by decide +kernel
theorem nd_B_accrued_5 : decode nc_B_accrued 5 = .ok (.astore_n 2, 1) := by decide +kernel
theorem nd_B_accrued_6 : decode nc_B_accrued 6 = .ok (.aload_n 2, 1) := by decide +kernel
theorem nd_B_accrued_7 : decode nc_B_accrued 7 = .ok (.ifnonnull 7, 3) := by decide +kernel
theorem nd_B_accrued_10 : decode nc_B_accrued 10 = .ok (.lconst 0, 1) := by decide +kernel
theorem nd_B_accrued_11 : decode nc_B_accrued 11 = .ok (.goto 7, 3) := by decide +kernel
theorem nd_B_accrued_14 : decode nc_B_accrued 14 = .ok (.aload_n 2, 1) := by decide +kernel
theorem nd_B_accrued_15 : decode nc_B_accrued 15 = .ok (.getfield 183, 3) := by decide +kernel
theorem nd_B_accrued_18 : decode nc_B_accrued 18 = .ok (.lreturn, 1) := by decide +kernel
theorem nd_B_mark_0 : decode nc_B_mark 0 = .ok (.aload_n 0, 1) := by decide +kernel
theorem nd_B_mark_1 : decode nc_B_mark 1 = .ok (.iload_n 1, 1) := by decide +kernel
theorem nd_B_mark_2 : decode nc_B_mark 2 = .ok (.invokevirtual 176, 3) := by decide +kernel
theorem nd_B_mark_5 : decode nc_B_mark 5 = .ok (.astore_n 2, 1) := by decide +kernel
theorem nd_B_mark_6 : decode nc_B_mark 6 = .ok (.aload_n 2, 1) := by decide +kernel
theorem nd_B_mark_7 : decode nc_B_mark 7 = .ok (.ifnonnull 7, 3) := by decide +kernel
theorem nd_B_mark_10 : decode nc_B_mark 10 = .ok (.iconst 0, 1) := by decide +kernel
theorem nd_B_mark_11 : decode nc_B_mark 11 = .ok (.goto 7, 3) := by decide +kernel
theorem nd_B_mark_14 : decode nc_B_mark 14 = .ok (.aload_n 2, 1) := by decide +kernel
theorem nd_B_mark_15 : decode nc_B_mark 15 = .ok (.getfield 97, 3) := by decide +kernel
theorem nd_B_mark_18 : decode nc_B_mark 18 = .ok (.ireturn, 1) := by decide +kernel
theorem nd_B_ledger_0 : decode nc_B_ledger 0 = .ok (.aload_n 0, 1) := by decide +kernel
theorem nd_B_ledger_1 : decode nc_B_ledger 1 = .ok (.getfield 37, 3) := by decide +kernel
theorem nd_B_ledger_4 : decode nc_B_ledger 4 = .ok (.getfield 163, 3) := by decide +kernel
theorem nd_B_ledger_7 : decode nc_B_ledger 7 = .ok (.ifCond .ne 10, 3) := by decide +kernel
theorem nd_B_ledger_10 : decode nc_B_ledger 10 = .ok (.iload_n 1, 1) := by decide +kernel
theorem nd_B_ledger_11 : decode nc_B_ledger 11 = .ok (.invokestatic 57, 3) := by decide +kernel
theorem nd_B_ledger_14 : decode nc_B_ledger 14 = .ok (.ifCond .ne 5, 3) := by decide +kernel
theorem nd_B_ledger_17 : decode nc_B_ledger 17 = .ok (.lconst 0, 1) := by decide +kernel
theorem nd_B_ledger_18 : decode nc_B_ledger 18 = .ok (.lreturn, 1) := by decide +kernel
theorem nd_B_ledger_19 : decode nc_B_ledger 19 = .ok (.iload_n 2, 1) := by decide +kernel
theorem nd_B_ledger_20 : decode nc_B_ledger 20 = .ok (.tableswitch 48 0 2 #[28, 35, 42], 28) := by decide +kernel
theorem nd_B_ledger_48 : decode nc_B_ledger 48 = .ok (.aload_n 0, 1) := by decide +kernel
theorem nd_B_ledger_49 : decode nc_B_ledger 49 = .ok (.getfield 41, 3) := by decide +kernel
theorem nd_B_ledger_52 : decode nc_B_ledger 52 = .ok (.iload_n 1, 1) := by decide +kernel
theorem nd_B_ledger_53 : decode nc_B_ledger 53 = .ok (.laload, 1) := by decide +kernel
theorem nd_B_ledger_54 : decode nc_B_ledger 54 = .ok (.lreturn, 1) := by decide +kernel
theorem nd_B_ledger_55 : decode nc_B_ledger 55 = .ok (.aload_n 0, 1) := by decide +kernel
theorem nd_B_ledger_56 : decode nc_B_ledger 56 = .ok (.getfield 45, 3) := by decide +kernel
theorem nd_B_ledger_59 : decode nc_B_ledger 59 = .ok (.iload_n 1, 1) := by decide +kernel
theorem nd_B_ledger_60 : decode nc_B_ledger 60 = .ok (.laload, 1) := by decide +kernel
theorem nd_B_ledger_61 : decode nc_B_ledger 61 = .ok (.lreturn, 1) := by decide +kernel
theorem nd_B_ledger_62 : decode nc_B_ledger 62 = .ok (.aload_n 0, 1) := by decide +kernel
theorem nd_B_ledger_63 : decode nc_B_ledger 63 = .ok (.iload_n 1, 1) := by decide +kernel
theorem nd_B_ledger_64 : decode nc_B_ledger 64 = .ok (.invokevirtual 186, 3) := by decide +kernel
theorem nd_B_ledger_67 : decode nc_B_ledger 67 = .ok (.lreturn, 1) := by decide +kernel
theorem nd_B_ledger_68 : decode nc_B_ledger 68 = .ok (.lconst 0, 1) := by decide +kernel
theorem nd_B_ledger_69 : decode nc_B_ledger 69 = .ok (.lreturn, 1) := by decide +kernel
theorem nd_B_sumOfBalances_0 : decode nc_B_sumOfBalances 0 = .ok (.lconst 0, 1) := by decide +kernel
theorem nd_B_sumOfBalances_1 : decode nc_B_sumOfBalances 1 = .ok (.lstore_n 2, 1) := by decide +kernel
theorem nd_B_sumOfBalances_2 : decode nc_B_sumOfBalances 2 = .ok (.iconst 0, 1) := by decide +kernel
theorem nd_B_sumOfBalances_3 : decode nc_B_sumOfBalances 3 = .ok (.istore 4, 2) := by decide +kernel
theorem nd_B_sumOfBalances_5 : decode nc_B_sumOfBalances 5 = .ok (.iload 4, 2) := by decide +kernel
theorem nd_B_sumOfBalances_7 : decode nc_B_sumOfBalances 7 = .ok (.aload_n 0, 1) := by decide +kernel
theorem nd_B_sumOfBalances_8 : decode nc_B_sumOfBalances 8 = .ok (.getfield 71, 3) := by decide +kernel
theorem nd_B_sumOfBalances_11 : decode nc_B_sumOfBalances 11 = .ok (.if_icmp .ge 36, 3) := by decide +kernel
theorem nd_B_sumOfBalances_14 : decode nc_B_sumOfBalances 14 = .ok (.aload_n 0, 1) := by decide +kernel
theorem nd_B_sumOfBalances_15 : decode nc_B_sumOfBalances 15 = .ok (.getfield 11, 3) := by decide +kernel
theorem nd_B_sumOfBalances_18 : decode nc_B_sumOfBalances 18 = .ok (.iload 4, 2) := by decide +kernel
theorem nd_B_sumOfBalances_20 : decode nc_B_sumOfBalances 20 = .ok (.aaload, 1) := by decide +kernel
theorem nd_B_sumOfBalances_21 : decode nc_B_sumOfBalances 21 = .ok (.getfield 82, 3) := by decide +kernel
theorem nd_B_sumOfBalances_24 : decode nc_B_sumOfBalances 24 = .ok (.iload_n 1, 1) := by decide +kernel
theorem nd_B_sumOfBalances_25 : decode nc_B_sumOfBalances 25 = .ok (.if_icmp .ne 16, 3) := by decide +kernel
theorem nd_B_sumOfBalances_28 : decode nc_B_sumOfBalances 28 = .ok (.lload_n 2, 1) := by decide +kernel
theorem nd_B_sumOfBalances_29 : decode nc_B_sumOfBalances 29 = .ok (.aload_n 0, 1) := by decide +kernel
theorem nd_B_sumOfBalances_30 : decode nc_B_sumOfBalances 30 = .ok (.getfield 11, 3) := by decide +kernel
theorem nd_B_sumOfBalances_33 : decode nc_B_sumOfBalances 33 = .ok (.iload 4, 2) := by decide +kernel
theorem nd_B_sumOfBalances_35 : decode nc_B_sumOfBalances 35 = .ok (.aaload, 1) := by decide +kernel
theorem nd_B_sumOfBalances_36 : decode nc_B_sumOfBalances 36 = .ok (.getfield 179, 3) := by decide +kernel
theorem nd_B_sumOfBalances_39 : decode nc_B_sumOfBalances 39 = .ok (.ladd, 1) := by decide +kernel
theorem nd_B_sumOfBalances_40 : decode nc_B_sumOfBalances 40 = .ok (.lstore_n 2, 1) := by decide +kernel
theorem nd_B_sumOfBalances_41 : decode nc_B_sumOfBalances 41 = .ok (.iinc 4 1, 3) := by decide +kernel
theorem nd_B_sumOfBalances_44 : decode nc_B_sumOfBalances 44 = .ok (.goto (-39), 3) := by decide +kernel
theorem nd_B_sumOfBalances_47 : decode nc_B_sumOfBalances 47 = .ok (.lload_n 2, 1) := by decide +kernel
theorem nd_B_sumOfBalances_48 : decode nc_B_sumOfBalances 48 = .ok (.lreturn, 1) := by decide +kernel
theorem nd_B_missed_0 : decode nc_B_missed 0 = .ok (.aload_n 0, 1) := by decide +kernel
theorem nd_B_missed_1 : decode nc_B_missed 1 = .ok (.getfield 37, 3) := by decide +kernel
theorem nd_B_missed_4 : decode nc_B_missed 4 = .ok (.getfield 163, 3) := by decide +kernel
theorem nd_B_missed_7 : decode nc_B_missed 7 = .ok (.ifCond .ne 17, 3) := by decide +kernel
theorem nd_B_missed_10 : decode nc_B_missed 10 = .ok (.iload_n 1, 1) := by decide +kernel
theorem nd_B_missed_11 : decode nc_B_missed 11 = .ok (.iconst 0, 1) := by decide +kernel
theorem nd_B_missed_12 : decode nc_B_missed 12 = .ok (.aload_n 0, 1) := by decide +kernel
theorem nd_B_missed_13 : decode nc_B_missed 13 = .ok (.getfield 143, 3) := by decide +kernel
theorem nd_B_missed_16 : decode nc_B_missed 16 = .ok (.iconst 1, 1) := by decide +kernel
theorem nd_B_missed_17 : decode nc_B_missed 17 = .ok (.isub, 1) := by decide +kernel
theorem nd_B_missed_18 : decode nc_B_missed 18 = .ok (.invokestatic 67, 3) := by decide +kernel
theorem nd_B_missed_21 : decode nc_B_missed 21 = .ok (.ifCond .ne 5, 3) := by decide +kernel
theorem nd_B_missed_24 : decode nc_B_missed 24 = .ok (.iconst 0, 1) := by decide +kernel
theorem nd_B_missed_25 : decode nc_B_missed 25 = .ok (.ireturn, 1) := by decide +kernel
theorem nd_B_missed_26 : decode nc_B_missed 26 = .ok (.aload_n 0, 1) := by decide +kernel
theorem nd_B_missed_27 : decode nc_B_missed 27 = .ok (.getfield 23, 3) := by decide +kernel
theorem nd_B_missed_30 : decode nc_B_missed 30 = .ok (.iload_n 1, 1) := by decide +kernel
theorem nd_B_missed_31 : decode nc_B_missed 31 = .ok (.aaload, 1) := by decide +kernel
theorem nd_B_missed_32 : decode nc_B_missed 32 = .ok (.getfield 190, 3) := by decide +kernel
theorem nd_B_missed_35 : decode nc_B_missed 35 = .ok (.ireturn, 1) := by decide +kernel
theorem nd_B_today_0 : decode nc_B_today 0 = .ok (.aload_n 0, 1) := by decide +kernel
theorem nd_B_today_1 : decode nc_B_today 1 = .ok (.getfield 37, 3) := by decide +kernel
theorem nd_B_today_4 : decode nc_B_today 4 = .ok (.getfield 163, 3) := by decide +kernel
theorem nd_B_today_7 : decode nc_B_today 7 = .ok (.ifCond .eq 7, 3) := by decide +kernel
theorem nd_B_today_10 : decode nc_B_today 10 = .ok (.iconst 0, 1) := by decide +kernel
theorem nd_B_today_11 : decode nc_B_today 11 = .ok (.goto 7, 3) := by decide +kernel
theorem nd_B_today_14 : decode nc_B_today 14 = .ok (.aload_n 0, 1) := by decide +kernel
theorem nd_B_today_15 : decode nc_B_today 15 = .ok (.getfield 94, 3) := by decide +kernel
theorem nd_B_today_18 : decode nc_B_today 18 = .ok (.ireturn, 1) := by decide +kernel
theorem nd_B_count_0 : decode nc_B_count 0 = .ok (.iload_n 1, 1) := by decide +kernel
theorem nd_B_count_1 : decode nc_B_count 1 = .ok (.invokestatic 61, 3) := by decide +kernel
theorem nd_B_count_4 : decode nc_B_count 4 = .ok (.ifCond .eq 18, 3) := by decide +kernel
theorem nd_B_count_7 : decode nc_B_count 7 = .ok (.iload_n 2, 1) := by decide +kernel
theorem nd_B_count_8 : decode nc_B_count 8 = .ok (.ifCond .lt 14, 3) := by decide +kernel
theorem nd_B_count_11 : decode nc_B_count 11 = .ok (.iload_n 2, 1) := by decide +kernel
theorem nd_B_count_12 : decode nc_B_count 12 = .ok (.iload_n 3, 1) := by decide +kernel
theorem nd_B_count_13 : decode nc_B_count 13 = .ok (.if_icmp .gt 9, 3) := by decide +kernel
theorem nd_B_count_16 : decode nc_B_count 16 = .ok (.iload_n 3, 1) := by decide +kernel
theorem nd_B_count_17 : decode nc_B_count 17 = .ok (.ldc 193, 2) := by decide +kernel
theorem nd_B_count_19 : decode nc_B_count 19 = .ok (.if_icmp .le 5, 3) := by decide +kernel
theorem nd_B_count_22 : decode nc_B_count 22 = .ok (.iconst (-1), 1) := by decide +kernel
theorem nd_B_count_23 : decode nc_B_count 23 = .ok (.ireturn, 1) := by decide +kernel
theorem nd_B_count_24 : decode nc_B_count 24 = .ok (.iload_n 1, 1) := by decide +kernel
theorem nd_B_count_25 : decode nc_B_count 25 = .ok (.iload_n 2, 1) := by decide +kernel
theorem nd_B_count_26 : decode nc_B_count 26 = .ok (.iload_n 3, 1) := by decide +kernel
theorem nd_B_count_27 : decode nc_B_count 27 = .ok (.invokestatic 194, 3) := by decide +kernel
theorem nd_B_count_30 : decode nc_B_count 30 = .ok (.ireturn, 1) := by decide +kernel
theorem nd_B_writes_0 : decode nc_B_writes 0 = .ok (.aload_n 0, 1) := by decide +kernel
theorem nd_B_writes_1 : decode nc_B_writes 1 = .ok (.getfield 37, 3) := by decide +kernel
theorem nd_B_writes_4 : decode nc_B_writes 4 = .ok (.getfield 198, 3) := by decide +kernel
theorem nd_B_writes_7 : decode nc_B_writes 7 = .ok (.ireturn, 1) := by decide +kernel
theorem nd_B_lines_0 : decode nc_B_lines 0 = .ok (.aload_n 0, 1) := by decide +kernel
theorem nd_B_lines_1 : decode nc_B_lines 1 = .ok (.getfield 37, 3) := by decide +kernel
theorem nd_B_lines_4 : decode nc_B_lines 4 = .ok (.getfield 163, 3) := by decide +kernel
theorem nd_B_lines_7 : decode nc_B_lines 7 = .ok (.ifCond .eq 7, 3) := by decide +kernel
theorem nd_B_lines_10 : decode nc_B_lines 10 = .ok (.iconst 0, 1) := by decide +kernel
theorem nd_B_lines_11 : decode nc_B_lines 11 = .ok (.goto 10, 3) := by decide +kernel
theorem nd_B_lines_14 : decode nc_B_lines 14 = .ok (.aload_n 0, 1) := by decide +kernel
theorem nd_B_lines_15 : decode nc_B_lines 15 = .ok (.getfield 37, 3) := by decide +kernel
theorem nd_B_lines_18 : decode nc_B_lines 18 = .ok (.getfield 201, 3) := by decide +kernel
theorem nd_B_lines_21 : decode nc_B_lines 21 = .ok (.ireturn, 1) := by decide +kernel
end
section
/-! decode rows -/
theorem nd_M_init_0 : decode nc_M_init 0 = .ok (.aload_n 0, 1) := by decide +kernel
theorem nd_M_init_1 : decode nc_M_init 1 = .ok (.invokespecial 1, 3) := by decide +kernel
theorem nd_M_init_4 : decode nc_M_init 4 = .ok (.aload_n 0, 1) := by decide +kernel
theorem nd_M_init_5 : decode nc_M_init 5 = .ok (.bipush 6, 2) := by decide +kernel
theorem nd_M_init_7 : decode nc_M_init 7 = .ok (.newarray .int, 2) := by decide +kernel
theorem nd_M_init_9 : decode nc_M_init 9 = .ok (.putfield 7, 3) := by decide +kernel
theorem nd_M_init_12 : decode nc_M_init 12 = .ok (.aload_n 0, 1) := by decide +kernel
theorem nd_M_init_13 : decode nc_M_init 13 = .ok (.bipush 6, 2) := by decide +kernel
theorem nd_M_init_15 : decode nc_M_init 15 = .ok (.newarray .int, 2) := by decide +kernel
theorem nd_M_init_17 : decode nc_M_init 17 = .ok (.putfield 13, 3) := by decide +kernel
theorem nd_M_init_20 : decode nc_M_init 20 = .ok (.aload_n 0, 1) := by decide +kernel
theorem nd_M_init_21 : decode nc_M_init 21 = .ok (.bipush 6, 2) := by decide +kernel
theorem nd_M_init_23 : decode nc_M_init 23 = .ok (.newarray .int, 2) := by decide +kernel
theorem nd_M_init_25 : decode nc_M_init 25 = .ok (.putfield 16, 3) := by decide +kernel
theorem nd_M_init_28 : decode nc_M_init 28 = .ok (.aload_n 0, 1) := by decide +kernel
theorem nd_M_init_29 : decode nc_M_init 29 = .ok (.bipush 6, 2) := by decide +kernel
theorem nd_M_init_31 : decode nc_M_init 31 = .ok (.newarray .int, 2) := by decide +kernel
theorem nd_M_init_33 : decode nc_M_init 33 = .ok (.putfield 19, 3) := by decide +kernel
theorem nd_M_init_36 : decode nc_M_init 36 = .ok (.aload_n 0, 1) := by decide +kernel
theorem nd_M_init_37 : decode nc_M_init 37 = .ok (.bipush 6, 2) := by decide +kernel
theorem nd_M_init_39 : decode nc_M_init 39 = .ok (.newarray .int, 2) := by decide +kernel
theorem nd_M_init_41 : decode nc_M_init 41 = .ok (.putfield 22, 3) := by decide +kernel
theorem nd_M_init_44 : decode nc_M_init 44 = .ok (.aload_n 0, 1) := by decide +kernel
theorem nd_M_init_45 : decode nc_M_init 45 = .ok (.bipush 6, 2) := by decide +kernel
theorem nd_M_init_47 : decode nc_M_init 47 = .ok (.newarray .long, 2) := by decide +kernel
theorem nd_M_init_49 : decode nc_M_init 49 = .ok (.putfield 25, 3) := by decide +kernel
theorem nd_M_init_52 : decode nc_M_init 52 = .ok (.aload_n 0, 1) := by decide +kernel
theorem nd_M_init_53 : decode nc_M_init 53 = .ok (.bipush 6, 2) := by decide +kernel
theorem nd_M_init_55 : decode nc_M_init 55 = .ok (.newarray .long, 2) := by decide +kernel
theorem nd_M_init_57 : decode nc_M_init 57 = .ok (.putfield 29, 3) := by decide +kernel
theorem nd_M_init_60 : decode nc_M_init 60 = .ok (.aload_n 0, 1) := by decide +kernel
theorem nd_M_init_61 : decode nc_M_init 61 = .ok (.bipush 8, 2) := by decide +kernel
theorem nd_M_init_63 : decode nc_M_init 63 = .ok (.newarray .int, 2) := by decide +kernel
theorem nd_M_init_65 : decode nc_M_init 65 = .ok (.putfield 32, 3) := by decide +kernel
theorem nd_M_init_68 : decode nc_M_init 68 = .ok (.aload_n 0, 1) := by decide +kernel
theorem nd_M_init_69 : decode nc_M_init 69 = .ok (.bipush 8, 2) := by decide +kernel
theorem nd_M_init_71 : decode nc_M_init 71 = .ok (.newarray .int, 2) := by decide +kernel
theorem nd_M_init_73 : decode nc_M_init 73 = .ok (.putfield 35, 3) := by decide +kernel
theorem nd_M_init_76 : decode nc_M_init 76 = .ok (.aload_n 0, 1) := by decide +kernel
theorem nd_M_init_77 : decode nc_M_init 77 = .ok (.bipush 6, 2) := by decide +kernel
theorem nd_M_init_79 : decode nc_M_init 79 = .ok (.newarray .int, 2) := by decide +kernel
theorem nd_M_init_81 : decode nc_M_init 81 = .ok (.putfield 38, 3) := by decide +kernel
theorem nd_M_init_84 : decode nc_M_init 84 = .ok (.aload_n 0, 1) := by decide +kernel
theorem nd_M_init_85 : decode nc_M_init 85 = .ok (.bipush 6, 2) := by decide +kernel
theorem nd_M_init_87 : decode nc_M_init 87 = .ok (.newarray .int, 2) := by decide +kernel
theorem nd_M_init_89 : decode nc_M_init 89 = .ok (.putfield 41, 3) := by decide +kernel
theorem nd_M_init_92 : decode nc_M_init 92 = .ok (.aload_n 0, 1) := by decide +kernel
theorem nd_M_init_93 : decode nc_M_init 93 = .ok (.bipush 6, 2) := by decide +kernel
theorem nd_M_init_95 : decode nc_M_init 95 = .ok (.newarray .int, 2) := by decide +kernel
theorem nd_M_init_97 : decode nc_M_init 97 = .ok (.putfield 44, 3) := by decide +kernel
theorem nd_M_init_100 : decode nc_M_init 100 = .ok (.aload_n 0, 1) := by decide +kernel
theorem nd_M_init_101 : decode nc_M_init 101 = .ok (.bipush 6, 2) := by decide +kernel
theorem nd_M_init_103 : decode nc_M_init 103 = .ok (.newarray .int, 2) := by decide +kernel
theorem nd_M_init_105 : decode nc_M_init 105 = .ok (.putfield 47, 3) := by decide +kernel
theorem nd_M_init_108 : decode nc_M_init 108 = .ok (.aload_n 0, 1) := by decide +kernel
theorem nd_M_init_109 : decode nc_M_init 109 = .ok (.bipush 6, 2) := by decide +kernel
theorem nd_M_init_111 : decode nc_M_init 111 = .ok (.newarray .int, 2) := by decide +kernel
theorem nd_M_init_113 : decode nc_M_init 113 = .ok (.putfield 50, 3) := by decide +kernel
theorem nd_M_init_116 : decode nc_M_init 116 = .ok (.aload_n 0, 1) := by decide +kernel
theorem nd_M_init_117 : decode nc_M_init 117 = .ok (.bipush 8, 2) := by decide +kernel
theorem nd_M_init_119 : decode nc_M_init 119 = .ok (.newarray .int, 2) := by decide +kernel
theorem nd_M_init_121 : decode nc_M_init 121 = .ok (.putfield 53, 3) := by decide +kernel
theorem nd_M_init_124 : decode nc_M_init 124 = .ok (.aload_n 0, 1) := by decide +kernel
theorem nd_M_init_125 : decode nc_M_init 125 = .ok (.iconst 3, 1) := by decide +kernel
theorem nd_M_init_126 : decode nc_M_init 126 = .ok (.newarray .long, 2) := by decide +kernel
theorem nd_M_init_128 : decode nc_M_init 128 = .ok (.putfield 56, 3) := by decide +kernel
theorem nd_M_init_131 : decode nc_M_init 131 = .ok (.aload_n 0, 1) := by decide +kernel
theorem nd_M_init_132 : decode nc_M_init 132 = .ok (.iconst 3, 1) := by decide +kernel
theorem nd_M_init_133 : decode nc_M_init 133 = .ok (.newarray .long, 2) := by decide +kernel
theorem nd_M_init_135 : decode nc_M_init 135 = .ok (.putfield 59, 3) := by decide +kernel
theorem nd_M_init_138 : decode nc_M_init 138 = .ok (.aload_n 0, 1) := by decide +kernel
theorem nd_M_init_139 : decode nc_M_init 139 = .ok (.iconst (-1), 1) := by decide +kernel
theorem nd_M_init_140 : decode nc_M_init 140 = .ok (.putfield 62, 3) := by decide +kernel
theorem nd_M_init_143 : decode nc_M_init 143 = .ok (.return_, 1) := by decide +kernel
theorem nd_M_open_0 : decode nc_M_open 0 = .ok (.aload_n 0, 1) := by decide +kernel
theorem nd_M_open_1 : decode nc_M_open 1 = .ok (.invokevirtual 125, 3) := by decide +kernel
theorem nd_M_open_4 : decode nc_M_open 4 = .ok (.ifCond .eq 8, 3) := by decide +kernel
theorem nd_M_open_7 : decode nc_M_open 7 = .ok (.aload_n 0, 1) := by decide +kernel
theorem nd_M_open_8 : decode nc_M_open 8 = .ok (.invokevirtual 125, 3) := by decide +kernel
theorem nd_M_open_11 : decode nc_M_open 11 = .ok (.ireturn, 1) := by decide +kernel
theorem nd_M_open_12 : decode nc_M_open 12 = .ok (.iload_n 1, 1) := by decide +kernel
theorem nd_M_open_13 : decode nc_M_open 13 = .ok (.ifCond .lt 40, 3) := by decide +kernel
theorem nd_M_open_16 : decode nc_M_open 16 = .ok (.iload_n 1, 1) := by decide +kernel
theorem nd_M_open_17 : decode nc_M_open 17 = .ok (.iconst 2, 1) := by decide +kernel
theorem nd_M_open_18 : decode nc_M_open 18 = .ok (.if_icmp .gt 35, 3) := by decide +kernel
theorem nd_M_open_21 : decode nc_M_open 21 = .ok (.iload_n 2, 1) := by decide +kernel
theorem nd_M_open_22 : decode nc_M_open 22 = .ok (.ifCond .lt 31, 3) := by decide +kernel
theorem nd_M_open_25 : decode nc_M_open 25 = .ok (.iload_n 2, 1) := by decide +kernel
theorem nd_M_open_26 : decode nc_M_open 26 = .ok (.iconst 2, 1) := by decide +kernel
theorem nd_M_open_27 : decode nc_M_open 27 = .ok (.if_icmp .gt 26, 3) := by decide +kernel
theorem nd_M_open_30 : decode nc_M_open 30 = .ok (.iload_n 3, 1) := by decide +kernel
theorem nd_M_open_31 : decode nc_M_open 31 = .ok (.ifCond .lt 22, 3) := by decide +kernel
theorem nd_M_open_34 : decode nc_M_open 34 = .ok (.iload_n 3, 1) := by decide +kernel
theorem nd_M_open_35 : decode nc_M_open 35 = .ok (.ldc 124, 2) := by decide +kernel
theorem nd_M_open_37 : decode nc_M_open 37 = .ok (.if_icmp .gt 16, 3) := by decide +kernel
theorem nd_M_open_40 : decode nc_M_open 40 = .ok (.iload 4, 2) := by decide +kernel
theorem nd_M_open_42 : decode nc_M_open 42 = .ok (.ifCond .lt 11, 3) := by decide +kernel
theorem nd_M_open_45 : decode nc_M_open 45 = .ok (.iload 4, 2) := by decide +kernel
theorem nd_M_open_47 : decode nc_M_open 47 = .ok (.sipush 1000, 3) := by decide +kernel
theorem nd_M_open_50 : decode nc_M_open 50 = .ok (.if_icmp .le 6, 3) := by decide +kernel
theorem nd_M_open_53 : decode nc_M_open 53 = .ok (.bipush (-3), 2) := by decide +kernel
theorem nd_M_open_55 : decode nc_M_open 55 = .ok (.ireturn, 1) := by decide +kernel
theorem nd_M_open_56 : decode nc_M_open 56 = .ok (.aload_n 0, 1) := by decide +kernel
theorem nd_M_open_57 : decode nc_M_open 57 = .ok (.getfield 121, 3) := by decide +kernel
theorem nd_M_open_60 : decode nc_M_open 60 = .ok (.bipush 6, 2) := by decide +kernel
theorem nd_M_open_62 : decode nc_M_open 62 = .ok (.if_icmp .ne 6, 3) := by decide +kernel
theorem nd_M_open_65 : decode nc_M_open 65 = .ok (.bipush (-4), 2) := by decide +kernel
theorem nd_M_open_67 : decode nc_M_open 67 = .ok (.ireturn, 1) := by decide +kernel
theorem nd_M_open_68 : decode nc_M_open 68 = .ok (.aload_n 0, 1) := by decide +kernel
theorem nd_M_open_69 : decode nc_M_open 69 = .ok (.iconst 1, 1) := by decide +kernel
theorem nd_M_open_70 : decode nc_M_open 70 = .ok (.iconst 1, 1) := by decide +kernel
theorem nd_M_open_71 : decode nc_M_open 71 = .ok (.aload_n 0, 1) := by decide +kernel
theorem nd_M_open_72 : decode nc_M_open 72 = .ok (.getfield 121, 3) := by decide +kernel
theorem nd_M_open_75 : decode nc_M_open 75 = .ok (.ishl, 1) := by decide +kernel
theorem nd_M_open_76 : decode nc_M_open 76 = .ok (.invokevirtual 129, 3) := by decide +kernel
theorem nd_M_open_79 : decode nc_M_open 79 = .ok (.ifCond .ne 5, 3) := by decide +kernel
theorem nd_M_open_82 : decode nc_M_open 82 = .ok (.iconst (-1), 1) := by decide +kernel
theorem nd_M_open_83 : decode nc_M_open 83 = .ok (.ireturn, 1) := by decide +kernel
theorem nd_M_open_84 : decode nc_M_open 84 = .ok (.aload_n 0, 1) := by decide +kernel
theorem nd_M_open_85 : decode nc_M_open 85 = .ok (.getfield 7, 3) := by decide +kernel
theorem nd_M_open_88 : decode nc_M_open 88 = .ok (.aload_n 0, 1) := by decide +kernel
theorem nd_M_open_89 : decode nc_M_open 89 = .ok (.getfield 121, 3) := by decide +kernel
theorem nd_M_open_92 : decode nc_M_open 92 = .ok (.iload_n 1, 1) := by decide +kernel
theorem nd_M_open_93 : decode nc_M_open 93 = .ok (.iastore, 1) := by decide +kernel
theorem nd_M_open_94 : decode nc_M_open 94 = .ok (.aload_n 0, 1) := by decide +kernel
theorem nd_M_open_95 : decode nc_M_open 95 = .ok (.getfield 13, 3) := by decide +kernel
theorem nd_M_open_98 : decode nc_M_open 98 = .ok (.aload_n 0, 1) := by decide +kernel
theorem nd_M_open_99 : decode nc_M_open 99 = .ok (.getfield 121, 3) := by decide +kernel
theorem nd_M_open_102 : decode nc_M_open 102 = .ok (.iload_n 2, 1) := by decide +kernel
theorem nd_M_open_103 : decode nc_M_open 103 = .ok (.iastore, 1) := by decide +kernel
theorem nd_M_open_104 : decode nc_M_open 104 = .ok (.aload_n 0, 1) := by decide +kernel
theorem nd_M_open_105 : decode nc_M_open 105 = .ok (.getfield 16, 3) := by decide +kernel
theorem nd_M_open_108 : decode nc_M_open 108 = .ok (.aload_n 0, 1) := by decide +kernel
theorem nd_M_open_109 : decode nc_M_open 109 = .ok (.getfield 121, 3) := by decide +kernel
theorem nd_M_open_112 : decode nc_M_open 112 = .ok (.iload_n 3, 1) := by decide +kernel
theorem nd_M_open_113 : decode nc_M_open 113 = .ok (.iastore, 1) := by decide +kernel
theorem nd_M_open_114 : decode nc_M_open 114 = .ok (.aload_n 0, 1) := by decide +kernel
theorem nd_M_open_115 : decode nc_M_open 115 = .ok (.getfield 19, 3) := by decide +kernel
theorem nd_M_open_118 : decode nc_M_open 118 = .ok (.aload_n 0, 1) := by decide +kernel
theorem nd_M_open_119 : decode nc_M_open 119 = .ok (.getfield 121, 3) := by decide +kernel
theorem nd_M_open_122 : decode nc_M_open 122 = .ok (.iload 4, 2) := by decide +kernel
theorem nd_M_open_124 : decode nc_M_open 124 = .ok (.iastore, 1) := by decide +kernel
theorem nd_M_open_125 : decode nc_M_open 125 = .ok (.aload_n 0, 1) := by decide +kernel
theorem nd_M_open_126 : decode nc_M_open 126 = .ok (.getfield 22, 3) := by decide +kernel
theorem nd_M_open_129 : decode nc_M_open 129 = .ok (.aload_n 0, 1) := by decide +kernel
theorem nd_M_open_130 : decode nc_M_open 130 = .ok (.getfield 121, 3) := by decide +kernel
theorem nd_M_open_133 : decode nc_M_open 133 = .ok (.aload_n 0, 1) := by decide +kernel
theorem nd_M_open_134 : decode nc_M_open 134 = .ok (.getfield 90, 3) := by decide +kernel
theorem nd_M_open_137 : decode nc_M_open 137 = .ok (.iconst 1, 1) := by decide +kernel
theorem nd_M_open_138 : decode nc_M_open 138 = .ok (.isub, 1) := by decide +kernel
theorem nd_M_open_139 : decode nc_M_open 139 = .ok (.iastore, 1) := by decide +kernel
theorem nd_M_open_140 : decode nc_M_open 140 = .ok (.aload_n 0, 1) := by decide +kernel
theorem nd_M_open_141 : decode nc_M_open 141 = .ok (.dup, 1) := by decide +kernel
theorem nd_M_open_142 : decode nc_M_open 142 = .ok (.getfield 121, 3) := by decide +kernel
theorem nd_M_open_145 : decode nc_M_open 145 = .ok (.iconst 1, 1) := by decide +kernel
theorem nd_M_open_146 : decode nc_M_open 146 = .ok (.iadd, 1) := by decide +kernel
theorem nd_M_open_147 : decode nc_M_open 147 = .ok (.putfield 121, 3) := by decide +kernel
theorem nd_M_open_150 : decode nc_M_open 150 = .ok (.aload_n 0, 1) := by decide +kernel
theorem nd_M_open_151 : decode nc_M_open 151 = .ok (.getfield 121, 3) := by decide +kernel
theorem nd_M_open_154 : decode nc_M_open 154 = .ok (.iconst 1, 1) := by decide +kernel
theorem nd_M_open_155 : decode nc_M_open 155 = .ok (.isub, 1) := by decide +kernel
theorem nd_M_open_156 : decode nc_M_open 156 = .ok (.ireturn, 1) := by decide +kernel
theorem nd_M_shut_0 : decode nc_M_shut 0 = .ok (.aload_n 0, 1) := by decide +kernel
theorem nd_M_shut_1 : decode nc_M_shut 1 = .ok (.getfield 102, 3) := by decide +kernel
theorem nd_M_shut_4 : decode nc_M_shut 4 = .ok (.ifCond .eq 7, 3) := by decide +kernel
theorem nd_M_shut_7 : decode nc_M_shut 7 = .ok (.iconst (-1), 1) := by decide +kernel
theorem nd_M_shut_8 : decode nc_M_shut 8 = .ok (.goto 16, 3) := by decide +kernel
theorem nd_M_shut_11 : decode nc_M_shut 11 = .ok (.aload_n 0, 1) := by decide +kernel
theorem nd_M_shut_12 : decode nc_M_shut 12 = .ok (.getfield 118, 3) := by decide +kernel
theorem nd_M_shut_15 : decode nc_M_shut 15 = .ok (.ifCond .eq 8, 3) := by decide +kernel
theorem nd_M_shut_18 : decode nc_M_shut 18 = .ok (.bipush (-2), 2) := by decide +kernel
theorem nd_M_shut_20 : decode nc_M_shut 20 = .ok (.goto 4, 3) := by decide +kernel
theorem nd_M_shut_23 : decode nc_M_shut 23 = .ok (.iconst 0, 1) := by decide +kernel
theorem nd_M_shut_24 : decode nc_M_shut 24 = .ok (.ireturn, 1) := by decide +kernel
theorem nd_M_comes_0 : decode nc_M_comes 0 = .ok (.aload_n 0, 1) := by decide +kernel
theorem nd_M_comes_1 : decode nc_M_comes 1 = .ok (.getfield 106, 3) := by decide +kernel
theorem nd_M_comes_4 : decode nc_M_comes 4 = .ok (.iload_n 1, 1) := by decide +kernel
theorem nd_M_comes_5 : decode nc_M_comes 5 = .ok (.iadd, 1) := by decide +kernel
theorem nd_M_comes_6 : decode nc_M_comes 6 = .ok (.iconst 1, 1) := by decide +kernel
theorem nd_M_comes_7 : decode nc_M_comes 7 = .ok (.iadd, 1) := by decide +kernel
theorem nd_M_comes_8 : decode nc_M_comes 8 = .ok (.bipush 24, 2) := by decide +kernel
theorem nd_M_comes_10 : decode nc_M_comes 10 = .ok (.if_icmp .le 58, 3) := by decide +kernel
theorem nd_M_comes_13 : decode nc_M_comes 13 = .ok (.iconst 1, 1) := by decide +kernel
theorem nd_M_comes_14 : decode nc_M_comes 14 = .ok (.istore_n 3, 1) := by decide +kernel
theorem nd_M_comes_15 : decode nc_M_comes 15 = .ok (.iconst 0, 1) := by decide +kernel
theorem nd_M_comes_16 : decode nc_M_comes 16 = .ok (.istore 4, 2) := by decide +kernel
theorem nd_M_comes_18 : decode nc_M_comes 18 = .ok (.iload 4, 2) := by decide +kernel
theorem nd_M_comes_20 : decode nc_M_comes 20 = .ok (.bipush 6, 2) := by decide +kernel
theorem nd_M_comes_22 : decode nc_M_comes 22 = .ok (.if_icmp .ge 21, 3) := by decide +kernel
theorem nd_M_comes_25 : decode nc_M_comes 25 = .ok (.iload_n 3, 1) := by decide +kernel
theorem nd_M_comes_26 : decode nc_M_comes 26 = .ok (.aload_n 0, 1) := by decide +kernel
theorem nd_M_comes_27 : decode nc_M_comes 27 = .ok (.getfield 109, 3) := by decide +kernel
theorem nd_M_comes_30 : decode nc_M_comes 30 = .ok (.iload 4, 2) := by decide +kernel
theorem nd_M_comes_32 : decode nc_M_comes 32 = .ok (.ishr, 1) := by decide +kernel
theorem nd_M_comes_33 : decode nc_M_comes 33 = .ok (.iconst 1, 1) := by decide +kernel
theorem nd_M_comes_34 : decode nc_M_comes 34 = .ok (.iand, 1) := by decide +kernel
theorem nd_M_comes_35 : decode nc_M_comes 35 = .ok (.iadd, 1) := by decide +kernel
theorem nd_M_comes_36 : decode nc_M_comes 36 = .ok (.istore_n 3, 1) := by decide +kernel
theorem nd_M_comes_37 : decode nc_M_comes 37 = .ok (.iinc 4 1, 3) := by decide +kernel
theorem nd_M_comes_40 : decode nc_M_comes 40 = .ok (.goto (-22), 3) := by decide +kernel
theorem nd_M_comes_43 : decode nc_M_comes 43 = .ok (.aload_n 0, 1) := by decide +kernel
theorem nd_M_comes_44 : decode nc_M_comes 44 = .ok (.iload_n 3, 1) := by decide +kernel
theorem nd_M_comes_45 : decode nc_M_comes 45 = .ok (.invokevirtual 112, 3) := by decide +kernel
theorem nd_M_comes_48 : decode nc_M_comes 48 = .ok (.ifCond .ne 5, 3) := by decide +kernel
theorem nd_M_comes_51 : decode nc_M_comes 51 = .ok (.iconst 0, 1) := by decide +kernel
theorem nd_M_comes_52 : decode nc_M_comes 52 = .ok (.ireturn, 1) := by decide +kernel
theorem nd_M_comes_53 : decode nc_M_comes 53 = .ok (.aload_n 0, 1) := by decide +kernel
theorem nd_M_comes_54 : decode nc_M_comes 54 = .ok (.iconst 0, 1) := by decide +kernel
theorem nd_M_comes_55 : decode nc_M_comes 55 = .ok (.putfield 106, 3) := by decide +kernel
theorem nd_M_comes_58 : decode nc_M_comes 58 = .ok (.aload_n 0, 1) := by decide +kernel
theorem nd_M_comes_59 : decode nc_M_comes 59 = .ok (.iconst 0, 1) := by decide +kernel
theorem nd_M_comes_60 : decode nc_M_comes 60 = .ok (.putfield 115, 3) := by decide +kernel
theorem nd_M_comes_63 : decode nc_M_comes 63 = .ok (.aload_n 0, 1) := by decide +kernel
theorem nd_M_comes_64 : decode nc_M_comes 64 = .ok (.iconst 0, 1) := by decide +kernel
theorem nd_M_comes_65 : decode nc_M_comes 65 = .ok (.putfield 109, 3) := by decide +kernel
theorem nd_M_comes_68 : decode nc_M_comes 68 = .ok (.aload_n 0, 1) := by decide +kernel
theorem nd_M_comes_69 : decode nc_M_comes 69 = .ok (.iload_n 1, 1) := by decide +kernel
theorem nd_M_comes_70 : decode nc_M_comes 70 = .ok (.iconst 1, 1) := by decide +kernel
theorem nd_M_comes_71 : decode nc_M_comes 71 = .ok (.iadd, 1) := by decide +kernel
theorem nd_M_comes_72 : decode nc_M_comes 72 = .ok (.invokevirtual 112, 3) := by decide +kernel
theorem nd_M_comes_75 : decode nc_M_comes 75 = .ok (.ifCond .ne 5, 3) := by decide +kernel
theorem nd_M_comes_78 : decode nc_M_comes 78 = .ok (.iconst 0, 1) := by decide +kernel
theorem nd_M_comes_79 : decode nc_M_comes 79 = .ok (.ireturn, 1) := by decide +kernel
theorem nd_M_comes_80 : decode nc_M_comes 80 = .ok (.aload_n 0, 1) := by decide +kernel
theorem nd_M_comes_81 : decode nc_M_comes 81 = .ok (.dup, 1) := by decide +kernel
theorem nd_M_comes_82 : decode nc_M_comes 82 = .ok (.getfield 106, 3) := by decide +kernel
theorem nd_M_comes_85 : decode nc_M_comes 85 = .ok (.iload_n 1, 1) := by decide +kernel
theorem nd_M_comes_86 : decode nc_M_comes 86 = .ok (.iconst 1, 1) := by decide +kernel
theorem nd_M_comes_87 : decode nc_M_comes 87 = .ok (.iadd, 1) := by decide +kernel
theorem nd_M_comes_88 : decode nc_M_comes 88 = .ok (.iadd, 1) := by decide +kernel
theorem nd_M_comes_89 : decode nc_M_comes 89 = .ok (.putfield 106, 3) := by decide +kernel
theorem nd_M_comes_92 : decode nc_M_comes 92 = .ok (.aload_n 0, 1) := by decide +kernel
theorem nd_M_comes_93 : decode nc_M_comes 93 = .ok (.dup, 1) := by decide +kernel
theorem nd_M_comes_94 : decode nc_M_comes 94 = .ok (.getfield 115, 3) := by decide +kernel
theorem nd_M_comes_97 : decode nc_M_comes 97 = .ok (.iconst 1, 1) := by decide +kernel
theorem nd_M_comes_98 : decode nc_M_comes 98 = .ok (.iadd, 1) := by decide +kernel
theorem nd_M_comes_99 : decode nc_M_comes 99 = .ok (.putfield 115, 3) := by decide +kernel
theorem nd_M_comes_102 : decode nc_M_comes 102 = .ok (.aload_n 0, 1) := by decide +kernel
theorem nd_M_comes_103 : decode nc_M_comes 103 = .ok (.dup, 1) := by decide +kernel
theorem nd_M_comes_104 : decode nc_M_comes 104 = .ok (.getfield 109, 3) := by decide +kernel
theorem nd_M_comes_107 : decode nc_M_comes 107 = .ok (.iload_n 2, 1) := by decide +kernel
theorem nd_M_comes_108 : decode nc_M_comes 108 = .ok (.ior, 1) := by decide +kernel
theorem nd_M_comes_109 : decode nc_M_comes 109 = .ok (.putfield 109, 3) := by decide +kernel
theorem nd_M_comes_112 : decode nc_M_comes 112 = .ok (.iconst 1, 1) := by decide +kernel
theorem nd_M_comes_113 : decode nc_M_comes 113 = .ok (.ireturn, 1) := by decide +kernel
theorem nd_M_afford_0 : decode nc_M_afford 0 = .ok (.aload_n 0, 1) := by decide +kernel
theorem nd_M_afford_1 : decode nc_M_afford 1 = .ok (.getfield 62, 3) := by decide +kernel
theorem nd_M_afford_4 : decode nc_M_afford 4 = .ok (.ifCond .lt 11, 3) := by decide +kernel
theorem nd_M_afford_7 : decode nc_M_afford 7 = .ok (.aload_n 0, 1) := by decide +kernel
theorem nd_M_afford_8 : decode nc_M_afford 8 = .ok (.getfield 62, 3) := by decide +kernel
theorem nd_M_afford_11 : decode nc_M_afford 11 = .ok (.iload_n 1, 1) := by decide +kernel
theorem nd_M_afford_12 : decode nc_M_afford 12 = .ok (.if_icmp .lt 10, 3) := by decide +kernel
theorem nd_M_afford_15 : decode nc_M_afford 15 = .ok (.aload_n 0, 1) := by decide +kernel
theorem nd_M_afford_16 : decode nc_M_afford 16 = .ok (.iload_n 1, 1) := by decide +kernel
theorem nd_M_afford_17 : decode nc_M_afford 17 = .ok (.invokevirtual 99, 3) := by decide +kernel
theorem nd_M_afford_20 : decode nc_M_afford 20 = .ok (.iconst 1, 1) := by decide +kernel
theorem nd_M_afford_21 : decode nc_M_afford 21 = .ok (.ireturn, 1) := by decide +kernel
theorem nd_M_afford_22 : decode nc_M_afford 22 = .ok (.aload_n 0, 1) := by decide +kernel
theorem nd_M_afford_23 : decode nc_M_afford 23 = .ok (.aload_n 0, 1) := by decide +kernel
theorem nd_M_afford_24 : decode nc_M_afford 24 = .ok (.getfield 62, 3) := by decide +kernel
theorem nd_M_afford_27 : decode nc_M_afford 27 = .ok (.invokevirtual 99, 3) := by decide +kernel
theorem nd_M_afford_30 : decode nc_M_afford 30 = .ok (.aload_n 0, 1) := by decide +kernel
theorem nd_M_afford_31 : decode nc_M_afford 31 = .ok (.iconst 1, 1) := by decide +kernel
theorem nd_M_afford_32 : decode nc_M_afford 32 = .ok (.putfield 102, 3) := by decide +kernel
theorem nd_M_afford_35 : decode nc_M_afford 35 = .ok (.iconst 0, 1) := by decide +kernel
theorem nd_M_afford_36 : decode nc_M_afford 36 = .ok (.ireturn, 1) := by decide +kernel
theorem nd_M_spend_0 : decode nc_M_spend 0 = .ok (.aload_n 0, 1) := by decide +kernel
theorem nd_M_spend_1 : decode nc_M_spend 1 = .ok (.dup, 1) := by decide +kernel
theorem nd_M_spend_2 : decode nc_M_spend 2 = .ok (.getfield 96, 3) := by decide +kernel
theorem nd_M_spend_5 : decode nc_M_spend 5 = .ok (.iload_n 1, 1) := by decide +kernel
theorem nd_M_spend_6 : decode nc_M_spend 6 = .ok (.iadd, 1) := by decide +kernel
theorem nd_M_spend_7 : decode nc_M_spend 7 = .ok (.putfield 96, 3) := by decide +kernel
theorem nd_M_spend_10 : decode nc_M_spend 10 = .ok (.aload_n 0, 1) := by decide +kernel
theorem nd_M_spend_11 : decode nc_M_spend 11 = .ok (.aload_n 0, 1) := by decide +kernel
theorem nd_M_spend_12 : decode nc_M_spend 12 = .ok (.getfield 62, 3) := by decide +kernel
theorem nd_M_spend_15 : decode nc_M_spend 15 = .ok (.ifCond .ge 10, 3) := by decide +kernel
theorem nd_M_spend_18 : decode nc_M_spend 18 = .ok (.aload_n 0, 1) := by decide +kernel
theorem nd_M_spend_19 : decode nc_M_spend 19 = .ok (.getfield 62, 3) := by decide +kernel
theorem nd_M_spend_22 : decode nc_M_spend 22 = .ok (.goto 9, 3) := by decide +kernel
theorem nd_M_spend_25 : decode nc_M_spend 25 = .ok (.aload_n 0, 1) := by decide +kernel
theorem nd_M_spend_26 : decode nc_M_spend 26 = .ok (.getfield 62, 3) := by decide +kernel
theorem nd_M_spend_29 : decode nc_M_spend 29 = .ok (.iload_n 1, 1) := by decide +kernel
theorem nd_M_spend_30 : decode nc_M_spend 30 = .ok (.isub, 1) := by decide +kernel
theorem nd_M_spend_31 : decode nc_M_spend 31 = .ok (.putfield 62, 3) := by decide +kernel
theorem nd_M_spend_34 : decode nc_M_spend 34 = .ok (.return_, 1) := by decide +kernel
theorem nd_M_pay_0 : decode nc_M_pay 0 = .ok (.aload_n 0, 1) := by decide +kernel
theorem nd_M_pay_1 : decode nc_M_pay 1 = .ok (.invokevirtual 125, 3) := by decide +kernel
theorem nd_M_pay_4 : decode nc_M_pay 4 = .ok (.ifCond .eq 8, 3) := by decide +kernel
theorem nd_M_pay_7 : decode nc_M_pay 7 = .ok (.aload_n 0, 1) := by decide +kernel
theorem nd_M_pay_8 : decode nc_M_pay 8 = .ok (.invokevirtual 125, 3) := by decide +kernel
theorem nd_M_pay_11 : decode nc_M_pay 11 = .ok (.ireturn, 1) := by decide +kernel
theorem nd_M_pay_12 : decode nc_M_pay 12 = .ok (.aload_n 0, 1) := by decide +kernel
theorem nd_M_pay_13 : decode nc_M_pay 13 = .ok (.iload_n 1, 1) := by decide +kernel
theorem nd_M_pay_14 : decode nc_M_pay 14 = .ok (.iload_n 2, 1) := by decide +kernel
theorem nd_M_pay_15 : decode nc_M_pay 15 = .ok (.invokevirtual 136, 3) := by decide +kernel
theorem nd_M_pay_18 : decode nc_M_pay 18 = .ok (.ifCond .eq 11, 3) := by decide +kernel
theorem nd_M_pay_21 : decode nc_M_pay 21 = .ok (.aload_n 0, 1) := by decide +kernel
theorem nd_M_pay_22 : decode nc_M_pay 22 = .ok (.iload_n 3, 1) := by decide +kernel
theorem nd_M_pay_23 : decode nc_M_pay 23 = .ok (.invokevirtual 139, 3) := by decide +kernel
theorem nd_M_pay_26 : decode nc_M_pay 26 = .ok (.ifCond .ne 6, 3) := by decide +kernel
theorem nd_M_pay_29 : decode nc_M_pay 29 = .ok (.bipush (-3), 2) := by decide +kernel
theorem nd_M_pay_31 : decode nc_M_pay 31 = .ok (.ireturn, 1) := by decide +kernel
theorem nd_M_pay_32 : decode nc_M_pay 32 = .ok (.iload_n 1, 1) := by decide +kernel
theorem nd_M_pay_33 : decode nc_M_pay 33 = .ok (.ifCond .lt 17, 3) := by decide +kernel
theorem nd_M_pay_36 : decode nc_M_pay 36 = .ok (.aload_n 0, 1) := by decide +kernel
theorem nd_M_pay_37 : decode nc_M_pay 37 = .ok (.iload_n 1, 1) := by decide +kernel
theorem nd_M_pay_38 : decode nc_M_pay 38 = .ok (.invokevirtual 142, 3) := by decide +kernel
theorem nd_M_pay_41 : decode nc_M_pay 41 = .ok (.iload_n 3, 1) := by decide +kernel
theorem nd_M_pay_42 : decode nc_M_pay 42 = .ok (.i2l, 1) := by decide +kernel
theorem nd_M_pay_43 : decode nc_M_pay 43 = .ok (.lcmp, 1) := by decide +kernel
theorem nd_M_pay_44 : decode nc_M_pay 44 = .ok (.ifCond .ge 6, 3) := by decide +kernel
theorem nd_M_pay_47 : decode nc_M_pay 47 = .ok (.bipush (-5), 2) := by decide +kernel
theorem nd_M_pay_49 : decode nc_M_pay 49 = .ok (.ireturn, 1) := by decide +kernel
theorem nd_M_pay_50 : decode nc_M_pay 50 = .ok (.aload_n 0, 1) := by decide +kernel
theorem nd_M_pay_51 : decode nc_M_pay 51 = .ok (.aload_n 0, 1) := by decide +kernel
theorem nd_M_pay_52 : decode nc_M_pay 52 = .ok (.iload_n 1, 1) := by decide +kernel
theorem nd_M_pay_53 : decode nc_M_pay 53 = .ok (.iload_n 2, 1) := by decide +kernel
theorem nd_M_pay_54 : decode nc_M_pay 54 = .ok (.invokevirtual 146, 3) := by decide +kernel
theorem nd_M_pay_57 : decode nc_M_pay 57 = .ok (.aload_n 0, 1) := by decide +kernel
theorem nd_M_pay_58 : decode nc_M_pay 58 = .ok (.iload_n 1, 1) := by decide +kernel
theorem nd_M_pay_59 : decode nc_M_pay 59 = .ok (.iload_n 2, 1) := by decide +kernel
theorem nd_M_pay_60 : decode nc_M_pay 60 = .ok (.invokevirtual 149, 3) := by decide +kernel
theorem nd_M_pay_63 : decode nc_M_pay 63 = .ok (.invokevirtual 129, 3) := by decide +kernel
theorem nd_M_pay_66 : decode nc_M_pay 66 = .ok (.ifCond .ne 5, 3) := by decide +kernel
theorem nd_M_pay_69 : decode nc_M_pay 69 = .ok (.iconst (-1), 1) := by decide +kernel
theorem nd_M_pay_70 : decode nc_M_pay 70 = .ok (.ireturn, 1) := by decide +kernel
theorem nd_M_pay_71 : decode nc_M_pay 71 = .ok (.aload_n 0, 1) := by decide +kernel
theorem nd_M_pay_72 : decode nc_M_pay 72 = .ok (.iload_n 1, 1) := by decide +kernel
theorem nd_M_pay_73 : decode nc_M_pay 73 = .ok (.iload_n 2, 1) := by decide +kernel
theorem nd_M_pay_74 : decode nc_M_pay 74 = .ok (.iload_n 3, 1) := by decide +kernel
theorem nd_M_pay_75 : decode nc_M_pay 75 = .ok (.invokevirtual 152, 3) := by decide +kernel
theorem nd_M_pay_78 : decode nc_M_pay 78 = .ok (.iconst 0, 1) := by decide +kernel
theorem nd_M_pay_79 : decode nc_M_pay 79 = .ok (.ireturn, 1) := by decide +kernel
theorem nd_M_pair_0 : decode nc_M_pair 0 = .ok (.iload_n 1, 1) := by decide +kernel
theorem nd_M_pair_1 : decode nc_M_pair 1 = .ok (.iconst (-1), 1) := by decide +kernel
theorem nd_M_pair_2 : decode nc_M_pair 2 = .ok (.if_icmp .eq 11, 3) := by decide +kernel
theorem nd_M_pair_5 : decode nc_M_pair 5 = .ok (.aload_n 0, 1) := by decide +kernel
theorem nd_M_pair_6 : decode nc_M_pair 6 = .ok (.iload_n 1, 1) := by decide +kernel
theorem nd_M_pair_7 : decode nc_M_pair 7 = .ok (.invokevirtual 133, 3) := by decide +kernel
theorem nd_M_pair_10 : decode nc_M_pair 10 = .ok (.ifCond .eq 25, 3) := by decide +kernel
theorem nd_M_pair_13 : decode nc_M_pair 13 = .ok (.iload_n 2, 1) := by decide +kernel
theorem nd_M_pair_14 : decode nc_M_pair 14 = .ok (.iconst (-1), 1) := by decide +kernel
theorem nd_M_pair_15 : decode nc_M_pair 15 = .ok (.if_icmp .eq 11, 3) := by decide +kernel
theorem nd_M_pair_18 : decode nc_M_pair 18 = .ok (.aload_n 0, 1) := by decide +kernel
theorem nd_M_pair_19 : decode nc_M_pair 19 = .ok (.iload_n 2, 1) := by decide +kernel
theorem nd_M_pair_20 : decode nc_M_pair 20 = .ok (.invokevirtual 133, 3) := by decide +kernel
theorem nd_M_pair_23 : decode nc_M_pair 23 = .ok (.ifCond .eq 12, 3) := by decide +kernel
theorem nd_M_pair_26 : decode nc_M_pair 26 = .ok (.iload_n 1, 1) := by decide +kernel
theorem nd_M_pair_27 : decode nc_M_pair 27 = .ok (.iload_n 2, 1) := by decide +kernel
theorem nd_M_pair_28 : decode nc_M_pair 28 = .ok (.if_icmp .eq 7, 3) := by decide +kernel
theorem nd_M_pair_31 : decode nc_M_pair 31 = .ok (.iconst 1, 1) := by decide +kernel
theorem nd_M_pair_32 : decode nc_M_pair 32 = .ok (.goto 4, 3) := by decide +kernel
theorem nd_M_pair_35 : decode nc_M_pair 35 = .ok (.iconst 0, 1) := by decide +kernel
theorem nd_M_pair_36 : decode nc_M_pair 36 = .ok (.istore_n 3, 1) := by decide +kernel
theorem nd_M_pair_37 : decode nc_M_pair 37 = .ok (.iload_n 3, 1) := by decide +kernel
theorem nd_M_pair_38 : decode nc_M_pair 38 = .ok (.ifCond .eq 32, 3) := by decide +kernel
theorem nd_M_pair_41 : decode nc_M_pair 41 = .ok (.iload_n 1, 1) := by decide +kernel
theorem nd_M_pair_42 : decode nc_M_pair 42 = .ok (.iconst (-1), 1) := by decide +kernel
theorem nd_M_pair_43 : decode nc_M_pair 43 = .ok (.if_icmp .eq 23, 3) := by decide +kernel
theorem nd_M_pair_46 : decode nc_M_pair 46 = .ok (.iload_n 2, 1) := by decide +kernel
theorem nd_M_pair_47 : decode nc_M_pair 47 = .ok (.iconst (-1), 1) := by decide +kernel
theorem nd_M_pair_48 : decode nc_M_pair 48 = .ok (.if_icmp .eq 18, 3) := by decide +kernel
theorem nd_M_pair_51 : decode nc_M_pair 51 = .ok (.aload_n 0, 1) := by decide +kernel
theorem nd_M_pair_52 : decode nc_M_pair 52 = .ok (.getfield 7, 3) := by decide +kernel
theorem nd_M_pair_55 : decode nc_M_pair 55 = .ok (.iload_n 1, 1) := by decide +kernel
theorem nd_M_pair_56 : decode nc_M_pair 56 = .ok (.iaload, 1) := by decide +kernel
theorem nd_M_pair_57 : decode nc_M_pair 57 = .ok (.aload_n 0, 1) := by decide +kernel
theorem nd_M_pair_58 : decode nc_M_pair 58 = .ok (.getfield 7, 3) := by decide +kernel
theorem nd_M_pair_61 : decode nc_M_pair 61 = .ok (.iload_n 2, 1) := by decide +kernel
theorem nd_M_pair_62 : decode nc_M_pair 62 = .ok (.iaload, 1) := by decide +kernel
theorem nd_M_pair_63 : decode nc_M_pair 63 = .ok (.if_icmp .ne 7, 3) := by decide +kernel
theorem nd_M_pair_66 : decode nc_M_pair 66 = .ok (.iconst 1, 1) := by decide +kernel
theorem nd_M_pair_67 : decode nc_M_pair 67 = .ok (.goto 4, 3) := by decide +kernel
theorem nd_M_pair_70 : decode nc_M_pair 70 = .ok (.iconst 0, 1) := by decide +kernel
theorem nd_M_pair_71 : decode nc_M_pair 71 = .ok (.ireturn, 1) := by decide +kernel
theorem nd_M_is_0 : decode nc_M_is 0 = .ok (.iload_n 1, 1) := by decide +kernel
theorem nd_M_is_1 : decode nc_M_is 1 = .ok (.ifCond .lt 15, 3) := by decide +kernel
theorem nd_M_is_4 : decode nc_M_is 4 = .ok (.iload_n 1, 1) := by decide +kernel
theorem nd_M_is_5 : decode nc_M_is 5 = .ok (.aload_n 0, 1) := by decide +kernel
theorem nd_M_is_6 : decode nc_M_is 6 = .ok (.getfield 121, 3) := by decide +kernel
theorem nd_M_is_9 : decode nc_M_is 9 = .ok (.if_icmp .ge 7, 3) := by decide +kernel
theorem nd_M_is_12 : decode nc_M_is 12 = .ok (.iconst 1, 1) := by decide +kernel
theorem nd_M_is_13 : decode nc_M_is 13 = .ok (.goto 4, 3) := by decide +kernel
theorem nd_M_is_16 : decode nc_M_is 16 = .ok (.iconst 0, 1) := by decide +kernel
theorem nd_M_is_17 : decode nc_M_is 17 = .ok (.ireturn, 1) := by decide +kernel
theorem nd_M_amountOk_0 : decode nc_M_amountOk 0 = .ok (.iload_n 1, 1) := by decide +kernel
theorem nd_M_amountOk_1 : decode nc_M_amountOk 1 = .ok (.iconst 1, 1) := by decide +kernel
theorem nd_M_amountOk_2 : decode nc_M_amountOk 2 = .ok (.if_icmp .lt 13, 3) := by decide +kernel
theorem nd_M_amountOk_5 : decode nc_M_amountOk 5 = .ok (.iload_n 1, 1) := by decide +kernel
theorem nd_M_amountOk_6 : decode nc_M_amountOk 6 = .ok (.ldc 124, 2) := by decide +kernel
theorem nd_M_amountOk_8 : decode nc_M_amountOk 8 = .ok (.if_icmp .gt 7, 3) := by decide +kernel
theorem nd_M_amountOk_11 : decode nc_M_amountOk 11 = .ok (.iconst 1, 1) := by decide +kernel
theorem nd_M_amountOk_12 : decode nc_M_amountOk 12 = .ok (.goto 4, 3) := by decide +kernel
theorem nd_M_amountOk_15 : decode nc_M_amountOk 15 = .ok (.iconst 0, 1) := by decide +kernel
theorem nd_M_amountOk_16 : decode nc_M_amountOk 16 = .ok (.ireturn, 1) := by decide +kernel
theorem nd_M_free_0 : decode nc_M_free 0 = .ok (.aload_n 0, 1) := by decide +kernel
theorem nd_M_free_1 : decode nc_M_free 1 = .ok (.getfield 25, 3) := by decide +kernel
theorem nd_M_free_4 : decode nc_M_free 4 = .ok (.iload_n 1, 1) := by decide +kernel
theorem nd_M_free_5 : decode nc_M_free 5 = .ok (.laload, 1) := by decide +kernel
theorem nd_M_free_6 : decode nc_M_free 6 = .ok (.aload_n 0, 1) := by decide +kernel
theorem nd_M_free_7 : decode nc_M_free 7 = .ok (.getfield 16, 3) := by decide +kernel
theorem nd_M_free_10 : decode nc_M_free 10 = .ok (.iload_n 1, 1) := by decide +kernel
theorem nd_M_free_11 : decode nc_M_free 11 = .ok (.iaload, 1) := by decide +kernel
theorem nd_M_free_12 : decode nc_M_free 12 = .ok (.i2l, 1) := by decide +kernel
theorem nd_M_free_13 : decode nc_M_free 13 = .ok (.ladd, 1) := by decide +kernel
theorem nd_M_free_14 : decode nc_M_free 14 = .ok (.lstore_n 2, 1) := by decide +kernel
theorem nd_M_free_15 : decode nc_M_free 15 = .ok (.iconst 0, 1) := by decide +kernel
theorem nd_M_free_16 : decode nc_M_free 16 = .ok (.istore 4, 2) := by decide +kernel
theorem nd_M_free_18 : decode nc_M_free 18 = .ok (.iload 4, 2) := by decide +kernel
theorem nd_M_free_20 : decode nc_M_free 20 = .ok (.bipush 8, 2) := by decide +kernel
theorem nd_M_free_22 : decode nc_M_free 22 = .ok (.if_icmp .ge 45, 3) := by decide +kernel
theorem nd_M_free_25 : decode nc_M_free 25 = .ok (.lload_n 2, 1) := by decide +kernel
theorem nd_M_free_26 : decode nc_M_free 26 = .ok (.aload_n 0, 1) := by decide +kernel
theorem nd_M_free_27 : decode nc_M_free 27 = .ok (.getfield 35, 3) := by decide +kernel
theorem nd_M_free_30 : decode nc_M_free 30 = .ok (.iload 4, 2) := by decide +kernel
theorem nd_M_free_32 : decode nc_M_free 32 = .ok (.iaload, 1) := by decide +kernel
theorem nd_M_free_33 : decode nc_M_free 33 = .ok (.ifCond .le 25, 3) := by decide +kernel
theorem nd_M_free_36 : decode nc_M_free 36 = .ok (.aload_n 0, 1) := by decide +kernel
theorem nd_M_free_37 : decode nc_M_free 37 = .ok (.getfield 32, 3) := by decide +kernel
theorem nd_M_free_40 : decode nc_M_free 40 = .ok (.iload 4, 2) := by decide +kernel
theorem nd_M_free_42 : decode nc_M_free 42 = .ok (.iaload, 1) := by decide +kernel
theorem nd_M_free_43 : decode nc_M_free 43 = .ok (.iload_n 1, 1) := by decide +kernel
theorem nd_M_free_44 : decode nc_M_free 44 = .ok (.if_icmp .ne 14, 3) := by decide +kernel
theorem nd_M_free_47 : decode nc_M_free 47 = .ok (.aload_n 0, 1) := by decide +kernel
theorem nd_M_free_48 : decode nc_M_free 48 = .ok (.getfield 35, 3) := by decide +kernel
theorem nd_M_free_51 : decode nc_M_free 51 = .ok (.iload 4, 2) := by decide +kernel
theorem nd_M_free_53 : decode nc_M_free 53 = .ok (.iaload, 1) := by decide +kernel
theorem nd_M_free_54 : decode nc_M_free 54 = .ok (.i2l, 1) := by decide +kernel
theorem nd_M_free_55 : decode nc_M_free 55 = .ok (.goto 4, 3) := by decide +kernel
theorem nd_M_free_58 : decode nc_M_free 58 = .ok (.lconst 0, 1) := by decide +kernel
theorem nd_M_free_59 : decode nc_M_free 59 = .ok (.lsub, 1) := by decide +kernel
theorem nd_M_free_60 : decode nc_M_free 60 = .ok (.lstore_n 2, 1) := by decide +kernel
theorem nd_M_free_61 : decode nc_M_free 61 = .ok (.iinc 4 1, 3) := by decide +kernel
theorem nd_M_free_64 : decode nc_M_free 64 = .ok (.goto (-46), 3) := by decide +kernel
theorem nd_M_free_67 : decode nc_M_free 67 = .ok (.lload_n 2, 1) := by decide +kernel
theorem nd_M_free_68 : decode nc_M_free 68 = .ok (.lreturn, 1) := by decide +kernel
theorem nd_M_linesOf_0 : decode nc_M_linesOf 0 = .ok (.iload_n 1, 1) := by decide +kernel
theorem nd_M_linesOf_1 : decode nc_M_linesOf 1 = .ok (.ifCond .lt 7, 3) := by decide +kernel
theorem nd_M_linesOf_4 : decode nc_M_linesOf 4 = .ok (.iconst 1, 1) := by decide +kernel
theorem nd_M_linesOf_5 : decode nc_M_linesOf 5 = .ok (.goto 4, 3) := by decide +kernel
theorem nd_M_linesOf_8 : decode nc_M_linesOf 8 = .ok (.iconst 0, 1) := by decide +kernel
theorem nd_M_linesOf_9 : decode nc_M_linesOf 9 = .ok (.iload_n 2, 1) := by decide +kernel
theorem nd_M_linesOf_10 : decode nc_M_linesOf 10 = .ok (.ifCond .lt 7, 3) := by decide +kernel
theorem nd_M_linesOf_13 : decode nc_M_linesOf 13 = .ok (.iconst 1, 1) := by decide +kernel
theorem nd_M_linesOf_14 : decode nc_M_linesOf 14 = .ok (.goto 4, 3) := by decide +kernel
theorem nd_M_linesOf_17 : decode nc_M_linesOf 17 = .ok (.iconst 0, 1) := by decide +kernel
theorem nd_M_linesOf_18 : decode nc_M_linesOf 18 = .ok (.iadd, 1) := by decide +kernel
theorem nd_M_linesOf_19 : decode nc_M_linesOf 19 = .ok (.ireturn, 1) := by decide +kernel
theorem nd_M_setOf_0 : decode nc_M_setOf 0 = .ok (.iload_n 1, 1) := by decide +kernel
theorem nd_M_setOf_1 : decode nc_M_setOf 1 = .ok (.ifCond .lt 9, 3) := by decide +kernel
theorem nd_M_setOf_4 : decode nc_M_setOf 4 = .ok (.iconst 1, 1) := by decide +kernel
theorem nd_M_setOf_5 : decode nc_M_setOf 5 = .ok (.iload_n 1, 1) := by decide +kernel
theorem nd_M_setOf_6 : decode nc_M_setOf 6 = .ok (.ishl, 1) := by decide +kernel
theorem nd_M_setOf_7 : decode nc_M_setOf 7 = .ok (.goto 4, 3) := by decide +kernel
theorem nd_M_setOf_10 : decode nc_M_setOf 10 = .ok (.iconst 0, 1) := by decide +kernel
theorem nd_M_setOf_11 : decode nc_M_setOf 11 = .ok (.iload_n 2, 1) := by decide +kernel
theorem nd_M_setOf_12 : decode nc_M_setOf 12 = .ok (.ifCond .lt 9, 3) := by decide +kernel
theorem nd_M_setOf_15 : decode nc_M_setOf 15 = .ok (.iconst 1, 1) := by decide +kernel
theorem nd_M_setOf_16 : decode nc_M_setOf 16 = .ok (.iload_n 2, 1) := by decide +kernel
theorem nd_M_setOf_17 : decode nc_M_setOf 17 = .ok (.ishl, 1) := by decide +kernel
theorem nd_M_setOf_18 : decode nc_M_setOf 18 = .ok (.goto 4, 3) := by decide +kernel
theorem nd_M_setOf_21 : decode nc_M_setOf 21 = .ok (.iconst 0, 1) := by decide +kernel
theorem nd_M_setOf_22 : decode nc_M_setOf 22 = .ok (.ior, 1) := by decide +kernel
theorem nd_M_setOf_23 : decode nc_M_setOf 23 = .ok (.ireturn, 1) := by decide +kernel
theorem nd_M_transfer_0 : decode nc_M_transfer 0 = .ok (.iload_n 1, 1) := by decide +kernel
theorem nd_M_transfer_1 : decode nc_M_transfer 1 = .ok (.ifCond .lt 17, 3) := by decide +kernel
theorem nd_M_transfer_4 : decode nc_M_transfer 4 = .ok (.aload_n 0, 1) := by decide +kernel
theorem nd_M_transfer_5 : decode nc_M_transfer 5 = .ok (.getfield 25, 3) := by decide +kernel
theorem nd_M_transfer_8 : decode nc_M_transfer 8 = .ok (.iload_n 1, 1) := by decide +kernel
theorem nd_M_transfer_9 : decode nc_M_transfer 9 = .ok (.dup2, 1) := by decide +kernel
theorem nd_M_transfer_10 : decode nc_M_transfer 10 = .ok (.laload, 1) := by decide +kernel
theorem nd_M_transfer_11 : decode nc_M_transfer 11 = .ok (.iload_n 3, 1) := by decide +kernel
theorem nd_M_transfer_12 : decode nc_M_transfer 12 = .ok (.i2l, 1) := by decide +kernel
theorem nd_M_transfer_13 : decode nc_M_transfer 13 = .ok (.lsub, 1) := by decide +kernel
theorem nd_M_transfer_14 : decode nc_M_transfer 14 = .ok (.lastore, 1) := by decide +kernel
theorem nd_M_transfer_15 : decode nc_M_transfer 15 = .ok (.goto 19, 3) := by decide +kernel
theorem nd_M_transfer_18 : decode nc_M_transfer 18 = .ok (.aload_n 0, 1) := by decide +kernel
theorem nd_M_transfer_19 : decode nc_M_transfer 19 = .ok (.getfield 56, 3) := by decide +kernel
theorem nd_M_transfer_22 : decode nc_M_transfer 22 = .ok (.aload_n 0, 1) := by decide +kernel
theorem nd_M_transfer_23 : decode nc_M_transfer 23 = .ok (.getfield 7, 3) := by decide +kernel
theorem nd_M_transfer_26 : decode nc_M_transfer 26 = .ok (.iload_n 2, 1) := by decide +kernel
theorem nd_M_transfer_27 : decode nc_M_transfer 27 = .ok (.iaload, 1) := by decide +kernel
theorem nd_M_transfer_28 : decode nc_M_transfer 28 = .ok (.dup2, 1) := by decide +kernel
theorem nd_M_transfer_29 : decode nc_M_transfer 29 = .ok (.laload, 1) := by decide +kernel
theorem nd_M_transfer_30 : decode nc_M_transfer 30 = .ok (.iload_n 3, 1) := by decide +kernel
theorem nd_M_transfer_31 : decode nc_M_transfer 31 = .ok (.i2l, 1) := by decide +kernel
theorem nd_M_transfer_32 : decode nc_M_transfer 32 = .ok (.ladd, 1) := by decide +kernel
theorem nd_M_transfer_33 : decode nc_M_transfer 33 = .ok (.lastore, 1) := by decide +kernel
theorem nd_M_transfer_34 : decode nc_M_transfer 34 = .ok (.iload_n 2, 1) := by decide +kernel
theorem nd_M_transfer_35 : decode nc_M_transfer 35 = .ok (.ifCond .lt 17, 3) := by decide +kernel
theorem nd_M_transfer_38 : decode nc_M_transfer 38 = .ok (.aload_n 0, 1) := by decide +kernel
theorem nd_M_transfer_39 : decode nc_M_transfer 39 = .ok (.getfield 25, 3) := by decide +kernel
theorem nd_M_transfer_42 : decode nc_M_transfer 42 = .ok (.iload_n 2, 1) := by decide +kernel
theorem nd_M_transfer_43 : decode nc_M_transfer 43 = .ok (.dup2, 1) := by decide +kernel
theorem nd_M_transfer_44 : decode nc_M_transfer 44 = .ok (.laload, 1) := by decide +kernel
theorem nd_M_transfer_45 : decode nc_M_transfer 45 = .ok (.iload_n 3, 1) := by decide +kernel
theorem nd_M_transfer_46 : decode nc_M_transfer 46 = .ok (.i2l, 1) := by decide +kernel
theorem nd_M_transfer_47 : decode nc_M_transfer 47 = .ok (.ladd, 1) := by decide +kernel
theorem nd_M_transfer_48 : decode nc_M_transfer 48 = .ok (.lastore, 1) := by decide +kernel
theorem nd_M_transfer_49 : decode nc_M_transfer 49 = .ok (.goto 19, 3) := by decide +kernel
theorem nd_M_transfer_52 : decode nc_M_transfer 52 = .ok (.aload_n 0, 1) := by decide +kernel
theorem nd_M_transfer_53 : decode nc_M_transfer 53 = .ok (.getfield 56, 3) := by decide +kernel
theorem nd_M_transfer_56 : decode nc_M_transfer 56 = .ok (.aload_n 0, 1) := by decide +kernel
theorem nd_M_transfer_57 : decode nc_M_transfer 57 = .ok (.getfield 7, 3) := by decide +kernel
theorem nd_M_transfer_60 : decode nc_M_transfer 60 = .ok (.iload_n 1, 1) := by decide +kernel
theorem nd_M_transfer_61 : decode nc_M_transfer 61 = .ok (.iaload, 1) := by decide +kernel
theorem nd_M_transfer_62 : decode nc_M_transfer 62 = .ok (.dup2, 1) := by decide +kernel
theorem nd_M_transfer_63 : decode nc_M_transfer 63 = .ok (.laload, 1) := by decide +kernel
theorem nd_M_transfer_64 : decode nc_M_transfer 64 = .ok (.iload_n 3, 1) := by decide +kernel
theorem nd_M_transfer_65 : decode nc_M_transfer 65 = .ok (.i2l, 1) := by decide +kernel
theorem nd_M_transfer_66 : decode nc_M_transfer 66 = .ok (.lsub, 1) := by decide +kernel
theorem nd_M_transfer_67 : decode nc_M_transfer 67 = .ok (.lastore, 1) := by decide +kernel
theorem nd_M_transfer_68 : decode nc_M_transfer 68 = .ok (.return_, 1) := by decide +kernel
theorem nd_M_hold_0 : decode nc_M_hold 0 = .ok (.aload_n 0, 1) := by decide +kernel
theorem nd_M_hold_1 : decode nc_M_hold 1 = .ok (.invokevirtual 125, 3) := by decide +kernel
theorem nd_M_hold_4 : decode nc_M_hold 4 = .ok (.ifCond .eq 8, 3) := by decide +kernel
theorem nd_M_hold_7 : decode nc_M_hold 7 = .ok (.aload_n 0, 1) := by decide +kernel
theorem nd_M_hold_8 : decode nc_M_hold 8 = .ok (.invokevirtual 125, 3) := by decide +kernel
theorem nd_M_hold_11 : decode nc_M_hold 11 = .ok (.ireturn, 1) := by decide +kernel
theorem nd_M_hold_12 : decode nc_M_hold 12 = .ok (.aload_n 0, 1) := by decide +kernel
theorem nd_M_hold_13 : decode nc_M_hold 13 = .ok (.iload_n 1, 1) := by decide +kernel
theorem nd_M_hold_14 : decode nc_M_hold 14 = .ok (.invokevirtual 133, 3) := by decide +kernel
theorem nd_M_hold_17 : decode nc_M_hold 17 = .ok (.ifCond .eq 11, 3) := by decide +kernel
theorem nd_M_hold_20 : decode nc_M_hold 20 = .ok (.aload_n 0, 1) := by decide +kernel
theorem nd_M_hold_21 : decode nc_M_hold 21 = .ok (.iload_n 2, 1) := by decide +kernel
theorem nd_M_hold_22 : decode nc_M_hold 22 = .ok (.invokevirtual 139, 3) := by decide +kernel
theorem nd_M_hold_25 : decode nc_M_hold 25 = .ok (.ifCond .ne 6, 3) := by decide +kernel
theorem nd_M_hold_28 : decode nc_M_hold 28 = .ok (.bipush (-3), 2) := by decide +kernel
theorem nd_M_hold_30 : decode nc_M_hold 30 = .ok (.ireturn, 1) := by decide +kernel
theorem nd_M_hold_31 : decode nc_M_hold 31 = .ok (.iconst 0, 1) := by decide +kernel
theorem nd_M_hold_32 : decode nc_M_hold 32 = .ok (.istore_n 3, 1) := by decide +kernel
theorem nd_M_hold_33 : decode nc_M_hold 33 = .ok (.iload_n 3, 1) := by decide +kernel
theorem nd_M_hold_34 : decode nc_M_hold 34 = .ok (.bipush 8, 2) := by decide +kernel
theorem nd_M_hold_36 : decode nc_M_hold 36 = .ok (.if_icmp .ge 18, 3) := by decide +kernel
theorem nd_M_hold_39 : decode nc_M_hold 39 = .ok (.aload_n 0, 1) := by decide +kernel
theorem nd_M_hold_40 : decode nc_M_hold 40 = .ok (.getfield 35, 3) := by decide +kernel
theorem nd_M_hold_43 : decode nc_M_hold 43 = .ok (.iload_n 3, 1) := by decide +kernel
theorem nd_M_hold_44 : decode nc_M_hold 44 = .ok (.iaload, 1) := by decide +kernel
theorem nd_M_hold_45 : decode nc_M_hold 45 = .ok (.ifCond .le 9, 3) := by decide +kernel
theorem nd_M_hold_48 : decode nc_M_hold 48 = .ok (.iinc 3 1, 3) := by decide +kernel
theorem nd_M_hold_51 : decode nc_M_hold 51 = .ok (.goto (-18), 3) := by decide +kernel
theorem nd_M_hold_54 : decode nc_M_hold 54 = .ok (.iload_n 3, 1) := by decide +kernel
theorem nd_M_hold_55 : decode nc_M_hold 55 = .ok (.bipush 8, 2) := by decide +kernel
theorem nd_M_hold_57 : decode nc_M_hold 57 = .ok (.if_icmp .ne 6, 3) := by decide +kernel
theorem nd_M_hold_60 : decode nc_M_hold 60 = .ok (.bipush (-4), 2) := by decide +kernel
theorem nd_M_hold_62 : decode nc_M_hold 62 = .ok (.ireturn, 1) := by decide +kernel
theorem nd_M_hold_63 : decode nc_M_hold 63 = .ok (.aload_n 0, 1) := by decide +kernel
theorem nd_M_hold_64 : decode nc_M_hold 64 = .ok (.iload_n 1, 1) := by decide +kernel
theorem nd_M_hold_65 : decode nc_M_hold 65 = .ok (.invokevirtual 142, 3) := by decide +kernel
theorem nd_M_hold_68 : decode nc_M_hold 68 = .ok (.iload_n 2, 1) := by decide +kernel
theorem nd_M_hold_69 : decode nc_M_hold 69 = .ok (.i2l, 1) := by decide +kernel
theorem nd_M_hold_70 : decode nc_M_hold 70 = .ok (.lcmp, 1) := by decide +kernel
theorem nd_M_hold_71 : decode nc_M_hold 71 = .ok (.ifCond .ge 6, 3) := by decide +kernel
theorem nd_M_hold_74 : decode nc_M_hold 74 = .ok (.bipush (-5), 2) := by decide +kernel
theorem nd_M_hold_76 : decode nc_M_hold 76 = .ok (.ireturn, 1) := by decide +kernel
theorem nd_M_hold_77 : decode nc_M_hold 77 = .ok (.aload_n 0, 1) := by decide +kernel
theorem nd_M_hold_78 : decode nc_M_hold 78 = .ok (.iconst 1, 1) := by decide +kernel
theorem nd_M_hold_79 : decode nc_M_hold 79 = .ok (.iconst 1, 1) := by decide +kernel
theorem nd_M_hold_80 : decode nc_M_hold 80 = .ok (.iload_n 1, 1) := by decide +kernel
theorem nd_M_hold_81 : decode nc_M_hold 81 = .ok (.ishl, 1) := by decide +kernel
theorem nd_M_hold_82 : decode nc_M_hold 82 = .ok (.invokevirtual 129, 3) := by decide +kernel
theorem nd_M_hold_85 : decode nc_M_hold 85 = .ok (.ifCond .ne 5, 3) := by decide +kernel
theorem nd_M_hold_88 : decode nc_M_hold 88 = .ok (.iconst (-1), 1) := by decide +kernel
theorem nd_M_hold_89 : decode nc_M_hold 89 = .ok (.ireturn, 1) := by decide +kernel
theorem nd_M_hold_90 : decode nc_M_hold 90 = .ok (.aload_n 0, 1) := by decide +kernel
theorem nd_M_hold_91 : decode nc_M_hold 91 = .ok (.getfield 32, 3) := by decide +kernel
theorem nd_M_hold_94 : decode nc_M_hold 94 = .ok (.iload_n 3, 1) := by decide +kernel
theorem nd_M_hold_95 : decode nc_M_hold 95 = .ok (.iload_n 1, 1) := by decide +kernel
theorem nd_M_hold_96 : decode nc_M_hold 96 = .ok (.iastore, 1) := by decide +kernel
theorem nd_M_hold_97 : decode nc_M_hold 97 = .ok (.aload_n 0, 1) := by decide +kernel
theorem nd_M_hold_98 : decode nc_M_hold 98 = .ok (.getfield 35, 3) := by decide +kernel
theorem nd_M_hold_101 : decode nc_M_hold 101 = .ok (.iload_n 3, 1) := by decide +kernel
theorem nd_M_hold_102 : decode nc_M_hold 102 = .ok (.iload_n 2, 1) := by decide +kernel
theorem nd_M_hold_103 : decode nc_M_hold 103 = .ok (.iastore, 1) := by decide +kernel
theorem nd_M_hold_104 : decode nc_M_hold 104 = .ok (.iload_n 3, 1) := by decide +kernel
theorem nd_M_hold_105 : decode nc_M_hold 105 = .ok (.ireturn, 1) := by decide +kernel
theorem nd_M_release_0 : decode nc_M_release 0 = .ok (.aload_n 0, 1) := by decide +kernel
theorem nd_M_release_1 : decode nc_M_release 1 = .ok (.invokevirtual 125, 3) := by decide +kernel
theorem nd_M_release_4 : decode nc_M_release 4 = .ok (.ifCond .eq 8, 3) := by decide +kernel
theorem nd_M_release_7 : decode nc_M_release 7 = .ok (.aload_n 0, 1) := by decide +kernel
theorem nd_M_release_8 : decode nc_M_release 8 = .ok (.invokevirtual 125, 3) := by decide +kernel
theorem nd_M_release_11 : decode nc_M_release 11 = .ok (.ireturn, 1) := by decide +kernel
theorem nd_M_release_12 : decode nc_M_release 12 = .ok (.aload_n 0, 1) := by decide +kernel
theorem nd_M_release_13 : decode nc_M_release 13 = .ok (.iload_n 1, 1) := by decide +kernel
theorem nd_M_release_14 : decode nc_M_release 14 = .ok (.invokevirtual 156, 3) := by decide +kernel
theorem nd_M_release_17 : decode nc_M_release 17 = .ok (.ifCond .ne 6, 3) := by decide +kernel
theorem nd_M_release_20 : decode nc_M_release 20 = .ok (.bipush (-3), 2) := by decide +kernel
theorem nd_M_release_22 : decode nc_M_release 22 = .ok (.ireturn, 1) := by decide +kernel
theorem nd_M_release_23 : decode nc_M_release 23 = .ok (.aload_n 0, 1) := by decide +kernel
theorem nd_M_release_24 : decode nc_M_release 24 = .ok (.iconst 1, 1) := by decide +kernel
theorem nd_M_release_25 : decode nc_M_release 25 = .ok (.iconst 1, 1) := by decide +kernel
theorem nd_M_release_26 : decode nc_M_release 26 = .ok (.aload_n 0, 1) := by decide +kernel
theorem nd_M_release_27 : decode nc_M_release 27 = .ok (.getfield 32, 3) := by decide +kernel
theorem nd_M_release_30 : decode nc_M_release 30 = .ok (.iload_n 1, 1) := by decide +kernel
theorem nd_M_release_31 : decode nc_M_release 31 = .ok (.iaload, 1) := by decide +kernel
theorem nd_M_release_32 : decode nc_M_release 32 = .ok (.ishl, 1) := by decide +kernel
theorem nd_M_release_33 : decode nc_M_release 33 = .ok (.invokevirtual 129, 3) := by decide +kernel
theorem nd_M_release_36 : decode nc_M_release 36 = .ok (.ifCond .ne 5, 3) := by decide +kernel
theorem nd_M_release_39 : decode nc_M_release 39 = .ok (.iconst (-1), 1) := by decide +kernel
theorem nd_M_release_40 : decode nc_M_release 40 = .ok (.ireturn, 1) := by decide +kernel
theorem nd_M_release_41 : decode nc_M_release 41 = .ok (.aload_n 0, 1) := by decide +kernel
theorem nd_M_release_42 : decode nc_M_release 42 = .ok (.getfield 35, 3) := by decide +kernel
theorem nd_M_release_45 : decode nc_M_release 45 = .ok (.iload_n 1, 1) := by decide +kernel
theorem nd_M_release_46 : decode nc_M_release 46 = .ok (.iconst 0, 1) := by decide +kernel
theorem nd_M_release_47 : decode nc_M_release 47 = .ok (.iastore, 1) := by decide +kernel
theorem nd_M_release_48 : decode nc_M_release 48 = .ok (.iconst 0, 1) := by decide +kernel
theorem nd_M_release_49 : decode nc_M_release 49 = .ok (.ireturn, 1) := by decide +kernel
theorem nd_M_stands_0 : decode nc_M_stands 0 = .ok (.iload_n 1, 1) := by decide +kernel
theorem nd_M_stands_1 : decode nc_M_stands 1 = .ok (.ifCond .lt 22, 3) := by decide +kernel
theorem nd_M_stands_4 : decode nc_M_stands 4 = .ok (.iload_n 1, 1) := by decide +kernel
theorem nd_M_stands_5 : decode nc_M_stands 5 = .ok (.bipush 8, 2) := by decide +kernel
theorem nd_M_stands_7 : decode nc_M_stands 7 = .ok (.if_icmp .ge 16, 3) := by decide +kernel
theorem nd_M_stands_10 : decode nc_M_stands 10 = .ok (.aload_n 0, 1) := by decide +kernel
theorem nd_M_stands_11 : decode nc_M_stands 11 = .ok (.getfield 35, 3) := by decide +kernel
theorem nd_M_stands_14 : decode nc_M_stands 14 = .ok (.iload_n 1, 1) := by decide +kernel
theorem nd_M_stands_15 : decode nc_M_stands 15 = .ok (.iaload, 1) := by decide +kernel
theorem nd_M_stands_16 : decode nc_M_stands 16 = .ok (.ifCond .le 7, 3) := by decide +kernel
theorem nd_M_stands_19 : decode nc_M_stands 19 = .ok (.iconst 1, 1) := by decide +kernel
theorem nd_M_stands_20 : decode nc_M_stands 20 = .ok (.goto 4, 3) := by decide +kernel
theorem nd_M_stands_23 : decode nc_M_stands 23 = .ok (.iconst 0, 1) := by decide +kernel
theorem nd_M_stands_24 : decode nc_M_stands 24 = .ok (.ireturn, 1) := by decide +kernel
theorem nd_M_settle_0 : decode nc_M_settle 0 = .ok (.aload_n 0, 1) := by decide +kernel
theorem nd_M_settle_1 : decode nc_M_settle 1 = .ok (.invokevirtual 125, 3) := by decide +kernel
theorem nd_M_settle_4 : decode nc_M_settle 4 = .ok (.ifCond .eq 8, 3) := by decide +kernel
theorem nd_M_settle_7 : decode nc_M_settle 7 = .ok (.aload_n 0, 1) := by decide +kernel
theorem nd_M_settle_8 : decode nc_M_settle 8 = .ok (.invokevirtual 125, 3) := by decide +kernel
theorem nd_M_settle_11 : decode nc_M_settle 11 = .ok (.ireturn, 1) := by decide +kernel
theorem nd_M_settle_12 : decode nc_M_settle 12 = .ok (.aload_n 0, 1) := by decide +kernel
theorem nd_M_settle_13 : decode nc_M_settle 13 = .ok (.iload_n 1, 1) := by decide +kernel
theorem nd_M_settle_14 : decode nc_M_settle 14 = .ok (.invokevirtual 156, 3) := by decide +kernel
theorem nd_M_settle_17 : decode nc_M_settle 17 = .ok (.ifCond .eq 32, 3) := by decide +kernel
theorem nd_M_settle_20 : decode nc_M_settle 20 = .ok (.aload_n 0, 1) := by decide +kernel
theorem nd_M_settle_21 : decode nc_M_settle 21 = .ok (.aload_n 0, 1) := by decide +kernel
theorem nd_M_settle_22 : decode nc_M_settle 22 = .ok (.getfield 32, 3) := by decide +kernel
theorem nd_M_settle_25 : decode nc_M_settle 25 = .ok (.iload_n 1, 1) := by decide +kernel
theorem nd_M_settle_26 : decode nc_M_settle 26 = .ok (.iaload, 1) := by decide +kernel
theorem nd_M_settle_27 : decode nc_M_settle 27 = .ok (.iload_n 2, 1) := by decide +kernel
theorem nd_M_settle_28 : decode nc_M_settle 28 = .ok (.invokevirtual 136, 3) := by decide +kernel
theorem nd_M_settle_31 : decode nc_M_settle 31 = .ok (.ifCond .eq 18, 3) := by decide +kernel
theorem nd_M_settle_34 : decode nc_M_settle 34 = .ok (.iload_n 3, 1) := by decide +kernel
theorem nd_M_settle_35 : decode nc_M_settle 35 = .ok (.iconst 1, 1) := by decide +kernel
theorem nd_M_settle_36 : decode nc_M_settle 36 = .ok (.if_icmp .lt 13, 3) := by decide +kernel
theorem nd_M_settle_39 : decode nc_M_settle 39 = .ok (.iload_n 3, 1) := by decide +kernel
theorem nd_M_settle_40 : decode nc_M_settle 40 = .ok (.aload_n 0, 1) := by decide +kernel
theorem nd_M_settle_41 : decode nc_M_settle 41 = .ok (.getfield 35, 3) := by decide +kernel
theorem nd_M_settle_44 : decode nc_M_settle 44 = .ok (.iload_n 1, 1) := by decide +kernel
theorem nd_M_settle_45 : decode nc_M_settle 45 = .ok (.iaload, 1) := by decide +kernel
theorem nd_M_settle_46 : decode nc_M_settle 46 = .ok (.if_icmp .le 6, 3) := by decide +kernel
theorem nd_M_settle_49 : decode nc_M_settle 49 = .ok (.bipush (-3), 2) := by decide +kernel
theorem nd_M_settle_51 : decode nc_M_settle 51 = .ok (.ireturn, 1) := by decide +kernel
theorem nd_M_settle_52 : decode nc_M_settle 52 = .ok (.aload_n 0, 1) := by decide +kernel
theorem nd_M_settle_53 : decode nc_M_settle 53 = .ok (.getfield 32, 3) := by decide +kernel
theorem nd_M_settle_56 : decode nc_M_settle 56 = .ok (.iload_n 1, 1) := by decide +kernel
theorem nd_M_settle_57 : decode nc_M_settle 57 = .ok (.iaload, 1) := by decide +kernel
theorem nd_M_settle_58 : decode nc_M_settle 58 = .ok (.istore 4, 2) := by decide +kernel
theorem nd_M_settle_60 : decode nc_M_settle 60 = .ok (.aload_n 0, 1) := by decide +kernel
theorem nd_M_settle_61 : decode nc_M_settle 61 = .ok (.aload_n 0, 1) := by decide +kernel
theorem nd_M_settle_62 : decode nc_M_settle 62 = .ok (.iload 4, 2) := by decide +kernel
theorem nd_M_settle_64 : decode nc_M_settle 64 = .ok (.iload_n 2, 1) := by decide +kernel
theorem nd_M_settle_65 : decode nc_M_settle 65 = .ok (.invokevirtual 146, 3) := by decide +kernel
theorem nd_M_settle_68 : decode nc_M_settle 68 = .ok (.aload_n 0, 1) := by decide +kernel
theorem nd_M_settle_69 : decode nc_M_settle 69 = .ok (.iload 4, 2) := by decide +kernel
theorem nd_M_settle_71 : decode nc_M_settle 71 = .ok (.iload_n 2, 1) := by decide +kernel
theorem nd_M_settle_72 : decode nc_M_settle 72 = .ok (.invokevirtual 149, 3) := by decide +kernel
theorem nd_M_settle_75 : decode nc_M_settle 75 = .ok (.invokevirtual 129, 3) := by decide +kernel
theorem nd_M_settle_78 : decode nc_M_settle 78 = .ok (.ifCond .ne 5, 3) := by decide +kernel
theorem nd_M_settle_81 : decode nc_M_settle 81 = .ok (.iconst (-1), 1) := by decide +kernel
theorem nd_M_settle_82 : decode nc_M_settle 82 = .ok (.ireturn, 1) := by decide +kernel
theorem nd_M_settle_83 : decode nc_M_settle 83 = .ok (.aload_n 0, 1) := by decide +kernel
theorem nd_M_settle_84 : decode nc_M_settle 84 = .ok (.getfield 35, 3) := by decide +kernel
theorem nd_M_settle_87 : decode nc_M_settle 87 = .ok (.iload_n 1, 1) := by decide +kernel
theorem nd_M_settle_88 : decode nc_M_settle 88 = .ok (.iconst 0, 1) := by decide +kernel
theorem nd_M_settle_89 : decode nc_M_settle 89 = .ok (.iastore, 1) := by decide +kernel
theorem nd_M_settle_90 : decode nc_M_settle 90 = .ok (.aload_n 0, 1) := by decide +kernel
theorem nd_M_settle_91 : decode nc_M_settle 91 = .ok (.iload 4, 2) := by decide +kernel
theorem nd_M_settle_93 : decode nc_M_settle 93 = .ok (.iload_n 2, 1) := by decide +kernel
theorem nd_M_settle_94 : decode nc_M_settle 94 = .ok (.iload_n 3, 1) := by decide +kernel
theorem nd_M_settle_95 : decode nc_M_settle 95 = .ok (.invokevirtual 152, 3) := by decide +kernel
theorem nd_M_settle_98 : decode nc_M_settle 98 = .ok (.iconst 0, 1) := by decide +kernel
theorem nd_M_settle_99 : decode nc_M_settle 99 = .ok (.ireturn, 1) := by decide +kernel
theorem nd_M_order_0 : decode nc_M_order 0 = .ok (.aload_n 0, 1) := by decide +kernel
theorem nd_M_order_1 : decode nc_M_order 1 = .ok (.invokevirtual 125, 3) := by decide +kernel
theorem nd_M_order_4 : decode nc_M_order 4 = .ok (.ifCond .eq 8, 3) := by decide +kernel
theorem nd_M_order_7 : decode nc_M_order 7 = .ok (.aload_n 0, 1) := by decide +kernel
theorem nd_M_order_8 : decode nc_M_order 8 = .ok (.invokevirtual 125, 3) := by decide +kernel
theorem nd_M_order_11 : decode nc_M_order 11 = .ok (.ireturn, 1) := by decide +kernel
theorem nd_M_order_12 : decode nc_M_order 12 = .ok (.aload_n 0, 1) := by decide +kernel
theorem nd_M_order_13 : decode nc_M_order 13 = .ok (.iload_n 1, 1) := by decide +kernel
theorem nd_M_order_14 : decode nc_M_order 14 = .ok (.invokevirtual 133, 3) := by decide +kernel
theorem nd_M_order_17 : decode nc_M_order 17 = .ok (.ifCond .eq 41, 3) := by decide +kernel
theorem nd_M_order_20 : decode nc_M_order 20 = .ok (.aload_n 0, 1) := by decide +kernel
theorem nd_M_order_21 : decode nc_M_order 21 = .ok (.iload_n 2, 1) := by decide +kernel
theorem nd_M_order_22 : decode nc_M_order 22 = .ok (.invokevirtual 133, 3) := by decide +kernel
theorem nd_M_order_25 : decode nc_M_order 25 = .ok (.ifCond .eq 33, 3) := by decide +kernel
theorem nd_M_order_28 : decode nc_M_order 28 = .ok (.aload_n 0, 1) := by decide +kernel
theorem nd_M_order_29 : decode nc_M_order 29 = .ok (.iload_n 1, 1) := by decide +kernel
theorem nd_M_order_30 : decode nc_M_order 30 = .ok (.iload_n 2, 1) := by decide +kernel
theorem nd_M_order_31 : decode nc_M_order 31 = .ok (.invokevirtual 136, 3) := by decide +kernel
theorem nd_M_order_34 : decode nc_M_order 34 = .ok (.ifCond .eq 24, 3) := by decide +kernel
theorem nd_M_order_37 : decode nc_M_order 37 = .ok (.aload_n 0, 1) := by decide +kernel
theorem nd_M_order_38 : decode nc_M_order 38 = .ok (.iload_n 3, 1) := by decide +kernel
theorem nd_M_order_39 : decode nc_M_order 39 = .ok (.invokevirtual 139, 3) := by decide +kernel
theorem nd_M_order_42 : decode nc_M_order 42 = .ok (.ifCond .eq 16, 3) := by decide +kernel
theorem nd_M_order_45 : decode nc_M_order 45 = .ok (.iload 4, 2) := by decide +kernel
theorem nd_M_order_47 : decode nc_M_order 47 = .ok (.iconst 1, 1) := by decide +kernel
theorem nd_M_order_48 : decode nc_M_order 48 = .ok (.if_icmp .lt 10, 3) := by decide +kernel
theorem nd_M_order_51 : decode nc_M_order 51 = .ok (.iload 4, 2) := by decide +kernel
theorem nd_M_order_53 : decode nc_M_order 53 = .ok (.bipush 31, 2) := by decide +kernel
theorem nd_M_order_55 : decode nc_M_order 55 = .ok (.if_icmp .le 6, 3) := by decide +kernel
theorem nd_M_order_58 : decode nc_M_order 58 = .ok (.bipush (-3), 2) := by decide +kernel
theorem nd_M_order_60 : decode nc_M_order 60 = .ok (.ireturn, 1) := by decide +kernel
theorem nd_M_order_61 : decode nc_M_order 61 = .ok (.aload_n 0, 1) := by decide +kernel
theorem nd_M_order_62 : decode nc_M_order 62 = .ok (.getfield 159, 3) := by decide +kernel
theorem nd_M_order_65 : decode nc_M_order 65 = .ok (.bipush 6, 2) := by decide +kernel
theorem nd_M_order_67 : decode nc_M_order 67 = .ok (.if_icmp .ne 6, 3) := by decide +kernel
theorem nd_M_order_70 : decode nc_M_order 70 = .ok (.bipush (-4), 2) := by decide +kernel
theorem nd_M_order_72 : decode nc_M_order 72 = .ok (.ireturn, 1) := by decide +kernel
theorem nd_M_order_73 : decode nc_M_order 73 = .ok (.aload_n 0, 1) := by decide +kernel
theorem nd_M_order_74 : decode nc_M_order 74 = .ok (.iconst 1, 1) := by decide +kernel
theorem nd_M_order_75 : decode nc_M_order 75 = .ok (.iconst 1, 1) := by decide +kernel
theorem nd_M_order_76 : decode nc_M_order 76 = .ok (.iload_n 1, 1) := by decide +kernel
theorem nd_M_order_77 : decode nc_M_order 77 = .ok (.ishl, 1) := by decide +kernel
theorem nd_M_order_78 : decode nc_M_order 78 = .ok (.invokevirtual 129, 3) := by decide +kernel
theorem nd_M_order_81 : decode nc_M_order 81 = .ok (.ifCond .ne 5, 3) := by decide +kernel
theorem nd_M_order_84 : decode nc_M_order 84 = .ok (.iconst (-1), 1) := by decide +kernel
theorem nd_M_order_85 : decode nc_M_order 85 = .ok (.ireturn, 1) := by decide +kernel
theorem nd_M_order_86 : decode nc_M_order 86 = .ok (.aload_n 0, 1) := by decide +kernel
theorem nd_M_order_87 : decode nc_M_order 87 = .ok (.getfield 38, 3) := by decide +kernel
theorem nd_M_order_90 : decode nc_M_order 90 = .ok (.aload_n 0, 1) := by decide +kernel
theorem nd_M_order_91 : decode nc_M_order 91 = .ok (.getfield 159, 3) := by decide +kernel
theorem nd_M_order_94 : decode nc_M_order 94 = .ok (.iload_n 1, 1) := by decide +kernel
theorem nd_M_order_95 : decode nc_M_order 95 = .ok (.iastore, 1) := by decide +kernel
theorem nd_M_order_96 : decode nc_M_order 96 = .ok (.aload_n 0, 1) := by decide +kernel
theorem nd_M_order_97 : decode nc_M_order 97 = .ok (.getfield 41, 3) := by decide +kernel
theorem nd_M_order_100 : decode nc_M_order 100 = .ok (.aload_n 0, 1) := by decide +kernel
theorem nd_M_order_101 : decode nc_M_order 101 = .ok (.getfield 159, 3) := by decide +kernel
theorem nd_M_order_104 : decode nc_M_order 104 = .ok (.iload_n 2, 1) := by decide +kernel
theorem nd_M_order_105 : decode nc_M_order 105 = .ok (.iastore, 1) := by decide +kernel
theorem nd_M_order_106 : decode nc_M_order 106 = .ok (.aload_n 0, 1) := by decide +kernel
theorem nd_M_order_107 : decode nc_M_order 107 = .ok (.getfield 44, 3) := by decide +kernel
theorem nd_M_order_110 : decode nc_M_order 110 = .ok (.aload_n 0, 1) := by decide +kernel
theorem nd_M_order_111 : decode nc_M_order 111 = .ok (.getfield 159, 3) := by decide +kernel
theorem nd_M_order_114 : decode nc_M_order 114 = .ok (.iload_n 3, 1) := by decide +kernel
theorem nd_M_order_115 : decode nc_M_order 115 = .ok (.iastore, 1) := by decide +kernel
theorem nd_M_order_116 : decode nc_M_order 116 = .ok (.aload_n 0, 1) := by decide +kernel
theorem nd_M_order_117 : decode nc_M_order 117 = .ok (.getfield 47, 3) := by decide +kernel
theorem nd_M_order_120 : decode nc_M_order 120 = .ok (.aload_n 0, 1) := by decide +kernel
theorem nd_M_order_121 : decode nc_M_order 121 = .ok (.getfield 159, 3) := by decide +kernel
theorem nd_M_order_124 : decode nc_M_order 124 = .ok (.iload 4, 2) := by decide +kernel
theorem nd_M_order_126 : decode nc_M_order 126 = .ok (.iastore, 1) := by decide +kernel
theorem nd_M_order_127 : decode nc_M_order 127 = .ok (.aload_n 0, 1) := by decide +kernel
theorem nd_M_order_128 : decode nc_M_order 128 = .ok (.dup, 1) := by decide +kernel
theorem nd_M_order_129 : decode nc_M_order 129 = .ok (.getfield 159, 3) := by decide +kernel
theorem nd_M_order_132 : decode nc_M_order 132 = .ok (.iconst 1, 1) := by decide +kernel
theorem nd_M_order_133 : decode nc_M_order 133 = .ok (.iadd, 1) := by decide +kernel
theorem nd_M_order_134 : decode nc_M_order 134 = .ok (.putfield 159, 3) := by decide +kernel
theorem nd_M_order_137 : decode nc_M_order 137 = .ok (.aload_n 0, 1) := by decide +kernel
theorem nd_M_order_138 : decode nc_M_order 138 = .ok (.getfield 159, 3) := by decide +kernel
theorem nd_M_order_141 : decode nc_M_order 141 = .ok (.iconst 1, 1) := by decide +kernel
theorem nd_M_order_142 : decode nc_M_order 142 = .ok (.isub, 1) := by decide +kernel
theorem nd_M_order_143 : decode nc_M_order 143 = .ok (.ireturn, 1) := by decide +kernel
theorem nd_M_rest_0 : decode nc_M_rest 0 = .ok (.aload_n 0, 1) := by decide +kernel
theorem nd_M_rest_1 : decode nc_M_rest 1 = .ok (.invokevirtual 125, 3) := by decide +kernel
theorem nd_M_rest_4 : decode nc_M_rest 4 = .ok (.ifCond .eq 8, 3) := by decide +kernel
theorem nd_M_rest_7 : decode nc_M_rest 7 = .ok (.aload_n 0, 1) := by decide +kernel
theorem nd_M_rest_8 : decode nc_M_rest 8 = .ok (.invokevirtual 125, 3) := by decide +kernel
theorem nd_M_rest_11 : decode nc_M_rest 11 = .ok (.ireturn, 1) := by decide +kernel
theorem nd_M_rest_12 : decode nc_M_rest 12 = .ok (.iload_n 1, 1) := by decide +kernel
theorem nd_M_rest_13 : decode nc_M_rest 13 = .ok (.ifCond .lt 26, 3) := by decide +kernel
theorem nd_M_rest_16 : decode nc_M_rest 16 = .ok (.iload_n 1, 1) := by decide +kernel
theorem nd_M_rest_17 : decode nc_M_rest 17 = .ok (.sipush 20000, 3) := by decide +kernel
theorem nd_M_rest_20 : decode nc_M_rest 20 = .ok (.if_icmp .gt 19, 3) := by decide +kernel
theorem nd_M_rest_23 : decode nc_M_rest 23 = .ok (.aload_n 0, 1) := by decide +kernel
theorem nd_M_rest_24 : decode nc_M_rest 24 = .ok (.iload_n 1, 1) := by decide +kernel
theorem nd_M_rest_25 : decode nc_M_rest 25 = .ok (.invokevirtual 93, 3) := by decide +kernel
theorem nd_M_rest_28 : decode nc_M_rest 28 = .ok (.ifCond .ne 11, 3) := by decide +kernel
theorem nd_M_rest_31 : decode nc_M_rest 31 = .ok (.aload_n 0, 1) := by decide +kernel
theorem nd_M_rest_32 : decode nc_M_rest 32 = .ok (.iload_n 1, 1) := by decide +kernel
theorem nd_M_rest_33 : decode nc_M_rest 33 = .ok (.invokevirtual 162, 3) := by decide +kernel
theorem nd_M_rest_36 : decode nc_M_rest 36 = .ok (.ifCond .ne 6, 3) := by decide +kernel
theorem nd_M_rest_39 : decode nc_M_rest 39 = .ok (.bipush (-3), 2) := by decide +kernel
theorem nd_M_rest_41 : decode nc_M_rest 41 = .ok (.ireturn, 1) := by decide +kernel
theorem nd_M_rest_42 : decode nc_M_rest 42 = .ok (.aload_n 0, 1) := by decide +kernel
theorem nd_M_rest_43 : decode nc_M_rest 43 = .ok (.getfield 87, 3) := by decide +kernel
theorem nd_M_rest_46 : decode nc_M_rest 46 = .ok (.bipush 8, 2) := by decide +kernel
theorem nd_M_rest_48 : decode nc_M_rest 48 = .ok (.if_icmp .ne 6, 3) := by decide +kernel
theorem nd_M_rest_51 : decode nc_M_rest 51 = .ok (.bipush (-4), 2) := by decide +kernel
theorem nd_M_rest_53 : decode nc_M_rest 53 = .ok (.ireturn, 1) := by decide +kernel
theorem nd_M_rest_54 : decode nc_M_rest 54 = .ok (.aload_n 0, 1) := by decide +kernel
theorem nd_M_rest_55 : decode nc_M_rest 55 = .ok (.iconst 0, 1) := by decide +kernel
theorem nd_M_rest_56 : decode nc_M_rest 56 = .ok (.iconst 0, 1) := by decide +kernel
theorem nd_M_rest_57 : decode nc_M_rest 57 = .ok (.invokevirtual 129, 3) := by decide +kernel
theorem nd_M_rest_60 : decode nc_M_rest 60 = .ok (.ifCond .ne 5, 3) := by decide +kernel
theorem nd_M_rest_63 : decode nc_M_rest 63 = .ok (.iconst (-1), 1) := by decide +kernel
theorem nd_M_rest_64 : decode nc_M_rest 64 = .ok (.ireturn, 1) := by decide +kernel
theorem nd_M_rest_65 : decode nc_M_rest 65 = .ok (.aload_n 0, 1) := by decide +kernel
theorem nd_M_rest_66 : decode nc_M_rest 66 = .ok (.getfield 53, 3) := by decide +kernel
theorem nd_M_rest_69 : decode nc_M_rest 69 = .ok (.aload_n 0, 1) := by decide +kernel
theorem nd_M_rest_70 : decode nc_M_rest 70 = .ok (.getfield 87, 3) := by decide +kernel
theorem nd_M_rest_73 : decode nc_M_rest 73 = .ok (.iload_n 1, 1) := by decide +kernel
theorem nd_M_rest_74 : decode nc_M_rest 74 = .ok (.iastore, 1) := by decide +kernel
theorem nd_M_rest_75 : decode nc_M_rest 75 = .ok (.aload_n 0, 1) := by decide +kernel
theorem nd_M_rest_76 : decode nc_M_rest 76 = .ok (.dup, 1) := by decide +kernel
theorem nd_M_rest_77 : decode nc_M_rest 77 = .ok (.getfield 87, 3) := by decide +kernel
theorem nd_M_rest_80 : decode nc_M_rest 80 = .ok (.iconst 1, 1) := by decide +kernel
theorem nd_M_rest_81 : decode nc_M_rest 81 = .ok (.iadd, 1) := by decide +kernel
theorem nd_M_rest_82 : decode nc_M_rest 82 = .ok (.putfield 87, 3) := by decide +kernel
theorem nd_M_rest_85 : decode nc_M_rest 85 = .ok (.iconst 0, 1) := by decide +kernel
theorem nd_M_rest_86 : decode nc_M_rest 86 = .ok (.ireturn, 1) := by decide +kernel
theorem nd_M_resting_0 : decode nc_M_resting 0 = .ok (.iload_n 1, 1) := by decide +kernel
theorem nd_M_resting_1 : decode nc_M_resting 1 = .ok (.bipush 7, 2) := by decide +kernel
theorem nd_M_resting_3 : decode nc_M_resting 3 = .ok (.irem, 1) := by decide +kernel
theorem nd_M_resting_4 : decode nc_M_resting 4 = .ok (.ifCond .eq 11, 3) := by decide +kernel
theorem nd_M_resting_7 : decode nc_M_resting 7 = .ok (.iload_n 1, 1) := by decide +kernel
theorem nd_M_resting_8 : decode nc_M_resting 8 = .ok (.bipush 7, 2) := by decide +kernel
theorem nd_M_resting_10 : decode nc_M_resting 10 = .ok (.irem, 1) := by decide +kernel
theorem nd_M_resting_11 : decode nc_M_resting 11 = .ok (.iconst 1, 1) := by decide +kernel
theorem nd_M_resting_12 : decode nc_M_resting 12 = .ok (.if_icmp .ne 7, 3) := by decide +kernel
theorem nd_M_resting_15 : decode nc_M_resting 15 = .ok (.iconst 1, 1) := by decide +kernel
theorem nd_M_resting_16 : decode nc_M_resting 16 = .ok (.goto 4, 3) := by decide +kernel
theorem nd_M_resting_19 : decode nc_M_resting 19 = .ok (.iconst 0, 1) := by decide +kernel
theorem nd_M_resting_20 : decode nc_M_resting 20 = .ok (.istore_n 2, 1) := by decide +kernel
theorem nd_M_resting_21 : decode nc_M_resting 21 = .ok (.iconst 0, 1) := by decide +kernel
theorem nd_M_resting_22 : decode nc_M_resting 22 = .ok (.istore_n 3, 1) := by decide +kernel
theorem nd_M_resting_23 : decode nc_M_resting 23 = .ok (.iload_n 3, 1) := by decide +kernel
theorem nd_M_resting_24 : decode nc_M_resting 24 = .ok (.aload_n 0, 1) := by decide +kernel
theorem nd_M_resting_25 : decode nc_M_resting 25 = .ok (.getfield 87, 3) := by decide +kernel
theorem nd_M_resting_28 : decode nc_M_resting 28 = .ok (.if_icmp .ge 29, 3) := by decide +kernel
theorem nd_M_resting_31 : decode nc_M_resting 31 = .ok (.iload_n 2, 1) := by decide +kernel
theorem nd_M_resting_32 : decode nc_M_resting 32 = .ok (.ifCond .ne 13, 3) := by decide +kernel
theorem nd_M_resting_35 : decode nc_M_resting 35 = .ok (.aload_n 0, 1) := by decide +kernel
theorem nd_M_resting_36 : decode nc_M_resting 36 = .ok (.getfield 53, 3) := by decide +kernel
theorem nd_M_resting_39 : decode nc_M_resting 39 = .ok (.iload_n 3, 1) := by decide +kernel
theorem nd_M_resting_40 : decode nc_M_resting 40 = .ok (.iaload, 1) := by decide +kernel
theorem nd_M_resting_41 : decode nc_M_resting 41 = .ok (.iload_n 1, 1) := by decide +kernel
theorem nd_M_resting_42 : decode nc_M_resting 42 = .ok (.if_icmp .ne 7, 3) := by decide +kernel
theorem nd_M_resting_45 : decode nc_M_resting 45 = .ok (.iconst 1, 1) := by decide +kernel
theorem nd_M_resting_46 : decode nc_M_resting 46 = .ok (.goto 4, 3) := by decide +kernel
theorem nd_M_resting_49 : decode nc_M_resting 49 = .ok (.iconst 0, 1) := by decide +kernel
theorem nd_M_resting_50 : decode nc_M_resting 50 = .ok (.istore_n 2, 1) := by decide +kernel
theorem nd_M_resting_51 : decode nc_M_resting 51 = .ok (.iinc 3 1, 3) := by decide +kernel
theorem nd_M_resting_54 : decode nc_M_resting 54 = .ok (.goto (-31), 3) := by decide +kernel
theorem nd_M_resting_57 : decode nc_M_resting 57 = .ok (.iload_n 2, 1) := by decide +kernel
theorem nd_M_resting_58 : decode nc_M_resting 58 = .ok (.ireturn, 1) := by decide +kernel
theorem nd_M_later_0 : decode nc_M_later 0 = .ok (.aload_n 0, 1) := by decide +kernel
theorem nd_M_later_1 : decode nc_M_later 1 = .ok (.aload_n 0, 1) := by decide +kernel
theorem nd_M_later_2 : decode nc_M_later 2 = .ok (.getfield 90, 3) := by decide +kernel
theorem nd_M_later_5 : decode nc_M_later 5 = .ok (.invokevirtual 83, 3) := by decide +kernel
theorem nd_M_later_8 : decode nc_M_later 8 = .ok (.bipush 12, 2) := by decide +kernel
theorem nd_M_later_10 : decode nc_M_later 10 = .ok (.aload_n 0, 1) := by decide +kernel
theorem nd_M_later_11 : decode nc_M_later 11 = .ok (.getfield 70, 3) := by decide +kernel
theorem nd_M_later_14 : decode nc_M_later 14 = .ok (.imul, 1) := by decide +kernel
theorem nd_M_later_15 : decode nc_M_later 15 = .ok (.aload_n 0, 1) := by decide +kernel
theorem nd_M_later_16 : decode nc_M_later 16 = .ok (.getfield 73, 3) := by decide +kernel
theorem nd_M_later_19 : decode nc_M_later 19 = .ok (.iadd, 1) := by decide +kernel
theorem nd_M_later_20 : decode nc_M_later 20 = .ok (.istore_n 2, 1) := by decide +kernel
theorem nd_M_later_21 : decode nc_M_later 21 = .ok (.aload_n 0, 1) := by decide +kernel
theorem nd_M_later_22 : decode nc_M_later 22 = .ok (.iload_n 1, 1) := by decide +kernel
theorem nd_M_later_23 : decode nc_M_later 23 = .ok (.invokevirtual 83, 3) := by decide +kernel
theorem nd_M_later_26 : decode nc_M_later 26 = .ok (.bipush 12, 2) := by decide +kernel
theorem nd_M_later_28 : decode nc_M_later 28 = .ok (.aload_n 0, 1) := by decide +kernel
theorem nd_M_later_29 : decode nc_M_later 29 = .ok (.getfield 70, 3) := by decide +kernel
theorem nd_M_later_32 : decode nc_M_later 32 = .ok (.imul, 1) := by decide +kernel
theorem nd_M_later_33 : decode nc_M_later 33 = .ok (.aload_n 0, 1) := by decide +kernel
theorem nd_M_later_34 : decode nc_M_later 34 = .ok (.getfield 73, 3) := by decide +kernel
theorem nd_M_later_37 : decode nc_M_later 37 = .ok (.iadd, 1) := by decide +kernel
theorem nd_M_later_38 : decode nc_M_later 38 = .ok (.iload_n 2, 1) := by decide +kernel
theorem nd_M_later_39 : decode nc_M_later 39 = .ok (.if_icmp .le 7, 3) := by decide +kernel
theorem nd_M_later_42 : decode nc_M_later 42 = .ok (.iconst 1, 1) := by decide +kernel
theorem nd_M_later_43 : decode nc_M_later 43 = .ok (.goto 4, 3) := by decide +kernel
theorem nd_M_later_46 : decode nc_M_later 46 = .ok (.iconst 0, 1) := by decide +kernel
theorem nd_M_later_47 : decode nc_M_later 47 = .ok (.ireturn, 1) := by decide +kernel
end
section
/-! decode rows -/
theorem nd_M_walk_0 : decode nc_M_walk 0 = .ok (.iload_n 1, 1) := by decide +kernel
theorem nd_M_walk_1 : decode nc_M_walk 1 = .ok (.istore_n 2, 1) := by decide +kernel
theorem nd_M_walk_2 : decode nc_M_walk 2 = .ok (.aload_n 0, 1) := by decide +kernel
theorem nd_M_walk_3 : decode nc_M_walk 3 = .ok (.sipush 2000, 3) := by decide +kernel
theorem nd_M_walk_6 : decode nc_M_walk 6 = .ok (.putfield 70, 3) := by decide +kernel
theorem nd_M_walk_9 : decode nc_M_walk 9 = .ok (.iconst 0, 1) := by decide +kernel
theorem nd_M_walk_10 : decode nc_M_walk 10 = .ok (.istore_n 3, 1) := by decide +kernel
theorem nd_M_walk_11 : decode nc_M_walk 11 = .ok (.iload_n 3, 1) := by decide +kernel
theorem nd_M_walk_12 : decode nc_M_walk 12 = .ok (.sipush 400, 3) := by decide +kernel
theorem nd_M_walk_15 : decode nc_M_walk 15 = .ok (.if_icmp .ge 64, 3) := by decide +kernel
theorem nd_M_walk_18 : decode nc_M_walk 18 = .ok (.iload_n 2, 1) := by decide +kernel
theorem nd_M_walk_19 : decode nc_M_walk 19 = .ok (.aload_n 0, 1) := by decide +kernel
theorem nd_M_walk_20 : decode nc_M_walk 20 = .ok (.getfield 70, 3) := by decide +kernel
theorem nd_M_walk_23 : decode nc_M_walk 23 = .ok (.invokestatic 66, 3) := by decide +kernel
theorem nd_M_walk_26 : decode nc_M_walk 26 = .ok (.ifCond .eq 9, 3) := by decide +kernel
theorem nd_M_walk_29 : decode nc_M_walk 29 = .ok (.sipush 366, 3) := by decide +kernel
theorem nd_M_walk_32 : decode nc_M_walk 32 = .ok (.goto 6, 3) := by decide +kernel
theorem nd_M_walk_35 : decode nc_M_walk 35 = .ok (.sipush 365, 3) := by decide +kernel
theorem nd_M_walk_38 : decode nc_M_walk 38 = .ok (.if_icmp .lt 41, 3) := by decide +kernel
theorem nd_M_walk_41 : decode nc_M_walk 41 = .ok (.iload_n 2, 1) := by decide +kernel
theorem nd_M_walk_42 : decode nc_M_walk 42 = .ok (.aload_n 0, 1) := by decide +kernel
theorem nd_M_walk_43 : decode nc_M_walk 43 = .ok (.getfield 70, 3) := by decide +kernel
theorem nd_M_walk_46 : decode nc_M_walk 46 = .ok (.invokestatic 66, 3) := by decide +kernel
theorem nd_M_walk_49 : decode nc_M_walk 49 = .ok (.ifCond .eq 9, 3) := by decide +kernel
theorem nd_M_walk_52 : decode nc_M_walk 52 = .ok (.sipush 366, 3) := by decide +kernel
theorem nd_M_walk_55 : decode nc_M_walk 55 = .ok (.goto 6, 3) := by decide +kernel
theorem nd_M_walk_58 : decode nc_M_walk 58 = .ok (.sipush 365, 3) := by decide +kernel
theorem nd_M_walk_61 : decode nc_M_walk 61 = .ok (.isub, 1) := by decide +kernel
theorem nd_M_walk_62 : decode nc_M_walk 62 = .ok (.istore_n 2, 1) := by decide +kernel
theorem nd_M_walk_63 : decode nc_M_walk 63 = .ok (.aload_n 0, 1) := by decide +kernel
theorem nd_M_walk_64 : decode nc_M_walk 64 = .ok (.dup, 1) := by decide +kernel
theorem nd_M_walk_65 : decode nc_M_walk 65 = .ok (.getfield 70, 3) := by decide +kernel
theorem nd_M_walk_68 : decode nc_M_walk 68 = .ok (.iconst 1, 1) := by decide +kernel
theorem nd_M_walk_69 : decode nc_M_walk 69 = .ok (.iadd, 1) := by decide +kernel
theorem nd_M_walk_70 : decode nc_M_walk 70 = .ok (.putfield 70, 3) := by decide +kernel
theorem nd_M_walk_73 : decode nc_M_walk 73 = .ok (.iinc 3 1, 3) := by decide +kernel
theorem nd_M_walk_76 : decode nc_M_walk 76 = .ok (.goto (-65), 3) := by decide +kernel
theorem nd_M_walk_79 : decode nc_M_walk 79 = .ok (.aload_n 0, 1) := by decide +kernel
theorem nd_M_walk_80 : decode nc_M_walk 80 = .ok (.iconst 1, 1) := by decide +kernel
theorem nd_M_walk_81 : decode nc_M_walk 81 = .ok (.putfield 73, 3) := by decide +kernel
theorem nd_M_walk_84 : decode nc_M_walk 84 = .ok (.iconst 0, 1) := by decide +kernel
theorem nd_M_walk_85 : decode nc_M_walk 85 = .ok (.istore_n 3, 1) := by decide +kernel
theorem nd_M_walk_86 : decode nc_M_walk 86 = .ok (.iload_n 3, 1) := by decide +kernel
theorem nd_M_walk_87 : decode nc_M_walk 87 = .ok (.bipush 12, 2) := by decide +kernel
theorem nd_M_walk_89 : decode nc_M_walk 89 = .ok (.if_icmp .ge 48, 3) := by decide +kernel
theorem nd_M_walk_92 : decode nc_M_walk 92 = .ok (.iload_n 2, 1) := by decide +kernel
theorem nd_M_walk_93 : decode nc_M_walk 93 = .ok (.aload_n 0, 1) := by decide +kernel
theorem nd_M_walk_94 : decode nc_M_walk 94 = .ok (.getfield 70, 3) := by decide +kernel
theorem nd_M_walk_97 : decode nc_M_walk 97 = .ok (.aload_n 0, 1) := by decide +kernel
theorem nd_M_walk_98 : decode nc_M_walk 98 = .ok (.getfield 73, 3) := by decide +kernel
theorem nd_M_walk_101 : decode nc_M_walk 101 = .ok (.invokestatic 76, 3) := by decide +kernel
theorem nd_M_walk_104 : decode nc_M_walk 104 = .ok (.if_icmp .lt 33, 3) := by decide +kernel
theorem nd_M_walk_107 : decode nc_M_walk 107 = .ok (.iload_n 2, 1) := by decide +kernel
theorem nd_M_walk_108 : decode nc_M_walk 108 = .ok (.aload_n 0, 1) := by decide +kernel
theorem nd_M_walk_109 : decode nc_M_walk 109 = .ok (.getfield 70, 3) := by decide +kernel
theorem nd_M_walk_112 : decode nc_M_walk 112 = .ok (.aload_n 0, 1) := by decide +kernel
theorem nd_M_walk_113 : decode nc_M_walk 113 = .ok (.getfield 73, 3) := by decide +kernel
theorem nd_M_walk_116 : decode nc_M_walk 116 = .ok (.invokestatic 76, 3) := by decide +kernel
theorem nd_M_walk_119 : decode nc_M_walk 119 = .ok (.isub, 1) := by decide +kernel
theorem nd_M_walk_120 : decode nc_M_walk 120 = .ok (.istore_n 2, 1) := by decide +kernel
theorem nd_M_walk_121 : decode nc_M_walk 121 = .ok (.aload_n 0, 1) := by decide +kernel
theorem nd_M_walk_122 : decode nc_M_walk 122 = .ok (.dup, 1) := by decide +kernel
theorem nd_M_walk_123 : decode nc_M_walk 123 = .ok (.getfield 73, 3) := by decide +kernel
theorem nd_M_walk_126 : decode nc_M_walk 126 = .ok (.iconst 1, 1) := by decide +kernel
theorem nd_M_walk_127 : decode nc_M_walk 127 = .ok (.iadd, 1) := by decide +kernel
theorem nd_M_walk_128 : decode nc_M_walk 128 = .ok (.putfield 73, 3) := by decide +kernel
theorem nd_M_walk_131 : decode nc_M_walk 131 = .ok (.iinc 3 1, 3) := by decide +kernel
theorem nd_M_walk_134 : decode nc_M_walk 134 = .ok (.goto (-48), 3) := by decide +kernel
theorem nd_M_walk_137 : decode nc_M_walk 137 = .ok (.aload_n 0, 1) := by decide +kernel
theorem nd_M_walk_138 : decode nc_M_walk 138 = .ok (.iload_n 2, 1) := by decide +kernel
theorem nd_M_walk_139 : decode nc_M_walk 139 = .ok (.iconst 1, 1) := by decide +kernel
theorem nd_M_walk_140 : decode nc_M_walk 140 = .ok (.iadd, 1) := by decide +kernel
theorem nd_M_walk_141 : decode nc_M_walk 141 = .ok (.putfield 80, 3) := by decide +kernel
theorem nd_M_walk_144 : decode nc_M_walk 144 = .ok (.return_, 1) := by decide +kernel
theorem nd_M_leap_0 : decode nc_M_leap 0 = .ok (.iload_n 0, 1) := by decide +kernel
theorem nd_M_leap_1 : decode nc_M_leap 1 = .ok (.iconst 4, 1) := by decide +kernel
theorem nd_M_leap_2 : decode nc_M_leap 2 = .ok (.irem, 1) := by decide +kernel
theorem nd_M_leap_3 : decode nc_M_leap 3 = .ok (.ifCond .ne 10, 3) := by decide +kernel
theorem nd_M_leap_6 : decode nc_M_leap 6 = .ok (.iload_n 0, 1) := by decide +kernel
theorem nd_M_leap_7 : decode nc_M_leap 7 = .ok (.bipush 100, 2) := by decide +kernel
theorem nd_M_leap_9 : decode nc_M_leap 9 = .ok (.irem, 1) := by decide +kernel
theorem nd_M_leap_10 : decode nc_M_leap 10 = .ok (.ifCond .ne 11, 3) := by decide +kernel
theorem nd_M_leap_13 : decode nc_M_leap 13 = .ok (.iload_n 0, 1) := by decide +kernel
theorem nd_M_leap_14 : decode nc_M_leap 14 = .ok (.sipush 400, 3) := by decide +kernel
theorem nd_M_leap_17 : decode nc_M_leap 17 = .ok (.irem, 1) := by decide +kernel
theorem nd_M_leap_18 : decode nc_M_leap 18 = .ok (.ifCond .ne 7, 3) := by decide +kernel
theorem nd_M_leap_21 : decode nc_M_leap 21 = .ok (.iconst 1, 1) := by decide +kernel
theorem nd_M_leap_22 : decode nc_M_leap 22 = .ok (.goto 4, 3) := by decide +kernel
theorem nd_M_leap_25 : decode nc_M_leap 25 = .ok (.iconst 0, 1) := by decide +kernel
theorem nd_M_leap_26 : decode nc_M_leap 26 = .ok (.ireturn, 1) := by decide +kernel
theorem nd_M_length_0 : decode nc_M_length 0 = .ok (.iload_n 1, 1) := by decide +kernel
theorem nd_M_length_1 : decode nc_M_length 1 = .ok (.iconst 2, 1) := by decide +kernel
theorem nd_M_length_2 : decode nc_M_length 2 = .ok (.if_icmp .ne 20, 3) := by decide +kernel
theorem nd_M_length_5 : decode nc_M_length 5 = .ok (.iload_n 0, 1) := by decide +kernel
theorem nd_M_length_6 : decode nc_M_length 6 = .ok (.invokestatic 66, 3) := by decide +kernel
theorem nd_M_length_9 : decode nc_M_length 9 = .ok (.ifCond .eq 8, 3) := by decide +kernel
theorem nd_M_length_12 : decode nc_M_length 12 = .ok (.bipush 29, 2) := by decide +kernel
theorem nd_M_length_14 : decode nc_M_length 14 = .ok (.goto 38, 3) := by decide +kernel
theorem nd_M_length_17 : decode nc_M_length 17 = .ok (.bipush 28, 2) := by decide +kernel
theorem nd_M_length_19 : decode nc_M_length 19 = .ok (.goto 33, 3) := by decide +kernel
theorem nd_M_length_22 : decode nc_M_length 22 = .ok (.iload_n 1, 1) := by decide +kernel
theorem nd_M_length_23 : decode nc_M_length 23 = .ok (.iconst 4, 1) := by decide +kernel
theorem nd_M_length_24 : decode nc_M_length 24 = .ok (.if_icmp .eq 21, 3) := by decide +kernel
theorem nd_M_length_27 : decode nc_M_length 27 = .ok (.iload_n 1, 1) := by decide +kernel
theorem nd_M_length_28 : decode nc_M_length 28 = .ok (.bipush 6, 2) := by decide +kernel
theorem nd_M_length_30 : decode nc_M_length 30 = .ok (.if_icmp .eq 15, 3) := by decide +kernel
theorem nd_M_length_33 : decode nc_M_length 33 = .ok (.iload_n 1, 1) := by decide +kernel
theorem nd_M_length_34 : decode nc_M_length 34 = .ok (.bipush 9, 2) := by decide +kernel
theorem nd_M_length_36 : decode nc_M_length 36 = .ok (.if_icmp .eq 9, 3) := by decide +kernel
theorem nd_M_length_39 : decode nc_M_length 39 = .ok (.iload_n 1, 1) := by decide +kernel
theorem nd_M_length_40 : decode nc_M_length 40 = .ok (.bipush 11, 2) := by decide +kernel
theorem nd_M_length_42 : decode nc_M_length 42 = .ok (.if_icmp .ne 8, 3) := by decide +kernel
theorem nd_M_length_45 : decode nc_M_length 45 = .ok (.bipush 30, 2) := by decide +kernel
theorem nd_M_length_47 : decode nc_M_length 47 = .ok (.goto 5, 3) := by decide +kernel
theorem nd_M_length_50 : decode nc_M_length 50 = .ok (.bipush 31, 2) := by decide +kernel
theorem nd_M_length_52 : decode nc_M_length 52 = .ok (.ireturn, 1) := by decide +kernel
theorem nd_M_run_0 : decode nc_M_run 0 = .ok (.aload_n 0, 1) := by decide +kernel
theorem nd_M_run_1 : decode nc_M_run 1 = .ok (.getfield 102, 3) := by decide +kernel
theorem nd_M_run_4 : decode nc_M_run 4 = .ok (.ifCond .eq 5, 3) := by decide +kernel
theorem nd_M_run_7 : decode nc_M_run 7 = .ok (.iconst (-1), 1) := by decide +kernel
theorem nd_M_run_8 : decode nc_M_run 8 = .ok (.ireturn, 1) := by decide +kernel
theorem nd_M_run_9 : decode nc_M_run 9 = .ok (.iload_n 1, 1) := by decide +kernel
theorem nd_M_run_10 : decode nc_M_run 10 = .ok (.iconst 1, 1) := by decide +kernel
theorem nd_M_run_11 : decode nc_M_run 11 = .ok (.if_icmp .lt 9, 3) := by decide +kernel
theorem nd_M_run_14 : decode nc_M_run 14 = .ok (.iload_n 1, 1) := by decide +kernel
theorem nd_M_run_15 : decode nc_M_run 15 = .ok (.bipush 31, 2) := by decide +kernel
theorem nd_M_run_17 : decode nc_M_run 17 = .ok (.if_icmp .le 6, 3) := by decide +kernel
theorem nd_M_run_20 : decode nc_M_run 20 = .ok (.bipush (-3), 2) := by decide +kernel
theorem nd_M_run_22 : decode nc_M_run 22 = .ok (.ireturn, 1) := by decide +kernel
theorem nd_M_run_23 : decode nc_M_run 23 = .ok (.iconst 0, 1) := by decide +kernel
theorem nd_M_run_24 : decode nc_M_run 24 = .ok (.istore_n 2, 1) := by decide +kernel
theorem nd_M_run_25 : decode nc_M_run 25 = .ok (.iload_n 2, 1) := by decide +kernel
theorem nd_M_run_26 : decode nc_M_run 26 = .ok (.iload_n 1, 1) := by decide +kernel
theorem nd_M_run_27 : decode nc_M_run 27 = .ok (.if_icmp .ge 18, 3) := by decide +kernel
theorem nd_M_run_30 : decode nc_M_run 30 = .ok (.aload_n 0, 1) := by decide +kernel
theorem nd_M_run_31 : decode nc_M_run 31 = .ok (.invokevirtual 186, 3) := by decide +kernel
theorem nd_M_run_34 : decode nc_M_run 34 = .ok (.ifCond .ne 5, 3) := by decide +kernel
theorem nd_M_run_37 : decode nc_M_run 37 = .ok (.iconst (-1), 1) := by decide +kernel
theorem nd_M_run_38 : decode nc_M_run 38 = .ok (.ireturn, 1) := by decide +kernel
theorem nd_M_run_39 : decode nc_M_run 39 = .ok (.iinc 2 1, 3) := by decide +kernel
theorem nd_M_run_42 : decode nc_M_run 42 = .ok (.goto (-17), 3) := by decide +kernel
theorem nd_M_run_45 : decode nc_M_run 45 = .ok (.iload_n 1, 1) := by decide +kernel
theorem nd_M_run_46 : decode nc_M_run 46 = .ok (.ireturn, 1) := by decide +kernel
theorem nd_M_dayEnd_0 : decode nc_M_dayEnd 0 = .ok (.aload_n 0, 1) := by decide +kernel
theorem nd_M_dayEnd_1 : decode nc_M_dayEnd 1 = .ok (.getfield 118, 3) := by decide +kernel
theorem nd_M_dayEnd_4 : decode nc_M_dayEnd 4 = .ok (.ifCond .ne 19, 3) := by decide +kernel
theorem nd_M_dayEnd_7 : decode nc_M_dayEnd 7 = .ok (.aload_n 0, 1) := by decide +kernel
theorem nd_M_dayEnd_8 : decode nc_M_dayEnd 8 = .ok (.iconst 0, 1) := by decide +kernel
theorem nd_M_dayEnd_9 : decode nc_M_dayEnd 9 = .ok (.iconst 0, 1) := by decide +kernel
theorem nd_M_dayEnd_10 : decode nc_M_dayEnd 10 = .ok (.invokevirtual 129, 3) := by decide +kernel
theorem nd_M_dayEnd_13 : decode nc_M_dayEnd 13 = .ok (.ifCond .ne 5, 3) := by decide +kernel
theorem nd_M_dayEnd_16 : decode nc_M_dayEnd 16 = .ok (.iconst 0, 1) := by decide +kernel
theorem nd_M_dayEnd_17 : decode nc_M_dayEnd 17 = .ok (.ireturn, 1) := by decide +kernel
theorem nd_M_dayEnd_18 : decode nc_M_dayEnd 18 = .ok (.aload_n 0, 1) := by decide +kernel
theorem nd_M_dayEnd_19 : decode nc_M_dayEnd 19 = .ok (.iconst 1, 1) := by decide +kernel
theorem nd_M_dayEnd_20 : decode nc_M_dayEnd 20 = .ok (.putfield 118, 3) := by decide +kernel
theorem nd_M_dayEnd_23 : decode nc_M_dayEnd 23 = .ok (.iconst 0, 1) := by decide +kernel
theorem nd_M_dayEnd_24 : decode nc_M_dayEnd 24 = .ok (.istore_n 1, 1) := by decide +kernel
theorem nd_M_dayEnd_25 : decode nc_M_dayEnd 25 = .ok (.iload_n 1, 1) := by decide +kernel
theorem nd_M_dayEnd_26 : decode nc_M_dayEnd 26 = .ok (.aload_n 0, 1) := by decide +kernel
theorem nd_M_dayEnd_27 : decode nc_M_dayEnd 27 = .ok (.getfield 121, 3) := by decide +kernel
theorem nd_M_dayEnd_30 : decode nc_M_dayEnd 30 = .ok (.if_icmp .ge 32, 3) := by decide +kernel
theorem nd_M_dayEnd_33 : decode nc_M_dayEnd 33 = .ok (.aload_n 0, 1) := by decide +kernel
theorem nd_M_dayEnd_34 : decode nc_M_dayEnd 34 = .ok (.getfield 22, 3) := by decide +kernel
theorem nd_M_dayEnd_37 : decode nc_M_dayEnd 37 = .ok (.iload_n 1, 1) := by decide +kernel
theorem nd_M_dayEnd_38 : decode nc_M_dayEnd 38 = .ok (.iaload, 1) := by decide +kernel
theorem nd_M_dayEnd_39 : decode nc_M_dayEnd 39 = .ok (.aload_n 0, 1) := by decide +kernel
theorem nd_M_dayEnd_40 : decode nc_M_dayEnd 40 = .ok (.getfield 90, 3) := by decide +kernel
theorem nd_M_dayEnd_43 : decode nc_M_dayEnd 43 = .ok (.if_icmp .ge 13, 3) := by decide +kernel
theorem nd_M_dayEnd_46 : decode nc_M_dayEnd 46 = .ok (.aload_n 0, 1) := by decide +kernel
theorem nd_M_dayEnd_47 : decode nc_M_dayEnd 47 = .ok (.iload_n 1, 1) := by decide +kernel
theorem nd_M_dayEnd_48 : decode nc_M_dayEnd 48 = .ok (.invokevirtual 183, 3) := by decide +kernel
theorem nd_M_dayEnd_51 : decode nc_M_dayEnd 51 = .ok (.ifCond .ne 5, 3) := by decide +kernel
theorem nd_M_dayEnd_54 : decode nc_M_dayEnd 54 = .ok (.iconst 0, 1) := by decide +kernel
theorem nd_M_dayEnd_55 : decode nc_M_dayEnd 55 = .ok (.ireturn, 1) := by decide +kernel
theorem nd_M_dayEnd_56 : decode nc_M_dayEnd 56 = .ok (.iinc 1 1, 3) := by decide +kernel
theorem nd_M_dayEnd_59 : decode nc_M_dayEnd 59 = .ok (.goto (-34), 3) := by decide +kernel
theorem nd_M_dayEnd_62 : decode nc_M_dayEnd 62 = .ok (.aload_n 0, 1) := by decide +kernel
theorem nd_M_dayEnd_63 : decode nc_M_dayEnd 63 = .ok (.iconst 0, 1) := by decide +kernel
theorem nd_M_dayEnd_64 : decode nc_M_dayEnd 64 = .ok (.iconst 0, 1) := by decide +kernel
theorem nd_M_dayEnd_65 : decode nc_M_dayEnd 65 = .ok (.invokevirtual 129, 3) := by decide +kernel
theorem nd_M_dayEnd_68 : decode nc_M_dayEnd 68 = .ok (.ifCond .ne 5, 3) := by decide +kernel
theorem nd_M_dayEnd_71 : decode nc_M_dayEnd 71 = .ok (.iconst 0, 1) := by decide +kernel
theorem nd_M_dayEnd_72 : decode nc_M_dayEnd 72 = .ok (.ireturn, 1) := by decide +kernel
theorem nd_M_dayEnd_73 : decode nc_M_dayEnd 73 = .ok (.aload_n 0, 1) := by decide +kernel
theorem nd_M_dayEnd_74 : decode nc_M_dayEnd 74 = .ok (.iconst 0, 1) := by decide +kernel
theorem nd_M_dayEnd_75 : decode nc_M_dayEnd 75 = .ok (.putfield 118, 3) := by decide +kernel
theorem nd_M_dayEnd_78 : decode nc_M_dayEnd 78 = .ok (.aload_n 0, 1) := by decide +kernel
theorem nd_M_dayEnd_79 : decode nc_M_dayEnd 79 = .ok (.dup, 1) := by decide +kernel
theorem nd_M_dayEnd_80 : decode nc_M_dayEnd 80 = .ok (.getfield 90, 3) := by decide +kernel
theorem nd_M_dayEnd_83 : decode nc_M_dayEnd 83 = .ok (.iconst 1, 1) := by decide +kernel
theorem nd_M_dayEnd_84 : decode nc_M_dayEnd 84 = .ok (.iadd, 1) := by decide +kernel
theorem nd_M_dayEnd_85 : decode nc_M_dayEnd 85 = .ok (.putfield 90, 3) := by decide +kernel
theorem nd_M_dayEnd_88 : decode nc_M_dayEnd 88 = .ok (.iconst 1, 1) := by decide +kernel
theorem nd_M_dayEnd_89 : decode nc_M_dayEnd 89 = .ok (.ireturn, 1) := by decide +kernel
theorem nd_M_step_0 : decode nc_M_step 0 = .ok (.aload_n 0, 1) := by decide +kernel
theorem nd_M_step_1 : decode nc_M_step 1 = .ok (.iload_n 1, 1) := by decide +kernel
theorem nd_M_step_2 : decode nc_M_step 2 = .ok (.invokevirtual 168, 3) := by decide +kernel
theorem nd_M_step_5 : decode nc_M_step 5 = .ok (.istore_n 2, 1) := by decide +kernel
theorem nd_M_step_6 : decode nc_M_step 6 = .ok (.iconst 1, 1) := by decide +kernel
theorem nd_M_step_7 : decode nc_M_step 7 = .ok (.istore_n 3, 1) := by decide +kernel
theorem nd_M_step_8 : decode nc_M_step 8 = .ok (.iconst 1, 1) := by decide +kernel
theorem nd_M_step_9 : decode nc_M_step 9 = .ok (.iload_n 1, 1) := by decide +kernel
theorem nd_M_step_10 : decode nc_M_step 10 = .ok (.ishl, 1) := by decide +kernel
theorem nd_M_step_11 : decode nc_M_step 11 = .ok (.istore 4, 2) := by decide +kernel
theorem nd_M_step_13 : decode nc_M_step 13 = .ok (.iconst 0, 1) := by decide +kernel
theorem nd_M_step_14 : decode nc_M_step 14 = .ok (.istore 5, 2) := by decide +kernel
theorem nd_M_step_16 : decode nc_M_step 16 = .ok (.iload 5, 2) := by decide +kernel
theorem nd_M_step_18 : decode nc_M_step 18 = .ok (.aload_n 0, 1) := by decide +kernel
theorem nd_M_step_19 : decode nc_M_step 19 = .ok (.getfield 159, 3) := by decide +kernel
theorem nd_M_step_22 : decode nc_M_step 22 = .ok (.if_icmp .ge 36, 3) := by decide +kernel
theorem nd_M_step_25 : decode nc_M_step 25 = .ok (.iload_n 2, 1) := by decide +kernel
theorem nd_M_step_26 : decode nc_M_step 26 = .ok (.iload 5, 2) := by decide +kernel
theorem nd_M_step_28 : decode nc_M_step 28 = .ok (.ishr, 1) := by decide +kernel
theorem nd_M_step_29 : decode nc_M_step 29 = .ok (.iconst 1, 1) := by decide +kernel
theorem nd_M_step_30 : decode nc_M_step 30 = .ok (.iand, 1) := by decide +kernel
theorem nd_M_step_31 : decode nc_M_step 31 = .ok (.iconst 1, 1) := by decide +kernel
theorem nd_M_step_32 : decode nc_M_step 32 = .ok (.if_icmp .ne 20, 3) := by decide +kernel
theorem nd_M_step_35 : decode nc_M_step 35 = .ok (.iinc 3 1, 3) := by decide +kernel
theorem nd_M_step_38 : decode nc_M_step 38 = .ok (.iload 4, 2) := by decide +kernel
theorem nd_M_step_40 : decode nc_M_step 40 = .ok (.iconst 1, 1) := by decide +kernel
theorem nd_M_step_41 : decode nc_M_step 41 = .ok (.aload_n 0, 1) := by decide +kernel
theorem nd_M_step_42 : decode nc_M_step 42 = .ok (.getfield 41, 3) := by decide +kernel
theorem nd_M_step_45 : decode nc_M_step 45 = .ok (.iload 5, 2) := by decide +kernel
theorem nd_M_step_47 : decode nc_M_step 47 = .ok (.iaload, 1) := by decide +kernel
theorem nd_M_step_48 : decode nc_M_step 48 = .ok (.ishl, 1) := by decide +kernel
theorem nd_M_step_49 : decode nc_M_step 49 = .ok (.ior, 1) := by decide +kernel
theorem nd_M_step_50 : decode nc_M_step 50 = .ok (.istore 4, 2) := by decide +kernel
theorem nd_M_step_52 : decode nc_M_step 52 = .ok (.iinc 5 1, 3) := by decide +kernel
theorem nd_M_step_55 : decode nc_M_step 55 = .ok (.goto (-39), 3) := by decide +kernel
theorem nd_M_step_58 : decode nc_M_step 58 = .ok (.aload_n 0, 1) := by decide +kernel
theorem nd_M_step_59 : decode nc_M_step 59 = .ok (.iload_n 3, 1) := by decide +kernel
theorem nd_M_step_60 : decode nc_M_step 60 = .ok (.iload 4, 2) := by decide +kernel
theorem nd_M_step_62 : decode nc_M_step 62 = .ok (.invokevirtual 129, 3) := by decide +kernel
theorem nd_M_step_65 : decode nc_M_step 65 = .ok (.ifCond .ne 5, 3) := by decide +kernel
theorem nd_M_step_68 : decode nc_M_step 68 = .ok (.iconst 0, 1) := by decide +kernel
theorem nd_M_step_69 : decode nc_M_step 69 = .ok (.ireturn, 1) := by decide +kernel
theorem nd_M_step_70 : decode nc_M_step 70 = .ok (.iconst 0, 1) := by decide +kernel
theorem nd_M_step_71 : decode nc_M_step 71 = .ok (.istore 5, 2) := by decide +kernel
theorem nd_M_step_73 : decode nc_M_step 73 = .ok (.iload 5, 2) := by decide +kernel
theorem nd_M_step_75 : decode nc_M_step 75 = .ok (.aload_n 0, 1) := by decide +kernel
theorem nd_M_step_76 : decode nc_M_step 76 = .ok (.getfield 159, 3) := by decide +kernel
theorem nd_M_step_79 : decode nc_M_step 79 = .ok (.if_icmp .ge 77, 3) := by decide +kernel
theorem nd_M_step_82 : decode nc_M_step 82 = .ok (.iload_n 2, 1) := by decide +kernel
theorem nd_M_step_83 : decode nc_M_step 83 = .ok (.iload 5, 2) := by decide +kernel
theorem nd_M_step_85 : decode nc_M_step 85 = .ok (.ishr, 1) := by decide +kernel
theorem nd_M_step_86 : decode nc_M_step 86 = .ok (.iconst 1, 1) := by decide +kernel
theorem nd_M_step_87 : decode nc_M_step 87 = .ok (.iand, 1) := by decide +kernel
theorem nd_M_step_88 : decode nc_M_step 88 = .ok (.iconst 1, 1) := by decide +kernel
theorem nd_M_step_89 : decode nc_M_step 89 = .ok (.if_icmp .ne 25, 3) := by decide +kernel
theorem nd_M_step_92 : decode nc_M_step 92 = .ok (.aload_n 0, 1) := by decide +kernel
theorem nd_M_step_93 : decode nc_M_step 93 = .ok (.iload_n 1, 1) := by decide +kernel
theorem nd_M_step_94 : decode nc_M_step 94 = .ok (.aload_n 0, 1) := by decide +kernel
theorem nd_M_step_95 : decode nc_M_step 95 = .ok (.getfield 41, 3) := by decide +kernel
theorem nd_M_step_98 : decode nc_M_step 98 = .ok (.iload 5, 2) := by decide +kernel
theorem nd_M_step_100 : decode nc_M_step 100 = .ok (.iaload, 1) := by decide +kernel
theorem nd_M_step_101 : decode nc_M_step 101 = .ok (.aload_n 0, 1) := by decide +kernel
theorem nd_M_step_102 : decode nc_M_step 102 = .ok (.getfield 44, 3) := by decide +kernel
theorem nd_M_step_105 : decode nc_M_step 105 = .ok (.iload 5, 2) := by decide +kernel
theorem nd_M_step_107 : decode nc_M_step 107 = .ok (.iaload, 1) := by decide +kernel
theorem nd_M_step_108 : decode nc_M_step 108 = .ok (.invokevirtual 152, 3) := by decide +kernel
theorem nd_M_step_111 : decode nc_M_step 111 = .ok (.goto 39, 3) := by decide +kernel
theorem nd_M_step_114 : decode nc_M_step 114 = .ok (.aload_n 0, 1) := by decide +kernel
theorem nd_M_step_115 : decode nc_M_step 115 = .ok (.getfield 38, 3) := by decide +kernel
theorem nd_M_step_118 : decode nc_M_step 118 = .ok (.iload 5, 2) := by decide +kernel
theorem nd_M_step_120 : decode nc_M_step 120 = .ok (.iaload, 1) := by decide +kernel
theorem nd_M_step_121 : decode nc_M_step 121 = .ok (.iload_n 1, 1) := by decide +kernel
theorem nd_M_step_122 : decode nc_M_step 122 = .ok (.if_icmp .ne 28, 3) := by decide +kernel
theorem nd_M_step_125 : decode nc_M_step 125 = .ok (.aload_n 0, 1) := by decide +kernel
theorem nd_M_step_126 : decode nc_M_step 126 = .ok (.aload_n 0, 1) := by decide +kernel
theorem nd_M_step_127 : decode nc_M_step 127 = .ok (.getfield 47, 3) := by decide +kernel
theorem nd_M_step_130 : decode nc_M_step 130 = .ok (.iload 5, 2) := by decide +kernel
theorem nd_M_step_132 : decode nc_M_step 132 = .ok (.iaload, 1) := by decide +kernel
theorem nd_M_step_133 : decode nc_M_step 133 = .ok (.invokevirtual 165, 3) := by decide +kernel
theorem nd_M_step_136 : decode nc_M_step 136 = .ok (.ifCond .eq 14, 3) := by decide +kernel
theorem nd_M_step_139 : decode nc_M_step 139 = .ok (.aload_n 0, 1) := by decide +kernel
theorem nd_M_step_140 : decode nc_M_step 140 = .ok (.getfield 50, 3) := by decide +kernel
theorem nd_M_step_143 : decode nc_M_step 143 = .ok (.iload 5, 2) := by decide +kernel
theorem nd_M_step_145 : decode nc_M_step 145 = .ok (.dup2, 1) := by decide +kernel
theorem nd_M_step_146 : decode nc_M_step 146 = .ok (.iaload, 1) := by decide +kernel
theorem nd_M_step_147 : decode nc_M_step 147 = .ok (.iconst 1, 1) := by decide +kernel
theorem nd_M_step_148 : decode nc_M_step 148 = .ok (.iadd, 1) := by decide +kernel
theorem nd_M_step_149 : decode nc_M_step 149 = .ok (.iastore, 1) := by decide +kernel
theorem nd_M_step_150 : decode nc_M_step 150 = .ok (.iinc 5 1, 3) := by decide +kernel
theorem nd_M_step_153 : decode nc_M_step 153 = .ok (.goto (-80), 3) := by decide +kernel
theorem nd_M_step_156 : decode nc_M_step 156 = .ok (.aload_n 0, 1) := by decide +kernel
theorem nd_M_step_157 : decode nc_M_step 157 = .ok (.iload_n 1, 1) := by decide +kernel
theorem nd_M_step_158 : decode nc_M_step 158 = .ok (.invokevirtual 172, 3) := by decide +kernel
theorem nd_M_step_161 : decode nc_M_step 161 = .ok (.aload_n 0, 1) := by decide +kernel
theorem nd_M_step_162 : decode nc_M_step 162 = .ok (.getfield 22, 3) := by decide +kernel
theorem nd_M_step_165 : decode nc_M_step 165 = .ok (.iload_n 1, 1) := by decide +kernel
theorem nd_M_step_166 : decode nc_M_step 166 = .ok (.aload_n 0, 1) := by decide +kernel
theorem nd_M_step_167 : decode nc_M_step 167 = .ok (.getfield 90, 3) := by decide +kernel
theorem nd_M_step_170 : decode nc_M_step 170 = .ok (.iastore, 1) := by decide +kernel
theorem nd_M_step_171 : decode nc_M_step 171 = .ok (.iconst 1, 1) := by decide +kernel
theorem nd_M_step_172 : decode nc_M_step 172 = .ok (.ireturn, 1) := by decide +kernel
theorem nd_M_paidOrders_0 : decode nc_M_paidOrders 0 = .ok (.iconst 0, 1) := by decide +kernel
theorem nd_M_paidOrders_1 : decode nc_M_paidOrders 1 = .ok (.istore_n 2, 1) := by decide +kernel
theorem nd_M_paidOrders_2 : decode nc_M_paidOrders 2 = .ok (.aload_n 0, 1) := by decide +kernel
theorem nd_M_paidOrders_3 : decode nc_M_paidOrders 3 = .ok (.iload_n 1, 1) := by decide +kernel
theorem nd_M_paidOrders_4 : decode nc_M_paidOrders 4 = .ok (.invokevirtual 142, 3) := by decide +kernel
theorem nd_M_paidOrders_7 : decode nc_M_paidOrders 7 = .ok (.lstore_n 3, 1) := by decide +kernel
theorem nd_M_paidOrders_8 : decode nc_M_paidOrders 8 = .ok (.iconst 0, 1) := by decide +kernel
theorem nd_M_paidOrders_9 : decode nc_M_paidOrders 9 = .ok (.istore 5, 2) := by decide +kernel
theorem nd_M_paidOrders_11 : decode nc_M_paidOrders 11 = .ok (.iload 5, 2) := by decide +kernel
theorem nd_M_paidOrders_13 : decode nc_M_paidOrders 13 = .ok (.aload_n 0, 1) := by decide +kernel
theorem nd_M_paidOrders_14 : decode nc_M_paidOrders 14 = .ok (.getfield 159, 3) := by decide +kernel
theorem nd_M_paidOrders_17 : decode nc_M_paidOrders 17 = .ok (.if_icmp .ge 65, 3) := by decide +kernel
theorem nd_M_paidOrders_20 : decode nc_M_paidOrders 20 = .ok (.aload_n 0, 1) := by decide +kernel
theorem nd_M_paidOrders_21 : decode nc_M_paidOrders 21 = .ok (.getfield 38, 3) := by decide +kernel
theorem nd_M_paidOrders_24 : decode nc_M_paidOrders 24 = .ok (.iload 5, 2) := by decide +kernel
theorem nd_M_paidOrders_26 : decode nc_M_paidOrders 26 = .ok (.iaload, 1) := by decide +kernel
theorem nd_M_paidOrders_27 : decode nc_M_paidOrders 27 = .ok (.iload_n 1, 1) := by decide +kernel
theorem nd_M_paidOrders_28 : decode nc_M_paidOrders 28 = .ok (.if_icmp .ne 48, 3) := by decide +kernel
theorem nd_M_paidOrders_31 : decode nc_M_paidOrders 31 = .ok (.aload_n 0, 1) := by decide +kernel
theorem nd_M_paidOrders_32 : decode nc_M_paidOrders 32 = .ok (.getfield 44, 3) := by decide +kernel
theorem nd_M_paidOrders_35 : decode nc_M_paidOrders 35 = .ok (.iload 5, 2) := by decide +kernel
theorem nd_M_paidOrders_37 : decode nc_M_paidOrders 37 = .ok (.iaload, 1) := by decide +kernel
theorem nd_M_paidOrders_38 : decode nc_M_paidOrders 38 = .ok (.i2l, 1) := by decide +kernel
theorem nd_M_paidOrders_39 : decode nc_M_paidOrders 39 = .ok (.lload_n 3, 1) := by decide +kernel
theorem nd_M_paidOrders_40 : decode nc_M_paidOrders 40 = .ok (.lcmp, 1) := by decide +kernel
theorem nd_M_paidOrders_41 : decode nc_M_paidOrders 41 = .ok (.ifCond .gt 35, 3) := by decide +kernel
theorem nd_M_paidOrders_44 : decode nc_M_paidOrders 44 = .ok (.aload_n 0, 1) := by decide +kernel
theorem nd_M_paidOrders_45 : decode nc_M_paidOrders 45 = .ok (.aload_n 0, 1) := by decide +kernel
theorem nd_M_paidOrders_46 : decode nc_M_paidOrders 46 = .ok (.getfield 47, 3) := by decide +kernel
theorem nd_M_paidOrders_49 : decode nc_M_paidOrders 49 = .ok (.iload 5, 2) := by decide +kernel
theorem nd_M_paidOrders_51 : decode nc_M_paidOrders 51 = .ok (.iaload, 1) := by decide +kernel
theorem nd_M_paidOrders_52 : decode nc_M_paidOrders 52 = .ok (.invokevirtual 165, 3) := by decide +kernel
theorem nd_M_paidOrders_55 : decode nc_M_paidOrders 55 = .ok (.ifCond .eq 21, 3) := by decide +kernel
theorem nd_M_paidOrders_58 : decode nc_M_paidOrders 58 = .ok (.iload_n 2, 1) := by decide +kernel
theorem nd_M_paidOrders_59 : decode nc_M_paidOrders 59 = .ok (.iconst 1, 1) := by decide +kernel
theorem nd_M_paidOrders_60 : decode nc_M_paidOrders 60 = .ok (.iload 5, 2) := by decide +kernel
theorem nd_M_paidOrders_62 : decode nc_M_paidOrders 62 = .ok (.ishl, 1) := by decide +kernel
theorem nd_M_paidOrders_63 : decode nc_M_paidOrders 63 = .ok (.ior, 1) := by decide +kernel
theorem nd_M_paidOrders_64 : decode nc_M_paidOrders 64 = .ok (.istore_n 2, 1) := by decide +kernel
theorem nd_M_paidOrders_65 : decode nc_M_paidOrders 65 = .ok (.lload_n 3, 1) := by decide +kernel
theorem nd_M_paidOrders_66 : decode nc_M_paidOrders 66 = .ok (.aload_n 0, 1) := by decide +kernel
theorem nd_M_paidOrders_67 : decode nc_M_paidOrders 67 = .ok (.getfield 44, 3) := by decide +kernel
theorem nd_M_paidOrders_70 : decode nc_M_paidOrders 70 = .ok (.iload 5, 2) := by decide +kernel
theorem nd_M_paidOrders_72 : decode nc_M_paidOrders 72 = .ok (.iaload, 1) := by decide +kernel
theorem nd_M_paidOrders_73 : decode nc_M_paidOrders 73 = .ok (.i2l, 1) := by decide +kernel
theorem nd_M_paidOrders_74 : decode nc_M_paidOrders 74 = .ok (.lsub, 1) := by decide +kernel
theorem nd_M_paidOrders_75 : decode nc_M_paidOrders 75 = .ok (.lstore_n 3, 1) := by decide +kernel
theorem nd_M_paidOrders_76 : decode nc_M_paidOrders 76 = .ok (.iinc 5 1, 3) := by decide +kernel
theorem nd_M_paidOrders_79 : decode nc_M_paidOrders 79 = .ok (.goto (-68), 3) := by decide +kernel
theorem nd_M_paidOrders_82 : decode nc_M_paidOrders 82 = .ok (.iload_n 2, 1) := by decide +kernel
theorem nd_M_paidOrders_83 : decode nc_M_paidOrders 83 = .ok (.ireturn, 1) := by decide +kernel
theorem nd_M_due_0 : decode nc_M_due 0 = .ok (.aload_n 0, 1) := by decide +kernel
theorem nd_M_due_1 : decode nc_M_due 1 = .ok (.aload_n 0, 1) := by decide +kernel
theorem nd_M_due_2 : decode nc_M_due 2 = .ok (.getfield 90, 3) := by decide +kernel
theorem nd_M_due_5 : decode nc_M_due 5 = .ok (.invokevirtual 83, 3) := by decide +kernel
theorem nd_M_due_8 : decode nc_M_due 8 = .ok (.aload_n 0, 1) := by decide +kernel
theorem nd_M_due_9 : decode nc_M_due 9 = .ok (.getfield 90, 3) := by decide +kernel
theorem nd_M_due_12 : decode nc_M_due 12 = .ok (.aload_n 0, 1) := by decide +kernel
theorem nd_M_due_13 : decode nc_M_due 13 = .ok (.getfield 80, 3) := by decide +kernel
theorem nd_M_due_16 : decode nc_M_due 16 = .ok (.isub, 1) := by decide +kernel
theorem nd_M_due_17 : decode nc_M_due 17 = .ok (.iconst 1, 1) := by decide +kernel
theorem nd_M_due_18 : decode nc_M_due 18 = .ok (.iadd, 1) := by decide +kernel
theorem nd_M_due_19 : decode nc_M_due 19 = .ok (.istore_n 2, 1) := by decide +kernel
theorem nd_M_due_20 : decode nc_M_due 20 = .ok (.aload_n 0, 1) := by decide +kernel
theorem nd_M_due_21 : decode nc_M_due 21 = .ok (.getfield 70, 3) := by decide +kernel
theorem nd_M_due_24 : decode nc_M_due 24 = .ok (.aload_n 0, 1) := by decide +kernel
theorem nd_M_due_25 : decode nc_M_due 25 = .ok (.getfield 73, 3) := by decide +kernel
theorem nd_M_due_28 : decode nc_M_due 28 = .ok (.invokestatic 76, 3) := by decide +kernel
theorem nd_M_due_31 : decode nc_M_due 31 = .ok (.istore_n 3, 1) := by decide +kernel
theorem nd_M_due_32 : decode nc_M_due 32 = .ok (.iload_n 2, 1) := by decide +kernel
theorem nd_M_due_33 : decode nc_M_due 33 = .ok (.iload_n 1, 1) := by decide +kernel
theorem nd_M_due_34 : decode nc_M_due 34 = .ok (.iload_n 3, 1) := by decide +kernel
theorem nd_M_due_35 : decode nc_M_due 35 = .ok (.if_icmp .ge 7, 3) := by decide +kernel
theorem nd_M_due_38 : decode nc_M_due 38 = .ok (.iload_n 1, 1) := by decide +kernel
theorem nd_M_due_39 : decode nc_M_due 39 = .ok (.goto 4, 3) := by decide +kernel
theorem nd_M_due_42 : decode nc_M_due 42 = .ok (.iload_n 3, 1) := by decide +kernel
theorem nd_M_due_43 : decode nc_M_due 43 = .ok (.iadd, 1) := by decide +kernel
theorem nd_M_due_44 : decode nc_M_due 44 = .ok (.iconst 1, 1) := by decide +kernel
theorem nd_M_due_45 : decode nc_M_due 45 = .ok (.isub, 1) := by decide +kernel
theorem nd_M_due_46 : decode nc_M_due 46 = .ok (.istore 4, 2) := by decide +kernel
theorem nd_M_due_48 : decode nc_M_due 48 = .ok (.iload 4, 2) := by decide +kernel
theorem nd_M_due_50 : decode nc_M_due 50 = .ok (.istore 5, 2) := by decide +kernel
theorem nd_M_due_52 : decode nc_M_due 52 = .ok (.iconst 0, 1) := by decide +kernel
theorem nd_M_due_53 : decode nc_M_due 53 = .ok (.istore 6, 2) := by decide +kernel
theorem nd_M_due_55 : decode nc_M_due 55 = .ok (.iload 6, 2) := by decide +kernel
theorem nd_M_due_57 : decode nc_M_due 57 = .ok (.bipush 40, 2) := by decide +kernel
theorem nd_M_due_59 : decode nc_M_due 59 = .ok (.if_icmp .ge 21, 3) := by decide +kernel
theorem nd_M_due_62 : decode nc_M_due 62 = .ok (.aload_n 0, 1) := by decide +kernel
theorem nd_M_due_63 : decode nc_M_due 63 = .ok (.iload 5, 2) := by decide +kernel
theorem nd_M_due_65 : decode nc_M_due 65 = .ok (.invokevirtual 93, 3) := by decide +kernel
theorem nd_M_due_68 : decode nc_M_due 68 = .ok (.ifCond .eq 12, 3) := by decide +kernel
theorem nd_M_due_71 : decode nc_M_due 71 = .ok (.iinc 5 1, 3) := by decide +kernel
theorem nd_M_due_74 : decode nc_M_due 74 = .ok (.iinc 6 1, 3) := by decide +kernel
theorem nd_M_due_77 : decode nc_M_due 77 = .ok (.goto (-22), 3) := by decide +kernel
theorem nd_M_due_80 : decode nc_M_due 80 = .ok (.iload 5, 2) := by decide +kernel
theorem nd_M_due_82 : decode nc_M_due 82 = .ok (.iload_n 2, 1) := by decide +kernel
theorem nd_M_due_83 : decode nc_M_due 83 = .ok (.iload_n 3, 1) := by decide +kernel
theorem nd_M_due_84 : decode nc_M_due 84 = .ok (.iadd, 1) := by decide +kernel
theorem nd_M_due_85 : decode nc_M_due 85 = .ok (.if_icmp .ge 18, 3) := by decide +kernel
theorem nd_M_due_88 : decode nc_M_due 88 = .ok (.iload 5, 2) := by decide +kernel
theorem nd_M_due_90 : decode nc_M_due 90 = .ok (.aload_n 0, 1) := by decide +kernel
theorem nd_M_due_91 : decode nc_M_due 91 = .ok (.getfield 90, 3) := by decide +kernel
theorem nd_M_due_94 : decode nc_M_due 94 = .ok (.if_icmp .ne 7, 3) := by decide +kernel
theorem nd_M_due_97 : decode nc_M_due 97 = .ok (.iconst 1, 1) := by decide +kernel
theorem nd_M_due_98 : decode nc_M_due 98 = .ok (.goto 4, 3) := by decide +kernel
theorem nd_M_due_101 : decode nc_M_due 101 = .ok (.iconst 0, 1) := by decide +kernel
theorem nd_M_due_102 : decode nc_M_due 102 = .ok (.ireturn, 1) := by decide +kernel
theorem nd_M_due_103 : decode nc_M_due 103 = .ok (.iconst 0, 1) := by decide +kernel
theorem nd_M_due_104 : decode nc_M_due 104 = .ok (.istore 6, 2) := by decide +kernel
theorem nd_M_due_106 : decode nc_M_due 106 = .ok (.iload 6, 2) := by decide +kernel
theorem nd_M_due_108 : decode nc_M_due 108 = .ok (.bipush 40, 2) := by decide +kernel
theorem nd_M_due_110 : decode nc_M_due 110 = .ok (.if_icmp .ge 21, 3) := by decide +kernel
theorem nd_M_due_113 : decode nc_M_due 113 = .ok (.aload_n 0, 1) := by decide +kernel
theorem nd_M_due_114 : decode nc_M_due 114 = .ok (.iload 4, 2) := by decide +kernel
theorem nd_M_due_116 : decode nc_M_due 116 = .ok (.invokevirtual 93, 3) := by decide +kernel
theorem nd_M_due_119 : decode nc_M_due 119 = .ok (.ifCond .eq 12, 3) := by decide +kernel
theorem nd_M_due_122 : decode nc_M_due 122 = .ok (.iinc 4 (-1), 3) := by decide +kernel
theorem nd_M_due_125 : decode nc_M_due 125 = .ok (.iinc 6 1, 3) := by decide +kernel
theorem nd_M_due_128 : decode nc_M_due 128 = .ok (.goto (-22), 3) := by decide +kernel
theorem nd_M_due_131 : decode nc_M_due 131 = .ok (.iload 4, 2) := by decide +kernel
theorem nd_M_due_133 : decode nc_M_due 133 = .ok (.aload_n 0, 1) := by decide +kernel
theorem nd_M_due_134 : decode nc_M_due 134 = .ok (.getfield 90, 3) := by decide +kernel
theorem nd_M_due_137 : decode nc_M_due 137 = .ok (.if_icmp .ne 7, 3) := by decide +kernel
theorem nd_M_due_140 : decode nc_M_due 140 = .ok (.iconst 1, 1) := by decide +kernel
theorem nd_M_due_141 : decode nc_M_due 141 = .ok (.goto 4, 3) := by decide +kernel
theorem nd_M_due_144 : decode nc_M_due 144 = .ok (.iconst 0, 1) := by decide +kernel
theorem nd_M_due_145 : decode nc_M_due 145 = .ok (.ireturn, 1) := by decide +kernel
theorem nd_M_grow_0 : decode nc_M_grow 0 = .ok (.aload_n 0, 1) := by decide +kernel
theorem nd_M_grow_1 : decode nc_M_grow 1 = .ok (.getfield 29, 3) := by decide +kernel
theorem nd_M_grow_4 : decode nc_M_grow 4 = .ok (.iload_n 1, 1) := by decide +kernel
theorem nd_M_grow_5 : decode nc_M_grow 5 = .ok (.dup2, 1) := by decide +kernel
theorem nd_M_grow_6 : decode nc_M_grow 6 = .ok (.laload, 1) := by decide +kernel
theorem nd_M_grow_7 : decode nc_M_grow 7 = .ok (.aload_n 0, 1) := by decide +kernel
theorem nd_M_grow_8 : decode nc_M_grow 8 = .ok (.getfield 25, 3) := by decide +kernel
theorem nd_M_grow_11 : decode nc_M_grow 11 = .ok (.iload_n 1, 1) := by decide +kernel
theorem nd_M_grow_12 : decode nc_M_grow 12 = .ok (.laload, 1) := by decide +kernel
theorem nd_M_grow_13 : decode nc_M_grow 13 = .ok (.aload_n 0, 1) := by decide +kernel
theorem nd_M_grow_14 : decode nc_M_grow 14 = .ok (.getfield 19, 3) := by decide +kernel
theorem nd_M_grow_17 : decode nc_M_grow 17 = .ok (.iload_n 1, 1) := by decide +kernel
theorem nd_M_grow_18 : decode nc_M_grow 18 = .ok (.iaload, 1) := by decide +kernel
theorem nd_M_grow_19 : decode nc_M_grow 19 = .ok (.i2l, 1) := by decide +kernel
theorem nd_M_grow_20 : decode nc_M_grow 20 = .ok (.lmul, 1) := by decide +kernel
theorem nd_M_grow_21 : decode nc_M_grow 21 = .ok (.aload_n 0, 1) := by decide +kernel
theorem nd_M_grow_22 : decode nc_M_grow 22 = .ok (.aload_n 0, 1) := by decide +kernel
theorem nd_M_grow_23 : decode nc_M_grow 23 = .ok (.getfield 13, 3) := by decide +kernel
theorem nd_M_grow_26 : decode nc_M_grow 26 = .ok (.iload_n 1, 1) := by decide +kernel
theorem nd_M_grow_27 : decode nc_M_grow 27 = .ok (.iaload, 1) := by decide +kernel
theorem nd_M_grow_28 : decode nc_M_grow 28 = .ok (.aload_n 0, 1) := by decide +kernel
theorem nd_M_grow_29 : decode nc_M_grow 29 = .ok (.getfield 90, 3) := by decide +kernel
theorem nd_M_grow_32 : decode nc_M_grow 32 = .ok (.aload_n 0, 1) := by decide +kernel
theorem nd_M_grow_33 : decode nc_M_grow 33 = .ok (.getfield 90, 3) := by decide +kernel
theorem nd_M_grow_36 : decode nc_M_grow 36 = .ok (.iconst 1, 1) := by decide +kernel
theorem nd_M_grow_37 : decode nc_M_grow 37 = .ok (.iadd, 1) := by decide +kernel
theorem nd_M_grow_38 : decode nc_M_grow 38 = .ok (.invokevirtual 175, 3) := by decide +kernel
theorem nd_M_grow_41 : decode nc_M_grow 41 = .ok (.i2l, 1) := by decide +kernel
theorem nd_M_grow_42 : decode nc_M_grow 42 = .ok (.lmul, 1) := by decide +kernel
theorem nd_M_grow_43 : decode nc_M_grow 43 = .ok (.ladd, 1) := by decide +kernel
theorem nd_M_grow_44 : decode nc_M_grow 44 = .ok (.lastore, 1) := by decide +kernel
theorem nd_M_grow_45 : decode nc_M_grow 45 = .ok (.aload_n 0, 1) := by decide +kernel
theorem nd_M_grow_46 : decode nc_M_grow 46 = .ok (.aload_n 0, 1) := by decide +kernel
theorem nd_M_grow_47 : decode nc_M_grow 47 = .ok (.getfield 90, 3) := by decide +kernel
theorem nd_M_grow_50 : decode nc_M_grow 50 = .ok (.invokevirtual 83, 3) := by decide +kernel
theorem nd_M_grow_53 : decode nc_M_grow 53 = .ok (.aload_n 0, 1) := by decide +kernel
theorem nd_M_grow_54 : decode nc_M_grow 54 = .ok (.getfield 80, 3) := by decide +kernel
theorem nd_M_grow_57 : decode nc_M_grow 57 = .ok (.aload_n 0, 1) := by decide +kernel
theorem nd_M_grow_58 : decode nc_M_grow 58 = .ok (.getfield 70, 3) := by decide +kernel
theorem nd_M_grow_61 : decode nc_M_grow 61 = .ok (.aload_n 0, 1) := by decide +kernel
theorem nd_M_grow_62 : decode nc_M_grow 62 = .ok (.getfield 73, 3) := by decide +kernel
theorem nd_M_grow_65 : decode nc_M_grow 65 = .ok (.invokestatic 76, 3) := by decide +kernel
theorem nd_M_grow_68 : decode nc_M_grow 68 = .ok (.if_icmp .eq 4, 3) := by decide +kernel
theorem nd_M_grow_71 : decode nc_M_grow 71 = .ok (.return_, 1) := by decide +kernel
theorem nd_M_grow_72 : decode nc_M_grow 72 = .ok (.ldc2_w 179, 3) := by decide +kernel
theorem nd_M_grow_75 : decode nc_M_grow 75 = .ok (.aload_n 0, 1) := by decide +kernel
theorem nd_M_grow_76 : decode nc_M_grow 76 = .ok (.getfield 13, 3) := by decide +kernel
theorem nd_M_grow_79 : decode nc_M_grow 79 = .ok (.iload_n 1, 1) := by decide +kernel
theorem nd_M_grow_80 : decode nc_M_grow 80 = .ok (.iaload, 1) := by decide +kernel
theorem nd_M_grow_81 : decode nc_M_grow 81 = .ok (.ifCond .ne 9, 3) := by decide +kernel
theorem nd_M_grow_84 : decode nc_M_grow 84 = .ok (.sipush 365, 3) := by decide +kernel
theorem nd_M_grow_87 : decode nc_M_grow 87 = .ok (.goto 6, 3) := by decide +kernel
theorem nd_M_grow_90 : decode nc_M_grow 90 = .ok (.sipush 360, 3) := by decide +kernel
theorem nd_M_grow_93 : decode nc_M_grow 93 = .ok (.i2l, 1) := by decide +kernel
theorem nd_M_grow_94 : decode nc_M_grow 94 = .ok (.lmul, 1) := by decide +kernel
theorem nd_M_grow_95 : decode nc_M_grow 95 = .ok (.lstore_n 2, 1) := by decide +kernel
theorem nd_M_grow_96 : decode nc_M_grow 96 = .ok (.aload_n 0, 1) := by decide +kernel
theorem nd_M_grow_97 : decode nc_M_grow 97 = .ok (.getfield 29, 3) := by decide +kernel
theorem nd_M_grow_100 : decode nc_M_grow 100 = .ok (.iload_n 1, 1) := by decide +kernel
theorem nd_M_grow_101 : decode nc_M_grow 101 = .ok (.laload, 1) := by decide +kernel
theorem nd_M_grow_102 : decode nc_M_grow 102 = .ok (.lload_n 2, 1) := by decide +kernel
theorem nd_M_grow_103 : decode nc_M_grow 103 = .ok (.ldiv, 1) := by decide +kernel
theorem nd_M_grow_104 : decode nc_M_grow 104 = .ok (.lstore 4, 2) := by decide +kernel
theorem nd_M_grow_106 : decode nc_M_grow 106 = .ok (.aload_n 0, 1) := by decide +kernel
theorem nd_M_grow_107 : decode nc_M_grow 107 = .ok (.getfield 29, 3) := by decide +kernel
theorem nd_M_grow_110 : decode nc_M_grow 110 = .ok (.iload_n 1, 1) := by decide +kernel
theorem nd_M_grow_111 : decode nc_M_grow 111 = .ok (.laload, 1) := by decide +kernel
theorem nd_M_grow_112 : decode nc_M_grow 112 = .ok (.lload 4, 2) := by decide +kernel
theorem nd_M_grow_114 : decode nc_M_grow 114 = .ok (.lload_n 2, 1) := by decide +kernel
theorem nd_M_grow_115 : decode nc_M_grow 115 = .ok (.lmul, 1) := by decide +kernel
theorem nd_M_grow_116 : decode nc_M_grow 116 = .ok (.lsub, 1) := by decide +kernel
theorem nd_M_grow_117 : decode nc_M_grow 117 = .ok (.lstore 6, 2) := by decide +kernel
theorem nd_M_grow_119 : decode nc_M_grow 119 = .ok (.lload 6, 2) := by decide +kernel
theorem nd_M_grow_121 : decode nc_M_grow 121 = .ok (.lconst 0, 1) := by decide +kernel
theorem nd_M_grow_122 : decode nc_M_grow 122 = .ok (.lcmp, 1) := by decide +kernel
theorem nd_M_grow_123 : decode nc_M_grow 123 = .ok (.ifCond .ge 15, 3) := by decide +kernel
theorem nd_M_grow_126 : decode nc_M_grow 126 = .ok (.lload 4, 2) := by decide +kernel
theorem nd_M_grow_128 : decode nc_M_grow 128 = .ok (.lconst 1, 1) := by decide +kernel
theorem nd_M_grow_129 : decode nc_M_grow 129 = .ok (.lsub, 1) := by decide +kernel
theorem nd_M_grow_130 : decode nc_M_grow 130 = .ok (.lstore 4, 2) := by decide +kernel
theorem nd_M_grow_132 : decode nc_M_grow 132 = .ok (.lload 6, 2) := by decide +kernel
theorem nd_M_grow_134 : decode nc_M_grow 134 = .ok (.lload_n 2, 1) := by decide +kernel
theorem nd_M_grow_135 : decode nc_M_grow 135 = .ok (.ladd, 1) := by decide +kernel
theorem nd_M_grow_136 : decode nc_M_grow 136 = .ok (.lstore 6, 2) := by decide +kernel
theorem nd_M_grow_138 : decode nc_M_grow 138 = .ok (.ldc2_w 181, 3) := by decide +kernel
theorem nd_M_grow_141 : decode nc_M_grow 141 = .ok (.lload 6, 2) := by decide +kernel
theorem nd_M_grow_143 : decode nc_M_grow 143 = .ok (.lmul, 1) := by decide +kernel
theorem nd_M_grow_144 : decode nc_M_grow 144 = .ok (.lload_n 2, 1) := by decide +kernel
theorem nd_M_grow_145 : decode nc_M_grow 145 = .ok (.lcmp, 1) := by decide +kernel
theorem nd_M_grow_146 : decode nc_M_grow 146 = .ok (.ifCond .gt 23, 3) := by decide +kernel
theorem nd_M_grow_149 : decode nc_M_grow 149 = .ok (.ldc2_w 181, 3) := by decide +kernel
theorem nd_M_grow_152 : decode nc_M_grow 152 = .ok (.lload 6, 2) := by decide +kernel
theorem nd_M_grow_154 : decode nc_M_grow 154 = .ok (.lmul, 1) := by decide +kernel
theorem nd_M_grow_155 : decode nc_M_grow 155 = .ok (.lload_n 2, 1) := by decide +kernel
theorem nd_M_grow_156 : decode nc_M_grow 156 = .ok (.lcmp, 1) := by decide +kernel
theorem nd_M_grow_157 : decode nc_M_grow 157 = .ok (.ifCond .ne 16, 3) := by decide +kernel
theorem nd_M_grow_160 : decode nc_M_grow 160 = .ok (.lload 4, 2) := by decide +kernel
theorem nd_M_grow_162 : decode nc_M_grow 162 = .ok (.lconst 1, 1) := by decide +kernel
theorem nd_M_grow_163 : decode nc_M_grow 163 = .ok (.land, 1) := by decide +kernel
theorem nd_M_grow_164 : decode nc_M_grow 164 = .ok (.lconst 1, 1) := by decide +kernel
theorem nd_M_grow_165 : decode nc_M_grow 165 = .ok (.lcmp, 1) := by decide +kernel
theorem nd_M_grow_166 : decode nc_M_grow 166 = .ok (.ifCond .ne 7, 3) := by decide +kernel
theorem nd_M_grow_169 : decode nc_M_grow 169 = .ok (.iconst 1, 1) := by decide +kernel
theorem nd_M_grow_170 : decode nc_M_grow 170 = .ok (.goto 4, 3) := by decide +kernel
theorem nd_M_grow_173 : decode nc_M_grow 173 = .ok (.iconst 0, 1) := by decide +kernel
theorem nd_M_grow_174 : decode nc_M_grow 174 = .ok (.istore 8, 2) := by decide +kernel
theorem nd_M_grow_176 : decode nc_M_grow 176 = .ok (.iload 8, 2) := by decide +kernel
theorem nd_M_grow_178 : decode nc_M_grow 178 = .ok (.ifCond .eq 10, 3) := by decide +kernel
theorem nd_M_grow_181 : decode nc_M_grow 181 = .ok (.lload 4, 2) := by decide +kernel
theorem nd_M_grow_183 : decode nc_M_grow 183 = .ok (.lconst 1, 1) := by decide +kernel
theorem nd_M_grow_184 : decode nc_M_grow 184 = .ok (.ladd, 1) := by decide +kernel
theorem nd_M_grow_185 : decode nc_M_grow 185 = .ok (.goto 5, 3) := by decide +kernel
theorem nd_M_grow_188 : decode nc_M_grow 188 = .ok (.lload 4, 2) := by decide +kernel
theorem nd_M_grow_190 : decode nc_M_grow 190 = .ok (.lstore 4, 2) := by decide +kernel
theorem nd_M_grow_192 : decode nc_M_grow 192 = .ok (.aload_n 0, 1) := by decide +kernel
theorem nd_M_grow_193 : decode nc_M_grow 193 = .ok (.getfield 25, 3) := by decide +kernel
theorem nd_M_grow_196 : decode nc_M_grow 196 = .ok (.iload_n 1, 1) := by decide +kernel
theorem nd_M_grow_197 : decode nc_M_grow 197 = .ok (.dup2, 1) := by decide +kernel
theorem nd_M_grow_198 : decode nc_M_grow 198 = .ok (.laload, 1) := by decide +kernel
theorem nd_M_grow_199 : decode nc_M_grow 199 = .ok (.lload 4, 2) := by decide +kernel
theorem nd_M_grow_201 : decode nc_M_grow 201 = .ok (.ladd, 1) := by decide +kernel
theorem nd_M_grow_202 : decode nc_M_grow 202 = .ok (.lastore, 1) := by decide +kernel
theorem nd_M_grow_203 : decode nc_M_grow 203 = .ok (.aload_n 0, 1) := by decide +kernel
theorem nd_M_grow_204 : decode nc_M_grow 204 = .ok (.getfield 59, 3) := by decide +kernel
theorem nd_M_grow_207 : decode nc_M_grow 207 = .ok (.aload_n 0, 1) := by decide +kernel
theorem nd_M_grow_208 : decode nc_M_grow 208 = .ok (.getfield 7, 3) := by decide +kernel
theorem nd_M_grow_211 : decode nc_M_grow 211 = .ok (.iload_n 1, 1) := by decide +kernel
theorem nd_M_grow_212 : decode nc_M_grow 212 = .ok (.iaload, 1) := by decide +kernel
theorem nd_M_grow_213 : decode nc_M_grow 213 = .ok (.dup2, 1) := by decide +kernel
theorem nd_M_grow_214 : decode nc_M_grow 214 = .ok (.laload, 1) := by decide +kernel
theorem nd_M_grow_215 : decode nc_M_grow 215 = .ok (.lload 4, 2) := by decide +kernel
theorem nd_M_grow_217 : decode nc_M_grow 217 = .ok (.ladd, 1) := by decide +kernel
theorem nd_M_grow_218 : decode nc_M_grow 218 = .ok (.lastore, 1) := by decide +kernel
theorem nd_M_grow_219 : decode nc_M_grow 219 = .ok (.aload_n 0, 1) := by decide +kernel
theorem nd_M_grow_220 : decode nc_M_grow 220 = .ok (.getfield 29, 3) := by decide +kernel
theorem nd_M_grow_223 : decode nc_M_grow 223 = .ok (.iload_n 1, 1) := by decide +kernel
theorem nd_M_grow_224 : decode nc_M_grow 224 = .ok (.dup2, 1) := by decide +kernel
theorem nd_M_grow_225 : decode nc_M_grow 225 = .ok (.laload, 1) := by decide +kernel
theorem nd_M_grow_226 : decode nc_M_grow 226 = .ok (.lload 4, 2) := by decide +kernel
theorem nd_M_grow_228 : decode nc_M_grow 228 = .ok (.lload_n 2, 1) := by decide +kernel
theorem nd_M_grow_229 : decode nc_M_grow 229 = .ok (.lmul, 1) := by decide +kernel
theorem nd_M_grow_230 : decode nc_M_grow 230 = .ok (.lsub, 1) := by decide +kernel
theorem nd_M_grow_231 : decode nc_M_grow 231 = .ok (.lastore, 1) := by decide +kernel
theorem nd_M_grow_232 : decode nc_M_grow 232 = .ok (.return_, 1) := by decide +kernel
theorem nd_M_days_0 : decode nc_M_days 0 = .ok (.iload_n 1, 1) := by decide +kernel
theorem nd_M_days_1 : decode nc_M_days 1 = .ok (.iconst 2, 1) := by decide +kernel
theorem nd_M_days_2 : decode nc_M_days 2 = .ok (.if_icmp .ge 7, 3) := by decide +kernel
theorem nd_M_days_5 : decode nc_M_days 5 = .ok (.iload_n 3, 1) := by decide +kernel
theorem nd_M_days_6 : decode nc_M_days 6 = .ok (.iload_n 2, 1) := by decide +kernel
theorem nd_M_days_7 : decode nc_M_days 7 = .ok (.isub, 1) := by decide +kernel
theorem nd_M_days_8 : decode nc_M_days 8 = .ok (.ireturn, 1) := by decide +kernel
theorem nd_M_days_9 : decode nc_M_days 9 = .ok (.aload_n 0, 1) := by decide +kernel
theorem nd_M_days_10 : decode nc_M_days 10 = .ok (.iload_n 2, 1) := by decide +kernel
theorem nd_M_days_11 : decode nc_M_days 11 = .ok (.invokevirtual 83, 3) := by decide +kernel
theorem nd_M_days_14 : decode nc_M_days 14 = .ok (.aload_n 0, 1) := by decide +kernel
theorem nd_M_days_15 : decode nc_M_days 15 = .ok (.getfield 70, 3) := by decide +kernel
theorem nd_M_days_18 : decode nc_M_days 18 = .ok (.istore 4, 2) := by decide +kernel
theorem nd_M_days_20 : decode nc_M_days 20 = .ok (.aload_n 0, 1) := by decide +kernel
theorem nd_M_days_21 : decode nc_M_days 21 = .ok (.getfield 73, 3) := by decide +kernel
theorem nd_M_days_24 : decode nc_M_days 24 = .ok (.istore 5, 2) := by decide +kernel
theorem nd_M_days_26 : decode nc_M_days 26 = .ok (.aload_n 0, 1) := by decide +kernel
theorem nd_M_days_27 : decode nc_M_days 27 = .ok (.getfield 80, 3) := by decide +kernel
theorem nd_M_days_30 : decode nc_M_days 30 = .ok (.bipush 31, 2) := by decide +kernel
theorem nd_M_days_32 : decode nc_M_days 32 = .ok (.if_icmp .ne 8, 3) := by decide +kernel
theorem nd_M_days_35 : decode nc_M_days 35 = .ok (.bipush 30, 2) := by decide +kernel
theorem nd_M_days_37 : decode nc_M_days 37 = .ok (.goto 7, 3) := by decide +kernel
theorem nd_M_days_40 : decode nc_M_days 40 = .ok (.aload_n 0, 1) := by decide +kernel
theorem nd_M_days_41 : decode nc_M_days 41 = .ok (.getfield 80, 3) := by decide +kernel
theorem nd_M_days_44 : decode nc_M_days 44 = .ok (.istore 6, 2) := by decide +kernel
theorem nd_M_days_46 : decode nc_M_days 46 = .ok (.aload_n 0, 1) := by decide +kernel
theorem nd_M_days_47 : decode nc_M_days 47 = .ok (.iload_n 3, 1) := by decide +kernel
theorem nd_M_days_48 : decode nc_M_days 48 = .ok (.invokevirtual 83, 3) := by decide +kernel
theorem nd_M_days_51 : decode nc_M_days 51 = .ok (.iload 6, 2) := by decide +kernel
theorem nd_M_days_53 : decode nc_M_days 53 = .ok (.bipush 30, 2) := by decide +kernel
theorem nd_M_days_55 : decode nc_M_days 55 = .ok (.if_icmp .ne 17, 3) := by decide +kernel
theorem nd_M_days_58 : decode nc_M_days 58 = .ok (.aload_n 0, 1) := by decide +kernel
theorem nd_M_days_59 : decode nc_M_days 59 = .ok (.getfield 80, 3) := by decide +kernel
theorem nd_M_days_62 : decode nc_M_days 62 = .ok (.bipush 31, 2) := by decide +kernel
theorem nd_M_days_64 : decode nc_M_days 64 = .ok (.if_icmp .ne 8, 3) := by decide +kernel
theorem nd_M_days_67 : decode nc_M_days 67 = .ok (.bipush 30, 2) := by decide +kernel
theorem nd_M_days_69 : decode nc_M_days 69 = .ok (.goto 7, 3) := by decide +kernel
theorem nd_M_days_72 : decode nc_M_days 72 = .ok (.aload_n 0, 1) := by decide +kernel
theorem nd_M_days_73 : decode nc_M_days 73 = .ok (.getfield 80, 3) := by decide +kernel
theorem nd_M_days_76 : decode nc_M_days 76 = .ok (.istore 7, 2) := by decide +kernel
theorem nd_M_days_78 : decode nc_M_days 78 = .ok (.sipush 360, 3) := by decide +kernel
theorem nd_M_days_81 : decode nc_M_days 81 = .ok (.aload_n 0, 1) := by decide +kernel
theorem nd_M_days_82 : decode nc_M_days 82 = .ok (.getfield 70, 3) := by decide +kernel
theorem nd_M_days_85 : decode nc_M_days 85 = .ok (.iload 4, 2) := by decide +kernel
theorem nd_M_days_87 : decode nc_M_days 87 = .ok (.isub, 1) := by decide +kernel
theorem nd_M_days_88 : decode nc_M_days 88 = .ok (.imul, 1) := by decide +kernel
theorem nd_M_days_89 : decode nc_M_days 89 = .ok (.bipush 30, 2) := by decide +kernel
theorem nd_M_days_91 : decode nc_M_days 91 = .ok (.aload_n 0, 1) := by decide +kernel
theorem nd_M_days_92 : decode nc_M_days 92 = .ok (.getfield 73, 3) := by decide +kernel
theorem nd_M_days_95 : decode nc_M_days 95 = .ok (.iload 5, 2) := by decide +kernel
theorem nd_M_days_97 : decode nc_M_days 97 = .ok (.isub, 1) := by decide +kernel
theorem nd_M_days_98 : decode nc_M_days 98 = .ok (.imul, 1) := by decide +kernel
theorem nd_M_days_99 : decode nc_M_days 99 = .ok (.iadd, 1) := by decide +kernel
theorem nd_M_days_100 : decode nc_M_days 100 = .ok (.iload 7, 2) := by decide +kernel
theorem nd_M_days_102 : decode nc_M_days 102 = .ok (.iadd, 1) := by decide +kernel
theorem nd_M_days_103 : decode nc_M_days 103 = .ok (.iload 6, 2) := by decide +kernel
theorem nd_M_days_105 : decode nc_M_days 105 = .ok (.isub, 1) := by decide +kernel
theorem nd_M_days_106 : decode nc_M_days 106 = .ok (.ireturn, 1) := by decide +kernel
theorem nd_M_fuse_0 : decode nc_M_fuse 0 = .ok (.aload_n 0, 1) := by decide +kernel
theorem nd_M_fuse_1 : decode nc_M_fuse 1 = .ok (.getfield 102, 3) := by decide +kernel
theorem nd_M_fuse_4 : decode nc_M_fuse 4 = .ok (.ifCond .ne 15, 3) := by decide +kernel
theorem nd_M_fuse_7 : decode nc_M_fuse 7 = .ok (.iload_n 1, 1) := by decide +kernel
theorem nd_M_fuse_8 : decode nc_M_fuse 8 = .ok (.iconst (-1), 1) := by decide +kernel
theorem nd_M_fuse_9 : decode nc_M_fuse 9 = .ok (.if_icmp .lt 10, 3) := by decide +kernel
theorem nd_M_fuse_12 : decode nc_M_fuse 12 = .ok (.iload_n 1, 1) := by decide +kernel
theorem nd_M_fuse_13 : decode nc_M_fuse 13 = .ok (.sipush 500, 3) := by decide +kernel
theorem nd_M_fuse_16 : decode nc_M_fuse 16 = .ok (.if_icmp .le 5, 3) := by decide +kernel
theorem nd_M_fuse_19 : decode nc_M_fuse 19 = .ok (.iconst 0, 1) := by decide +kernel
theorem nd_M_fuse_20 : decode nc_M_fuse 20 = .ok (.ireturn, 1) := by decide +kernel
theorem nd_M_fuse_21 : decode nc_M_fuse 21 = .ok (.aload_n 0, 1) := by decide +kernel
theorem nd_M_fuse_22 : decode nc_M_fuse 22 = .ok (.iload_n 1, 1) := by decide +kernel
theorem nd_M_fuse_23 : decode nc_M_fuse 23 = .ok (.putfield 62, 3) := by decide +kernel
theorem nd_M_fuse_26 : decode nc_M_fuse 26 = .ok (.iconst 1, 1) := by decide +kernel
theorem nd_M_fuse_27 : decode nc_M_fuse 27 = .ok (.ireturn, 1) := by decide +kernel
theorem nd_M_restart_0 : decode nc_M_restart 0 = .ok (.aload_n 0, 1) := by decide +kernel
theorem nd_M_restart_1 : decode nc_M_restart 1 = .ok (.getfield 102, 3) := by decide +kernel
theorem nd_M_restart_4 : decode nc_M_restart 4 = .ok (.ifCond .ne 6, 3) := by decide +kernel
theorem nd_M_restart_7 : decode nc_M_restart 7 = .ok (.bipush (-3), 2) := by decide +kernel
theorem nd_M_restart_9 : decode nc_M_restart 9 = .ok (.ireturn, 1) := by decide +kernel
theorem nd_M_restart_10 : decode nc_M_restart 10 = .ok (.aload_n 0, 1) := by decide +kernel
theorem nd_M_restart_11 : decode nc_M_restart 11 = .ok (.iconst 0, 1) := by decide +kernel
theorem nd_M_restart_12 : decode nc_M_restart 12 = .ok (.putfield 102, 3) := by decide +kernel
theorem nd_M_restart_15 : decode nc_M_restart 15 = .ok (.aload_n 0, 1) := by decide +kernel
theorem nd_M_restart_16 : decode nc_M_restart 16 = .ok (.iconst (-1), 1) := by decide +kernel
theorem nd_M_restart_17 : decode nc_M_restart 17 = .ok (.putfield 62, 3) := by decide +kernel
theorem nd_M_restart_20 : decode nc_M_restart 20 = .ok (.aload_n 0, 1) := by decide +kernel
theorem nd_M_restart_21 : decode nc_M_restart 21 = .ok (.getfield 115, 3) := by decide +kernel
theorem nd_M_restart_24 : decode nc_M_restart 24 = .ok (.ireturn, 1) := by decide +kernel
theorem nd_M_balance_0 : decode nc_M_balance 0 = .ok (.aload_n 0, 1) := by decide +kernel
theorem nd_M_balance_1 : decode nc_M_balance 1 = .ok (.getfield 102, 3) := by decide +kernel
theorem nd_M_balance_4 : decode nc_M_balance 4 = .ok (.ifCond .ne 20, 3) := by decide +kernel
theorem nd_M_balance_7 : decode nc_M_balance 7 = .ok (.aload_n 0, 1) := by decide +kernel
theorem nd_M_balance_8 : decode nc_M_balance 8 = .ok (.iload_n 1, 1) := by decide +kernel
theorem nd_M_balance_9 : decode nc_M_balance 9 = .ok (.invokevirtual 133, 3) := by decide +kernel
theorem nd_M_balance_12 : decode nc_M_balance 12 = .ok (.ifCond .eq 12, 3) := by decide +kernel
theorem nd_M_balance_15 : decode nc_M_balance 15 = .ok (.aload_n 0, 1) := by decide +kernel
theorem nd_M_balance_16 : decode nc_M_balance 16 = .ok (.getfield 25, 3) := by decide +kernel
theorem nd_M_balance_19 : decode nc_M_balance 19 = .ok (.iload_n 1, 1) := by decide +kernel
theorem nd_M_balance_20 : decode nc_M_balance 20 = .ok (.laload, 1) := by decide +kernel
theorem nd_M_balance_21 : decode nc_M_balance 21 = .ok (.goto 4, 3) := by decide +kernel
theorem nd_M_balance_24 : decode nc_M_balance 24 = .ok (.lconst 0, 1) := by decide +kernel
theorem nd_M_balance_25 : decode nc_M_balance 25 = .ok (.lreturn, 1) := by decide +kernel
theorem nd_M_available_0 : decode nc_M_available 0 = .ok (.aload_n 0, 1) := by decide +kernel
theorem nd_M_available_1 : decode nc_M_available 1 = .ok (.getfield 102, 3) := by decide +kernel
theorem nd_M_available_4 : decode nc_M_available 4 = .ok (.ifCond .ne 19, 3) := by decide +kernel
theorem nd_M_available_7 : decode nc_M_available 7 = .ok (.aload_n 0, 1) := by decide +kernel
theorem nd_M_available_8 : decode nc_M_available 8 = .ok (.iload_n 1, 1) := by decide +kernel
theorem nd_M_available_9 : decode nc_M_available 9 = .ok (.invokevirtual 133, 3) := by decide +kernel
theorem nd_M_available_12 : decode nc_M_available 12 = .ok (.ifCond .eq 11, 3) := by decide +kernel
theorem nd_M_available_15 : decode nc_M_available 15 = .ok (.aload_n 0, 1) := by decide +kernel
theorem nd_M_available_16 : decode nc_M_available 16 = .ok (.iload_n 1, 1) := by decide +kernel
theorem nd_M_available_17 : decode nc_M_available 17 = .ok (.invokevirtual 142, 3) := by decide +kernel
theorem nd_M_available_20 : decode nc_M_available 20 = .ok (.goto 4, 3) := by decide +kernel
theorem nd_M_available_23 : decode nc_M_available 23 = .ok (.lconst 0, 1) := by decide +kernel
theorem nd_M_available_24 : decode nc_M_available 24 = .ok (.lreturn, 1) := by decide +kernel
theorem nd_M_accrued_0 : decode nc_M_accrued 0 = .ok (.aload_n 0, 1) := by decide +kernel
theorem nd_M_accrued_1 : decode nc_M_accrued 1 = .ok (.getfield 102, 3) := by decide +kernel
theorem nd_M_accrued_4 : decode nc_M_accrued 4 = .ok (.ifCond .ne 20, 3) := by decide +kernel
theorem nd_M_accrued_7 : decode nc_M_accrued 7 = .ok (.aload_n 0, 1) := by decide +kernel
theorem nd_M_accrued_8 : decode nc_M_accrued 8 = .ok (.iload_n 1, 1) := by decide +kernel
theorem nd_M_accrued_9 : decode nc_M_accrued 9 = .ok (.invokevirtual 133, 3) := by decide +kernel
theorem nd_M_accrued_12 : decode nc_M_accrued 12 = .ok (.ifCond .eq 12, 3) := by decide +kernel
theorem nd_M_accrued_15 : decode nc_M_accrued 15 = .ok (.aload_n 0, 1) := by decide +kernel
theorem nd_M_accrued_16 : decode nc_M_accrued 16 = .ok (.getfield 29, 3) := by decide +kernel
theorem nd_M_accrued_19 : decode nc_M_accrued 19 = .ok (.iload_n 1, 1) := by decide +kernel
theorem nd_M_accrued_20 : decode nc_M_accrued 20 = .ok (.laload, 1) := by decide +kernel
theorem nd_M_accrued_21 : decode nc_M_accrued 21 = .ok (.goto 4, 3) := by decide +kernel
theorem nd_M_accrued_24 : decode nc_M_accrued 24 = .ok (.lconst 0, 1) := by decide +kernel
theorem nd_M_accrued_25 : decode nc_M_accrued 25 = .ok (.lreturn, 1) := by decide +kernel
theorem nd_M_mark_0 : decode nc_M_mark 0 = .ok (.aload_n 0, 1) := by decide +kernel
theorem nd_M_mark_1 : decode nc_M_mark 1 = .ok (.getfield 102, 3) := by decide +kernel
theorem nd_M_mark_4 : decode nc_M_mark 4 = .ok (.ifCond .ne 20, 3) := by decide +kernel
theorem nd_M_mark_7 : decode nc_M_mark 7 = .ok (.aload_n 0, 1) := by decide +kernel
theorem nd_M_mark_8 : decode nc_M_mark 8 = .ok (.iload_n 1, 1) := by decide +kernel
theorem nd_M_mark_9 : decode nc_M_mark 9 = .ok (.invokevirtual 133, 3) := by decide +kernel
theorem nd_M_mark_12 : decode nc_M_mark 12 = .ok (.ifCond .eq 12, 3) := by decide +kernel
theorem nd_M_mark_15 : decode nc_M_mark 15 = .ok (.aload_n 0, 1) := by decide +kernel
theorem nd_M_mark_16 : decode nc_M_mark 16 = .ok (.getfield 22, 3) := by decide +kernel
theorem nd_M_mark_19 : decode nc_M_mark 19 = .ok (.iload_n 1, 1) := by decide +kernel
theorem nd_M_mark_20 : decode nc_M_mark 20 = .ok (.iaload, 1) := by decide +kernel
theorem nd_M_mark_21 : decode nc_M_mark 21 = .ok (.goto 4, 3) := by decide +kernel
theorem nd_M_mark_24 : decode nc_M_mark 24 = .ok (.iconst 0, 1) := by decide +kernel
theorem nd_M_mark_25 : decode nc_M_mark 25 = .ok (.ireturn, 1) := by decide +kernel
theorem nd_M_ledger_0 : decode nc_M_ledger 0 = .ok (.aload_n 0, 1) := by decide +kernel
theorem nd_M_ledger_1 : decode nc_M_ledger 1 = .ok (.getfield 102, 3) := by decide +kernel
theorem nd_M_ledger_4 : decode nc_M_ledger 4 = .ok (.ifCond .ne 21, 3) := by decide +kernel
theorem nd_M_ledger_7 : decode nc_M_ledger 7 = .ok (.iload_n 1, 1) := by decide +kernel
theorem nd_M_ledger_8 : decode nc_M_ledger 8 = .ok (.ifCond .lt 17, 3) := by decide +kernel
theorem nd_M_ledger_11 : decode nc_M_ledger 11 = .ok (.iload_n 1, 1) := by decide +kernel
theorem nd_M_ledger_12 : decode nc_M_ledger 12 = .ok (.iconst 2, 1) := by decide +kernel
theorem nd_M_ledger_13 : decode nc_M_ledger 13 = .ok (.if_icmp .gt 12, 3) := by decide +kernel
theorem nd_M_ledger_16 : decode nc_M_ledger 16 = .ok (.iload_n 2, 1) := by decide +kernel
theorem nd_M_ledger_17 : decode nc_M_ledger 17 = .ok (.ifCond .lt 8, 3) := by decide +kernel
theorem nd_M_ledger_20 : decode nc_M_ledger 20 = .ok (.iload_n 2, 1) := by decide +kernel
theorem nd_M_ledger_21 : decode nc_M_ledger 21 = .ok (.iconst 2, 1) := by decide +kernel
theorem nd_M_ledger_22 : decode nc_M_ledger 22 = .ok (.if_icmp .le 5, 3) := by decide +kernel
theorem nd_M_ledger_25 : decode nc_M_ledger 25 = .ok (.lconst 0, 1) := by decide +kernel
theorem nd_M_ledger_26 : decode nc_M_ledger 26 = .ok (.lreturn, 1) := by decide +kernel
theorem nd_M_ledger_27 : decode nc_M_ledger 27 = .ok (.iload_n 2, 1) := by decide +kernel
theorem nd_M_ledger_28 : decode nc_M_ledger 28 = .ok (.iconst 2, 1) := by decide +kernel
theorem nd_M_ledger_29 : decode nc_M_ledger 29 = .ok (.if_icmp .ge 23, 3) := by decide +kernel
theorem nd_M_ledger_32 : decode nc_M_ledger 32 = .ok (.iload_n 2, 1) := by decide +kernel
theorem nd_M_ledger_33 : decode nc_M_ledger 33 = .ok (.ifCond .ne 12, 3) := by decide +kernel
theorem nd_M_ledger_36 : decode nc_M_ledger 36 = .ok (.aload_n 0, 1) := by decide +kernel
theorem nd_M_ledger_37 : decode nc_M_ledger 37 = .ok (.getfield 56, 3) := by decide +kernel
theorem nd_M_ledger_40 : decode nc_M_ledger 40 = .ok (.iload_n 1, 1) := by decide +kernel
theorem nd_M_ledger_41 : decode nc_M_ledger 41 = .ok (.laload, 1) := by decide +kernel
theorem nd_M_ledger_42 : decode nc_M_ledger 42 = .ok (.goto 9, 3) := by decide +kernel
theorem nd_M_ledger_45 : decode nc_M_ledger 45 = .ok (.aload_n 0, 1) := by decide +kernel
theorem nd_M_ledger_46 : decode nc_M_ledger 46 = .ok (.getfield 59, 3) := by decide +kernel
theorem nd_M_ledger_49 : decode nc_M_ledger 49 = .ok (.iload_n 1, 1) := by decide +kernel
theorem nd_M_ledger_50 : decode nc_M_ledger 50 = .ok (.laload, 1) := by decide +kernel
theorem nd_M_ledger_51 : decode nc_M_ledger 51 = .ok (.lreturn, 1) := by decide +kernel
theorem nd_M_ledger_52 : decode nc_M_ledger 52 = .ok (.lconst 0, 1) := by decide +kernel
theorem nd_M_ledger_53 : decode nc_M_ledger 53 = .ok (.lstore_n 3, 1) := by decide +kernel
theorem nd_M_ledger_54 : decode nc_M_ledger 54 = .ok (.iconst 0, 1) := by decide +kernel
theorem nd_M_ledger_55 : decode nc_M_ledger 55 = .ok (.istore 5, 2) := by decide +kernel
theorem nd_M_ledger_57 : decode nc_M_ledger 57 = .ok (.iload 5, 2) := by decide +kernel
theorem nd_M_ledger_59 : decode nc_M_ledger 59 = .ok (.aload_n 0, 1) := by decide +kernel
theorem nd_M_ledger_60 : decode nc_M_ledger 60 = .ok (.getfield 121, 3) := by decide +kernel
theorem nd_M_ledger_63 : decode nc_M_ledger 63 = .ok (.if_icmp .ge 34, 3) := by decide +kernel
theorem nd_M_ledger_66 : decode nc_M_ledger 66 = .ok (.lload_n 3, 1) := by decide +kernel
theorem nd_M_ledger_67 : decode nc_M_ledger 67 = .ok (.aload_n 0, 1) := by decide +kernel
theorem nd_M_ledger_68 : decode nc_M_ledger 68 = .ok (.getfield 7, 3) := by decide +kernel
theorem nd_M_ledger_71 : decode nc_M_ledger 71 = .ok (.iload 5, 2) := by decide +kernel
theorem nd_M_ledger_73 : decode nc_M_ledger 73 = .ok (.iaload, 1) := by decide +kernel
theorem nd_M_ledger_74 : decode nc_M_ledger 74 = .ok (.iload_n 1, 1) := by decide +kernel
theorem nd_M_ledger_75 : decode nc_M_ledger 75 = .ok (.if_icmp .ne 13, 3) := by decide +kernel
theorem nd_M_ledger_78 : decode nc_M_ledger 78 = .ok (.aload_n 0, 1) := by decide +kernel
theorem nd_M_ledger_79 : decode nc_M_ledger 79 = .ok (.getfield 25, 3) := by decide +kernel
theorem nd_M_ledger_82 : decode nc_M_ledger 82 = .ok (.iload 5, 2) := by decide +kernel
theorem nd_M_ledger_84 : decode nc_M_ledger 84 = .ok (.laload, 1) := by decide +kernel
theorem nd_M_ledger_85 : decode nc_M_ledger 85 = .ok (.goto 4, 3) := by decide +kernel
theorem nd_M_ledger_88 : decode nc_M_ledger 88 = .ok (.lconst 0, 1) := by decide +kernel
theorem nd_M_ledger_89 : decode nc_M_ledger 89 = .ok (.ladd, 1) := by decide +kernel
theorem nd_M_ledger_90 : decode nc_M_ledger 90 = .ok (.lstore_n 3, 1) := by decide +kernel
theorem nd_M_ledger_91 : decode nc_M_ledger 91 = .ok (.iinc 5 1, 3) := by decide +kernel
theorem nd_M_ledger_94 : decode nc_M_ledger 94 = .ok (.goto (-37), 3) := by decide +kernel
theorem nd_M_ledger_97 : decode nc_M_ledger 97 = .ok (.lload_n 3, 1) := by decide +kernel
theorem nd_M_ledger_98 : decode nc_M_ledger 98 = .ok (.lreturn, 1) := by decide +kernel
theorem nd_M_missed_0 : decode nc_M_missed 0 = .ok (.aload_n 0, 1) := by decide +kernel
theorem nd_M_missed_1 : decode nc_M_missed 1 = .ok (.getfield 102, 3) := by decide +kernel
theorem nd_M_missed_4 : decode nc_M_missed 4 = .ok (.ifCond .ne 24, 3) := by decide +kernel
theorem nd_M_missed_7 : decode nc_M_missed 7 = .ok (.iload_n 1, 1) := by decide +kernel
theorem nd_M_missed_8 : decode nc_M_missed 8 = .ok (.ifCond .lt 20, 3) := by decide +kernel
theorem nd_M_missed_11 : decode nc_M_missed 11 = .ok (.iload_n 1, 1) := by decide +kernel
theorem nd_M_missed_12 : decode nc_M_missed 12 = .ok (.aload_n 0, 1) := by decide +kernel
theorem nd_M_missed_13 : decode nc_M_missed 13 = .ok (.getfield 159, 3) := by decide +kernel
theorem nd_M_missed_16 : decode nc_M_missed 16 = .ok (.if_icmp .ge 12, 3) := by decide +kernel
theorem nd_M_missed_19 : decode nc_M_missed 19 = .ok (.aload_n 0, 1) := by decide +kernel
theorem nd_M_missed_20 : decode nc_M_missed 20 = .ok (.getfield 50, 3) := by decide +kernel
theorem nd_M_missed_23 : decode nc_M_missed 23 = .ok (.iload_n 1, 1) := by decide +kernel
theorem nd_M_missed_24 : decode nc_M_missed 24 = .ok (.iaload, 1) := by decide +kernel
theorem nd_M_missed_25 : decode nc_M_missed 25 = .ok (.goto 4, 3) := by decide +kernel
theorem nd_M_missed_28 : decode nc_M_missed 28 = .ok (.iconst 0, 1) := by decide +kernel
theorem nd_M_missed_29 : decode nc_M_missed 29 = .ok (.ireturn, 1) := by decide +kernel
theorem nd_M_today_0 : decode nc_M_today 0 = .ok (.aload_n 0, 1) := by decide +kernel
theorem nd_M_today_1 : decode nc_M_today 1 = .ok (.getfield 102, 3) := by decide +kernel
theorem nd_M_today_4 : decode nc_M_today 4 = .ok (.ifCond .eq 7, 3) := by decide +kernel
theorem nd_M_today_7 : decode nc_M_today 7 = .ok (.iconst 0, 1) := by decide +kernel
theorem nd_M_today_8 : decode nc_M_today 8 = .ok (.goto 7, 3) := by decide +kernel
theorem nd_M_today_11 : decode nc_M_today 11 = .ok (.aload_n 0, 1) := by decide +kernel
theorem nd_M_today_12 : decode nc_M_today 12 = .ok (.getfield 90, 3) := by decide +kernel
theorem nd_M_today_15 : decode nc_M_today 15 = .ok (.ireturn, 1) := by decide +kernel
theorem nd_M_count_0 : decode nc_M_count 0 = .ok (.iload_n 1, 1) := by decide +kernel
theorem nd_M_count_1 : decode nc_M_count 1 = .ok (.ifCond .lt 23, 3) := by decide +kernel
theorem nd_M_count_4 : decode nc_M_count 4 = .ok (.iload_n 1, 1) := by decide +kernel
theorem nd_M_count_5 : decode nc_M_count 5 = .ok (.iconst 2, 1) := by decide +kernel
theorem nd_M_count_6 : decode nc_M_count 6 = .ok (.if_icmp .gt 18, 3) := by decide +kernel
theorem nd_M_count_9 : decode nc_M_count 9 = .ok (.iload_n 2, 1) := by decide +kernel
theorem nd_M_count_10 : decode nc_M_count 10 = .ok (.ifCond .lt 14, 3) := by decide +kernel
theorem nd_M_count_13 : decode nc_M_count 13 = .ok (.iload_n 3, 1) := by decide +kernel
theorem nd_M_count_14 : decode nc_M_count 14 = .ok (.ldc 190, 2) := by decide +kernel
theorem nd_M_count_16 : decode nc_M_count 16 = .ok (.if_icmp .gt 8, 3) := by decide +kernel
theorem nd_M_count_19 : decode nc_M_count 19 = .ok (.iload_n 2, 1) := by decide +kernel
theorem nd_M_count_20 : decode nc_M_count 20 = .ok (.iload_n 3, 1) := by decide +kernel
theorem nd_M_count_21 : decode nc_M_count 21 = .ok (.if_icmp .le 7, 3) := by decide +kernel
theorem nd_M_count_24 : decode nc_M_count 24 = .ok (.iconst (-1), 1) := by decide +kernel
theorem nd_M_count_25 : decode nc_M_count 25 = .ok (.goto 10, 3) := by decide +kernel
theorem nd_M_count_28 : decode nc_M_count 28 = .ok (.aload_n 0, 1) := by decide +kernel
theorem nd_M_count_29 : decode nc_M_count 29 = .ok (.iload_n 1, 1) := by decide +kernel
theorem nd_M_count_30 : decode nc_M_count 30 = .ok (.iload_n 2, 1) := by decide +kernel
theorem nd_M_count_31 : decode nc_M_count 31 = .ok (.iload_n 3, 1) := by decide +kernel
theorem nd_M_count_32 : decode nc_M_count 32 = .ok (.invokevirtual 175, 3) := by decide +kernel
theorem nd_M_count_35 : decode nc_M_count 35 = .ok (.ireturn, 1) := by decide +kernel
theorem nd_M_writes_0 : decode nc_M_writes 0 = .ok (.aload_n 0, 1) := by decide +kernel
theorem nd_M_writes_1 : decode nc_M_writes 1 = .ok (.getfield 96, 3) := by decide +kernel
theorem nd_M_writes_4 : decode nc_M_writes 4 = .ok (.ireturn, 1) := by decide +kernel
theorem nd_M_lines_0 : decode nc_M_lines 0 = .ok (.aload_n 0, 1) := by decide +kernel
theorem nd_M_lines_1 : decode nc_M_lines 1 = .ok (.getfield 102, 3) := by decide +kernel
theorem nd_M_lines_4 : decode nc_M_lines 4 = .ok (.ifCond .eq 7, 3) := by decide +kernel
theorem nd_M_lines_7 : decode nc_M_lines 7 = .ok (.iconst 0, 1) := by decide +kernel
theorem nd_M_lines_8 : decode nc_M_lines 8 = .ok (.goto 7, 3) := by decide +kernel
theorem nd_M_lines_11 : decode nc_M_lines 11 = .ok (.aload_n 0, 1) := by decide +kernel
theorem nd_M_lines_12 : decode nc_M_lines 12 = .ok (.getfield 106, 3) := by decide +kernel
theorem nd_M_lines_15 : decode nc_M_lines 15 = .ok (.ireturn, 1) := by decide +kernel
end
section
/-! decode rows -/
theorem nd_L_law_0 : decode nc_L_law 0 = .ok (.new 7, 3) := by decide +kernel
theorem nd_L_law_3 : decode nc_L_law 3 = .ok (.dup, 1) := by decide +kernel
theorem nd_L_law_4 : decode nc_L_law 4 = .ok (.invokespecial 9, 3) := by decide +kernel
theorem nd_L_law_7 : decode nc_L_law 7 = .ok (.astore_n 1, 1) := by decide +kernel
theorem nd_L_law_8 : decode nc_L_law 8 = .ok (.new 10, 3) := by decide +kernel
theorem nd_L_law_11 : decode nc_L_law 11 = .ok (.dup, 1) := by decide +kernel
theorem nd_L_law_12 : decode nc_L_law 12 = .ok (.invokespecial 12, 3) := by decide +kernel
theorem nd_L_law_15 : decode nc_L_law 15 = .ok (.astore_n 2, 1) := by decide +kernel
theorem nd_L_law_16 : decode nc_L_law 16 = .ok (.iconst 0, 1) := by decide +kernel
theorem nd_L_law_17 : decode nc_L_law 17 = .ok (.istore_n 3, 1) := by decide +kernel
theorem nd_L_law_18 : decode nc_L_law 18 = .ok (.iload_n 3, 1) := by decide +kernel
theorem nd_L_law_19 : decode nc_L_law 19 = .ok (.aload_n 0, 1) := by decide +kernel
theorem nd_L_law_20 : decode nc_L_law 20 = .ok (.arraylength, 1) := by decide +kernel
theorem nd_L_law_21 : decode nc_L_law 21 = .ok (.iconst 5, 1) := by decide +kernel
theorem nd_L_law_22 : decode nc_L_law 22 = .ok (.isub, 1) := by decide +kernel
theorem nd_L_law_23 : decode nc_L_law 23 = .ok (.if_icmp .gt 675, 3) := by decide +kernel
theorem nd_L_law_26 : decode nc_L_law 26 = .ok (.aload_n 0, 1) := by decide +kernel
theorem nd_L_law_27 : decode nc_L_law 27 = .ok (.iload_n 3, 1) := by decide +kernel
theorem nd_L_law_28 : decode nc_L_law 28 = .ok (.iaload, 1) := by decide +kernel
theorem nd_L_law_29 : decode nc_L_law 29 = .ok (.bipush 31, 2) := by decide +kernel
theorem nd_L_law_31 : decode nc_L_law 31 = .ok (.iand, 1) := by decide +kernel
theorem nd_L_law_32 : decode nc_L_law 32 = .ok (.tableswitch 660 0 19 #[96, 149, 192, 225, 248, 291, 344, 367, 390, 413, 426, 450, 474, 498, 521, 555, 578, 591, 634, 647], 96) := by decide +kernel
theorem nd_L_law_128 : decode nc_L_law 128 = .ok (.aload_n 1, 1) := by decide +kernel
theorem nd_L_law_129 : decode nc_L_law 129 = .ok (.aload_n 0, 1) := by decide +kernel
theorem nd_L_law_130 : decode nc_L_law 130 = .ok (.iload_n 3, 1) := by decide +kernel
theorem nd_L_law_131 : decode nc_L_law 131 = .ok (.iconst 1, 1) := by decide +kernel
theorem nd_L_law_132 : decode nc_L_law 132 = .ok (.iadd, 1) := by decide +kernel
theorem nd_L_law_133 : decode nc_L_law 133 = .ok (.iaload, 1) := by decide +kernel
theorem nd_L_law_134 : decode nc_L_law 134 = .ok (.aload_n 0, 1) := by decide +kernel
theorem nd_L_law_135 : decode nc_L_law 135 = .ok (.iload_n 3, 1) := by decide +kernel
theorem nd_L_law_136 : decode nc_L_law 136 = .ok (.iconst 2, 1) := by decide +kernel
theorem nd_L_law_137 : decode nc_L_law 137 = .ok (.iadd, 1) := by decide +kernel
theorem nd_L_law_138 : decode nc_L_law 138 = .ok (.iaload, 1) := by decide +kernel
theorem nd_L_law_139 : decode nc_L_law 139 = .ok (.aload_n 0, 1) := by decide +kernel
theorem nd_L_law_140 : decode nc_L_law 140 = .ok (.iload_n 3, 1) := by decide +kernel
theorem nd_L_law_141 : decode nc_L_law 141 = .ok (.iconst 3, 1) := by decide +kernel
theorem nd_L_law_142 : decode nc_L_law 142 = .ok (.iadd, 1) := by decide +kernel
theorem nd_L_law_143 : decode nc_L_law 143 = .ok (.iaload, 1) := by decide +kernel
theorem nd_L_law_144 : decode nc_L_law 144 = .ok (.aload_n 0, 1) := by decide +kernel
theorem nd_L_law_145 : decode nc_L_law 145 = .ok (.iload_n 3, 1) := by decide +kernel
theorem nd_L_law_146 : decode nc_L_law 146 = .ok (.iconst 4, 1) := by decide +kernel
theorem nd_L_law_147 : decode nc_L_law 147 = .ok (.iadd, 1) := by decide +kernel
theorem nd_L_law_148 : decode nc_L_law 148 = .ok (.iaload, 1) := by decide +kernel
theorem nd_L_law_149 : decode nc_L_law 149 = .ok (.invokevirtual 13, 3) := by decide +kernel
theorem nd_L_law_152 : decode nc_L_law 152 = .ok (.aload_n 2, 1) := by decide +kernel
theorem nd_L_law_153 : decode nc_L_law 153 = .ok (.aload_n 0, 1) := by decide +kernel
theorem nd_L_law_154 : decode nc_L_law 154 = .ok (.iload_n 3, 1) := by decide +kernel
theorem nd_L_law_155 : decode nc_L_law 155 = .ok (.iconst 1, 1) := by decide +kernel
theorem nd_L_law_156 : decode nc_L_law 156 = .ok (.iadd, 1) := by decide +kernel
theorem nd_L_law_157 : decode nc_L_law 157 = .ok (.iaload, 1) := by decide +kernel
theorem nd_L_law_158 : decode nc_L_law 158 = .ok (.aload_n 0, 1) := by decide +kernel
theorem nd_L_law_159 : decode nc_L_law 159 = .ok (.iload_n 3, 1) := by decide +kernel
theorem nd_L_law_160 : decode nc_L_law 160 = .ok (.iconst 2, 1) := by decide +kernel
theorem nd_L_law_161 : decode nc_L_law 161 = .ok (.iadd, 1) := by decide +kernel
theorem nd_L_law_162 : decode nc_L_law 162 = .ok (.iaload, 1) := by decide +kernel
theorem nd_L_law_163 : decode nc_L_law 163 = .ok (.aload_n 0, 1) := by decide +kernel
theorem nd_L_law_164 : decode nc_L_law 164 = .ok (.iload_n 3, 1) := by decide +kernel
theorem nd_L_law_165 : decode nc_L_law 165 = .ok (.iconst 3, 1) := by decide +kernel
theorem nd_L_law_166 : decode nc_L_law 166 = .ok (.iadd, 1) := by decide +kernel
theorem nd_L_law_167 : decode nc_L_law 167 = .ok (.iaload, 1) := by decide +kernel
theorem nd_L_law_168 : decode nc_L_law 168 = .ok (.aload_n 0, 1) := by decide +kernel
theorem nd_L_law_169 : decode nc_L_law 169 = .ok (.iload_n 3, 1) := by decide +kernel
theorem nd_L_law_170 : decode nc_L_law 170 = .ok (.iconst 4, 1) := by decide +kernel
theorem nd_L_law_171 : decode nc_L_law 171 = .ok (.iadd, 1) := by decide +kernel
theorem nd_L_law_172 : decode nc_L_law 172 = .ok (.iaload, 1) := by decide +kernel
theorem nd_L_law_173 : decode nc_L_law 173 = .ok (.invokevirtual 17, 3) := by decide +kernel
theorem nd_L_law_176 : decode nc_L_law 176 = .ok (.if_icmp .eq 516, 3) := by decide +kernel
theorem nd_L_law_179 : decode nc_L_law 179 = .ok (.iconst 0, 1) := by decide +kernel
theorem nd_L_law_180 : decode nc_L_law 180 = .ok (.ireturn, 1) := by decide +kernel
theorem nd_L_law_181 : decode nc_L_law 181 = .ok (.aload_n 1, 1) := by decide +kernel
theorem nd_L_law_182 : decode nc_L_law 182 = .ok (.aload_n 0, 1) := by decide +kernel
theorem nd_L_law_183 : decode nc_L_law 183 = .ok (.iload_n 3, 1) := by decide +kernel
theorem nd_L_law_184 : decode nc_L_law 184 = .ok (.iconst 1, 1) := by decide +kernel
theorem nd_L_law_185 : decode nc_L_law 185 = .ok (.iadd, 1) := by decide +kernel
theorem nd_L_law_186 : decode nc_L_law 186 = .ok (.iaload, 1) := by decide +kernel
theorem nd_L_law_187 : decode nc_L_law 187 = .ok (.aload_n 0, 1) := by decide +kernel
theorem nd_L_law_188 : decode nc_L_law 188 = .ok (.iload_n 3, 1) := by decide +kernel
theorem nd_L_law_189 : decode nc_L_law 189 = .ok (.iconst 2, 1) := by decide +kernel
theorem nd_L_law_190 : decode nc_L_law 190 = .ok (.iadd, 1) := by decide +kernel
theorem nd_L_law_191 : decode nc_L_law 191 = .ok (.iaload, 1) := by decide +kernel
theorem nd_L_law_192 : decode nc_L_law 192 = .ok (.aload_n 0, 1) := by decide +kernel
theorem nd_L_law_193 : decode nc_L_law 193 = .ok (.iload_n 3, 1) := by decide +kernel
theorem nd_L_law_194 : decode nc_L_law 194 = .ok (.iconst 3, 1) := by decide +kernel
theorem nd_L_law_195 : decode nc_L_law 195 = .ok (.iadd, 1) := by decide +kernel
theorem nd_L_law_196 : decode nc_L_law 196 = .ok (.iaload, 1) := by decide +kernel
theorem nd_L_law_197 : decode nc_L_law 197 = .ok (.invokevirtual 18, 3) := by decide +kernel
theorem nd_L_law_200 : decode nc_L_law 200 = .ok (.aload_n 2, 1) := by decide +kernel
theorem nd_L_law_201 : decode nc_L_law 201 = .ok (.aload_n 0, 1) := by decide +kernel
theorem nd_L_law_202 : decode nc_L_law 202 = .ok (.iload_n 3, 1) := by decide +kernel
theorem nd_L_law_203 : decode nc_L_law 203 = .ok (.iconst 1, 1) := by decide +kernel
theorem nd_L_law_204 : decode nc_L_law 204 = .ok (.iadd, 1) := by decide +kernel
theorem nd_L_law_205 : decode nc_L_law 205 = .ok (.iaload, 1) := by decide +kernel
theorem nd_L_law_206 : decode nc_L_law 206 = .ok (.aload_n 0, 1) := by decide +kernel
theorem nd_L_law_207 : decode nc_L_law 207 = .ok (.iload_n 3, 1) := by decide +kernel
theorem nd_L_law_208 : decode nc_L_law 208 = .ok (.iconst 2, 1) := by decide +kernel
theorem nd_L_law_209 : decode nc_L_law 209 = .ok (.iadd, 1) := by decide +kernel
theorem nd_L_law_210 : decode nc_L_law 210 = .ok (.iaload, 1) := by decide +kernel
theorem nd_L_law_211 : decode nc_L_law 211 = .ok (.aload_n 0, 1) := by decide +kernel
theorem nd_L_law_212 : decode nc_L_law 212 = .ok (.iload_n 3, 1) := by decide +kernel
theorem nd_L_law_213 : decode nc_L_law 213 = .ok (.iconst 3, 1) := by decide +kernel
theorem nd_L_law_214 : decode nc_L_law 214 = .ok (.iadd, 1) := by decide +kernel
theorem nd_L_law_215 : decode nc_L_law 215 = .ok (.iaload, 1) := by decide +kernel
theorem nd_L_law_216 : decode nc_L_law 216 = .ok (.invokevirtual 22, 3) := by decide +kernel
theorem nd_L_law_219 : decode nc_L_law 219 = .ok (.if_icmp .eq 473, 3) := by decide +kernel
theorem nd_L_law_222 : decode nc_L_law 222 = .ok (.iconst 0, 1) := by decide +kernel
theorem nd_L_law_223 : decode nc_L_law 223 = .ok (.ireturn, 1) := by decide +kernel
theorem nd_L_law_224 : decode nc_L_law 224 = .ok (.aload_n 1, 1) := by decide +kernel
theorem nd_L_law_225 : decode nc_L_law 225 = .ok (.aload_n 0, 1) := by decide +kernel
theorem nd_L_law_226 : decode nc_L_law 226 = .ok (.iload_n 3, 1) := by decide +kernel
theorem nd_L_law_227 : decode nc_L_law 227 = .ok (.iconst 1, 1) := by decide +kernel
theorem nd_L_law_228 : decode nc_L_law 228 = .ok (.iadd, 1) := by decide +kernel
theorem nd_L_law_229 : decode nc_L_law 229 = .ok (.iaload, 1) := by decide +kernel
theorem nd_L_law_230 : decode nc_L_law 230 = .ok (.aload_n 0, 1) := by decide +kernel
theorem nd_L_law_231 : decode nc_L_law 231 = .ok (.iload_n 3, 1) := by decide +kernel
theorem nd_L_law_232 : decode nc_L_law 232 = .ok (.iconst 2, 1) := by decide +kernel
theorem nd_L_law_233 : decode nc_L_law 233 = .ok (.iadd, 1) := by decide +kernel
theorem nd_L_law_234 : decode nc_L_law 234 = .ok (.iaload, 1) := by decide +kernel
theorem nd_L_law_235 : decode nc_L_law 235 = .ok (.invokevirtual 23, 3) := by decide +kernel
theorem nd_L_law_238 : decode nc_L_law 238 = .ok (.aload_n 2, 1) := by decide +kernel
theorem nd_L_law_239 : decode nc_L_law 239 = .ok (.aload_n 0, 1) := by decide +kernel
theorem nd_L_law_240 : decode nc_L_law 240 = .ok (.iload_n 3, 1) := by decide +kernel
theorem nd_L_law_241 : decode nc_L_law 241 = .ok (.iconst 1, 1) := by decide +kernel
theorem nd_L_law_242 : decode nc_L_law 242 = .ok (.iadd, 1) := by decide +kernel
theorem nd_L_law_243 : decode nc_L_law 243 = .ok (.iaload, 1) := by decide +kernel
theorem nd_L_law_244 : decode nc_L_law 244 = .ok (.aload_n 0, 1) := by decide +kernel
theorem nd_L_law_245 : decode nc_L_law 245 = .ok (.iload_n 3, 1) := by decide +kernel
theorem nd_L_law_246 : decode nc_L_law 246 = .ok (.iconst 2, 1) := by decide +kernel
theorem nd_L_law_247 : decode nc_L_law 247 = .ok (.iadd, 1) := by decide +kernel
theorem nd_L_law_248 : decode nc_L_law 248 = .ok (.iaload, 1) := by decide +kernel
theorem nd_L_law_249 : decode nc_L_law 249 = .ok (.invokevirtual 27, 3) := by decide +kernel
theorem nd_L_law_252 : decode nc_L_law 252 = .ok (.if_icmp .eq 440, 3) := by decide +kernel
theorem nd_L_law_255 : decode nc_L_law 255 = .ok (.iconst 0, 1) := by decide +kernel
theorem nd_L_law_256 : decode nc_L_law 256 = .ok (.ireturn, 1) := by decide +kernel
theorem nd_L_law_257 : decode nc_L_law 257 = .ok (.aload_n 1, 1) := by decide +kernel
theorem nd_L_law_258 : decode nc_L_law 258 = .ok (.aload_n 0, 1) := by decide +kernel
theorem nd_L_law_259 : decode nc_L_law 259 = .ok (.iload_n 3, 1) := by decide +kernel
theorem nd_L_law_260 : decode nc_L_law 260 = .ok (.iconst 1, 1) := by decide +kernel
theorem nd_L_law_261 : decode nc_L_law 261 = .ok (.iadd, 1) := by decide +kernel
theorem nd_L_law_262 : decode nc_L_law 262 = .ok (.iaload, 1) := by decide +kernel
theorem nd_L_law_263 : decode nc_L_law 263 = .ok (.invokevirtual 28, 3) := by decide +kernel
theorem nd_L_law_266 : decode nc_L_law 266 = .ok (.aload_n 2, 1) := by decide +kernel
theorem nd_L_law_267 : decode nc_L_law 267 = .ok (.aload_n 0, 1) := by decide +kernel
theorem nd_L_law_268 : decode nc_L_law 268 = .ok (.iload_n 3, 1) := by decide +kernel
theorem nd_L_law_269 : decode nc_L_law 269 = .ok (.iconst 1, 1) := by decide +kernel
theorem nd_L_law_270 : decode nc_L_law 270 = .ok (.iadd, 1) := by decide +kernel
theorem nd_L_law_271 : decode nc_L_law 271 = .ok (.iaload, 1) := by decide +kernel
theorem nd_L_law_272 : decode nc_L_law 272 = .ok (.invokevirtual 32, 3) := by decide +kernel
theorem nd_L_law_275 : decode nc_L_law 275 = .ok (.if_icmp .eq 417, 3) := by decide +kernel
theorem nd_L_law_278 : decode nc_L_law 278 = .ok (.iconst 0, 1) := by decide +kernel
theorem nd_L_law_279 : decode nc_L_law 279 = .ok (.ireturn, 1) := by decide +kernel
theorem nd_L_law_280 : decode nc_L_law 280 = .ok (.aload_n 1, 1) := by decide +kernel
theorem nd_L_law_281 : decode nc_L_law 281 = .ok (.aload_n 0, 1) := by decide +kernel
theorem nd_L_law_282 : decode nc_L_law 282 = .ok (.iload_n 3, 1) := by decide +kernel
theorem nd_L_law_283 : decode nc_L_law 283 = .ok (.iconst 1, 1) := by decide +kernel
theorem nd_L_law_284 : decode nc_L_law 284 = .ok (.iadd, 1) := by decide +kernel
theorem nd_L_law_285 : decode nc_L_law 285 = .ok (.iaload, 1) := by decide +kernel
theorem nd_L_law_286 : decode nc_L_law 286 = .ok (.aload_n 0, 1) := by decide +kernel
theorem nd_L_law_287 : decode nc_L_law 287 = .ok (.iload_n 3, 1) := by decide +kernel
theorem nd_L_law_288 : decode nc_L_law 288 = .ok (.iconst 2, 1) := by decide +kernel
theorem nd_L_law_289 : decode nc_L_law 289 = .ok (.iadd, 1) := by decide +kernel
theorem nd_L_law_290 : decode nc_L_law 290 = .ok (.iaload, 1) := by decide +kernel
theorem nd_L_law_291 : decode nc_L_law 291 = .ok (.aload_n 0, 1) := by decide +kernel
theorem nd_L_law_292 : decode nc_L_law 292 = .ok (.iload_n 3, 1) := by decide +kernel
theorem nd_L_law_293 : decode nc_L_law 293 = .ok (.iconst 3, 1) := by decide +kernel
theorem nd_L_law_294 : decode nc_L_law 294 = .ok (.iadd, 1) := by decide +kernel
theorem nd_L_law_295 : decode nc_L_law 295 = .ok (.iaload, 1) := by decide +kernel
theorem nd_L_law_296 : decode nc_L_law 296 = .ok (.invokevirtual 33, 3) := by decide +kernel
theorem nd_L_law_299 : decode nc_L_law 299 = .ok (.aload_n 2, 1) := by decide +kernel
theorem nd_L_law_300 : decode nc_L_law 300 = .ok (.aload_n 0, 1) := by decide +kernel
theorem nd_L_law_301 : decode nc_L_law 301 = .ok (.iload_n 3, 1) := by decide +kernel
theorem nd_L_law_302 : decode nc_L_law 302 = .ok (.iconst 1, 1) := by decide +kernel
theorem nd_L_law_303 : decode nc_L_law 303 = .ok (.iadd, 1) := by decide +kernel
theorem nd_L_law_304 : decode nc_L_law 304 = .ok (.iaload, 1) := by decide +kernel
theorem nd_L_law_305 : decode nc_L_law 305 = .ok (.aload_n 0, 1) := by decide +kernel
theorem nd_L_law_306 : decode nc_L_law 306 = .ok (.iload_n 3, 1) := by decide +kernel
theorem nd_L_law_307 : decode nc_L_law 307 = .ok (.iconst 2, 1) := by decide +kernel
theorem nd_L_law_308 : decode nc_L_law 308 = .ok (.iadd, 1) := by decide +kernel
theorem nd_L_law_309 : decode nc_L_law 309 = .ok (.iaload, 1) := by decide +kernel
theorem nd_L_law_310 : decode nc_L_law 310 = .ok (.aload_n 0, 1) := by decide +kernel
theorem nd_L_law_311 : decode nc_L_law 311 = .ok (.iload_n 3, 1) := by decide +kernel
theorem nd_L_law_312 : decode nc_L_law 312 = .ok (.iconst 3, 1) := by decide +kernel
theorem nd_L_law_313 : decode nc_L_law 313 = .ok (.iadd, 1) := by decide +kernel
theorem nd_L_law_314 : decode nc_L_law 314 = .ok (.iaload, 1) := by decide +kernel
theorem nd_L_law_315 : decode nc_L_law 315 = .ok (.invokevirtual 36, 3) := by decide +kernel
theorem nd_L_law_318 : decode nc_L_law 318 = .ok (.if_icmp .eq 374, 3) := by decide +kernel
theorem nd_L_law_321 : decode nc_L_law 321 = .ok (.iconst 0, 1) := by decide +kernel
theorem nd_L_law_322 : decode nc_L_law 322 = .ok (.ireturn, 1) := by decide +kernel
theorem nd_L_law_323 : decode nc_L_law 323 = .ok (.aload_n 1, 1) := by decide +kernel
theorem nd_L_law_324 : decode nc_L_law 324 = .ok (.aload_n 0, 1) := by decide +kernel
theorem nd_L_law_325 : decode nc_L_law 325 = .ok (.iload_n 3, 1) := by decide +kernel
theorem nd_L_law_326 : decode nc_L_law 326 = .ok (.iconst 1, 1) := by decide +kernel
theorem nd_L_law_327 : decode nc_L_law 327 = .ok (.iadd, 1) := by decide +kernel
theorem nd_L_law_328 : decode nc_L_law 328 = .ok (.iaload, 1) := by decide +kernel
theorem nd_L_law_329 : decode nc_L_law 329 = .ok (.aload_n 0, 1) := by decide +kernel
theorem nd_L_law_330 : decode nc_L_law 330 = .ok (.iload_n 3, 1) := by decide +kernel
theorem nd_L_law_331 : decode nc_L_law 331 = .ok (.iconst 2, 1) := by decide +kernel
theorem nd_L_law_332 : decode nc_L_law 332 = .ok (.iadd, 1) := by decide +kernel
theorem nd_L_law_333 : decode nc_L_law 333 = .ok (.iaload, 1) := by decide +kernel
theorem nd_L_law_334 : decode nc_L_law 334 = .ok (.aload_n 0, 1) := by decide +kernel
theorem nd_L_law_335 : decode nc_L_law 335 = .ok (.iload_n 3, 1) := by decide +kernel
theorem nd_L_law_336 : decode nc_L_law 336 = .ok (.iconst 3, 1) := by decide +kernel
theorem nd_L_law_337 : decode nc_L_law 337 = .ok (.iadd, 1) := by decide +kernel
theorem nd_L_law_338 : decode nc_L_law 338 = .ok (.iaload, 1) := by decide +kernel
theorem nd_L_law_339 : decode nc_L_law 339 = .ok (.aload_n 0, 1) := by decide +kernel
theorem nd_L_law_340 : decode nc_L_law 340 = .ok (.iload_n 3, 1) := by decide +kernel
theorem nd_L_law_341 : decode nc_L_law 341 = .ok (.iconst 4, 1) := by decide +kernel
theorem nd_L_law_342 : decode nc_L_law 342 = .ok (.iadd, 1) := by decide +kernel
theorem nd_L_law_343 : decode nc_L_law 343 = .ok (.iaload, 1) := by decide +kernel
theorem nd_L_law_344 : decode nc_L_law 344 = .ok (.invokevirtual 37, 3) := by decide +kernel
theorem nd_L_law_347 : decode nc_L_law 347 = .ok (.aload_n 2, 1) := by decide +kernel
theorem nd_L_law_348 : decode nc_L_law 348 = .ok (.aload_n 0, 1) := by decide +kernel
theorem nd_L_law_349 : decode nc_L_law 349 = .ok (.iload_n 3, 1) := by decide +kernel
theorem nd_L_law_350 : decode nc_L_law 350 = .ok (.iconst 1, 1) := by decide +kernel
theorem nd_L_law_351 : decode nc_L_law 351 = .ok (.iadd, 1) := by decide +kernel
theorem nd_L_law_352 : decode nc_L_law 352 = .ok (.iaload, 1) := by decide +kernel
theorem nd_L_law_353 : decode nc_L_law 353 = .ok (.aload_n 0, 1) := by decide +kernel
theorem nd_L_law_354 : decode nc_L_law 354 = .ok (.iload_n 3, 1) := by decide +kernel
theorem nd_L_law_355 : decode nc_L_law 355 = .ok (.iconst 2, 1) := by decide +kernel
theorem nd_L_law_356 : decode nc_L_law 356 = .ok (.iadd, 1) := by decide +kernel
theorem nd_L_law_357 : decode nc_L_law 357 = .ok (.iaload, 1) := by decide +kernel
theorem nd_L_law_358 : decode nc_L_law 358 = .ok (.aload_n 0, 1) := by decide +kernel
theorem nd_L_law_359 : decode nc_L_law 359 = .ok (.iload_n 3, 1) := by decide +kernel
theorem nd_L_law_360 : decode nc_L_law 360 = .ok (.iconst 3, 1) := by decide +kernel
theorem nd_L_law_361 : decode nc_L_law 361 = .ok (.iadd, 1) := by decide +kernel
theorem nd_L_law_362 : decode nc_L_law 362 = .ok (.iaload, 1) := by decide +kernel
theorem nd_L_law_363 : decode nc_L_law 363 = .ok (.aload_n 0, 1) := by decide +kernel
theorem nd_L_law_364 : decode nc_L_law 364 = .ok (.iload_n 3, 1) := by decide +kernel
theorem nd_L_law_365 : decode nc_L_law 365 = .ok (.iconst 4, 1) := by decide +kernel
theorem nd_L_law_366 : decode nc_L_law 366 = .ok (.iadd, 1) := by decide +kernel
theorem nd_L_law_367 : decode nc_L_law 367 = .ok (.iaload, 1) := by decide +kernel
theorem nd_L_law_368 : decode nc_L_law 368 = .ok (.invokevirtual 40, 3) := by decide +kernel
theorem nd_L_law_371 : decode nc_L_law 371 = .ok (.if_icmp .eq 321, 3) := by decide +kernel
theorem nd_L_law_374 : decode nc_L_law 374 = .ok (.iconst 0, 1) := by decide +kernel
theorem nd_L_law_375 : decode nc_L_law 375 = .ok (.ireturn, 1) := by decide +kernel
theorem nd_L_law_376 : decode nc_L_law 376 = .ok (.aload_n 1, 1) := by decide +kernel
theorem nd_L_law_377 : decode nc_L_law 377 = .ok (.aload_n 0, 1) := by decide +kernel
theorem nd_L_law_378 : decode nc_L_law 378 = .ok (.iload_n 3, 1) := by decide +kernel
theorem nd_L_law_379 : decode nc_L_law 379 = .ok (.iconst 1, 1) := by decide +kernel
theorem nd_L_law_380 : decode nc_L_law 380 = .ok (.iadd, 1) := by decide +kernel
theorem nd_L_law_381 : decode nc_L_law 381 = .ok (.iaload, 1) := by decide +kernel
theorem nd_L_law_382 : decode nc_L_law 382 = .ok (.invokevirtual 41, 3) := by decide +kernel
theorem nd_L_law_385 : decode nc_L_law 385 = .ok (.aload_n 2, 1) := by decide +kernel
theorem nd_L_law_386 : decode nc_L_law 386 = .ok (.aload_n 0, 1) := by decide +kernel
theorem nd_L_law_387 : decode nc_L_law 387 = .ok (.iload_n 3, 1) := by decide +kernel
theorem nd_L_law_388 : decode nc_L_law 388 = .ok (.iconst 1, 1) := by decide +kernel
theorem nd_L_law_389 : decode nc_L_law 389 = .ok (.iadd, 1) := by decide +kernel
theorem nd_L_law_390 : decode nc_L_law 390 = .ok (.iaload, 1) := by decide +kernel
theorem nd_L_law_391 : decode nc_L_law 391 = .ok (.invokevirtual 44, 3) := by decide +kernel
theorem nd_L_law_394 : decode nc_L_law 394 = .ok (.if_icmp .eq 298, 3) := by decide +kernel
theorem nd_L_law_397 : decode nc_L_law 397 = .ok (.iconst 0, 1) := by decide +kernel
theorem nd_L_law_398 : decode nc_L_law 398 = .ok (.ireturn, 1) := by decide +kernel
theorem nd_L_law_399 : decode nc_L_law 399 = .ok (.aload_n 1, 1) := by decide +kernel
theorem nd_L_law_400 : decode nc_L_law 400 = .ok (.aload_n 0, 1) := by decide +kernel
theorem nd_L_law_401 : decode nc_L_law 401 = .ok (.iload_n 3, 1) := by decide +kernel
theorem nd_L_law_402 : decode nc_L_law 402 = .ok (.iconst 1, 1) := by decide +kernel
theorem nd_L_law_403 : decode nc_L_law 403 = .ok (.iadd, 1) := by decide +kernel
theorem nd_L_law_404 : decode nc_L_law 404 = .ok (.iaload, 1) := by decide +kernel
theorem nd_L_law_405 : decode nc_L_law 405 = .ok (.invokevirtual 45, 3) := by decide +kernel
theorem nd_L_law_408 : decode nc_L_law 408 = .ok (.aload_n 2, 1) := by decide +kernel
theorem nd_L_law_409 : decode nc_L_law 409 = .ok (.aload_n 0, 1) := by decide +kernel
theorem nd_L_law_410 : decode nc_L_law 410 = .ok (.iload_n 3, 1) := by decide +kernel
theorem nd_L_law_411 : decode nc_L_law 411 = .ok (.iconst 1, 1) := by decide +kernel
theorem nd_L_law_412 : decode nc_L_law 412 = .ok (.iadd, 1) := by decide +kernel
theorem nd_L_law_413 : decode nc_L_law 413 = .ok (.iaload, 1) := by decide +kernel
theorem nd_L_law_414 : decode nc_L_law 414 = .ok (.invokevirtual 48, 3) := by decide +kernel
theorem nd_L_law_417 : decode nc_L_law 417 = .ok (.if_icmp .eq 275, 3) := by decide +kernel
theorem nd_L_law_420 : decode nc_L_law 420 = .ok (.iconst 0, 1) := by decide +kernel
theorem nd_L_law_421 : decode nc_L_law 421 = .ok (.ireturn, 1) := by decide +kernel
theorem nd_L_law_422 : decode nc_L_law 422 = .ok (.aload_n 1, 1) := by decide +kernel
theorem nd_L_law_423 : decode nc_L_law 423 = .ok (.aload_n 0, 1) := by decide +kernel
theorem nd_L_law_424 : decode nc_L_law 424 = .ok (.iload_n 3, 1) := by decide +kernel
theorem nd_L_law_425 : decode nc_L_law 425 = .ok (.iconst 1, 1) := by decide +kernel
theorem nd_L_law_426 : decode nc_L_law 426 = .ok (.iadd, 1) := by decide +kernel
theorem nd_L_law_427 : decode nc_L_law 427 = .ok (.iaload, 1) := by decide +kernel
theorem nd_L_law_428 : decode nc_L_law 428 = .ok (.invokevirtual 49, 3) := by decide +kernel
theorem nd_L_law_431 : decode nc_L_law 431 = .ok (.aload_n 2, 1) := by decide +kernel
theorem nd_L_law_432 : decode nc_L_law 432 = .ok (.aload_n 0, 1) := by decide +kernel
theorem nd_L_law_433 : decode nc_L_law 433 = .ok (.iload_n 3, 1) := by decide +kernel
theorem nd_L_law_434 : decode nc_L_law 434 = .ok (.iconst 1, 1) := by decide +kernel
theorem nd_L_law_435 : decode nc_L_law 435 = .ok (.iadd, 1) := by decide +kernel
theorem nd_L_law_436 : decode nc_L_law 436 = .ok (.iaload, 1) := by decide +kernel
theorem nd_L_law_437 : decode nc_L_law 437 = .ok (.invokevirtual 53, 3) := by decide +kernel
theorem nd_L_law_440 : decode nc_L_law 440 = .ok (.if_icmp .eq 252, 3) := by decide +kernel
theorem nd_L_law_443 : decode nc_L_law 443 = .ok (.iconst 0, 1) := by decide +kernel
theorem nd_L_law_444 : decode nc_L_law 444 = .ok (.ireturn, 1) := by decide +kernel
theorem nd_L_law_445 : decode nc_L_law 445 = .ok (.aload_n 1, 1) := by decide +kernel
theorem nd_L_law_446 : decode nc_L_law 446 = .ok (.invokevirtual 54, 3) := by decide +kernel
theorem nd_L_law_449 : decode nc_L_law 449 = .ok (.aload_n 2, 1) := by decide +kernel
theorem nd_L_law_450 : decode nc_L_law 450 = .ok (.invokevirtual 58, 3) := by decide +kernel
theorem nd_L_law_453 : decode nc_L_law 453 = .ok (.if_icmp .eq 239, 3) := by decide +kernel
theorem nd_L_law_456 : decode nc_L_law 456 = .ok (.iconst 0, 1) := by decide +kernel
theorem nd_L_law_457 : decode nc_L_law 457 = .ok (.ireturn, 1) := by decide +kernel
theorem nd_L_law_458 : decode nc_L_law 458 = .ok (.aload_n 1, 1) := by decide +kernel
theorem nd_L_law_459 : decode nc_L_law 459 = .ok (.aload_n 0, 1) := by decide +kernel
theorem nd_L_law_460 : decode nc_L_law 460 = .ok (.iload_n 3, 1) := by decide +kernel
theorem nd_L_law_461 : decode nc_L_law 461 = .ok (.iconst 1, 1) := by decide +kernel
theorem nd_L_law_462 : decode nc_L_law 462 = .ok (.iadd, 1) := by decide +kernel
theorem nd_L_law_463 : decode nc_L_law 463 = .ok (.iaload, 1) := by decide +kernel
theorem nd_L_law_464 : decode nc_L_law 464 = .ok (.invokevirtual 59, 3) := by decide +kernel
theorem nd_L_law_467 : decode nc_L_law 467 = .ok (.aload_n 2, 1) := by decide +kernel
theorem nd_L_law_468 : decode nc_L_law 468 = .ok (.aload_n 0, 1) := by decide +kernel
theorem nd_L_law_469 : decode nc_L_law 469 = .ok (.iload_n 3, 1) := by decide +kernel
theorem nd_L_law_470 : decode nc_L_law 470 = .ok (.iconst 1, 1) := by decide +kernel
theorem nd_L_law_471 : decode nc_L_law 471 = .ok (.iadd, 1) := by decide +kernel
theorem nd_L_law_472 : decode nc_L_law 472 = .ok (.iaload, 1) := by decide +kernel
theorem nd_L_law_473 : decode nc_L_law 473 = .ok (.invokevirtual 63, 3) := by decide +kernel
theorem nd_L_law_476 : decode nc_L_law 476 = .ok (.lcmp, 1) := by decide +kernel
theorem nd_L_law_477 : decode nc_L_law 477 = .ok (.ifCond .eq 215, 3) := by decide +kernel
theorem nd_L_law_480 : decode nc_L_law 480 = .ok (.iconst 0, 1) := by decide +kernel
theorem nd_L_law_481 : decode nc_L_law 481 = .ok (.ireturn, 1) := by decide +kernel
theorem nd_L_law_482 : decode nc_L_law 482 = .ok (.aload_n 1, 1) := by decide +kernel
theorem nd_L_law_483 : decode nc_L_law 483 = .ok (.aload_n 0, 1) := by decide +kernel
theorem nd_L_law_484 : decode nc_L_law 484 = .ok (.iload_n 3, 1) := by decide +kernel
theorem nd_L_law_485 : decode nc_L_law 485 = .ok (.iconst 1, 1) := by decide +kernel
theorem nd_L_law_486 : decode nc_L_law 486 = .ok (.iadd, 1) := by decide +kernel
theorem nd_L_law_487 : decode nc_L_law 487 = .ok (.iaload, 1) := by decide +kernel
theorem nd_L_law_488 : decode nc_L_law 488 = .ok (.invokevirtual 64, 3) := by decide +kernel
theorem nd_L_law_491 : decode nc_L_law 491 = .ok (.aload_n 2, 1) := by decide +kernel
theorem nd_L_law_492 : decode nc_L_law 492 = .ok (.aload_n 0, 1) := by decide +kernel
theorem nd_L_law_493 : decode nc_L_law 493 = .ok (.iload_n 3, 1) := by decide +kernel
theorem nd_L_law_494 : decode nc_L_law 494 = .ok (.iconst 1, 1) := by decide +kernel
theorem nd_L_law_495 : decode nc_L_law 495 = .ok (.iadd, 1) := by decide +kernel
theorem nd_L_law_496 : decode nc_L_law 496 = .ok (.iaload, 1) := by decide +kernel
theorem nd_L_law_497 : decode nc_L_law 497 = .ok (.invokevirtual 67, 3) := by decide +kernel
theorem nd_L_law_500 : decode nc_L_law 500 = .ok (.lcmp, 1) := by decide +kernel
theorem nd_L_law_501 : decode nc_L_law 501 = .ok (.ifCond .eq 191, 3) := by decide +kernel
theorem nd_L_law_504 : decode nc_L_law 504 = .ok (.iconst 0, 1) := by decide +kernel
theorem nd_L_law_505 : decode nc_L_law 505 = .ok (.ireturn, 1) := by decide +kernel
theorem nd_L_law_506 : decode nc_L_law 506 = .ok (.aload_n 1, 1) := by decide +kernel
theorem nd_L_law_507 : decode nc_L_law 507 = .ok (.aload_n 0, 1) := by decide +kernel
theorem nd_L_law_508 : decode nc_L_law 508 = .ok (.iload_n 3, 1) := by decide +kernel
theorem nd_L_law_509 : decode nc_L_law 509 = .ok (.iconst 1, 1) := by decide +kernel
theorem nd_L_law_510 : decode nc_L_law 510 = .ok (.iadd, 1) := by decide +kernel
theorem nd_L_law_511 : decode nc_L_law 511 = .ok (.iaload, 1) := by decide +kernel
theorem nd_L_law_512 : decode nc_L_law 512 = .ok (.invokevirtual 68, 3) := by decide +kernel
theorem nd_L_law_515 : decode nc_L_law 515 = .ok (.aload_n 2, 1) := by decide +kernel
theorem nd_L_law_516 : decode nc_L_law 516 = .ok (.aload_n 0, 1) := by decide +kernel
theorem nd_L_law_517 : decode nc_L_law 517 = .ok (.iload_n 3, 1) := by decide +kernel
theorem nd_L_law_518 : decode nc_L_law 518 = .ok (.iconst 1, 1) := by decide +kernel
theorem nd_L_law_519 : decode nc_L_law 519 = .ok (.iadd, 1) := by decide +kernel
theorem nd_L_law_520 : decode nc_L_law 520 = .ok (.iaload, 1) := by decide +kernel
theorem nd_L_law_521 : decode nc_L_law 521 = .ok (.invokevirtual 71, 3) := by decide +kernel
theorem nd_L_law_524 : decode nc_L_law 524 = .ok (.lcmp, 1) := by decide +kernel
theorem nd_L_law_525 : decode nc_L_law 525 = .ok (.ifCond .eq 167, 3) := by decide +kernel
theorem nd_L_law_528 : decode nc_L_law 528 = .ok (.iconst 0, 1) := by decide +kernel
theorem nd_L_law_529 : decode nc_L_law 529 = .ok (.ireturn, 1) := by decide +kernel
theorem nd_L_law_530 : decode nc_L_law 530 = .ok (.aload_n 1, 1) := by decide +kernel
theorem nd_L_law_531 : decode nc_L_law 531 = .ok (.aload_n 0, 1) := by decide +kernel
theorem nd_L_law_532 : decode nc_L_law 532 = .ok (.iload_n 3, 1) := by decide +kernel
theorem nd_L_law_533 : decode nc_L_law 533 = .ok (.iconst 1, 1) := by decide +kernel
theorem nd_L_law_534 : decode nc_L_law 534 = .ok (.iadd, 1) := by decide +kernel
theorem nd_L_law_535 : decode nc_L_law 535 = .ok (.iaload, 1) := by decide +kernel
theorem nd_L_law_536 : decode nc_L_law 536 = .ok (.invokevirtual 72, 3) := by decide +kernel
theorem nd_L_law_539 : decode nc_L_law 539 = .ok (.aload_n 2, 1) := by decide +kernel
theorem nd_L_law_540 : decode nc_L_law 540 = .ok (.aload_n 0, 1) := by decide +kernel
theorem nd_L_law_541 : decode nc_L_law 541 = .ok (.iload_n 3, 1) := by decide +kernel
theorem nd_L_law_542 : decode nc_L_law 542 = .ok (.iconst 1, 1) := by decide +kernel
theorem nd_L_law_543 : decode nc_L_law 543 = .ok (.iadd, 1) := by decide +kernel
theorem nd_L_law_544 : decode nc_L_law 544 = .ok (.iaload, 1) := by decide +kernel
theorem nd_L_law_545 : decode nc_L_law 545 = .ok (.invokevirtual 75, 3) := by decide +kernel
theorem nd_L_law_548 : decode nc_L_law 548 = .ok (.if_icmp .eq 144, 3) := by decide +kernel
theorem nd_L_law_551 : decode nc_L_law 551 = .ok (.iconst 0, 1) := by decide +kernel
theorem nd_L_law_552 : decode nc_L_law 552 = .ok (.ireturn, 1) := by decide +kernel
theorem nd_L_law_553 : decode nc_L_law 553 = .ok (.aload_n 1, 1) := by decide +kernel
theorem nd_L_law_554 : decode nc_L_law 554 = .ok (.aload_n 0, 1) := by decide +kernel
theorem nd_L_law_555 : decode nc_L_law 555 = .ok (.iload_n 3, 1) := by decide +kernel
theorem nd_L_law_556 : decode nc_L_law 556 = .ok (.iconst 1, 1) := by decide +kernel
theorem nd_L_law_557 : decode nc_L_law 557 = .ok (.iadd, 1) := by decide +kernel
theorem nd_L_law_558 : decode nc_L_law 558 = .ok (.iaload, 1) := by decide +kernel
theorem nd_L_law_559 : decode nc_L_law 559 = .ok (.aload_n 0, 1) := by decide +kernel
theorem nd_L_law_560 : decode nc_L_law 560 = .ok (.iload_n 3, 1) := by decide +kernel
theorem nd_L_law_561 : decode nc_L_law 561 = .ok (.iconst 2, 1) := by decide +kernel
theorem nd_L_law_562 : decode nc_L_law 562 = .ok (.iadd, 1) := by decide +kernel
theorem nd_L_law_563 : decode nc_L_law 563 = .ok (.iaload, 1) := by decide +kernel
theorem nd_L_law_564 : decode nc_L_law 564 = .ok (.invokevirtual 76, 3) := by decide +kernel
theorem nd_L_law_567 : decode nc_L_law 567 = .ok (.aload_n 2, 1) := by decide +kernel
theorem nd_L_law_568 : decode nc_L_law 568 = .ok (.aload_n 0, 1) := by decide +kernel
theorem nd_L_law_569 : decode nc_L_law 569 = .ok (.iload_n 3, 1) := by decide +kernel
theorem nd_L_law_570 : decode nc_L_law 570 = .ok (.iconst 1, 1) := by decide +kernel
theorem nd_L_law_571 : decode nc_L_law 571 = .ok (.iadd, 1) := by decide +kernel
theorem nd_L_law_572 : decode nc_L_law 572 = .ok (.iaload, 1) := by decide +kernel
theorem nd_L_law_573 : decode nc_L_law 573 = .ok (.aload_n 0, 1) := by decide +kernel
theorem nd_L_law_574 : decode nc_L_law 574 = .ok (.iload_n 3, 1) := by decide +kernel
theorem nd_L_law_575 : decode nc_L_law 575 = .ok (.iconst 2, 1) := by decide +kernel
theorem nd_L_law_576 : decode nc_L_law 576 = .ok (.iadd, 1) := by decide +kernel
theorem nd_L_law_577 : decode nc_L_law 577 = .ok (.iaload, 1) := by decide +kernel
theorem nd_L_law_578 : decode nc_L_law 578 = .ok (.invokevirtual 80, 3) := by decide +kernel
theorem nd_L_law_581 : decode nc_L_law 581 = .ok (.lcmp, 1) := by decide +kernel
theorem nd_L_law_582 : decode nc_L_law 582 = .ok (.ifCond .eq 110, 3) := by decide +kernel
theorem nd_L_law_585 : decode nc_L_law 585 = .ok (.iconst 0, 1) := by decide +kernel
theorem nd_L_law_586 : decode nc_L_law 586 = .ok (.ireturn, 1) := by decide +kernel
theorem nd_L_law_587 : decode nc_L_law 587 = .ok (.aload_n 1, 1) := by decide +kernel
theorem nd_L_law_588 : decode nc_L_law 588 = .ok (.aload_n 0, 1) := by decide +kernel
theorem nd_L_law_589 : decode nc_L_law 589 = .ok (.iload_n 3, 1) := by decide +kernel
theorem nd_L_law_590 : decode nc_L_law 590 = .ok (.iconst 1, 1) := by decide +kernel
theorem nd_L_law_591 : decode nc_L_law 591 = .ok (.iadd, 1) := by decide +kernel
theorem nd_L_law_592 : decode nc_L_law 592 = .ok (.iaload, 1) := by decide +kernel
theorem nd_L_law_593 : decode nc_L_law 593 = .ok (.invokevirtual 81, 3) := by decide +kernel
theorem nd_L_law_596 : decode nc_L_law 596 = .ok (.aload_n 2, 1) := by decide +kernel
theorem nd_L_law_597 : decode nc_L_law 597 = .ok (.aload_n 0, 1) := by decide +kernel
theorem nd_L_law_598 : decode nc_L_law 598 = .ok (.iload_n 3, 1) := by decide +kernel
theorem nd_L_law_599 : decode nc_L_law 599 = .ok (.iconst 1, 1) := by decide +kernel
theorem nd_L_law_600 : decode nc_L_law 600 = .ok (.iadd, 1) := by decide +kernel
theorem nd_L_law_601 : decode nc_L_law 601 = .ok (.iaload, 1) := by decide +kernel
theorem nd_L_law_602 : decode nc_L_law 602 = .ok (.invokevirtual 84, 3) := by decide +kernel
theorem nd_L_law_605 : decode nc_L_law 605 = .ok (.if_icmp .eq 87, 3) := by decide +kernel
theorem nd_L_law_608 : decode nc_L_law 608 = .ok (.iconst 0, 1) := by decide +kernel
theorem nd_L_law_609 : decode nc_L_law 609 = .ok (.ireturn, 1) := by decide +kernel
theorem nd_L_law_610 : decode nc_L_law 610 = .ok (.aload_n 1, 1) := by decide +kernel
theorem nd_L_law_611 : decode nc_L_law 611 = .ok (.invokevirtual 85, 3) := by decide +kernel
theorem nd_L_law_614 : decode nc_L_law 614 = .ok (.aload_n 2, 1) := by decide +kernel
theorem nd_L_law_615 : decode nc_L_law 615 = .ok (.invokevirtual 88, 3) := by decide +kernel
theorem nd_L_law_618 : decode nc_L_law 618 = .ok (.if_icmp .eq 74, 3) := by decide +kernel
theorem nd_L_law_621 : decode nc_L_law 621 = .ok (.iconst 0, 1) := by decide +kernel
theorem nd_L_law_622 : decode nc_L_law 622 = .ok (.ireturn, 1) := by decide +kernel
theorem nd_L_law_623 : decode nc_L_law 623 = .ok (.aload_n 1, 1) := by decide +kernel
theorem nd_L_law_624 : decode nc_L_law 624 = .ok (.aload_n 0, 1) := by decide +kernel
theorem nd_L_law_625 : decode nc_L_law 625 = .ok (.iload_n 3, 1) := by decide +kernel
theorem nd_L_law_626 : decode nc_L_law 626 = .ok (.iconst 1, 1) := by decide +kernel
theorem nd_L_law_627 : decode nc_L_law 627 = .ok (.iadd, 1) := by decide +kernel
theorem nd_L_law_628 : decode nc_L_law 628 = .ok (.iaload, 1) := by decide +kernel
theorem nd_L_law_629 : decode nc_L_law 629 = .ok (.aload_n 0, 1) := by decide +kernel
theorem nd_L_law_630 : decode nc_L_law 630 = .ok (.iload_n 3, 1) := by decide +kernel
theorem nd_L_law_631 : decode nc_L_law 631 = .ok (.iconst 2, 1) := by decide +kernel
theorem nd_L_law_632 : decode nc_L_law 632 = .ok (.iadd, 1) := by decide +kernel
theorem nd_L_law_633 : decode nc_L_law 633 = .ok (.iaload, 1) := by decide +kernel
theorem nd_L_law_634 : decode nc_L_law 634 = .ok (.aload_n 0, 1) := by decide +kernel
theorem nd_L_law_635 : decode nc_L_law 635 = .ok (.iload_n 3, 1) := by decide +kernel
theorem nd_L_law_636 : decode nc_L_law 636 = .ok (.iconst 3, 1) := by decide +kernel
theorem nd_L_law_637 : decode nc_L_law 637 = .ok (.iadd, 1) := by decide +kernel
theorem nd_L_law_638 : decode nc_L_law 638 = .ok (.iaload, 1) := by decide +kernel
theorem nd_L_law_639 : decode nc_L_law 639 = .ok (.invokevirtual 89, 3) := by decide +kernel
theorem nd_L_law_642 : decode nc_L_law 642 = .ok (.aload_n 2, 1) := by decide +kernel
theorem nd_L_law_643 : decode nc_L_law 643 = .ok (.aload_n 0, 1) := by decide +kernel
theorem nd_L_law_644 : decode nc_L_law 644 = .ok (.iload_n 3, 1) := by decide +kernel
theorem nd_L_law_645 : decode nc_L_law 645 = .ok (.iconst 1, 1) := by decide +kernel
theorem nd_L_law_646 : decode nc_L_law 646 = .ok (.iadd, 1) := by decide +kernel
theorem nd_L_law_647 : decode nc_L_law 647 = .ok (.iaload, 1) := by decide +kernel
theorem nd_L_law_648 : decode nc_L_law 648 = .ok (.aload_n 0, 1) := by decide +kernel
theorem nd_L_law_649 : decode nc_L_law 649 = .ok (.iload_n 3, 1) := by decide +kernel
theorem nd_L_law_650 : decode nc_L_law 650 = .ok (.iconst 2, 1) := by decide +kernel
theorem nd_L_law_651 : decode nc_L_law 651 = .ok (.iadd, 1) := by decide +kernel
theorem nd_L_law_652 : decode nc_L_law 652 = .ok (.iaload, 1) := by decide +kernel
theorem nd_L_law_653 : decode nc_L_law 653 = .ok (.aload_n 0, 1) := by decide +kernel
theorem nd_L_law_654 : decode nc_L_law 654 = .ok (.iload_n 3, 1) := by decide +kernel
theorem nd_L_law_655 : decode nc_L_law 655 = .ok (.iconst 3, 1) := by decide +kernel
theorem nd_L_law_656 : decode nc_L_law 656 = .ok (.iadd, 1) := by decide +kernel
theorem nd_L_law_657 : decode nc_L_law 657 = .ok (.iaload, 1) := by decide +kernel
theorem nd_L_law_658 : decode nc_L_law 658 = .ok (.invokevirtual 92, 3) := by decide +kernel
theorem nd_L_law_661 : decode nc_L_law 661 = .ok (.if_icmp .eq 31, 3) := by decide +kernel
theorem nd_L_law_664 : decode nc_L_law 664 = .ok (.iconst 0, 1) := by decide +kernel
theorem nd_L_law_665 : decode nc_L_law 665 = .ok (.ireturn, 1) := by decide +kernel
theorem nd_L_law_666 : decode nc_L_law 666 = .ok (.aload_n 1, 1) := by decide +kernel
theorem nd_L_law_667 : decode nc_L_law 667 = .ok (.invokevirtual 93, 3) := by decide +kernel
theorem nd_L_law_670 : decode nc_L_law 670 = .ok (.aload_n 2, 1) := by decide +kernel
theorem nd_L_law_671 : decode nc_L_law 671 = .ok (.invokevirtual 96, 3) := by decide +kernel
theorem nd_L_law_674 : decode nc_L_law 674 = .ok (.if_icmp .eq 18, 3) := by decide +kernel
theorem nd_L_law_677 : decode nc_L_law 677 = .ok (.iconst 0, 1) := by decide +kernel
theorem nd_L_law_678 : decode nc_L_law 678 = .ok (.ireturn, 1) := by decide +kernel
theorem nd_L_law_679 : decode nc_L_law 679 = .ok (.aload_n 1, 1) := by decide +kernel
theorem nd_L_law_680 : decode nc_L_law 680 = .ok (.invokevirtual 97, 3) := by decide +kernel
theorem nd_L_law_683 : decode nc_L_law 683 = .ok (.aload_n 2, 1) := by decide +kernel
theorem nd_L_law_684 : decode nc_L_law 684 = .ok (.invokevirtual 100, 3) := by decide +kernel
theorem nd_L_law_687 : decode nc_L_law 687 = .ok (.if_icmp .eq 5, 3) := by decide +kernel
theorem nd_L_law_690 : decode nc_L_law 690 = .ok (.iconst 0, 1) := by decide +kernel
theorem nd_L_law_691 : decode nc_L_law 691 = .ok (.ireturn, 1) := by decide +kernel
theorem nd_L_law_692 : decode nc_L_law 692 = .ok (.iinc 3 5, 3) := by decide +kernel
theorem nd_L_law_695 : decode nc_L_law 695 = .ok (.goto (-677), 3) := by decide +kernel
theorem nd_L_law_698 : decode nc_L_law 698 = .ok (.iconst 1, 1) := by decide +kernel
theorem nd_L_law_699 : decode nc_L_law 699 = .ok (.ireturn, 1) := by decide +kernel
end
section
/-! PURE: the calendar. The reference walks years and months; the class reckons from March 2000. Dates 0 .. 100076. -/
def zc_leap (y : Nat) : Bool := or (and (Nat.beq (y % 4) 0) (not (Nat.beq (y % 100) 0))) (Nat.beq (y % 400) 0)
def zc_yl (y : Nat) : Nat := cond (zc_leap y) 366 365
def zc_ml (y m : Nat) : Nat := cond (Nat.beq m 2) (cond (zc_leap y) 29 28) (cond (or (Nat.beq m 4) (or (Nat.beq m 6) (or (Nat.beq m 9) (Nat.beq m 11)))) 30 31)
/-- the reference's loops: fuel, year or month, rest -/
def zc_wy : Nat → Nat → Nat → Nat × Nat
  | 0, y, r => (y, r)
  | k + 1, y, r => cond (Nat.blt r (zc_yl y)) (y, r) (zc_wy k (y + 1) (r - zc_yl y))
def zc_wm : Nat → Nat → Nat → Nat → Nat × Nat
  | 0, _, m, r => (m, r)
  | k + 1, y, m, r => cond (Nat.blt r (zc_ml y m)) (m, r) (zc_wm k y (m + 1) (r - zc_ml y m))
/-- the first date of the year 2000 + t -/
def zc_st (t : Nat) : Nat := 365 * t + (t + 3) / 4 - (t + 99) / 100 + (t + 399) / 400
theorem zc_b0 (n : Nat) : Nat.beq n 0 = decide (n = 0) := by cases n <;> simp [Nat.beq]
theorem zc_leap_iff (t : Nat) : zc_leap (2000 + t) = true ↔ (t % 4 = 0 ∧ ¬ t % 100 = 0) ∨ t % 400 = 0 := by
  unfold zc_leap
  rw [zc_b0, zc_b0, zc_b0]
  simp only [Bool.or_eq_true, Bool.and_eq_true, Bool.not_eq_true', decide_eq_true_eq, decide_eq_false_iff_not]
  omega
theorem zc_yl_eq (t : Nat) : zc_yl (2000 + t) = if (t % 4 = 0 ∧ ¬ t % 100 = 0) ∨ t % 400 = 0 then 366 else 365 := by
  unfold zc_yl
  by_cases h : zc_leap (2000 + t) = true
  · rw [h, if_pos ((zc_leap_iff t).mp h)]; rfl
  · rw [if_neg (fun q => h ((zc_leap_iff t).mpr q))]
    simp only [Bool.not_eq_true] at h
    rw [h]; rfl
theorem zc_st_succ (t : Nat) : zc_st (t + 1) = zc_st t + zc_yl (2000 + t) := by
  rw [zc_yl_eq]
  unfold zc_st
  split <;> omega
theorem zc_yl_pos (y : Nat) : 365 ≤ zc_yl y ∧ zc_yl y ≤ 366 := by
  unfold zc_yl
  cases zc_leap y <;> decide
theorem zc_st_mono {a b : Nat} (h : a ≤ b) : zc_st a ≤ zc_st b := by
  induction h with
  | refl => exact Nat.le_refl _
  | step _ ih => exact Nat.le_trans ih (by rw [zc_st_succ]; omega)
theorem zc_at (j : Nat) : ∃ t k, j = zc_st t + k ∧ k < zc_yl (2000 + t) := by
  induction j with
  | zero => exact ⟨0, 0, rfl, by decide⟩
  | succ j ih =>
    obtain ⟨t, k, h1, h2⟩ := ih
    by_cases h : k + 1 < zc_yl (2000 + t)
    · exact ⟨t, k + 1, by omega, h⟩
    · exact ⟨t + 1, 0, by rw [zc_st_succ]; omega, by have := zc_yl_pos (2000 + (t + 1)); omega⟩
theorem zc_wy_eq (d : Nat) : ∀ (f t0 k : Nat), d < f → k < zc_yl (2000 + (t0 + d)) → zc_wy f (2000 + t0) (zc_st (t0 + d) - zc_st t0 + k) = (2000 + (t0 + d), k) := by
  induction d with
  | zero =>
    intro f t0 k hf hk
    obtain ⟨g, rfl⟩ : ∃ g, f = g + 1 := ⟨f - 1, by omega⟩
    have e : zc_st (t0 + 0) - zc_st t0 + k = k := by simp
    rw [e]
    unfold zc_wy
    have h : Nat.blt k (zc_yl (2000 + t0)) = true := by rw [Nat.blt_eq]; exact hk
    rw [h]; rfl
  | succ d ih =>
    intro f t0 k hf hk
    obtain ⟨g, rfl⟩ : ∃ g, f = g + 1 := ⟨f - 1, by omega⟩
    have h1 : zc_st (t0 + 1) ≤ zc_st (t0 + (d + 1)) := zc_st_mono (by omega)
    have h2 := zc_st_succ t0
    have h : Nat.blt (zc_st (t0 + (d + 1)) - zc_st t0 + k) (zc_yl (2000 + t0)) = false := by
      cases hb : Nat.blt (zc_st (t0 + (d + 1)) - zc_st t0 + k) (zc_yl (2000 + t0)) with
      | false => rfl
      | true => rw [Nat.blt_eq] at hb; omega
    unfold zc_wy
    rw [h]
    show zc_wy g (2000 + t0 + 1) _ = _
    have e1 : zc_st (t0 + (d + 1)) - zc_st t0 + k - zc_yl (2000 + t0) = zc_st (t0 + 1 + d) - zc_st (t0 + 1) + k := by
      rw [show t0 + 1 + d = t0 + (d + 1) by omega]; omega
    rw [e1, show 2000 + t0 + 1 = 2000 + (t0 + 1) by omega, ih g (t0 + 1) k (by omega) (by rw [show t0 + 1 + d = t0 + (d + 1) by omega]; exact hk)]
    rw [show t0 + 1 + d = t0 + (d + 1) by omega]
/-- the class's reckoning against the reference's, a date -/
def zc_ok (t k : Nat) : Bool :=
  or (Nat.blt (zc_st t + k) 60)
   (let j := zc_st t + k - 60
    let y := (j - (j / 1460 - j / 36524 + j / 146096)) / 365
    let b := 365 * y + y / 4 - y / 100
    let dy := j - b
    let mo := (5 * dy + 2) / 153
    let e := (153 * mo + 2) / 5
    and (Nat.ble b j) (and (Nat.ble e dy) (and (Nat.ble dy 366) (and (Nat.beq (12 * y + mo + 3) (12 * t + (zc_wm 12 (2000 + t) 1 k).1)) (and (Nat.beq (dy - e) (zc_wm 12 (2000 + t) 1 k).2) (Nat.blt (dy - e) 31))))))
def zc_yr (t : Nat) : Nat → Bool
  | 0 => true
  | k + 1 => and (zc_ok t k) (zc_yr t k)
def zc_yrs (a : Nat) : Nat → Bool
  | 0 => true
  | n + 1 => and (zc_yr (a + n) (zc_yl (2000 + (a + n)))) (zc_yrs a n)
theorem zc_yr_at (t : Nat) : ∀ n, zc_yr t n = true → ∀ k, k < n → zc_ok t k = true := by
  intro n
  induction n with
  | zero => intro _ k hk; omega
  | succ n ih =>
    intro h k hk
    unfold zc_yr at h
    simp only [Bool.and_eq_true] at h
    by_cases e : k = n
    · rw [e]; exact h.1
    · exact ih h.2 k (by omega)
theorem zc_yrs_at (a : Nat) : ∀ n, zc_yrs a n = true → ∀ t, a ≤ t → t < a + n → ∀ k, k < zc_yl (2000 + t) → zc_ok t k = true := by
  intro n
  induction n with
  | zero => intro _ t h1 h2; omega
  | succ n ih =>
    intro h t h1 h2 k hk
    unfold zc_yrs at h
    simp only [Bool.and_eq_true] at h
    by_cases e : t = a + n
    · rw [e]; exact zc_yr_at _ _ h.1 k (by rw [← e]; exact hk)
    · exact ih h.2 t h1 (by omega) k hk
set_option maxRecDepth 100000 in
theorem zc_c0 : zc_yrs 0 35 = true := by decide +kernel
set_option maxRecDepth 100000 in
theorem zc_c1 : zc_yrs 35 35 = true := by decide +kernel
set_option maxRecDepth 100000 in
theorem zc_c2 : zc_yrs 70 35 = true := by decide +kernel
set_option maxRecDepth 100000 in
theorem zc_c3 : zc_yrs 105 35 = true := by decide +kernel
set_option maxRecDepth 100000 in
theorem zc_c4 : zc_yrs 140 35 = true := by decide +kernel
set_option maxRecDepth 100000 in
theorem zc_c5 : zc_yrs 175 35 = true := by decide +kernel
set_option maxRecDepth 100000 in
theorem zc_c6 : zc_yrs 210 35 = true := by decide +kernel
set_option maxRecDepth 100000 in
theorem zc_c7 : zc_yrs 245 29 = true := by decide +kernel
theorem zc_all {t k : Nat} (ht : t < 274) (hk : k < zc_yl (2000 + t)) : zc_ok t k = true := by
  by_cases h0 : t < 35
  · exact zc_yrs_at 0 35 zc_c0 t (by omega) (by omega) k hk
  by_cases h1 : t < 70
  · exact zc_yrs_at 35 35 zc_c1 t (by omega) (by omega) k hk
  by_cases h2 : t < 105
  · exact zc_yrs_at 70 35 zc_c2 t (by omega) (by omega) k hk
  by_cases h3 : t < 140
  · exact zc_yrs_at 105 35 zc_c3 t (by omega) (by omega) k hk
  by_cases h4 : t < 175
  · exact zc_yrs_at 140 35 zc_c4 t (by omega) (by omega) k hk
  by_cases h5 : t < 210
  · exact zc_yrs_at 175 35 zc_c5 t (by omega) (by omega) k hk
  by_cases h6 : t < 245
  · exact zc_yrs_at 210 35 zc_c6 t (by omega) (by omega) k hk
  · exact zc_yrs_at 245 29 zc_c7 t (by omega) (by omega) k hk
/-- year, month, day of a date as the reference walks to them -/
def zc_y (j : Nat) : Nat := (zc_wy 400 2000 j).1
def zc_m (j : Nat) : Nat := (zc_wm 12 (zc_y j) 1 (zc_wy 400 2000 j).2).1
def zc_d (j : Nat) : Nat := (zc_wm 12 (zc_y j) 1 (zc_wy 400 2000 j).2).2 + 1
theorem zc_lt274 {t k : Nat} (h : zc_st t + k < 100077) : t < 274 := by
  refine Nat.lt_of_not_le fun q => ?_
  have h1 := zc_st_mono q
  have h2 : zc_st 274 = 100077 := by decide
  omega
theorem zc_wy_at {j : Nat} (h : j < 100077) : ∃ t k, t < 274 ∧ j = zc_st t + k ∧ k < zc_yl (2000 + t) ∧ zc_wy 400 2000 j = (2000 + t, k) := by
  obtain ⟨t, k, h1, h2⟩ := zc_at j
  have ht : t < 274 := zc_lt274 (by rw [← h1]; exact h)
  have h3 := zc_wy_eq t 400 0 k (by omega) (by rw [Nat.zero_add]; exact h2)
  rw [Nat.zero_add] at h3
  have h4 : zc_st t - zc_st 0 + k = j := by
    have : zc_st 0 = 0 := by decide
    omega
  rw [h4] at h3
  exact ⟨t, k, ht, h1, h2, h3⟩
end
section
/-! SPEC OF THE CLASS: a function for each method, mirroring its code. 'zj_' are JDK methods. -/
def zj_fdiv (x y : Int32) : Int32 := if 0 ≤ x ^^^ y then x / y else if x / y * y = x then x / y else x / y - 1
def zj_fmod (x y : Int32) : Int32 := if 0 ≤ x ^^^ y then x - x / y * y else if x - x / y * y = 0 then x - x / y * y else x - x / y * y + y
def zj_ldiv (x y : Int64) : Int64 := if 0 ≤ x ^^^ y then x / y else if x / y * y = x then x / y else x / y - 1
def zj_ush (x y : Int32) : Int32 := (x.toUInt32 >>> (y.toUInt32 &&& Int32.toUInt32 31)).toInt32
def zj_bc1 (i : Int32) : Int32 := i - (zj_ush i 1 &&& 1431655765)
def zj_bc2 (i : Int32) : Int32 := (i &&& 858993459) + (zj_ush i 2 &&& 858993459)
def zj_bc3 (i : Int32) : Int32 := (i + zj_ush i 4) &&& 252645135
def zj_bc (i : Int32) : Int32 :=
  let a := zj_bc3 (zj_bc2 (zj_bc1 i))
  let b := a + zj_ush a 8
  (b + zj_ush b 16) &&& 63
def zj_min (x y : Int32) : Int32 := if y < x then y else x
-- Disk
def zb_wOnce (d : zb_TD) : Int32 × zb_TD :=
  if zbD_wl d = 0 then (0, zbD_sstp d 1)
  else if zbD_wl d ≤ 0 then (1, zbD_swm d (zbD_wm d + 1))
  else (1, zbD_swm (zbD_swl d (zbD_wl d - 1)) (zbD_wm d + 1))
def zb_wMany : Nat → zb_TD → Int32 × zb_TD
  | 0, d => (1, d)
  | k + 1, d => if (zb_wOnce d).1 = 0 then (0, (zb_wOnce d).2) else zb_wMany k (zb_wOnce d).2
def zb_check2 (d : zb_TD) : Int32 × zb_TD :=
  if (zb_wOnce d).1 = 0 then (0, (zb_wOnce d).2) else (1, zbD_schg (zbD_strn (zbD_slin (zb_wOnce d).2 0) 0) 0)
def zb_check (d : zb_TD) : Int32 × zb_TD :=
  if (zb_wMany (zj_bc (zbD_chg d)).toNatClampNeg d).1 = 0 then (0, (zb_wMany (zj_bc (zbD_chg d)).toNatClampNeg d).2)
  else zb_check2 (zb_wMany (zj_bc (zbD_chg d)).toNatClampNeg d).2
def zb_lend (d : zb_TD) (chg cnt : Int32) : zb_TD := zbD_schg (zbD_strn (zbD_slin d (zbD_lin d + cnt)) (zbD_trn d + 1)) (zbD_chg d ||| chg)
def zb_lines2 (d : zb_TD) (chg cnt : Int32) : Int32 × zb_TD :=
  if (zb_wMany cnt.toNatClampNeg d).1 = 0 then (0, (zb_wMany cnt.toNatClampNeg d).2)
  else (1, zb_lend (zb_wMany cnt.toNatClampNeg d).2 chg cnt)
def zb_lines (d : zb_TD) (chg cnt : Int32) : Int32 × zb_TD :=
  if zbD_lin d + cnt ≤ 24 then zb_lines2 d chg cnt
  else if (zb_check d).1 = 0 then (0, (zb_check d).2)
  else zb_lines2 (zb_check d).2 chg cnt
def zb_trans (d : zb_TD) (chg : Int32) : Int32 × zb_TD := zb_lines d chg (zj_bc chg + 1)
-- RestDays
def zb_full (r : zb_TR) : Int32 := if zbR_dm r < 8 then 0 else 1
def zb_add (r : zb_TR) (x : Int32) : zb_TR := if zb_full r = 0 then zbR_sdm (zbR_sdat r (upd (zbR_dat r) (zbR_dm r).toNatClampNeg x)) (zbR_dm r + 1) else r
def zb_was (f : Nat → Int32) (x : Int32) : Nat → Bool
  | 0 => false
  | k + 1 => or (decide (f k = x)) (zb_was f x k)
def zb_wasI (r : zb_TR) (x : Int32) : Int32 := if zb_was (zbR_dat r) x (zbR_dm r).toNatClampNeg = true then 1 else 0
def zb_isRest (r : zb_TR) (x : Int32) : Int32 :=
  if x - x / 7 * 7 = 0 then 1 else if x - x / 7 * 7 = 1 then 1 else if zb_wasI r x = 0 then 0 else 1
-- Calendar
def zb_isBas (b : Int32) : Int32 := if b < 0 then 0 else if 3 ≤ b then 0 else 1
def zb_yearOf (b : Int32) : Int32 := if b = 0 then 365 else 360
def zb_mdY (c : Int32) : Int32 := (c - (c / 1460 - c / 36524 + c / 146096)) / 365
def zb_mdD (c y : Int32) : Int32 := c - (365 * y + y / 4 - y / 100)
def zb_mdM (d : Int32) : Int32 := (5 * d + 2) / 153
def zb_mdT (d m : Int32) : Int32 := d - (153 * m + 2) / 5 + 1
def zb_md3 (cy y m t : Int32) : Int32 := ((4800 * cy + 12 * y + m) <<< ((5 : Int32) &&& 31)) + t
def zb_md2 (cy c : Int32) : Int32 := zb_md3 cy (zb_mdY c) (zb_mdM (zb_mdD c (zb_mdY c))) (zb_mdT (zb_mdD c (zb_mdY c)) (zb_mdM (zb_mdD c (zb_mdY c))))
def zb_md (x : Int32) : Int32 := zb_md2 (zj_fdiv (x - 60) 146097) (zj_fmod (x - 60) 146097)
def zb_monthIn (w : Int32) : Int32 := w >>> ((5 : Int32) &&& 31)
def zb_dayIn (w : Int32) : Int32 := w &&& 31
def zb_lastDay (a b : Int32) : Int32 := if a = 30 then (if b = 31 then 30 else b) else b
def zb_byMonths (x y : Int32) : Int32 :=
  30 * (zb_monthIn (zb_md y) - zb_monthIn (zb_md x)) + zb_lastDay (zj_min (zb_dayIn (zb_md x)) 30) (zb_dayIn (zb_md y)) - zj_min (zb_dayIn (zb_md x)) 30
def zb_dayCount (b x y : Int32) : Int32 := if b = 2 then zb_byMonths x y else y - x
def zb_isLast (x : Int32) : Int32 := if zb_dayIn (zb_md (x + 1)) = 1 then 1 else 0
def zb_up (r : zb_TR) (f len : Int32) : Nat → Int32 → Option Int32
  | 0, _ => none
  | k + 1, i => if len < i then none else if zb_isRest r (f + i) = 0 then some (f + i) else zb_up r f len k (i + 1)
def zb_dn (r : zb_TR) (f : Int32) : Nat → Int32 → Option Int32
  | 0, _ => none
  | k + 1, i => if i < 1 then none else if zb_isRest r (f + i) = 0 then some (f + i) else zb_dn r f k (i - 1)
def zb_due4 (r : zb_TR) (f w : Int32) : Int32 := match zb_dn r f 40 (w - 1) with
  | some x => x
  | none => f + w
def zb_due3 (r : zb_TR) (f len w : Int32) : Int32 := match zb_up r f len 40 w with
  | some x => x
  | none => zb_due4 r f w
def zb_due2 (r : zb_TR) (day f : Int32) : Int32 := zb_due3 r f (32 - zb_dayIn (zb_md (f + 32))) (zj_min day (32 - zb_dayIn (zb_md (f + 32))))
def zb_due (r : zb_TR) (day x : Int32) : Int32 := zb_due2 r day (x - zb_dayIn (zb_md x))
-- Account (of a state, by its number)
def zb_spend (S : zb_S) (i : Nat) : Int64 := zb_bal S i + (zb_lim S i).toInt64 - zb_hel S i
def zb_accrue (S : zb_S) (i : Nat) (k : Int32) : zb_S := zb_sacr S (vp_updL (zb_acr S) i (zb_acr S i + zb_bal S i * (zb_rat S i).toInt64 * k.toInt64))
def zb_near2 (u q t : Int64) : Int64 := if t ≤ u then (if t = u then (if q &&& 1 = 1 then q + 1 else q) else q) else q + 1
def zb_near (x u : Int64) : Int64 := zb_near2 u (zj_ldiv x u) (2 * (x - zj_ldiv x u * u))
def zb_unit (S : zb_S) (i : Nat) : Int64 := 10000 * (zb_yearOf (zb_bas S i)).toInt64
def zb_whole (S : zb_S) (i : Nat) : Int64 := zb_near (zb_acr S i) (zb_unit S i)
def zb_take (S : zb_S) (i : Nat) : zb_S :=
  zb_sacr (zb_sbal S (vp_updL (zb_bal S) i (zb_bal S i + zb_whole S i))) (vp_updL (zb_acr S) i (zb_acr S i - zb_whole S i * zb_unit S i))
-- Hold
def zb_begin (S : zb_S) (k i : Nat) (a : Int32) : zb_S :=
  zb_shel (zb_sham (zb_shol S (va_up (zb_hol S) k (some i))) (upd (zb_ham S) k a)) (vp_updL (zb_hel S) i (zb_hel S i + a.toInt64))
def zb_end (S : zb_S) (k : Nat) : zb_S := match zb_hol S k with
  | none => zb_sham (zb_shol S (va_up (zb_hol S) k none)) (upd (zb_ham S) k 0)
  | some i => zb_sham (zb_shol (zb_shel S (vp_updL (zb_hel S) i (zb_hel S i - (zb_ham S k).toInt64))) (va_up (zb_hol S) k none)) (upd (zb_ham S) k 0)
-- Order
def zb_make (S : zb_S) (k : Nat) (p q : Option Nat) (a d : Int32) : zb_S :=
  zb_sody (zb_soam (zb_spye (zb_spyr S (va_up (zb_pyr S) k p)) (va_up (zb_pye S) k q)) (upd (zb_oam S) k a)) (upd (zb_ody S) k d)
-- the bank
def zb_within (x a b : Int32) : Int32 := if x < a then 0 else if b < x then 0 else 1
def zb_bit (r : Option Nat) : Int32 := match r with
  | none => 0
  | some i => (1 : Int32) <<< (nI i &&& 31)
def zb_refuse (S : zb_S) : Int32 := if zb_stp S = 0 then (if zb_de S = 0 then 0 else -2) else -1
def zb_accOf (S : zb_S) (x : Int32) : Option Nat := if zb_within x 0 (zb_n S - 1) = 0 then none else some x.toNatClampNeg
def zb_shown (S : zb_S) (x : Int32) : Option Nat := if zb_stp S = 0 then zb_accOf S x else none
def zb_stand (S : zb_S) (x : Int32) : Option Nat := if zb_within x 0 7 = 0 then none else match zb_hol S x.toNatClampNeg with
  | none => none
  | some _ => some x.toNatClampNeg
def zb_free (f : Nat → Option Nat) : Nat → Nat → Nat
  | 0, k => k
  | n + 1, k => match f k with
    | none => k
    | some _ => zb_free f n (k + 1)
def zb_party (S : zb_S) (x : Int32) : Int32 := if x = -1 then 1 else match zb_accOf S x with
  | none => 0
  | some _ => 1
def zb_payable2 (S : zb_S) (p q : Option Nat) : Int32 := match p, q with
  | none, _ => 1
  | some _, none => 1
  | some i, some j => if zb_cur S i = zb_cur S j then 1 else 0
def zb_payable (S : zb_S) (x y : Int32) : Int32 :=
  if x = y then 0 else if zb_party S x = 0 then 0 else if zb_party S y = 0 then 0 else zb_payable2 S (zb_accOf S x) (zb_accOf S y)
def zb_later (S : zb_S) (x : Int32) : Int32 := if zb_monthIn (zb_md x) ≤ zb_monthIn (zb_md (zb_bd S)) then 0 else 1
def zb_pays (S : zb_S) (p q : Option Nat) (a : Int32) : zb_S := match p, q with
  | some i, _ => zb_sbal S (vp_updL (zb_bal S) i (zb_bal S i - a.toInt64))
  | none, some j => zb_scsh S (vp_updL (zb_csh S) (zb_cur S j).toNatClampNeg (zb_csh S (zb_cur S j).toNatClampNeg + a.toInt64))
  | none, none => S
def zb_gets (S : zb_S) (p q : Option Nat) (a : Int32) : zb_S := match p, q with
  | _, some j => zb_sbal S (vp_updL (zb_bal S) j (zb_bal S j + a.toInt64))
  | some i, none => zb_scsh S (vp_updL (zb_csh S) (zb_cur S i).toNatClampNeg (zb_csh S (zb_cur S i).toNatClampNeg - a.toInt64))
  | none, none => S
def zb_transfer (S : zb_S) (p q : Option Nat) (a : Int32) : zb_S := zb_gets (zb_pays S p q a) p q a
def zb_sumB (S : zb_S) (c : Int32) : Nat → Nat → Int64 → Int64
  | 0, _, z => z
  | k + 1, i, z => zb_sumB S c k (i + 1) (if zb_cur S i = c then z + zb_bal S i else z)
-- day end
def zb_planOne (S : zb_S) (a i : Nat) (left : Int64) : zb_S × Int64 :=
  let due : Int32 := if zb_pyr S i = some a then (if zb_due (zb_R S) (zb_ody S i) (zb_bd S) = zb_bd S then 1 else 0) else 0
  let paid : Int32 := if due = 0 then 0 else if (zb_oam S i).toInt64 ≤ left then 1 else 0
  (zb_sopd (zb_sodu S (upd (zb_odu S) i due)) (upd (zb_opd S) i paid), if paid = 0 then left else left - (zb_oam S i).toInt64)
def zb_plan (a : Nat) : Nat → Nat → zb_S → Int64 → zb_S
  | 0, _, S, _ => S
  | k + 1, i, S, left => zb_plan a k (i + 1) (zb_planOne S a i left).1 (zb_planOne S a i left).2
def zb_stepSet (S : zb_S) : Nat → Nat → Int32 → Int32 → Int32 × Int32
  | 0, _, chg, cnt => (chg, cnt)
  | k + 1, i, chg, cnt => if zb_opd S i = 0 then zb_stepSet S k (i + 1) chg cnt else zb_stepSet S k (i + 1) (chg ||| zb_bit (zb_pye S i)) (cnt + 1)
def zb_carryOne (S : zb_S) (i : Nat) : zb_S :=
  if zb_opd S i = 0 then (if zb_odu S i = 0 then S else zb_soms S (upd (zb_oms S) i (zb_oms S i + 1))) else zb_transfer S (zb_pyr S i) (zb_pye S i) (zb_oam S i)
def zb_carry : Nat → Nat → zb_S → zb_S
  | 0, _, S => S
  | k + 1, i, S => zb_carry k (i + 1) (zb_carryOne S i)
def zb_step3 (S : zb_S) (a : Nat) : zb_S :=
  if zb_isLast (zb_bd S) = 0 then S
  else zb_sitr (zb_take S a) (vp_updL (zb_itr S) (zb_cur S a).toNatClampNeg (zb_itr S (zb_cur S a).toNatClampNeg + zb_whole S a))
def zb_step2 (S : zb_S) (a : Nat) : zb_S :=
  let S1 := zb_carry (zb_o S).toNatClampNeg 0 S
  let S2 := zb_accrue S1 a (zb_dayCount (zb_bas S1 a) (zb_bd S1) (zb_bd S1 + 1))
  let S3 := zb_step3 S2 a
  zb_smrk S3 (upd (zb_mrk S3) a (zb_bd S3))
def zb_wStep (S : zb_S) (a : Nat) : Int32 × zb_S :=
  let q := zb_stepSet S (zb_o S).toNatClampNeg 0 (zb_bit (some a)) 2
  ((zb_lines (zb_D S) q.1 q.2).1, zb_sD S (zb_lines (zb_D S) q.1 q.2).2)
def zb_step (S : zb_S) (a : Nat) : Int32 × zb_S :=
  let S1 := zb_plan a (zb_o S).toNatClampNeg 0 S (zb_spend S a)
  if (zb_wStep S1 a).1 = 0 then (0, (zb_wStep S1 a).2) else (1, zb_step2 (zb_wStep S1 a).2 a)
def zb_steps : Nat → Nat → zb_S → Int32 × zb_S
  | 0, _, S => (1, S)
  | k + 1, i, S => if zb_bd S ≤ zb_mrk S i then zb_steps k (i + 1) S
    else if (zb_step S i).1 = 0 then (0, (zb_step S i).2) else zb_steps k (i + 1) (zb_step S i).2
def zb_tr (S : zb_S) (chg : Int32) : Int32 × zb_S := ((zb_trans (zb_D S) chg).1, zb_sD S (zb_trans (zb_D S) chg).2)
def zb_dayEnd3 (S : zb_S) : Int32 × zb_S :=
  if (zb_tr S 0).1 = 0 then (0, (zb_tr S 0).2) else (1, zb_sde (zb_sbd (zb_tr S 0).2 (zb_bd (zb_tr S 0).2 + 1)) 0)
def zb_dayEnd2 (S : zb_S) : Int32 × zb_S :=
  if (zb_steps (zb_n S).toNatClampNeg 0 (zb_sde S 1)).1 = 0 then (0, (zb_steps (zb_n S).toNatClampNeg 0 (zb_sde S 1)).2)
  else zb_dayEnd3 (zb_steps (zb_n S).toNatClampNeg 0 (zb_sde S 1)).2
def zb_dayEnd (S : zb_S) : Int32 × zb_S :=
  if zb_de S = 0 then (if (zb_tr S 0).1 = 0 then (0, (zb_tr S 0).2) else zb_dayEnd2 (zb_tr S 0).2) else zb_dayEnd2 S
def zb_days : Nat → zb_S → Int32 × zb_S
  | 0, S => (1, S)
  | k + 1, S => if (zb_dayEnd S).1 = 0 then (0, (zb_dayEnd S).2) else zb_days k (zb_dayEnd S).2
-- the public calls
def zb_open2 (S : zb_S) (c b l r : Int32) : Int32 × zb_S :=
  let i := (zb_n S).toNatClampNeg
  let S1 := (zb_tr S (zb_bit (some i))).2
  if (zb_tr S (zb_bit (some i))).1 = 0 then (-1, S1)
  else (nI i, zb_sn (zb_smrk (zb_srat (zb_slim (zb_sbas (zb_scur S1 (upd (zb_cur S1) i c)) (upd (zb_bas S1) i b)) (upd (zb_lim S1) i l)) (upd (zb_rat S1) i r)) (upd (zb_mrk S1) i (zb_bd S1 - 1))) (zb_n S1 + 1))
def zb_open (S : zb_S) (c b l r : Int32) : Int32 × zb_S :=
  if zb_refuse S = 0 then
    (if zb_within c 0 2 = 0 then (-3, S) else if zb_isBas b = 0 then (-3, S) else if zb_within l 0 1000000 = 0 then (-3, S) else if zb_within r 0 1000 = 0 then (-3, S)
     else if zb_n S < 6 then zb_open2 S c b l r else (-4, S))
  else (zb_refuse S, S)
def zb_pay3 (S : zb_S) (p q : Option Nat) (a : Int32) : Int32 × zb_S :=
  if (zb_tr S (zb_bit p ||| zb_bit q)).1 = 0 then (-1, (zb_tr S (zb_bit p ||| zb_bit q)).2) else (0, zb_transfer (zb_tr S (zb_bit p ||| zb_bit q)).2 p q a)
def zb_pay2 (S : zb_S) (p q : Option Nat) (a : Int32) : Int32 × zb_S := match p with
  | none => zb_pay3 S p q a
  | some i => if a.toInt64 ≤ zb_spend S i then zb_pay3 S p q a else (-5, S)
def zb_pay (S : zb_S) (x y a : Int32) : Int32 × zb_S :=
  if zb_refuse S = 0 then
    (if zb_payable S x y = 0 then (-3, S) else if zb_within a 1 1000000 = 0 then (-3, S) else zb_pay2 S (zb_accOf S x) (zb_accOf S y) a)
  else (zb_refuse S, S)
def zb_hold2 (S : zb_S) (i : Nat) (a : Int32) : Int32 × zb_S :=
  let k := zb_free (zb_hol S) 8 0
  if nI k < 8 then (if a.toInt64 ≤ zb_spend S i then (if (zb_tr S (zb_bit (some i))).1 = 0 then (-1, (zb_tr S (zb_bit (some i))).2) else (nI k, zb_begin (zb_tr S (zb_bit (some i))).2 k i a)) else (-5, S)) else (-4, S)
def zb_hold (S : zb_S) (x a : Int32) : Int32 × zb_S :=
  if zb_refuse S = 0 then (match zb_accOf S x with
    | none => (-3, S)
    | some i => if zb_within a 1 1000000 = 0 then (-3, S) else zb_hold2 S i a)
  else (zb_refuse S, S)
def zb_release (S : zb_S) (x : Int32) : Int32 × zb_S :=
  if zb_refuse S = 0 then (match zb_stand S x with
    | none => (-3, S)
    | some k => if (zb_tr S (zb_bit (zb_hol S k))).1 = 0 then (-1, (zb_tr S (zb_bit (zb_hol S k))).2) else (0, zb_end (zb_tr S (zb_bit (zb_hol S k))).2 k))
  else (zb_refuse S, S)
def zb_settle2 (S : zb_S) (k i : Nat) (y a : Int32) : Int32 × zb_S :=
  if zb_payable S (nI i) y = 0 then (-3, S)
  else if (zb_tr S (zb_bit (some i) ||| zb_bit (zb_accOf S y))).1 = 0 then (-1, (zb_tr S (zb_bit (some i) ||| zb_bit (zb_accOf S y))).2)
  else (0, zb_transfer (zb_end (zb_tr S (zb_bit (some i) ||| zb_bit (zb_accOf S y))).2 k) (some i) (zb_accOf S y) a)
def zb_settle (S : zb_S) (x y a : Int32) : Int32 × zb_S :=
  if zb_refuse S = 0 then (match zb_stand S x with
    | none => (-3, S)
    | some k => if zb_within a 1 (zb_ham S k) = 0 then (-3, S) else match zb_hol S k with
      | none => (-3, S)
      | some i => zb_settle2 S k i y a)
  else (zb_refuse S, S)
def zb_order2 (S : zb_S) (i j : Nat) (a d : Int32) : Int32 × zb_S :=
  if (zb_tr S (zb_bit (some i))).1 = 0 then (-1, (zb_tr S (zb_bit (some i))).2)
  else let S1 := (zb_tr S (zb_bit (some i))).2
    (zb_o S1 + 1 - 1, zb_so (zb_make S1 (zb_o S1).toNatClampNeg (some i) (some j) a d) (zb_o S1 + 1))
def zb_order (S : zb_S) (x y a d : Int32) : Int32 × zb_S :=
  if zb_refuse S = 0 then (match zb_accOf S x, zb_accOf S y with
    | none, _ => (-3, S)
    | some _, none => (-3, S)
    | some i, some j => if zb_payable S x y = 0 then (-3, S) else if zb_within a 1 1000000 = 0 then (-3, S) else if zb_within d 1 31 = 0 then (-3, S)
      else if zb_o S < 6 then zb_order2 S i j a d else (-4, S))
  else (zb_refuse S, S)
def zb_restC (S : zb_S) (x : Int32) : Int32 × zb_S :=
  if zb_refuse S = 0 then
    (if zb_within x 0 20000 = 0 then (-3, S) else if zb_isRest (zb_R S) x = 0 then
      (if zb_later S x = 0 then (-3, S) else if zb_full (zb_R S) = 0 then
        (if (zb_tr S 0).1 = 0 then (-1, (zb_tr S 0).2) else (0, zb_sR (zb_tr S 0).2 (zb_add (zb_R (zb_tr S 0).2) x))) else (-4, S)) else (-3, S))
  else (zb_refuse S, S)
def zb_run (S : zb_S) (n : Int32) : Int32 × zb_S :=
  if zb_stp S = 0 then (if zb_within n 1 31 = 0 then (-3, S) else if (zb_days n.toNatClampNeg S).1 = 0 then (-1, (zb_days n.toNatClampNeg S).2) else (n, (zb_days n.toNatClampNeg S).2)) else (-1, S)
def zb_fuse (S : zb_S) (n : Int32) : Int32 × zb_S :=
  if zb_stp S = 0 then (if zb_within n (-1) 500 = 0 then (0, S) else (1, zb_swl S n)) else (0, S)
def zb_restart (S : zb_S) : Int32 × zb_S := if zb_stp S = 0 then (-3, S) else (zb_trn S, zb_swl (zb_sstp S 0) (-1))
def zb_balance (S : zb_S) (x : Int32) : Int64 := match zb_shown S x with
  | none => 0
  | some i => zb_bal S i
def zb_avail (S : zb_S) (x : Int32) : Int64 := match zb_shown S x with
  | none => 0
  | some i => zb_spend S i
def zb_accrd (S : zb_S) (x : Int32) : Int64 := match zb_shown S x with
  | none => 0
  | some i => zb_acr S i
def zb_markC (S : zb_S) (x : Int32) : Int32 := match zb_shown S x with
  | none => 0
  | some i => zb_mrk S i
def zb_ledger (S : zb_S) (c w : Int32) : Int64 :=
  if zb_stp S = 0 then (if zb_within c 0 2 = 0 then 0 else if w = 0 then zb_csh S c.toNatClampNeg else if w = 1 then zb_itr S c.toNatClampNeg else if w = 2 then zb_sumB S c (zb_n S).toNatClampNeg 0 0 else 0) else 0
def zb_missed (S : zb_S) (x : Int32) : Int32 :=
  if zb_stp S = 0 then (if zb_within x 0 (zb_o S - 1) = 0 then 0 else zb_oms S x.toNatClampNeg) else 0
def zb_today (S : zb_S) : Int32 := if zb_stp S = 0 then zb_bd S else 0
def zb_count (b x y : Int32) : Int32 := if zb_isBas b = 0 then -1 else if x < 0 then -1 else if y < x then -1 else if 99999 < y then -1 else zb_dayCount b x y
def zb_writes (S : zb_S) : Int32 := zb_wm S
def zb_linesC (S : zb_S) : Int32 := if zb_stp S = 0 then zb_lin S else 0
end
section
/-! SPEC OF THE REFERENCE: a function for each method, mirroring its code; the fields year, month, day are scratch and stand beside the state. -/
def zm_dOf (j : Nat) : Int32 := if nI (zc_d j) = 31 then 30 else nI (zc_d j)
def zm_eOf (d : Int32) (j : Nat) : Int32 := if d = 30 then (if nI (zc_d j) = 31 then 30 else nI (zc_d j)) else nI (zc_d j)
def zm_days (how : Int32) (a b : Nat) : Int32 := if how < 2 then nI b - nI a
  else 360 * (nI (zc_y b) - nI (zc_y a)) + 30 * (nI (zc_m b) - nI (zc_m a)) + zm_eOf (zm_dOf a) b - zm_dOf a
def zm_up (R : zm_TR) : Nat → Int32 → Int32
  | 0, x => x
  | k + 1, x => if zb_isRest R x = 0 then x else zm_up R k (x + 1)
def zm_dn (R : zm_TR) : Nat → Int32 → Int32
  | 0, x => x
  | k + 1, x => if zb_isRest R x = 0 then x else zm_dn R k (x - 1)
def zm_due3 (R : zm_TR) (now first size date : Int32) : Int32 :=
  if first + size ≤ zm_up R 40 date then (if zm_dn R 40 date = now then 1 else 0) else (if zm_up R 40 date = now then 1 else 0)
def zm_due2 (R : zm_TR) (now first size w : Int32) : Int32 := zm_due3 R now first size (first + (if size ≤ w then size else w) - 1)
def zm_due (R : zm_TR) (j : Nat) (w : Int32) : Int32 := zm_due2 R (nI j) (nI j - nI (zc_d j) + 1) (nI (zc_ml (zc_y j) (zc_m j))) w
def zm_spend (d : zm_TD) (n : Int32) : zm_TD := zmD_slft (zmD_swri d (zmD_wri d + n)) (if 0 ≤ zmD_lft d then zmD_lft d - n else zmD_lft d)
def zm_afford (d : zm_TD) (n : Int32) : Int32 × zm_TD :=
  if zmD_lft d < 0 then (1, zm_spend d n) else if zmD_lft d < n then (0, zmD_sstp (zm_spend d (zmD_lft d)) 1) else (1, zm_spend d n)
def zm_cnt (t : Int32) : Nat → Nat → Int32 → Int32
  | 0, _, n => n
  | f + 1, k, n => zm_cnt t f (k + 1) (n + (t >>> (nI k &&& 31) &&& 1))
def zm_comes2 (d : zm_TD) (b set : Int32) : Int32 × zm_TD :=
  if (zm_afford d (b + 1)).1 = 0 then (0, (zm_afford d (b + 1)).2)
  else (1, let e := (zm_afford d (b + 1)).2; zmD_stch (zmD_sedd (zmD_sinl e (zmD_inl e + (b + 1))) (zmD_edd e + 1)) (zmD_tch e ||| set))
def zm_comes (d : zm_TD) (b set : Int32) : Int32 × zm_TD :=
  if zmD_inl d + b + 1 ≤ 24 then zm_comes2 d b set
  else if (zm_afford d (zm_cnt (zmD_tch d) 6 0 1)).1 = 0 then (0, (zm_afford d (zm_cnt (zmD_tch d) 6 0 1)).2)
  else zm_comes2 (zmD_stch (zmD_sedd (zmD_sinl (zm_afford d (zm_cnt (zmD_tch d) 6 0 1)).2 0) 0) 0) b set
def zm_cm (T : zm_S) (b set : Int32) : Int32 × zm_S := ((zm_comes (zm_D T) b set).1, zm_sD T (zm_comes (zm_D T) b set).2)
def zm_shut (T : zm_S) : Int32 := if zm_stp T = 0 then (if zm_end T = 0 then 0 else -2) else -1
def zm_is (T : zm_S) (x : Int32) : Int32 := if x < 0 then 0 else if zm_acs T ≤ x then 0 else 1
def zm_amt (x : Int32) : Int32 := if x < 1 then 0 else if 1000000 < x then 0 else 1
def zm_freeL (T : zm_S) (a : Int32) : Nat → Nat → Int64 → Int64
  | 0, _, n => n
  | f + 1, k, n => zm_freeL T a f (k + 1) (n - (if zm_ham T k ≤ 0 then (0 : Int32) else if zm_hof T k = a then zm_ham T k else 0).toInt64)
def zm_free (T : zm_S) (a : Int32) : Int64 := zm_freeL T a 8 0 (zm_mon T a.toNatClampNeg + (zm_lim T a.toNatClampNeg).toInt64)
def zm_open2 (T : zm_S) (c b l r : Int32) : Int32 × zm_S :=
  let q := zm_cm T 1 ((1 : Int32) <<< (zm_acs T &&& 31))
  if q.1 = 0 then (-1, q.2)
  else let T1 := q.2; let i := (zm_acs T1).toNatClampNeg
    (zm_acs T1 + 1 - 1, zm_sacs (zm_smrk (zm_srat (zm_slim (zm_sbas (zm_scur T1 (upd (zm_cur T1) i c)) (upd (zm_bas T1) i b)) (upd (zm_lim T1) i l)) (upd (zm_rat T1) i r)) (upd (zm_mrk T1) i (zm_now T1 - 1))) (zm_acs T1 + 1))
def zm_open (T : zm_S) (c b l r : Int32) : Int32 × zm_S :=
  if zm_shut T = 0 then
    (if c < 0 then (-3, T) else if 2 < c then (-3, T) else if b < 0 then (-3, T) else if 2 < b then (-3, T) else if l < 0 then (-3, T) else if 1000000 < l then (-3, T) else if r < 0 then (-3, T) else if 1000 < r then (-3, T)
     else if zm_acs T = 6 then (-4, T) else zm_open2 T c b l r)
  else (zm_shut T, T)
def zm_pair2 (T : zm_S) (x y : Int32) : Int32 := if x = -1 then 1 else if y = -1 then 1 else if zm_cur T x.toNatClampNeg = zm_cur T y.toNatClampNeg then 1 else 0
def zm_known (T : zm_S) (x y : Int32) : Int32 :=
  let fx : Int32 := if x = -1 then 1 else zm_is T x
  let fy : Int32 := if y = -1 then 1 else zm_is T y
  if fx = 0 then 0 else if fy = 0 then 0 else if x = y then 0 else 1
def zm_pair (T : zm_S) (x y : Int32) : Int32 := if zm_known T x y = 0 then 0 else zm_pair2 T x y
def zm_lof (x y : Int32) : Int32 := (if x < 0 then 0 else 1) + (if y < 0 then 0 else 1)
def zm_sof (x y : Int32) : Int32 := (if x < 0 then 0 else (1 : Int32) <<< (x &&& 31)) ||| (if y < 0 then 0 else (1 : Int32) <<< (y &&& 31))
def zm_pays (T : zm_S) (x y a : Int32) : zm_S := if x < 0 then zm_scsh T (vp_updL (zm_csh T) (zm_cur T y.toNatClampNeg).toNatClampNeg (zm_csh T (zm_cur T y.toNatClampNeg).toNatClampNeg + a.toInt64))
  else zm_smon T (vp_updL (zm_mon T) x.toNatClampNeg (zm_mon T x.toNatClampNeg - a.toInt64))
def zm_gets (T : zm_S) (x y a : Int32) : zm_S := if y < 0 then zm_scsh T (vp_updL (zm_csh T) (zm_cur T x.toNatClampNeg).toNatClampNeg (zm_csh T (zm_cur T x.toNatClampNeg).toNatClampNeg - a.toInt64))
  else zm_smon T (vp_updL (zm_mon T) y.toNatClampNeg (zm_mon T y.toNatClampNeg + a.toInt64))
def zm_transfer (T : zm_S) (x y a : Int32) : zm_S := zm_gets (zm_pays T x y a) x y a
def zm_pay2 (T : zm_S) (x y a : Int32) : Int32 × zm_S :=
  if (zm_cm T (zm_lof x y) (zm_sof x y)).1 = 0 then (-1, (zm_cm T (zm_lof x y) (zm_sof x y)).2) else (0, zm_transfer (zm_cm T (zm_lof x y) (zm_sof x y)).2 x y a)
def zm_pay (T : zm_S) (x y a : Int32) : Int32 × zm_S :=
  if zm_shut T = 0 then
    (if zm_pair T x y = 0 then (-3, T) else if zm_amt a = 0 then (-3, T) else if x < 0 then zm_pay2 T x y a else if a.toInt64 ≤ zm_free T x then zm_pay2 T x y a else (-5, T))
  else (zm_shut T, T)
def zm_slot (f : Nat → Int32) : Nat → Nat → Nat
  | 0, k => k
  | n + 1, k => if f k ≤ 0 then k else zm_slot f n (k + 1)
def zm_hold2 (T : zm_S) (x a : Int32) : Int32 × zm_S :=
  let k := zm_slot (zm_ham T) 8 0
  let q := zm_cm T 1 ((1 : Int32) <<< (x &&& 31))
  if nI k = 8 then (-4, T) else if a.toInt64 ≤ zm_free T x then (if q.1 = 0 then (-1, q.2) else (nI k, zm_sham (zm_shof q.2 (upd (zm_hof q.2) k x)) (upd (zm_ham q.2) k a))) else (-5, T)
def zm_hold (T : zm_S) (x a : Int32) : Int32 × zm_S :=
  if zm_shut T = 0 then (if zm_is T x = 0 then (-3, T) else if zm_amt a = 0 then (-3, T) else zm_hold2 T x a) else (zm_shut T, T)
def zm_stands (T : zm_S) (x : Int32) : Int32 := if x < 0 then 0 else if 8 ≤ x then 0 else if zm_ham T x.toNatClampNeg ≤ 0 then 0 else 1
def zm_release (T : zm_S) (x : Int32) : Int32 × zm_S :=
  if zm_shut T = 0 then
    (if zm_stands T x = 0 then (-3, T)
     else let q := zm_cm T 1 ((1 : Int32) <<< (zm_hof T x.toNatClampNeg &&& 31))
       if q.1 = 0 then (-1, q.2) else (0, zm_sham q.2 (upd (zm_ham q.2) x.toNatClampNeg 0)))
  else (zm_shut T, T)
def zm_settle2 (T : zm_S) (x f y a : Int32) : Int32 × zm_S :=
  if (zm_cm T (zm_lof f y) (zm_sof f y)).1 = 0 then (-1, (zm_cm T (zm_lof f y) (zm_sof f y)).2)
  else let T1 := (zm_cm T (zm_lof f y) (zm_sof f y)).2
    (0, zm_transfer (zm_sham T1 (upd (zm_ham T1) x.toNatClampNeg 0)) f y a)
def zm_settle (T : zm_S) (x y a : Int32) : Int32 × zm_S :=
  if zm_shut T = 0 then
    (if zm_stands T x = 0 then (-3, T) else if zm_pair T (zm_hof T x.toNatClampNeg) y = 0 then (-3, T) else if a < 1 then (-3, T) else if zm_ham T x.toNatClampNeg < a then (-3, T)
     else zm_settle2 T x (zm_hof T x.toNatClampNeg) y a)
  else (zm_shut T, T)
def zm_order2 (T : zm_S) (x y a d : Int32) : Int32 × zm_S :=
  let q := zm_cm T 1 ((1 : Int32) <<< (x &&& 31))
  if q.1 = 0 then (-1, q.2)
  else let T1 := q.2; let k := (zm_ors T1).toNatClampNeg
    (zm_ors T1 + 1 - 1, zm_sors (zm_sody (zm_ssum (zm_spye (zm_spyr T1 (upd (zm_pyr T1) k x)) (upd (zm_pye T1) k y)) (upd (zm_sum T1) k a)) (upd (zm_ody T1) k d)) (zm_ors T1 + 1))
def zm_order (T : zm_S) (x y a d : Int32) : Int32 × zm_S :=
  if zm_shut T = 0 then
    (if zm_is T x = 0 then (-3, T) else if zm_is T y = 0 then (-3, T) else if zm_pair T x y = 0 then (-3, T) else if zm_amt a = 0 then (-3, T) else if d < 1 then (-3, T) else if 31 < d then (-3, T)
     else if zm_ors T = 6 then (-4, T) else zm_order2 T x y a d)
  else (zm_shut T, T)
def zm_mon12 (j : Nat) : Int32 := 12 * nI (zc_y j) + nI (zc_m j)
def zm_later (now j : Nat) : Int32 := if zm_mon12 j ≤ zm_mon12 now then 0 else 1
def zm_restC (T : zm_S) (now j : Nat) : Int32 × zm_S :=
  if zb_isRest (zm_R T) (nI j) = 0 then (if zm_later now j = 0 then (-3, T) else if zm_rst T = 8 then (-4, T)
    else let q := zm_cm T 0 0
      if q.1 = 0 then (-1, q.2) else (0, zm_srst (zm_sdat q.2 (upd (zm_dat q.2) (zm_rst q.2).toNatClampNeg (nI j))) (zm_rst q.2 + 1))) else (-3, T)
-- day end: now is nI j
def zm_paidL (T : zm_S) (j : Nat) (a : Int32) : Nat → Nat → Int32 → Int64 → Int32
  | 0, _, set, _ => set
  | n + 1, k, set, has => if zm_pyr T k = a then (if (zm_sum T k).toInt64 ≤ has then (if zm_due (zm_R T) j (zm_ody T k) = 0 then zm_paidL T j a n (k + 1) set has
      else zm_paidL T j a n (k + 1) (set ||| (1 : Int32) <<< (nI k &&& 31)) (has - (zm_sum T k).toInt64)) else zm_paidL T j a n (k + 1) set has) else zm_paidL T j a n (k + 1) set has
def zm_paid (T : zm_S) (j : Nat) (a : Int32) : Int32 := zm_paidL T j a (zm_ors T).toNatClampNeg 0 0 (zm_free T a)
def zm_stepSet (T : zm_S) (paid : Int32) : Nat → Nat → Int32 → Int32 → Int32 × Int32
  | 0, _, cnt, set => (cnt, set)
  | n + 1, k, cnt, set => if paid >>> (nI k &&& 31) &&& 1 = 1 then zm_stepSet T paid n (k + 1) (cnt + 1) (set ||| (1 : Int32) <<< (zm_pye T k &&& 31)) else zm_stepSet T paid n (k + 1) cnt set
def zm_carryOne (T : zm_S) (j : Nat) (a paid : Int32) (k : Nat) : zm_S :=
  if paid >>> (nI k &&& 31) &&& 1 = 1 then zm_transfer T a (zm_pye T k) (zm_sum T k)
  else if zm_pyr T k = a then (if zm_due (zm_R T) j (zm_ody T k) = 0 then T else zm_smis T (upd (zm_mis T) k (zm_mis T k + 1))) else T
def zm_carry (j : Nat) (a paid : Int32) : Nat → Nat → zm_S → zm_S
  | 0, _, T => T
  | n + 1, k, T => zm_carry j a paid n (k + 1) (zm_carryOne T j a paid k)
def zm_whole (T : zm_S) (i : Nat) : Int64 := 10000 * (if zm_bas T i = 0 then (365 : Int32) else 360).toInt64
def zm_q0 (x u : Int64) : Int64 := if 0 ≤ x - x / u * u then x / u else x / u - 1
def zm_r0 (x u : Int64) : Int64 := if 0 ≤ x - x / u * u then x - x / u * u else x - x / u * u + u
def zm_round (x u : Int64) : Int64 := if 2 * zm_r0 x u ≤ u then (if 2 * zm_r0 x u = u then (if zm_q0 x u &&& 1 = 1 then zm_q0 x u + 1 else zm_q0 x u) else zm_q0 x u) else zm_q0 x u + 1
def zm_grow2 (T : zm_S) (i : Nat) : zm_S :=
  let q := zm_round (zm_acr T i) (zm_whole T i)
  let T1 := zm_smon T (vp_updL (zm_mon T) i (zm_mon T i + q))
  let T2 := zm_sitr T1 (vp_updL (zm_itr T1) (zm_cur T1 i).toNatClampNeg (zm_itr T1 (zm_cur T1 i).toNatClampNeg + q))
  zm_sacr T2 (vp_updL (zm_acr T2) i (zm_acr T2 i - q * zm_whole T i))
def zm_grow (T : zm_S) (j i : Nat) : zm_S :=
  let T1 := zm_sacr T (vp_updL (zm_acr T) i (zm_acr T i + zm_mon T i * (zm_rat T i).toInt64 * (zm_days (zm_bas T i) j (j + 1)).toInt64))
  if zc_d j = zc_ml (zc_y j) (zc_m j) then zm_grow2 T1 i else T1
def zm_step (T : zm_S) (j i : Nat) : Int32 × zm_S :=
  let paid := zm_paid T j (nI i)
  let n := (zm_ors T).toNatClampNeg
  let q := zm_stepSet T paid n 0 1 ((1 : Int32) <<< (nI i &&& 31))
  let w := zm_cm T q.1 q.2
  if w.1 = 0 then (0, w.2)
  else let T1 := zm_grow (zm_carry j (nI i) paid n 0 w.2) j i
    (1, zm_smrk T1 (upd (zm_mrk T1) i (nI j)))
def zm_steps (j : Nat) : Nat → Nat → zm_S → Int32 × zm_S
  | 0, _, T => (1, T)
  | n + 1, i, T => if nI j ≤ zm_mrk T i then zm_steps j n (i + 1) T else if (zm_step T j i).1 = 0 then (0, (zm_step T j i).2) else zm_steps j n (i + 1) (zm_step T j i).2
def zm_dayEnd3 (T : zm_S) : Int32 × zm_S := if (zm_cm T 0 0).1 = 0 then (0, (zm_cm T 0 0).2) else (1, zm_snow (zm_send (zm_cm T 0 0).2 0) (zm_now (zm_cm T 0 0).2 + 1))
def zm_dayEnd2 (T : zm_S) (j : Nat) : Int32 × zm_S :=
  if (zm_steps j (zm_acs T).toNatClampNeg 0 T).1 = 0 then (0, (zm_steps j (zm_acs T).toNatClampNeg 0 T).2) else zm_dayEnd3 (zm_steps j (zm_acs T).toNatClampNeg 0 T).2
def zm_dayEnd (T : zm_S) (j : Nat) : Int32 × zm_S :=
  if zm_end T = 0 then (if (zm_cm T 0 0).1 = 0 then (0, (zm_cm T 0 0).2) else zm_dayEnd2 (zm_send (zm_cm T 0 0).2 1) j) else zm_dayEnd2 T j
end
section
set_option maxHeartbeats 4000000 in
set_option maxRecDepth 100000 in
theorem c_T_floorDiv (l : Launch) (x y : Int32) (hy : ¬ y = 0) : Met l ny_T_floorDiv (Cond.code ny_T_floorDiv nc_T_floorDiv 3 (some .int) :: zw_big) ({ frames := 0, cells := 0, slots := 0, locals := 0 } : Room) (zw_N [.int x, .int y]) (zw_R (.int (zj_fdiv x y))) 0 0 (fun _ => False) := by
  refine va_MetF (cc := nc_T_floorDiv) (maxL := 3) (ret := (some .int)) (by decide +kernel) rfl ?_
  intro p e s m args below meth c s₁ B hml hv
  have hv : args = [.int x, .int y].toArray := hv
  subst hv
  have hx := B.exec
  have hb := B.bytes
  have hr := B.returns
  have hts0 := atoms_spec (ws := Cond.code ny_T_floorDiv nc_T_floorDiv 3 (some .int) :: zw_big) B.pre
  have hts : ∀ w ∈ zw_big, w.before [.int x, .int y].toArray s = true := fun w h => hts0 w (List.mem_cons_of_mem _ h)
  have hown : s.vm.findClass nR_T = some m.cls := findClass_of_methodNamed B.named
  have hlk := B.notSynchronized
  have hl := lv_entry ([.int x, .int y]) (n := 3) (Nat.le_of_ble_eq_true rfl)
  rw [lg_entry_eq]
  generalize (lg_sl ([.int x, .int y]) ++ List.replicate (3 - (lg_sl ([.int x, .int y])).length) Slot.unset).toArray = ls at hl ⊢
  have hl : lv_has ls 3 [(0, .int x), (1, .int y)] := hl
  have hF : CallFix p m c nc_T_floorDiv 3 s [.int x, .int y].toArray zw_big nR_T := ⟨hx, hb, hml, hown, hts⟩
  refine lv_iload_n hx hb nd_T_floorDiv_0 rfl (zv_at hl 0 rfl) ?_
  refine lv_iload_n hx hb nd_T_floorDiv_1 rfl (zv_at hl 1 rfl) ?_
  refine lv_idiv hx hb nd_T_floorDiv_2 (hy) ?_
  refine lv_istore_n hx hb nd_T_floorDiv_3 rfl hl (by decide) rfl (fun ls hl => ?_)
  refine lv_iload_n hx hb nd_T_floorDiv_4 rfl (zv_at hl 0 rfl) ?_
  refine lv_iload_n hx hb nd_T_floorDiv_5 rfl (zv_at hl 1 rfl) ?_
  refine lv_ixor hx hb nd_T_floorDiv_6 ?_
  refine lv_if_ge (tgt := 21) hx hb nd_T_floorDiv_7 (by decide) (fun h_7 => ?_) (fun h_7 => ?_)
  · skip
    refine lv_iload_n hx hb nd_T_floorDiv_21 rfl (zv_at hl 2 rfl) ?_
    refine zw_iret hx hb hr hlk nd_T_floorDiv_22 ?_
    unfold zj_fdiv
    first | rw [if_pos h_7] | rw [if_neg h_7, if_pos h_14] | rw [if_neg h_7, if_neg h_14]
  · skip
    refine lv_iload_n hx hb nd_T_floorDiv_10 rfl (zv_at hl 2 rfl) ?_
    refine lv_iload_n hx hb nd_T_floorDiv_11 rfl (zv_at hl 1 rfl) ?_
    refine lv_imul hx hb nd_T_floorDiv_12 ?_
    refine lv_iload_n hx hb nd_T_floorDiv_13 rfl (zv_at hl 0 rfl) ?_
    refine lv_icmp_eq (tgt := 21) hx hb nd_T_floorDiv_14 (by decide) (fun h_14 => ?_) (fun h_14 => ?_)
    · skip
      refine lv_iload_n hx hb nd_T_floorDiv_21 rfl (zv_at hl 2 rfl) ?_
      refine zw_iret hx hb hr hlk nd_T_floorDiv_22 ?_
      unfold zj_fdiv
      first | rw [if_pos h_7] | rw [if_neg h_7, if_pos h_14] | rw [if_neg h_7, if_neg h_14]
    · skip
      refine lv_iload_n hx hb nd_T_floorDiv_17 rfl (zv_at hl 2 rfl) ?_
      refine lv_iconst (v := 1) hx hb nd_T_floorDiv_18 (by decide) ?_
      refine lv_isub hx hb nd_T_floorDiv_19 ?_
      refine zw_iret hx hb hr hlk nd_T_floorDiv_20 ?_
      unfold zj_fdiv
      first | rw [if_pos h_7] | rw [if_neg h_7, if_pos h_14] | rw [if_neg h_7, if_neg h_14]

set_option maxHeartbeats 4000000 in
set_option maxRecDepth 100000 in
theorem c_T_floorMod (l : Launch) (x y : Int32) (hy : ¬ y = 0) : Met l ny_T_floorMod (Cond.code ny_T_floorMod nc_T_floorMod 3 (some .int) :: zw_big) ({ frames := 0, cells := 0, slots := 0, locals := 0 } : Room) (zw_N [.int x, .int y]) (zw_R (.int (zj_fmod x y))) 0 0 (fun _ => False) := by
  refine va_MetF (cc := nc_T_floorMod) (maxL := 3) (ret := (some .int)) (by decide +kernel) rfl ?_
  intro p e s m args below meth c s₁ B hml hv
  have hv : args = [.int x, .int y].toArray := hv
  subst hv
  have hx := B.exec
  have hb := B.bytes
  have hr := B.returns
  have hts0 := atoms_spec (ws := Cond.code ny_T_floorMod nc_T_floorMod 3 (some .int) :: zw_big) B.pre
  have hts : ∀ w ∈ zw_big, w.before [.int x, .int y].toArray s = true := fun w h => hts0 w (List.mem_cons_of_mem _ h)
  have hown : s.vm.findClass nR_T = some m.cls := findClass_of_methodNamed B.named
  have hlk := B.notSynchronized
  have hl := lv_entry ([.int x, .int y]) (n := 3) (Nat.le_of_ble_eq_true rfl)
  rw [lg_entry_eq]
  generalize (lg_sl ([.int x, .int y]) ++ List.replicate (3 - (lg_sl ([.int x, .int y])).length) Slot.unset).toArray = ls at hl ⊢
  have hl : lv_has ls 3 [(0, .int x), (1, .int y)] := hl
  have hF : CallFix p m c nc_T_floorMod 3 s [.int x, .int y].toArray zw_big nR_T := ⟨hx, hb, hml, hown, hts⟩
  refine lv_iload_n hx hb nd_T_floorMod_0 rfl (zv_at hl 0 rfl) ?_
  refine lv_iload_n hx hb nd_T_floorMod_1 rfl (zv_at hl 1 rfl) ?_
  refine lv_irem hx hb nd_T_floorMod_2 (hy) ?_
  refine lv_istore_n hx hb nd_T_floorMod_3 rfl hl (by decide) rfl (fun ls hl => ?_)
  refine lv_iload_n hx hb nd_T_floorMod_4 rfl (zv_at hl 0 rfl) ?_
  refine lv_iload_n hx hb nd_T_floorMod_5 rfl (zv_at hl 1 rfl) ?_
  refine lv_ixor hx hb nd_T_floorMod_6 ?_
  refine lv_if_ge (tgt := 18) hx hb nd_T_floorMod_7 (by decide) (fun h_7 => ?_) (fun h_7 => ?_)
  · skip
    refine lv_iload_n hx hb nd_T_floorMod_18 rfl (zv_at hl 2 rfl) ?_
    refine zw_iret hx hb hr hlk nd_T_floorMod_19 ?_
    unfold zj_fmod
    first | rw [if_pos h_7] | rw [if_neg h_7, if_pos h_11] | rw [if_neg h_7, if_neg h_11]
  · skip
    refine lv_iload_n hx hb nd_T_floorMod_10 rfl (zv_at hl 2 rfl) ?_
    refine lv_if_eq (tgt := 18) hx hb nd_T_floorMod_11 (by decide) (fun h_11 => ?_) (fun h_11 => ?_)
    · skip
      refine lv_iload_n hx hb nd_T_floorMod_18 rfl (zv_at hl 2 rfl) ?_
      refine zw_iret hx hb hr hlk nd_T_floorMod_19 ?_
      unfold zj_fmod
      first | rw [if_pos h_7] | rw [if_neg h_7, if_pos h_11] | rw [if_neg h_7, if_neg h_11]
    · skip
      refine lv_iload_n hx hb nd_T_floorMod_14 rfl (zv_at hl 2 rfl) ?_
      refine lv_iload_n hx hb nd_T_floorMod_15 rfl (zv_at hl 1 rfl) ?_
      refine lv_iadd hx hb nd_T_floorMod_16 ?_
      refine zw_iret hx hb hr hlk nd_T_floorMod_17 ?_
      unfold zj_fmod
      first | rw [if_pos h_7] | rw [if_neg h_7, if_pos h_11] | rw [if_neg h_7, if_neg h_11]

set_option maxHeartbeats 4000000 in
set_option maxRecDepth 100000 in
theorem c_T_floorDivL (l : Launch) (x y : Int64) (hy : ¬ y = 0) : Met l ny_T_floorDivL (Cond.code ny_T_floorDivL nc_T_floorDivL 6 (some .long) :: zw_big) ({ frames := 0, cells := 0, slots := 0, locals := 0 } : Room) (zw_N [.long x, .long y]) (zw_R (.long (zj_ldiv x y))) 0 0 (fun _ => False) := by
  refine va_MetF (cc := nc_T_floorDivL) (maxL := 6) (ret := (some .long)) (by decide +kernel) rfl ?_
  intro p e s m args below meth c s₁ B hml hv
  have hv : args = [.long x, .long y].toArray := hv
  subst hv
  have hx := B.exec
  have hb := B.bytes
  have hr := B.returns
  have hts0 := atoms_spec (ws := Cond.code ny_T_floorDivL nc_T_floorDivL 6 (some .long) :: zw_big) B.pre
  have hts : ∀ w ∈ zw_big, w.before [.long x, .long y].toArray s = true := fun w h => hts0 w (List.mem_cons_of_mem _ h)
  have hown : s.vm.findClass nR_T = some m.cls := findClass_of_methodNamed B.named
  have hlk := B.notSynchronized
  have hl := lv_entry ([.long x, .long y]) (n := 6) (Nat.le_of_ble_eq_true rfl)
  rw [lg_entry_eq]
  generalize (lg_sl ([.long x, .long y]) ++ List.replicate (6 - (lg_sl ([.long x, .long y])).length) Slot.unset).toArray = ls at hl ⊢
  have hl : lv_has ls 6 [(0, .long x), (2, .long y)] := hl
  have hF : CallFix p m c nc_T_floorDivL 6 s [.long x, .long y].toArray zw_big nR_T := ⟨hx, hb, hml, hown, hts⟩
  refine lv_lload_n hx hb nd_T_floorDivL_0 rfl (zv_at hl 0 rfl) ?_
  refine lv_lload_n hx hb nd_T_floorDivL_1 rfl (zv_at hl 2 rfl) ?_
  refine lv_ldiv hx hb nd_T_floorDivL_2 (hy) ?_
  refine lv_lstore hx hb nd_T_floorDivL_3 hl (by decide) rfl (fun ls hl => ?_)
  refine lv_lload_n hx hb nd_T_floorDivL_5 rfl (zv_at hl 0 rfl) ?_
  refine lv_lload_n hx hb nd_T_floorDivL_6 rfl (zv_at hl 2 rfl) ?_
  refine lv_lxor hx hb nd_T_floorDivL_7 ?_
  refine lv_lconst (v := 0) hx hb nd_T_floorDivL_8 (by decide) ?_
  refine W.lcmp hx hb nd_T_floorDivL_9 ?_
  refine lv_if_ge (tgt := 27) hx hb nd_T_floorDivL_10 (by decide) (fun h_10 => ?_) (fun h_10 => ?_)
  · skip
    have h_10 := (lg_cmp_ge _ _).mp h_10
    refine lv_lload hx hb nd_T_floorDivL_27 (zv_at hl 4 rfl) ?_
    refine zw_lret hx hb hr hlk nd_T_floorDivL_29 ?_
    unfold zj_ldiv
    first | rw [if_pos h_10] | rw [if_neg h_10, if_pos h_19] | rw [if_neg h_10, if_neg h_19]
  · skip
    have h_10 := (show ¬ _ from fun q => h_10 ((lg_cmp_ge _ _).mpr q))
    refine lv_lload hx hb nd_T_floorDivL_13 (zv_at hl 4 rfl) ?_
    refine lv_lload_n hx hb nd_T_floorDivL_15 rfl (zv_at hl 2 rfl) ?_
    refine lv_lmul hx hb nd_T_floorDivL_16 ?_
    refine lv_lload_n hx hb nd_T_floorDivL_17 rfl (zv_at hl 0 rfl) ?_
    refine W.lcmp hx hb nd_T_floorDivL_18 ?_
    refine lv_if_eq (tgt := 27) hx hb nd_T_floorDivL_19 (by decide) (fun h_19 => ?_) (fun h_19 => ?_)
    · skip
      have h_19 := (lg_cmp_eq _ _).mp h_19
      refine lv_lload hx hb nd_T_floorDivL_27 (zv_at hl 4 rfl) ?_
      refine zw_lret hx hb hr hlk nd_T_floorDivL_29 ?_
      unfold zj_ldiv
      first | rw [if_pos h_10] | rw [if_neg h_10, if_pos h_19] | rw [if_neg h_10, if_neg h_19]
    · skip
      have h_19 := (show ¬ _ from fun q => h_19 ((lg_cmp_eq _ _).mpr q))
      refine lv_lload hx hb nd_T_floorDivL_22 (zv_at hl 4 rfl) ?_
      refine lv_lconst (v := 1) hx hb nd_T_floorDivL_24 (by decide) ?_
      refine lv_lsub hx hb nd_T_floorDivL_25 ?_
      refine zw_lret hx hb hr hlk nd_T_floorDivL_26 ?_
      unfold zj_ldiv
      first | rw [if_pos h_10] | rw [if_neg h_10, if_pos h_19] | rw [if_neg h_10, if_neg h_19]

set_option maxHeartbeats 4000000 in
set_option maxRecDepth 100000 in
theorem c_T_min (l : Launch) (x y : Int32) : Met l ny_T_min (Cond.code ny_T_min nc_T_min 2 (some .int) :: zw_big) ({ frames := 0, cells := 0, slots := 0, locals := 0 } : Room) (zw_N [.int x, .int y]) (zw_R (.int (zj_min x y))) 0 0 (fun _ => False) := by
  refine va_MetF (cc := nc_T_min) (maxL := 2) (ret := (some .int)) (by decide +kernel) rfl ?_
  intro p e s m args below meth c s₁ B hml hv
  have hv : args = [.int x, .int y].toArray := hv
  subst hv
  have hx := B.exec
  have hb := B.bytes
  have hr := B.returns
  have hts0 := atoms_spec (ws := Cond.code ny_T_min nc_T_min 2 (some .int) :: zw_big) B.pre
  have hts : ∀ w ∈ zw_big, w.before [.int x, .int y].toArray s = true := fun w h => hts0 w (List.mem_cons_of_mem _ h)
  have hown : s.vm.findClass nR_T = some m.cls := findClass_of_methodNamed B.named
  have hlk := B.notSynchronized
  have hl := lv_entry ([.int x, .int y]) (n := 2) (Nat.le_of_ble_eq_true rfl)
  rw [lg_entry_eq]
  generalize (lg_sl ([.int x, .int y]) ++ List.replicate (2 - (lg_sl ([.int x, .int y])).length) Slot.unset).toArray = ls at hl ⊢
  have hl : lv_has ls 2 [(0, .int x), (1, .int y)] := hl
  have hF : CallFix p m c nc_T_min 2 s [.int x, .int y].toArray zw_big nR_T := ⟨hx, hb, hml, hown, hts⟩
  refine lv_iload_n hx hb nd_T_min_0 rfl (zv_at hl 0 rfl) ?_
  refine lv_iload_n hx hb nd_T_min_1 rfl (zv_at hl 1 rfl) ?_
  refine lv_icmp_gt (tgt := 9) hx hb nd_T_min_2 (by decide) (fun h_2 => ?_) (fun h_2 => ?_)
  · skip
    refine lv_iload_n hx hb nd_T_min_9 rfl (zv_at hl 1 rfl) ?_
    refine zw_iret hx hb hr hlk nd_T_min_10 ?_
    unfold zj_min
    first | rw [if_pos h_2] | rw [if_neg h_2]
  · skip
    refine lv_iload_n hx hb nd_T_min_5 rfl (zv_at hl 0 rfl) ?_
    refine lv_goto (tgt := 10) hx hb nd_T_min_6 (by decide) ?_
    refine zw_iret hx hb hr hlk nd_T_min_10 ?_
    unfold zj_min
    first | rw [if_pos h_2] | rw [if_neg h_2]

set_option maxHeartbeats 4000000 in
set_option maxRecDepth 100000 in
theorem c_I_bitCount (l : Launch) (x : Int32) : Met l ny_I_bitCount (Cond.code ny_I_bitCount nc_I_bitCount 1 (some .int) :: zw_big) ({ frames := 0, cells := 0, slots := 0, locals := 0 } : Room) (zw_N [.int x]) (zw_R (.int (zj_bc x))) 0 0 (fun _ => False) := by
  refine va_MetF (cc := nc_I_bitCount) (maxL := 1) (ret := (some .int)) (by decide +kernel) rfl ?_
  intro p e s m args below meth c s₁ B hml hv
  have hv : args = [.int x].toArray := hv
  subst hv
  have hx := B.exec
  have hb := B.bytes
  have hr := B.returns
  have hts0 := atoms_spec (ws := Cond.code ny_I_bitCount nc_I_bitCount 1 (some .int) :: zw_big) B.pre
  have hts : ∀ w ∈ zw_big, w.before [.int x].toArray s = true := fun w h => hts0 w (List.mem_cons_of_mem _ h)
  have hown : s.vm.findClass nR_I = some m.cls := findClass_of_methodNamed B.named
  have hlk := B.notSynchronized
  have hl := lv_entry ([.int x]) (n := 1) (Nat.le_of_ble_eq_true rfl)
  rw [lg_entry_eq]
  generalize (lg_sl ([.int x]) ++ List.replicate (1 - (lg_sl ([.int x])).length) Slot.unset).toArray = ls at hl ⊢
  have hl : lv_has ls 1 [(0, .int x)] := hl
  have hF : CallFix p m c nc_I_bitCount 1 s [.int x].toArray zw_big nR_I := ⟨hx, hb, hml, hown, hts⟩
  refine lv_iload_n hx hb nd_I_bitCount_0 rfl (zv_at hl 0 rfl) ?_
  refine lv_iload_n hx hb nd_I_bitCount_1 rfl (zv_at hl 0 rfl) ?_
  refine lv_iconst (v := 1) hx hb nd_I_bitCount_2 (by decide) ?_
  refine lv_iushr (v := _) hx hb nd_I_bitCount_3 rfl ?_
  refine lv_ldcw (v := 1431655765) hx hb hown (hts _ nw_217) nd_I_bitCount_4 ?_
  refine lv_iand hx hb nd_I_bitCount_7 ?_
  refine lv_isub hx hb nd_I_bitCount_8 ?_
  refine lv_istore_n hx hb nd_I_bitCount_9 rfl hl (by decide) rfl (fun ls hl => ?_)
  refine lv_iload_n hx hb nd_I_bitCount_10 rfl (zv_at hl 0 rfl) ?_
  refine lv_ldcw (v := 858993459) hx hb hown (hts _ nw_218) nd_I_bitCount_11 ?_
  refine lv_iand hx hb nd_I_bitCount_14 ?_
  refine lv_iload_n hx hb nd_I_bitCount_15 rfl (zv_at hl 0 rfl) ?_
  refine lv_iconst (v := 2) hx hb nd_I_bitCount_16 (by decide) ?_
  refine lv_iushr (v := _) hx hb nd_I_bitCount_17 rfl ?_
  refine lv_ldcw (v := 858993459) hx hb hown (hts _ nw_218) nd_I_bitCount_18 ?_
  refine lv_iand hx hb nd_I_bitCount_21 ?_
  refine lv_iadd hx hb nd_I_bitCount_22 ?_
  refine lv_istore_n hx hb nd_I_bitCount_23 rfl hl (by decide) rfl (fun ls hl => ?_)
  refine lv_iload_n hx hb nd_I_bitCount_24 rfl (zv_at hl 0 rfl) ?_
  refine lv_iload_n hx hb nd_I_bitCount_25 rfl (zv_at hl 0 rfl) ?_
  refine lv_iconst (v := 4) hx hb nd_I_bitCount_26 (by decide) ?_
  refine lv_iushr (v := _) hx hb nd_I_bitCount_27 rfl ?_
  refine lv_iadd hx hb nd_I_bitCount_28 ?_
  refine lv_ldcw (v := 252645135) hx hb hown (hts _ nw_219) nd_I_bitCount_29 ?_
  refine lv_iand hx hb nd_I_bitCount_32 ?_
  refine lv_istore_n hx hb nd_I_bitCount_33 rfl hl (by decide) rfl (fun ls hl => ?_)
  refine lv_iload_n hx hb nd_I_bitCount_34 rfl (zv_at hl 0 rfl) ?_
  refine lv_iload_n hx hb nd_I_bitCount_35 rfl (zv_at hl 0 rfl) ?_
  refine lv_bipush (v := 8) hx hb nd_I_bitCount_36 (by decide) ?_
  refine lv_iushr (v := _) hx hb nd_I_bitCount_38 rfl ?_
  refine lv_iadd hx hb nd_I_bitCount_39 ?_
  refine lv_istore_n hx hb nd_I_bitCount_40 rfl hl (by decide) rfl (fun ls hl => ?_)
  refine lv_iload_n hx hb nd_I_bitCount_41 rfl (zv_at hl 0 rfl) ?_
  refine lv_iload_n hx hb nd_I_bitCount_42 rfl (zv_at hl 0 rfl) ?_
  refine lv_bipush (v := 16) hx hb nd_I_bitCount_43 (by decide) ?_
  refine lv_iushr (v := _) hx hb nd_I_bitCount_45 rfl ?_
  refine lv_iadd hx hb nd_I_bitCount_46 ?_
  refine lv_istore_n hx hb nd_I_bitCount_47 rfl hl (by decide) rfl (fun ls hl => ?_)
  refine lv_iload_n hx hb nd_I_bitCount_48 rfl (zv_at hl 0 rfl) ?_
  refine lv_bipush (v := 63) hx hb nd_I_bitCount_49 (by decide) ?_
  refine lv_iand hx hb nd_I_bitCount_51 ?_
  refine zw_iret hx hb hr hlk nd_I_bitCount_52 ?_
  all_goals rfl

theorem zj_bc_nat (x : Int32) : ∃ n : Nat, n < 64 ∧ zj_bc x = nI n := by
  unfold zj_bc
  exact pk_andE _ 6 (by decide)
theorem zb_wOnce_01 (d : zb_TD) : (zb_wOnce d).1 = 0 ∨ (zb_wOnce d).1 = 1 := by
  unfold zb_wOnce
  split
  · exact Or.inl rfl
  · split <;> exact Or.inr rfl
theorem zb_wMany_next {d : zb_TD} {k : Nat} (h : ¬ (zb_wOnce d).1 = 0) (hk : ¬ k = 0) : zb_wMany k d = zb_wMany (k - 1) (zb_wOnce d).2 := by
  obtain ⟨j, rfl⟩ : ∃ j, k = j + 1 := ⟨k - 1, by omega⟩
  rw [zb_wMany, if_neg h]; rfl
theorem zb_wMany_stop {d : zb_TD} {k : Nat} (h : (zb_wOnce d).1 = 0) (hk : ¬ k = 0) : zb_wMany k d = (0, (zb_wOnce d).2) := by
  obtain ⟨j, rfl⟩ : ∃ j, k = j + 1 := ⟨k - 1, by omega⟩
  rw [zb_wMany, if_pos h]
end
section
set_option maxHeartbeats 4000000 in
set_option maxRecDepth 100000 in
theorem c_D_writeOnce (l : Launch) (D : va_G) (G : zg_G) (hG : zw_apart (zb_adr G)) (S : zb_S) : Met l ny_D_writeOnce (Cond.code ny_D_writeOnce nc_D_writeOnce 1 (some .boolean) :: zw_big) ({ frames := 0, cells := 0, slots := 0, locals := 0 } : Room) (zw_P [.ref (zg_dsk G)] D (zb_tys G) (zb_cells G S)) (zb_Qi D G ((zb_wOnce (zb_D S)).1, zb_sD S (zb_wOnce (zb_D S)).2)) 0 0 (zb_Ad G) := by
  refine Met.ofW (cc := nc_D_writeOnce) (maxL := 1) (ret := (some .boolean)) (by decide) rfl ?_
  intro p e s m args below meth c s₁ B hml hv
  obtain ⟨rfl, hP, hK⟩ := hv
  have hx := B.exec
  have hb := B.bytes
  have hr := B.returns
  have hts0 := atoms_spec (ws := Cond.code ny_D_writeOnce nc_D_writeOnce 1 (some .boolean) :: zw_big) B.pre
  have hts : ∀ w ∈ zw_big, w.before [.ref (zg_dsk G)].toArray s = true := fun w h => hts0 w (List.mem_cons_of_mem _ h)
  have hown : s.vm.findClass nR_D = some m.cls := findClass_of_methodNamed B.named
  have hlk := B.notSynchronized
  have hS : va_S (zb_Ad G) s.heap s.heap [] := va_S.rf
  have hl := lv_entry ([.ref (zg_dsk G)]) (n := 1) (Nat.le_of_ble_eq_true rfl)
  rw [lg_entry_eq]
  generalize (lg_sl ([.ref (zg_dsk G)]) ++ List.replicate (1 - (lg_sl ([.ref (zg_dsk G)])).length) Slot.unset).toArray = ls at hl ⊢
  have hl : lv_has ls 1 [(0, .ref (zg_dsk G))] := hl
  have hF : CallFix p m c nc_D_writeOnce 1 s [.ref (zg_dsk G)].toArray zw_big nR_D := ⟨hx, hb, hml, hown, hts⟩
  refine lv_aload_n hx hb nd_D_writeOnce_0 rfl (zv_at hl 0 rfl) ?_
  refine zb_getD hx hb hts hown hK hP 2 (by decide) (hts _ nw_49) rfl nd_D_writeOnce_1 ?_
  refine lv_if_ne (tgt := 14) hx hb nd_D_writeOnce_4 (by decide) (fun h_4 => ?_) (fun h_4 => ?_)
  · skip
    refine lv_aload_n hx hb nd_D_writeOnce_14 rfl (zv_at hl 0 rfl) ?_
    refine zb_getD hx hb hts hown hK hP 2 (by decide) (hts _ nw_49) rfl nd_D_writeOnce_15 ?_
    refine lv_if_le (tgt := 31) hx hb nd_D_writeOnce_18 (by decide) (fun h_18 => ?_) (fun h_18 => ?_)
    · skip
      refine lv_aload_n hx hb nd_D_writeOnce_31 rfl (zv_at hl 0 rfl) ?_
      refine lv_dup hx hb nd_D_writeOnce_32 rfl ?_
      refine zb_getD hx hb hts hown hK hP 1 (by decide) (hts _ nw_47) rfl nd_D_writeOnce_33 ?_
      refine lv_iconst (v := 1) hx hb nd_D_writeOnce_36 (by decide) ?_
      refine lv_iadd hx hb nd_D_writeOnce_37 ?_
      refine zb_put_wm hx hb hts hown hK hG hP hS (hts _ nw_47) nd_D_writeOnce_38 (fun H locs hP hS => ?_)
      refine lv_iconst (v := 1) hx hb nd_D_writeOnce_41 (by decide) ?_
      refine zb_zret hx hb hr hlk nd_D_writeOnce_42 hP hS (by decide) ?_
      unfold zb_wOnce
      first
        | (rw [if_pos (show zbD_wl (zb_D S) = 0 from h_4)]; rfl)
        | (rw [if_neg (show ¬ zbD_wl (zb_D S) = 0 from h_4), if_pos (show zbD_wl (zb_D S) ≤ 0 from h_18)]; rfl)
        | (rw [if_neg (show ¬ zbD_wl (zb_D S) = 0 from h_4), if_neg (show ¬ zbD_wl (zb_D S) ≤ 0 from h_18)]; rfl)
    · skip
      refine lv_aload_n hx hb nd_D_writeOnce_21 rfl (zv_at hl 0 rfl) ?_
      refine lv_dup hx hb nd_D_writeOnce_22 rfl ?_
      refine zb_getD hx hb hts hown hK hP 2 (by decide) (hts _ nw_49) rfl nd_D_writeOnce_23 ?_
      refine lv_iconst (v := 1) hx hb nd_D_writeOnce_26 (by decide) ?_
      refine lv_isub hx hb nd_D_writeOnce_27 ?_
      refine zb_put_wl hx hb hts hown hK hG hP hS (hts _ nw_49) nd_D_writeOnce_28 (fun H locs hP hS => ?_)
      refine lv_aload_n hx hb nd_D_writeOnce_31 rfl (zv_at hl 0 rfl) ?_
      refine lv_dup hx hb nd_D_writeOnce_32 rfl ?_
      refine zb_getD hx hb hts hown hK hP 1 (by decide) (hts _ nw_47) rfl nd_D_writeOnce_33 ?_
      refine lv_iconst (v := 1) hx hb nd_D_writeOnce_36 (by decide) ?_
      refine lv_iadd hx hb nd_D_writeOnce_37 ?_
      refine zb_put_wm hx hb hts hown hK hG hP hS (hts _ nw_47) nd_D_writeOnce_38 (fun H locs hP hS => ?_)
      refine lv_iconst (v := 1) hx hb nd_D_writeOnce_41 (by decide) ?_
      refine zb_zret hx hb hr hlk nd_D_writeOnce_42 hP hS (by decide) ?_
      unfold zb_wOnce
      first
        | (rw [if_pos (show zbD_wl (zb_D S) = 0 from h_4)]; rfl)
        | (rw [if_neg (show ¬ zbD_wl (zb_D S) = 0 from h_4), if_pos (show zbD_wl (zb_D S) ≤ 0 from h_18)]; rfl)
        | (rw [if_neg (show ¬ zbD_wl (zb_D S) = 0 from h_4), if_neg (show ¬ zbD_wl (zb_D S) ≤ 0 from h_18)]; rfl)
  · skip
    refine lv_aload_n hx hb nd_D_writeOnce_7 rfl (zv_at hl 0 rfl) ?_
    refine lv_iconst (v := 1) hx hb nd_D_writeOnce_8 (by decide) ?_
    refine zb_put_stp hx hb hts hown hK hG hP hS (by decide) (hts _ nw_45) nd_D_writeOnce_9 (fun H locs hP hS => ?_)
    refine lv_iconst (v := 0) hx hb nd_D_writeOnce_12 (by decide) ?_
    refine zb_zret hx hb hr hlk nd_D_writeOnce_13 hP hS (by decide) ?_
    unfold zb_wOnce
    first
      | (rw [if_pos (show zbD_wl (zb_D S) = 0 from h_4)]; rfl)
      | (rw [if_neg (show ¬ zbD_wl (zb_D S) = 0 from h_4), if_pos (show zbD_wl (zb_D S) ≤ 0 from h_18)]; rfl)
      | (rw [if_neg (show ¬ zbD_wl (zb_D S) = 0 from h_4), if_neg (show ¬ zbD_wl (zb_D S) ≤ 0 from h_18)]; rfl)

set_option maxHeartbeats 4000000 in
set_option maxRecDepth 100000 in
theorem c_D_makeCheckpoint (l : Launch) (D : va_G) (G : zg_G) (hG : zw_apart (zb_adr G)) (S : zb_S) : Met l ny_D_makeCheckpoint (Cond.code ny_D_makeCheckpoint nc_D_makeCheckpoint 3 (some .boolean) :: zw_big) ({ frames := 1, cells := 0, slots := 0, locals := 20 } : Room) (zw_P [.ref (zg_dsk G)] D (zb_tys G) (zb_cells G S)) (zb_Qi D G ((zb_check (zb_D S)).1, zb_sD S (zb_check (zb_D S)).2)) 0 0 (zb_Ad G) := by
  refine Met.ofW (cc := nc_D_makeCheckpoint) (maxL := 3) (ret := (some .boolean)) (by decide) rfl ?_
  intro p e s m args below meth c s₁ B hml hv
  obtain ⟨rfl, hP, hK⟩ := hv
  have hx := B.exec
  have hb := B.bytes
  have hr := B.returns
  have hts0 := atoms_spec (ws := Cond.code ny_D_makeCheckpoint nc_D_makeCheckpoint 3 (some .boolean) :: zw_big) B.pre
  have hts : ∀ w ∈ zw_big, w.before [.ref (zg_dsk G)].toArray s = true := fun w h => hts0 w (List.mem_cons_of_mem _ h)
  have hown : s.vm.findClass nR_D = some m.cls := findClass_of_methodNamed B.named
  have hlk := B.notSynchronized
  have hS : va_S (zb_Ad G) s.heap s.heap [] := va_S.rf
  have hl := lv_entry ([.ref (zg_dsk G)]) (n := 3) (Nat.le_of_ble_eq_true rfl)
  rw [lg_entry_eq]
  generalize (lg_sl ([.ref (zg_dsk G)]) ++ List.replicate (3 - (lg_sl ([.ref (zg_dsk G)])).length) Slot.unset).toArray = ls at hl ⊢
  have hl : lv_has ls 3 [(0, .ref (zg_dsk G))] := hl
  have hF : CallFix p m c nc_D_makeCheckpoint 3 s [.ref (zg_dsk G)].toArray zw_big nR_D := ⟨hx, hb, hml, hown, hts⟩
  obtain ⟨N, hN, eN⟩ := zj_bc_nat (zbD_chg (zb_D S))
  refine lv_aload_n hx hb nd_D_makeCheckpoint_0 rfl (zv_at hl 0 rfl) ?_
  refine zb_getD hx hb hts hown hK hP 5 (by decide) (hts _ nw_55) rfl nd_D_makeCheckpoint_1 ?_
  refine zw_sR (As := [_]) (rest := _) hF (c_I_bitCount l _) zw_preN nk_I_bitCount nw_214 ⟨rfl, rfl, Nat.le_of_ble_eq_true rfl, Nat.le_of_ble_eq_true rfl⟩ rfl hl.1 rfl (Nat.le_of_ble_eq_true rfl) ⟨Nat.zero_le _, Nat.zero_le _⟩ nd_D_makeCheckpoint_4 ?_
  refine lv_istore_n hx hb nd_D_makeCheckpoint_7 rfl hl (by decide) rfl (fun ls hl => ?_)
  refine lv_iconst (v := 0) hx hb nd_D_makeCheckpoint_8 (by decide) ?_
  refine lv_istore_n hx hb nd_D_makeCheckpoint_9 rfl hl (by decide) rfl (fun ls hl => ?_)
  refine zw_loop (σ := zb_TD) (fun k d H locs ls => ∃ i : Nat, i + k = N ∧ zb_wMany N (zb_D S) = zb_wMany k d ∧ va_P D vwCl (zb_cells G (zb_sD S d)) H ∧ va_S (zb_Ad G) s.heap H locs ∧ lv_has ls 3 [(0, .ref (zg_dsk G)), (1, .int (nI N)), (2, .int (nI i))]) ?_ N (zb_D S) ⟨0, by omega, rfl, hP, hS, zv_sub hl (by intro q hq; simp only [List.mem_cons, List.not_mem_nil, or_false] at hq; rcases hq with rfl | rfl | rfl; rfl; exact congrArg (fun z => some (Value.int z)) eN; rfl)⟩
  intro k d H locs ls hI ih
  obtain ⟨i, hik, hE, hP, hS, hl⟩ := hI
  refine lv_iload_n hx hb nd_D_makeCheckpoint_10 rfl (zv_at hl 2 rfl) ?_
  refine lv_iload_n hx hb nd_D_makeCheckpoint_11 rfl (zv_at hl 1 rfl) ?_
  refine lv_icmp_ge (tgt := 30) hx hb nd_D_makeCheckpoint_12 (by decide) (fun h_12 => ?_) (fun h_12 => ?_)
  · skip
    have hk0 : k = 0 := by
      have h := (nI_leI (by omega) (by omega)).mp h_12
      omega
    subst hk0
    have hE : zb_wMany N (zb_D S) = (1, d) := hE
    refine lv_aload_n hx hb nd_D_makeCheckpoint_30 rfl (zv_at hl 0 rfl) ?_
    refine zb_vWi (As := []) (rest := _) hF (c_D_writeOnce l D G hG _) (zw_preV hP hK (q0 := 5) (ci := 5) rfl rfl rfl) nk_D_writeOnce nw_228 ⟨rfl, rfl, Nat.le_of_ble_eq_true rfl, Nat.le_of_ble_eq_true rfl⟩ rfl hl.1 rfl (Nat.le_of_ble_eq_true rfl) ⟨Nat.zero_le _, Nat.zero_le _⟩ nd_D_makeCheckpoint_31 hS (fun H locs hP hS => ?_)
    refine lv_if_ne (tgt := 39) hx hb nd_D_makeCheckpoint_34 (by decide) (fun h_34 => ?_) (fun h_34 => ?_)
    · skip
      refine lv_aload_n hx hb nd_D_makeCheckpoint_39 rfl (zv_at hl 0 rfl) ?_
      refine lv_iconst (v := 0) hx hb nd_D_makeCheckpoint_40 (by decide) ?_
      refine zb_put_lin hx hb hts hown hK hG hP hS (hts _ nw_51) nd_D_makeCheckpoint_41 (fun H locs hP hS => ?_)
      refine lv_aload_n hx hb nd_D_makeCheckpoint_44 rfl (zv_at hl 0 rfl) ?_
      refine lv_iconst (v := 0) hx hb nd_D_makeCheckpoint_45 (by decide) ?_
      refine zb_put_trn hx hb hts hown hK hG hP hS (hts _ nw_53) nd_D_makeCheckpoint_46 (fun H locs hP hS => ?_)
      refine lv_aload_n hx hb nd_D_makeCheckpoint_49 rfl (zv_at hl 0 rfl) ?_
      refine lv_iconst (v := 0) hx hb nd_D_makeCheckpoint_50 (by decide) ?_
      refine zb_put_chg hx hb hts hown hK hG hP hS (hts _ nw_55) nd_D_makeCheckpoint_51 (fun H locs hP hS => ?_)
      refine lv_iconst (v := 1) hx hb nd_D_makeCheckpoint_54 (by decide) ?_
      refine zb_zret hx hb hr hlk nd_D_makeCheckpoint_55 hP hS (by decide) ?_
      have hz : ¬ (zb_wOnce d).1 = 0 := h_34
      unfold zb_check
      rw [eN, nI_clamp (by omega), hE, if_neg (show ¬ (1 : Int32) = 0 by decide)]
      unfold zb_check2
      rw [if_neg hz]
      all_goals rfl
    · skip
      refine lv_iconst (v := 0) hx hb nd_D_makeCheckpoint_37 (by decide) ?_
      refine zb_zret hx hb hr hlk nd_D_makeCheckpoint_38 hP hS (by decide) ?_
      have hz : (zb_wOnce d).1 = 0 := h_34
      unfold zb_check
      rw [eN, nI_clamp (by omega), hE, if_neg (show ¬ (1 : Int32) = 0 by decide)]
      unfold zb_check2
      rw [if_pos hz]
      all_goals rfl
  · skip
    have hk0 : ¬ k = 0 := fun q => h_12 (nI_le (by omega) (by omega))
    refine lv_aload_n hx hb nd_D_makeCheckpoint_15 rfl (zv_at hl 0 rfl) ?_
    refine zb_vWi (As := []) (rest := _) hF (c_D_writeOnce l D G hG _) (zw_preV hP hK (q0 := 5) (ci := 5) rfl rfl rfl) nk_D_writeOnce nw_228 ⟨rfl, rfl, Nat.le_of_ble_eq_true rfl, Nat.le_of_ble_eq_true rfl⟩ rfl hl.1 rfl (Nat.le_of_ble_eq_true rfl) ⟨Nat.zero_le _, Nat.zero_le _⟩ nd_D_makeCheckpoint_16 hS (fun H locs hP hS => ?_)
    refine lv_if_ne (tgt := 24) hx hb nd_D_makeCheckpoint_19 (by decide) (fun h_19 => ?_) (fun h_19 => ?_)
    · skip
      refine zv_iinc (v := nI (i + 1)) hx hb nd_D_makeCheckpoint_24 hl rfl ((nI_succ i).symm) (by decide) rfl (fun ls hl => ?_)
      refine lv_goto (tgt := 10) hx hb nd_D_makeCheckpoint_27 (by decide) ?_
      exact ih (k - 1) (zb_wOnce d).2 _ _ _ (by omega) ⟨i + 1, by omega, hE.trans (zb_wMany_next h_19 hk0), hP, hS, zv_sub hl (by intro q hq; simp only [List.mem_cons, List.not_mem_nil, or_false] at hq; rcases hq with rfl | rfl | rfl <;> rfl)⟩
    · skip
      refine lv_iconst (v := 0) hx hb nd_D_makeCheckpoint_22 (by decide) ?_
      refine zb_zret hx hb hr hlk nd_D_makeCheckpoint_23 hP hS (by decide) ?_
      have hz : (zb_wOnce d).1 = 0 := h_19
      have e1 : zb_wMany N (zb_D S) = (0, (zb_wOnce d).2) := hE.trans (zb_wMany_stop hz hk0)
      unfold zb_check
      rw [eN, nI_clamp (by omega), e1]
      all_goals rfl

set_option maxHeartbeats 4000000 in
set_option maxRecDepth 100000 in
theorem c_D_writeLines (l : Launch) (D : va_G) (G : zg_G) (hG : zw_apart (zb_adr G)) (S : zb_S) (chg cnt : Int32) (N : Nat) (hN : N < 128) (eN : cnt = nI N) : Met l ny_D_writeLines (Cond.code ny_D_writeLines nc_D_writeLines 4 (some .boolean) :: zw_big) ({ frames := 2, cells := 0, slots := 0, locals := 42 } : Room) (zw_P [.ref (zg_dsk G), .int chg, .int cnt] D (zb_tys G) (zb_cells G S)) (zb_Qi D G ((zb_lines (zb_D S) chg cnt).1, zb_sD S (zb_lines (zb_D S) chg cnt).2)) 0 0 (zb_Ad G) := by
  refine Met.ofW (cc := nc_D_writeLines) (maxL := 4) (ret := (some .boolean)) (by decide) rfl ?_
  intro p e s m args below meth c s₁ B hml hv
  obtain ⟨rfl, hP, hK⟩ := hv
  have hx := B.exec
  have hb := B.bytes
  have hr := B.returns
  have hts0 := atoms_spec (ws := Cond.code ny_D_writeLines nc_D_writeLines 4 (some .boolean) :: zw_big) B.pre
  have hts : ∀ w ∈ zw_big, w.before [.ref (zg_dsk G), .int chg, .int cnt].toArray s = true := fun w h => hts0 w (List.mem_cons_of_mem _ h)
  have hown : s.vm.findClass nR_D = some m.cls := findClass_of_methodNamed B.named
  have hlk := B.notSynchronized
  have hS : va_S (zb_Ad G) s.heap s.heap [] := va_S.rf
  have hl := lv_entry ([.ref (zg_dsk G), .int chg, .int cnt]) (n := 4) (Nat.le_of_ble_eq_true rfl)
  rw [lg_entry_eq]
  generalize (lg_sl ([.ref (zg_dsk G), .int chg, .int cnt]) ++ List.replicate (4 - (lg_sl ([.ref (zg_dsk G), .int chg, .int cnt])).length) Slot.unset).toArray = ls at hl ⊢
  have hl : lv_has ls 4 [(0, .ref (zg_dsk G)), (1, .int chg), (2, .int cnt)] := hl
  have hF : CallFix p m c nc_D_writeLines 4 s [.ref (zg_dsk G), .int chg, .int cnt].toArray zw_big nR_D := ⟨hx, hb, hml, hown, hts⟩
  subst eN
  refine zw_cut (σ := zb_TD) 20 (fun x => []) (fun x H locs ls => zb_lines (zb_D S) chg (nI N) = zb_lines2 x chg (nI N) ∧ va_P D vwCl (zb_cells G (zb_sD S x)) H ∧ va_S (zb_Ad G) s.heap H locs ∧ lv_has ls 4 [(0, .ref (zg_dsk G)), (1, .int chg), (2, .int (nI N))]) (fun x H locs ls hI => ?_) (fun hJ20 => ?_)
  · skip
    obtain ⟨hJ, hP, hS, hl⟩ := hI
    refine lv_iconst (v := 0) hx hb nd_D_writeLines_20 (by decide) ?_
    refine lv_istore_n hx hb nd_D_writeLines_21 rfl hl (by decide) rfl (fun ls hl => ?_)
    refine zw_loop (σ := zb_TD) (fun k d H locs ls => ∃ i : Nat, i + k = N ∧ zb_wMany N x = zb_wMany k d ∧ va_P D vwCl (zb_cells G (zb_sD S d)) H ∧ va_S (zb_Ad G) s.heap H locs ∧ lv_has ls 4 [(0, .ref (zg_dsk G)), (1, .int chg), (2, .int (nI N)), (3, .int (nI i))]) ?_ N x ⟨0, by omega, rfl, hP, hS, zv_sub hl (by intro q hq; simp only [List.mem_cons, List.not_mem_nil, or_false] at hq; rcases hq with rfl | rfl | rfl | rfl <;> rfl)⟩
    intro k d H locs ls hI ih
    obtain ⟨i, hik, hE, hP, hS, hl⟩ := hI
    refine lv_iload_n hx hb nd_D_writeLines_22 rfl (zv_at hl 3 rfl) ?_
    refine lv_iload_n hx hb nd_D_writeLines_23 rfl (zv_at hl 2 rfl) ?_
    refine lv_icmp_ge (tgt := 42) hx hb nd_D_writeLines_24 (by decide) (fun h_24 => ?_) (fun h_24 => ?_)
    · skip
      have hk0 : k = 0 := by
        have h := (nI_leI (by omega) (by omega)).mp h_24
        omega
      subst hk0
      have hE : zb_wMany N x = (1, d) := hE
      refine lv_aload_n hx hb nd_D_writeLines_42 rfl (zv_at hl 0 rfl) ?_
      refine lv_dup hx hb nd_D_writeLines_43 rfl ?_
      refine zb_getD hx hb hts hown hK hP 3 (by decide) (hts _ nw_51) rfl nd_D_writeLines_44 ?_
      refine lv_iload_n hx hb nd_D_writeLines_47 rfl (zv_at hl 2 rfl) ?_
      refine lv_iadd hx hb nd_D_writeLines_48 ?_
      refine zb_put_lin hx hb hts hown hK hG hP hS (hts _ nw_51) nd_D_writeLines_49 (fun H locs hP hS => ?_)
      refine lv_aload_n hx hb nd_D_writeLines_52 rfl (zv_at hl 0 rfl) ?_
      refine lv_dup hx hb nd_D_writeLines_53 rfl ?_
      refine zb_getD hx hb hts hown hK hP 4 (by decide) (hts _ nw_53) rfl nd_D_writeLines_54 ?_
      refine lv_iconst (v := 1) hx hb nd_D_writeLines_57 (by decide) ?_
      refine lv_iadd hx hb nd_D_writeLines_58 ?_
      refine zb_put_trn hx hb hts hown hK hG hP hS (hts _ nw_53) nd_D_writeLines_59 (fun H locs hP hS => ?_)
      refine lv_aload_n hx hb nd_D_writeLines_62 rfl (zv_at hl 0 rfl) ?_
      refine lv_dup hx hb nd_D_writeLines_63 rfl ?_
      refine zb_getD hx hb hts hown hK hP 5 (by decide) (hts _ nw_55) rfl nd_D_writeLines_64 ?_
      refine lv_iload_n hx hb nd_D_writeLines_67 rfl (zv_at hl 1 rfl) ?_
      refine lv_ior hx hb nd_D_writeLines_68 ?_
      refine zb_put_chg hx hb hts hown hK hG hP hS (hts _ nw_55) nd_D_writeLines_69 (fun H locs hP hS => ?_)
      refine lv_iconst (v := 1) hx hb nd_D_writeLines_72 (by decide) ?_
      refine zb_zret hx hb hr hlk nd_D_writeLines_73 hP hS (by decide) ?_
      rw [hJ]
      unfold zb_lines2
      rw [nI_clamp (by omega), hE, if_neg (show ¬ (1 : Int32) = 0 by decide)]
      all_goals rfl
    · skip
      have hk0 : ¬ k = 0 := fun q => h_24 (nI_le (by omega) (by omega))
      refine lv_aload_n hx hb nd_D_writeLines_27 rfl (zv_at hl 0 rfl) ?_
      refine zb_vWi (As := []) (rest := _) hF (c_D_writeOnce l D G hG _) (zw_preV hP hK (q0 := 5) (ci := 5) rfl rfl rfl) nk_D_writeOnce nw_228 ⟨rfl, rfl, Nat.le_of_ble_eq_true rfl, Nat.le_of_ble_eq_true rfl⟩ rfl hl.1 rfl (Nat.le_of_ble_eq_true rfl) ⟨Nat.zero_le _, Nat.zero_le _⟩ nd_D_writeLines_28 hS (fun H locs hP hS => ?_)
      refine lv_if_ne (tgt := 36) hx hb nd_D_writeLines_31 (by decide) (fun h_31 => ?_) (fun h_31 => ?_)
      · skip
        refine zv_iinc (v := nI (i + 1)) hx hb nd_D_writeLines_36 hl rfl ((nI_succ i).symm) (by decide) rfl (fun ls hl => ?_)
        refine lv_goto (tgt := 22) hx hb nd_D_writeLines_39 (by decide) ?_
        exact ih (k - 1) (zb_wOnce d).2 _ _ _ (by omega) ⟨i + 1, by omega, hE.trans (zb_wMany_next h_31 hk0), hP, hS, zv_sub hl (by intro q hq; simp only [List.mem_cons, List.not_mem_nil, or_false] at hq; rcases hq with rfl | rfl | rfl | rfl <;> rfl)⟩
      · skip
        refine lv_iconst (v := 0) hx hb nd_D_writeLines_34 (by decide) ?_
        refine zb_zret hx hb hr hlk nd_D_writeLines_35 hP hS (by decide) ?_
        rw [hJ]
        unfold zb_lines2
        rw [nI_clamp (by omega), hE.trans (zb_wMany_stop h_31 hk0), if_pos rfl]
        all_goals rfl
  refine lv_aload_n hx hb nd_D_writeLines_0 rfl (zv_at hl 0 rfl) ?_
  refine zb_getD hx hb hts hown hK hP 3 (by decide) (hts _ nw_51) rfl nd_D_writeLines_1 ?_
  refine lv_iload_n hx hb nd_D_writeLines_4 rfl (zv_at hl 2 rfl) ?_
  refine lv_iadd hx hb nd_D_writeLines_5 ?_
  refine lv_bipush (v := 24) hx hb nd_D_writeLines_6 (by decide) ?_
  refine lv_icmp_le (tgt := 20) hx hb nd_D_writeLines_8 (by decide) (fun h_8 => ?_) (fun h_8 => ?_)
  · skip
    first
      | exact hJ20 (zb_D S) _ _ _ ⟨by unfold zb_lines; rw [if_pos (show zbD_lin (zb_D S) + nI N ≤ 24 from h_8)], hP, hS, hl⟩
      | exact hJ20 (zb_check (zb_D S)).2 _ _ _ ⟨by unfold zb_lines; rw [if_neg (show ¬ zbD_lin (zb_D S) + nI N ≤ 24 from h_8), if_neg (show ¬ (zb_check (zb_D S)).1 = 0 from h_15)], hP, hS, hl⟩
  · skip
    refine lv_aload_n hx hb nd_D_writeLines_11 rfl (zv_at hl 0 rfl) ?_
    refine zb_vWi (As := []) (rest := _) hF (c_D_makeCheckpoint l D G hG _) (zw_preV hP hK (q0 := 5) (ci := 5) rfl rfl rfl) nk_D_makeCheckpoint nw_224 ⟨rfl, rfl, Nat.le_of_ble_eq_true rfl, Nat.le_of_ble_eq_true rfl⟩ rfl hl.1 rfl (Nat.le_of_ble_eq_true rfl) ⟨Nat.zero_le _, Nat.zero_le _⟩ nd_D_writeLines_12 hS (fun H locs hP hS => ?_)
    refine lv_if_ne (tgt := 20) hx hb nd_D_writeLines_15 (by decide) (fun h_15 => ?_) (fun h_15 => ?_)
    · skip
      first
        | exact hJ20 (zb_D S) _ _ _ ⟨by unfold zb_lines; rw [if_pos (show zbD_lin (zb_D S) + nI N ≤ 24 from h_8)], hP, hS, hl⟩
        | exact hJ20 (zb_check (zb_D S)).2 _ _ _ ⟨by unfold zb_lines; rw [if_neg (show ¬ zbD_lin (zb_D S) + nI N ≤ 24 from h_8), if_neg (show ¬ (zb_check (zb_D S)).1 = 0 from h_15)], hP, hS, hl⟩
    · skip
      refine lv_iconst (v := 0) hx hb nd_D_writeLines_18 (by decide) ?_
      refine zb_zret hx hb hr hlk nd_D_writeLines_19 hP hS (by decide) ?_
      unfold zb_lines
      rw [if_neg (show ¬ zbD_lin (zb_D S) + nI N ≤ 24 from h_8), if_pos (show (zb_check (zb_D S)).1 = 0 from h_15)]
      all_goals rfl

theorem zb_lines_01 (d : zb_TD) (chg cnt : Int32) : (zb_lines d chg cnt).1 = 0 ∨ (zb_lines d chg cnt).1 = 1 := by
  have h2 : ∀ d : zb_TD, (zb_lines2 d chg cnt).1 = 0 ∨ (zb_lines2 d chg cnt).1 = 1 := by
    intro d
    unfold zb_lines2
    split
    · exact Or.inl rfl
    · exact Or.inr rfl
  unfold zb_lines
  split
  · exact h2 d
  · split
    · exact Or.inl rfl
    · exact h2 _
theorem zb_bc1 (x : Int32) : ∃ n : Nat, n < 128 ∧ zj_bc x + 1 = nI n := by
  obtain ⟨n, hn, e⟩ := zj_bc_nat x
  exact ⟨n + 1, by omega, by rw [e, nI_succ]⟩

set_option maxHeartbeats 4000000 in
set_option maxRecDepth 100000 in
theorem c_D_writeTransaction (l : Launch) (D : va_G) (G : zg_G) (hG : zw_apart (zb_adr G)) (S : zb_S) (chg : Int32) : Met l ny_D_writeTransaction (Cond.code ny_D_writeTransaction nc_D_writeTransaction 2 (some .boolean) :: zw_big) ({ frames := 3, cells := 0, slots := 0, locals := 65 } : Room) (zw_P [.ref (zg_dsk G), .int chg] D (zb_tys G) (zb_cells G S)) (zb_Qi D G (zb_tr S chg)) 0 0 (zb_Ad G) := by
  refine Met.ofW (cc := nc_D_writeTransaction) (maxL := 2) (ret := (some .boolean)) (by decide) rfl ?_
  intro p e s m args below meth c s₁ B hml hv
  obtain ⟨rfl, hP, hK⟩ := hv
  have hx := B.exec
  have hb := B.bytes
  have hr := B.returns
  have hts0 := atoms_spec (ws := Cond.code ny_D_writeTransaction nc_D_writeTransaction 2 (some .boolean) :: zw_big) B.pre
  have hts : ∀ w ∈ zw_big, w.before [.ref (zg_dsk G), .int chg].toArray s = true := fun w h => hts0 w (List.mem_cons_of_mem _ h)
  have hown : s.vm.findClass nR_D = some m.cls := findClass_of_methodNamed B.named
  have hlk := B.notSynchronized
  have hS : va_S (zb_Ad G) s.heap s.heap [] := va_S.rf
  have hl := lv_entry ([.ref (zg_dsk G), .int chg]) (n := 2) (Nat.le_of_ble_eq_true rfl)
  rw [lg_entry_eq]
  generalize (lg_sl ([.ref (zg_dsk G), .int chg]) ++ List.replicate (2 - (lg_sl ([.ref (zg_dsk G), .int chg])).length) Slot.unset).toArray = ls at hl ⊢
  have hl : lv_has ls 2 [(0, .ref (zg_dsk G)), (1, .int chg)] := hl
  have hF : CallFix p m c nc_D_writeTransaction 2 s [.ref (zg_dsk G), .int chg].toArray zw_big nR_D := ⟨hx, hb, hml, hown, hts⟩
  obtain ⟨N, hN, eN⟩ := zb_bc1 chg
  refine lv_aload_n hx hb nd_D_writeTransaction_0 rfl (zv_at hl 0 rfl) ?_
  refine lv_iload_n hx hb nd_D_writeTransaction_1 rfl (zv_at hl 1 rfl) ?_
  refine lv_iload_n hx hb nd_D_writeTransaction_2 rfl (zv_at hl 1 rfl) ?_
  refine zw_sR (As := [_]) (rest := _) hF (c_I_bitCount l _) zw_preN nk_I_bitCount nw_214 ⟨rfl, rfl, Nat.le_of_ble_eq_true rfl, Nat.le_of_ble_eq_true rfl⟩ rfl hl.1 rfl (Nat.le_of_ble_eq_true rfl) ⟨Nat.zero_le _, Nat.zero_le _⟩ nd_D_writeTransaction_3 ?_
  refine lv_iconst (v := 1) hx hb nd_D_writeTransaction_6 (by decide) ?_
  refine lv_iadd hx hb nd_D_writeTransaction_7 ?_
  refine zb_vWi (As := [_, _]) (rest := _) hF (c_D_writeLines l D G hG _ _ _ _ (by assumption) (by assumption)) (zw_preV hP hK (q0 := 5) (ci := 5) rfl rfl rfl) nk_D_writeLines nw_220 ⟨rfl, rfl, Nat.le_of_ble_eq_true rfl, Nat.le_of_ble_eq_true rfl⟩ rfl hl.1 rfl (Nat.le_of_ble_eq_true rfl) ⟨Nat.zero_le _, Nat.zero_le _⟩ nd_D_writeTransaction_8 hS (fun H locs hP hS => ?_)
  refine zb_zret hx hb hr hlk nd_D_writeTransaction_11 hP hS (zb_lines_01 _ _ _) ?_
  all_goals rfl
end
section
set_option maxHeartbeats 4000000 in
set_option maxRecDepth 100000 in
theorem c_C_isBasis (l : Launch) (x : Int32) : Met l ny_C_isBasis (Cond.code ny_C_isBasis nc_C_isBasis 1 (some .boolean) :: zw_big) ({ frames := 0, cells := 0, slots := 0, locals := 0 } : Room) (zw_N [.int x]) (zw_R (.int (zb_isBas x))) 0 0 (fun _ => False) := by
  refine Met.ofW (cc := nc_C_isBasis) (maxL := 1) (ret := (some .boolean)) (by decide) rfl ?_
  intro p e s m args below meth c s₁ B hml hv
  have hv : args = [.int x].toArray := hv
  subst hv
  have hx := B.exec
  have hb := B.bytes
  have hr := B.returns
  have hts0 := atoms_spec (ws := Cond.code ny_C_isBasis nc_C_isBasis 1 (some .boolean) :: zw_big) B.pre
  have hts : ∀ w ∈ zw_big, w.before [.int x].toArray s = true := fun w h => hts0 w (List.mem_cons_of_mem _ h)
  have hown : s.vm.findClass nR_C = some m.cls := findClass_of_methodNamed B.named
  have hlk := B.notSynchronized
  have hl := lv_entry ([.int x]) (n := 1) (Nat.le_of_ble_eq_true rfl)
  rw [lg_entry_eq]
  generalize (lg_sl ([.int x]) ++ List.replicate (1 - (lg_sl ([.int x])).length) Slot.unset).toArray = ls at hl ⊢
  have hl : lv_has ls 1 [(0, .int x)] := hl
  have hF : CallFix p m c nc_C_isBasis 1 s [.int x].toArray zw_big nR_C := ⟨hx, hb, hml, hown, hts⟩
  refine lv_iconst (v := 0) hx hb nd_C_isBasis_0 (by decide) ?_
  refine lv_iload_n hx hb nd_C_isBasis_1 rfl (zv_at hl 0 rfl) ?_
  refine lv_icmp_gt (tgt := 14) hx hb nd_C_isBasis_2 (by decide) (fun h_2 => ?_) (fun h_2 => ?_)
  · skip
    refine lv_iconst (v := 0) hx hb nd_C_isBasis_14 (by decide) ?_
    refine zw_zret hx hb hr hlk nd_C_isBasis_15 (by decide) ?_
    unfold zb_isBas
    first | rw [if_pos h_2] | rw [if_neg h_2, if_pos h_7] | rw [if_neg h_2, if_neg h_7]
  · skip
    refine lv_iload_n hx hb nd_C_isBasis_5 rfl (zv_at hl 0 rfl) ?_
    refine lv_iconst (v := 3) hx hb nd_C_isBasis_6 (by decide) ?_
    refine lv_icmp_ge (tgt := 14) hx hb nd_C_isBasis_7 (by decide) (fun h_7 => ?_) (fun h_7 => ?_)
    · skip
      refine lv_iconst (v := 0) hx hb nd_C_isBasis_14 (by decide) ?_
      refine zw_zret hx hb hr hlk nd_C_isBasis_15 (by decide) ?_
      unfold zb_isBas
      first | rw [if_pos h_2] | rw [if_neg h_2, if_pos h_7] | rw [if_neg h_2, if_neg h_7]
    · skip
      refine lv_iconst (v := 1) hx hb nd_C_isBasis_10 (by decide) ?_
      refine lv_goto (tgt := 15) hx hb nd_C_isBasis_11 (by decide) ?_
      refine zw_zret hx hb hr hlk nd_C_isBasis_15 (by decide) ?_
      unfold zb_isBas
      first | rw [if_pos h_2] | rw [if_neg h_2, if_pos h_7] | rw [if_neg h_2, if_neg h_7]

set_option maxHeartbeats 4000000 in
set_option maxRecDepth 100000 in
theorem c_C_yearOf (l : Launch) (x : Int32) : Met l ny_C_yearOf (Cond.code ny_C_yearOf nc_C_yearOf 1 (some .int) :: zw_big) ({ frames := 0, cells := 0, slots := 0, locals := 0 } : Room) (zw_N [.int x]) (zw_R (.int (zb_yearOf x))) 0 0 (fun _ => False) := by
  refine Met.ofW (cc := nc_C_yearOf) (maxL := 1) (ret := (some .int)) (by decide) rfl ?_
  intro p e s m args below meth c s₁ B hml hv
  have hv : args = [.int x].toArray := hv
  subst hv
  have hx := B.exec
  have hb := B.bytes
  have hr := B.returns
  have hts0 := atoms_spec (ws := Cond.code ny_C_yearOf nc_C_yearOf 1 (some .int) :: zw_big) B.pre
  have hts : ∀ w ∈ zw_big, w.before [.int x].toArray s = true := fun w h => hts0 w (List.mem_cons_of_mem _ h)
  have hown : s.vm.findClass nR_C = some m.cls := findClass_of_methodNamed B.named
  have hlk := B.notSynchronized
  have hl := lv_entry ([.int x]) (n := 1) (Nat.le_of_ble_eq_true rfl)
  rw [lg_entry_eq]
  generalize (lg_sl ([.int x]) ++ List.replicate (1 - (lg_sl ([.int x])).length) Slot.unset).toArray = ls at hl ⊢
  have hl : lv_has ls 1 [(0, .int x)] := hl
  have hF : CallFix p m c nc_C_yearOf 1 s [.int x].toArray zw_big nR_C := ⟨hx, hb, hml, hown, hts⟩
  refine lv_iload_n hx hb nd_C_yearOf_0 rfl (zv_at hl 0 rfl) ?_
  refine lv_if_ne (tgt := 10) hx hb nd_C_yearOf_1 (by decide) (fun h_1 => ?_) (fun h_1 => ?_)
  · skip
    refine lv_sipush (v := 360) hx hb nd_C_yearOf_10 (by decide) ?_
    refine zw_iret hx hb hr hlk nd_C_yearOf_13 ?_
    unfold zb_yearOf
    first | rw [if_pos h_1] | rw [if_neg h_1]
  · skip
    refine lv_sipush (v := 365) hx hb nd_C_yearOf_4 (by decide) ?_
    refine lv_goto (tgt := 13) hx hb nd_C_yearOf_7 (by decide) ?_
    refine zw_iret hx hb hr hlk nd_C_yearOf_13 ?_
    unfold zb_yearOf
    first | rw [if_pos h_1] | rw [if_neg h_1]

set_option maxHeartbeats 4000000 in
set_option maxRecDepth 100000 in
theorem c_C_monthIn (l : Launch) (x : Int32) : Met l ny_C_monthIn (Cond.code ny_C_monthIn nc_C_monthIn 1 (some .int) :: zw_big) ({ frames := 0, cells := 0, slots := 0, locals := 0 } : Room) (zw_N [.int x]) (zw_R (.int (zb_monthIn x))) 0 0 (fun _ => False) := by
  refine Met.ofW (cc := nc_C_monthIn) (maxL := 1) (ret := (some .int)) (by decide) rfl ?_
  intro p e s m args below meth c s₁ B hml hv
  have hv : args = [.int x].toArray := hv
  subst hv
  have hx := B.exec
  have hb := B.bytes
  have hr := B.returns
  have hts0 := atoms_spec (ws := Cond.code ny_C_monthIn nc_C_monthIn 1 (some .int) :: zw_big) B.pre
  have hts : ∀ w ∈ zw_big, w.before [.int x].toArray s = true := fun w h => hts0 w (List.mem_cons_of_mem _ h)
  have hown : s.vm.findClass nR_C = some m.cls := findClass_of_methodNamed B.named
  have hlk := B.notSynchronized
  have hl := lv_entry ([.int x]) (n := 1) (Nat.le_of_ble_eq_true rfl)
  rw [lg_entry_eq]
  generalize (lg_sl ([.int x]) ++ List.replicate (1 - (lg_sl ([.int x])).length) Slot.unset).toArray = ls at hl ⊢
  have hl : lv_has ls 1 [(0, .int x)] := hl
  have hF : CallFix p m c nc_C_monthIn 1 s [.int x].toArray zw_big nR_C := ⟨hx, hb, hml, hown, hts⟩
  refine lv_iload_n hx hb nd_C_monthIn_0 rfl (zv_at hl 0 rfl) ?_
  refine lv_iconst (v := 5) hx hb nd_C_monthIn_1 (by decide) ?_
  refine lv_ishr hx hb nd_C_monthIn_2 ?_
  refine zw_iret hx hb hr hlk nd_C_monthIn_3 ?_
  all_goals rfl

set_option maxHeartbeats 4000000 in
set_option maxRecDepth 100000 in
theorem c_C_dayIn (l : Launch) (x : Int32) : Met l ny_C_dayIn (Cond.code ny_C_dayIn nc_C_dayIn 1 (some .int) :: zw_big) ({ frames := 0, cells := 0, slots := 0, locals := 0 } : Room) (zw_N [.int x]) (zw_R (.int (zb_dayIn x))) 0 0 (fun _ => False) := by
  refine Met.ofW (cc := nc_C_dayIn) (maxL := 1) (ret := (some .int)) (by decide) rfl ?_
  intro p e s m args below meth c s₁ B hml hv
  have hv : args = [.int x].toArray := hv
  subst hv
  have hx := B.exec
  have hb := B.bytes
  have hr := B.returns
  have hts0 := atoms_spec (ws := Cond.code ny_C_dayIn nc_C_dayIn 1 (some .int) :: zw_big) B.pre
  have hts : ∀ w ∈ zw_big, w.before [.int x].toArray s = true := fun w h => hts0 w (List.mem_cons_of_mem _ h)
  have hown : s.vm.findClass nR_C = some m.cls := findClass_of_methodNamed B.named
  have hlk := B.notSynchronized
  have hl := lv_entry ([.int x]) (n := 1) (Nat.le_of_ble_eq_true rfl)
  rw [lg_entry_eq]
  generalize (lg_sl ([.int x]) ++ List.replicate (1 - (lg_sl ([.int x])).length) Slot.unset).toArray = ls at hl ⊢
  have hl : lv_has ls 1 [(0, .int x)] := hl
  have hF : CallFix p m c nc_C_dayIn 1 s [.int x].toArray zw_big nR_C := ⟨hx, hb, hml, hown, hts⟩
  refine lv_iload_n hx hb nd_C_dayIn_0 rfl (zv_at hl 0 rfl) ?_
  refine lv_bipush (v := 31) hx hb nd_C_dayIn_1 (by decide) ?_
  refine lv_iand hx hb nd_C_dayIn_3 ?_
  refine zw_iret hx hb hr hlk nd_C_dayIn_4 ?_
  all_goals rfl

set_option maxHeartbeats 4000000 in
set_option maxRecDepth 100000 in
theorem c_C_monthAndDay (l : Launch) (x : Int32) : Met l ny_C_monthAndDay (Cond.code ny_C_monthAndDay nc_C_monthAndDay 10 (some .int) :: zw_big) ({ frames := 1, cells := 0, slots := 0, locals := 22 } : Room) (zw_N [.int x]) (zw_R (.int (zb_md x))) 0 0 (fun _ => False) := by
  refine Met.ofW (cc := nc_C_monthAndDay) (maxL := 10) (ret := (some .int)) (by decide) rfl ?_
  intro p e s m args below meth c s₁ B hml hv
  have hv : args = [.int x].toArray := hv
  subst hv
  have hx := B.exec
  have hb := B.bytes
  have hr := B.returns
  have hts0 := atoms_spec (ws := Cond.code ny_C_monthAndDay nc_C_monthAndDay 10 (some .int) :: zw_big) B.pre
  have hts : ∀ w ∈ zw_big, w.before [.int x].toArray s = true := fun w h => hts0 w (List.mem_cons_of_mem _ h)
  have hown : s.vm.findClass nR_C = some m.cls := findClass_of_methodNamed B.named
  have hlk := B.notSynchronized
  have hl := lv_entry ([.int x]) (n := 10) (Nat.le_of_ble_eq_true rfl)
  rw [lg_entry_eq]
  generalize (lg_sl ([.int x]) ++ List.replicate (10 - (lg_sl ([.int x])).length) Slot.unset).toArray = ls at hl ⊢
  have hl : lv_has ls 10 [(0, .int x)] := hl
  have hF : CallFix p m c nc_C_monthAndDay 10 s [.int x].toArray zw_big nR_C := ⟨hx, hb, hml, hown, hts⟩
  refine lv_iload_n hx hb nd_C_monthAndDay_0 rfl (zv_at hl 0 rfl) ?_
  refine lv_bipush (v := 60) hx hb nd_C_monthAndDay_1 (by decide) ?_
  refine lv_isub hx hb nd_C_monthAndDay_3 ?_
  refine lv_istore_n hx hb nd_C_monthAndDay_4 rfl hl (by decide) rfl (fun ls hl => ?_)
  refine lv_iload_n hx hb nd_C_monthAndDay_5 rfl (zv_at hl 1 rfl) ?_
  refine lv_ldc (v := 146097) hx hb hown (hts _ nw_314) nd_C_monthAndDay_6 ?_
  refine zw_sR (As := [_, _]) (rest := _) hF (c_T_floorDiv l _ _ (by decide)) zw_preN nk_T_floorDiv nw_315 ⟨rfl, rfl, Nat.le_of_ble_eq_true rfl, Nat.le_of_ble_eq_true rfl⟩ rfl hl.1 rfl (Nat.le_of_ble_eq_true rfl) ⟨Nat.zero_le _, Nat.zero_le _⟩ nd_C_monthAndDay_8 ?_
  refine lv_istore_n hx hb nd_C_monthAndDay_11 rfl hl (by decide) rfl (fun ls hl => ?_)
  refine lv_iload_n hx hb nd_C_monthAndDay_12 rfl (zv_at hl 1 rfl) ?_
  refine lv_ldc (v := 146097) hx hb hown (hts _ nw_314) nd_C_monthAndDay_13 ?_
  refine zw_sR (As := [_, _]) (rest := _) hF (c_T_floorMod l _ _ (by decide)) zw_preN nk_T_floorMod nw_318 ⟨rfl, rfl, Nat.le_of_ble_eq_true rfl, Nat.le_of_ble_eq_true rfl⟩ rfl hl.1 rfl (Nat.le_of_ble_eq_true rfl) ⟨Nat.zero_le _, Nat.zero_le _⟩ nd_C_monthAndDay_15 ?_
  refine lv_istore_n hx hb nd_C_monthAndDay_18 rfl hl (by decide) rfl (fun ls hl => ?_)
  refine lv_iload_n hx hb nd_C_monthAndDay_19 rfl (zv_at hl 3 rfl) ?_
  refine lv_sipush (v := 1460) hx hb nd_C_monthAndDay_20 (by decide) ?_
  refine lv_idiv hx hb nd_C_monthAndDay_23 (by decide) ?_
  refine lv_iload_n hx hb nd_C_monthAndDay_24 rfl (zv_at hl 3 rfl) ?_
  refine lv_ldc (v := 36524) hx hb hown (hts _ nw_321) nd_C_monthAndDay_25 ?_
  refine lv_idiv hx hb nd_C_monthAndDay_27 (by decide) ?_
  refine lv_isub hx hb nd_C_monthAndDay_28 ?_
  refine lv_iload_n hx hb nd_C_monthAndDay_29 rfl (zv_at hl 3 rfl) ?_
  refine lv_ldc (v := 146096) hx hb hown (hts _ nw_322) nd_C_monthAndDay_30 ?_
  refine lv_idiv hx hb nd_C_monthAndDay_32 (by decide) ?_
  refine lv_iadd hx hb nd_C_monthAndDay_33 ?_
  refine lv_istore hx hb nd_C_monthAndDay_34 hl (by decide) rfl (fun ls hl => ?_)
  refine lv_iload_n hx hb nd_C_monthAndDay_36 rfl (zv_at hl 3 rfl) ?_
  refine lv_iload hx hb nd_C_monthAndDay_37 (zv_at hl 4 rfl) ?_
  refine lv_isub hx hb nd_C_monthAndDay_39 ?_
  refine lv_sipush (v := 365) hx hb nd_C_monthAndDay_40 (by decide) ?_
  refine lv_idiv hx hb nd_C_monthAndDay_43 (by decide) ?_
  refine lv_istore hx hb nd_C_monthAndDay_44 hl (by decide) rfl (fun ls hl => ?_)
  refine lv_iload_n hx hb nd_C_monthAndDay_46 rfl (zv_at hl 3 rfl) ?_
  refine lv_sipush (v := 365) hx hb nd_C_monthAndDay_47 (by decide) ?_
  refine lv_iload hx hb nd_C_monthAndDay_50 (zv_at hl 5 rfl) ?_
  refine lv_imul hx hb nd_C_monthAndDay_52 ?_
  refine lv_iload hx hb nd_C_monthAndDay_53 (zv_at hl 5 rfl) ?_
  refine lv_iconst (v := 4) hx hb nd_C_monthAndDay_55 (by decide) ?_
  refine lv_idiv hx hb nd_C_monthAndDay_56 (by decide) ?_
  refine lv_iadd hx hb nd_C_monthAndDay_57 ?_
  refine lv_iload hx hb nd_C_monthAndDay_58 (zv_at hl 5 rfl) ?_
  refine lv_bipush (v := 100) hx hb nd_C_monthAndDay_60 (by decide) ?_
  refine lv_idiv hx hb nd_C_monthAndDay_62 (by decide) ?_
  refine lv_isub hx hb nd_C_monthAndDay_63 ?_
  refine lv_isub hx hb nd_C_monthAndDay_64 ?_
  refine lv_istore hx hb nd_C_monthAndDay_65 hl (by decide) rfl (fun ls hl => ?_)
  refine lv_iconst (v := 5) hx hb nd_C_monthAndDay_67 (by decide) ?_
  refine lv_iload hx hb nd_C_monthAndDay_68 (zv_at hl 6 rfl) ?_
  refine lv_imul hx hb nd_C_monthAndDay_70 ?_
  refine lv_iconst (v := 2) hx hb nd_C_monthAndDay_71 (by decide) ?_
  refine lv_iadd hx hb nd_C_monthAndDay_72 ?_
  refine lv_sipush (v := 153) hx hb nd_C_monthAndDay_73 (by decide) ?_
  refine lv_idiv hx hb nd_C_monthAndDay_76 (by decide) ?_
  refine lv_istore hx hb nd_C_monthAndDay_77 hl (by decide) rfl (fun ls hl => ?_)
  refine lv_iload hx hb nd_C_monthAndDay_79 (zv_at hl 6 rfl) ?_
  refine lv_sipush (v := 153) hx hb nd_C_monthAndDay_81 (by decide) ?_
  refine lv_iload hx hb nd_C_monthAndDay_84 (zv_at hl 7 rfl) ?_
  refine lv_imul hx hb nd_C_monthAndDay_86 ?_
  refine lv_iconst (v := 2) hx hb nd_C_monthAndDay_87 (by decide) ?_
  refine lv_iadd hx hb nd_C_monthAndDay_88 ?_
  refine lv_iconst (v := 5) hx hb nd_C_monthAndDay_89 (by decide) ?_
  refine lv_idiv hx hb nd_C_monthAndDay_90 (by decide) ?_
  refine lv_isub hx hb nd_C_monthAndDay_91 ?_
  refine lv_iconst (v := 1) hx hb nd_C_monthAndDay_92 (by decide) ?_
  refine lv_iadd hx hb nd_C_monthAndDay_93 ?_
  refine lv_istore hx hb nd_C_monthAndDay_94 hl (by decide) rfl (fun ls hl => ?_)
  refine lv_sipush (v := 4800) hx hb nd_C_monthAndDay_96 (by decide) ?_
  refine lv_iload_n hx hb nd_C_monthAndDay_99 rfl (zv_at hl 2 rfl) ?_
  refine lv_imul hx hb nd_C_monthAndDay_100 ?_
  refine lv_bipush (v := 12) hx hb nd_C_monthAndDay_101 (by decide) ?_
  refine lv_iload hx hb nd_C_monthAndDay_103 (zv_at hl 5 rfl) ?_
  refine lv_imul hx hb nd_C_monthAndDay_105 ?_
  refine lv_iadd hx hb nd_C_monthAndDay_106 ?_
  refine lv_iload hx hb nd_C_monthAndDay_107 (zv_at hl 7 rfl) ?_
  refine lv_iadd hx hb nd_C_monthAndDay_109 ?_
  refine lv_istore hx hb nd_C_monthAndDay_110 hl (by decide) rfl (fun ls hl => ?_)
  refine lv_iload hx hb nd_C_monthAndDay_112 (zv_at hl 9 rfl) ?_
  refine lv_iconst (v := 5) hx hb nd_C_monthAndDay_114 (by decide) ?_
  refine lv_ishl hx hb nd_C_monthAndDay_115 ?_
  refine lv_iload hx hb nd_C_monthAndDay_116 (zv_at hl 8 rfl) ?_
  refine lv_iadd hx hb nd_C_monthAndDay_118 ?_
  refine zw_iret hx hb hr hlk nd_C_monthAndDay_119 ?_
  all_goals rfl

set_option maxHeartbeats 4000000 in
set_option maxRecDepth 100000 in
theorem c_C_countByMonths (l : Launch) (x y : Int32) : Met l ny_C_countByMonths (Cond.code ny_C_countByMonths nc_C_countByMonths 6 (some .int) :: zw_big) ({ frames := 2, cells := 0, slots := 0, locals := 51 } : Room) (zw_N [.int x, .int y]) (zw_R (.int (zb_byMonths x y))) 0 0 (fun _ => False) := by
  refine Met.ofW (cc := nc_C_countByMonths) (maxL := 6) (ret := (some .int)) (by decide) rfl ?_
  intro p e s m args below meth c s₁ B hml hv
  have hv : args = [.int x, .int y].toArray := hv
  subst hv
  have hx := B.exec
  have hb := B.bytes
  have hr := B.returns
  have hts0 := atoms_spec (ws := Cond.code ny_C_countByMonths nc_C_countByMonths 6 (some .int) :: zw_big) B.pre
  have hts : ∀ w ∈ zw_big, w.before [.int x, .int y].toArray s = true := fun w h => hts0 w (List.mem_cons_of_mem _ h)
  have hown : s.vm.findClass nR_C = some m.cls := findClass_of_methodNamed B.named
  have hlk := B.notSynchronized
  have hl := lv_entry ([.int x, .int y]) (n := 6) (Nat.le_of_ble_eq_true rfl)
  rw [lg_entry_eq]
  generalize (lg_sl ([.int x, .int y]) ++ List.replicate (6 - (lg_sl ([.int x, .int y])).length) Slot.unset).toArray = ls at hl ⊢
  have hl : lv_has ls 6 [(0, .int x), (1, .int y)] := hl
  have hF : CallFix p m c nc_C_countByMonths 6 s [.int x, .int y].toArray zw_big nR_C := ⟨hx, hb, hml, hown, hts⟩
  refine lv_iload_n hx hb nd_C_countByMonths_0 rfl (zv_at hl 0 rfl) ?_
  refine zw_sR (As := [_]) (rest := _) hF (c_C_monthAndDay l _) zw_preN nk_C_monthAndDay nw_378 ⟨rfl, rfl, Nat.le_of_ble_eq_true rfl, Nat.le_of_ble_eq_true rfl⟩ rfl hl.1 rfl (Nat.le_of_ble_eq_true rfl) ⟨Nat.zero_le _, Nat.zero_le _⟩ nd_C_countByMonths_1 ?_
  refine lv_istore_n hx hb nd_C_countByMonths_4 rfl hl (by decide) rfl (fun ls hl => ?_)
  refine lv_iload_n hx hb nd_C_countByMonths_5 rfl (zv_at hl 1 rfl) ?_
  refine zw_sR (As := [_]) (rest := _) hF (c_C_monthAndDay l _) zw_preN nk_C_monthAndDay nw_378 ⟨rfl, rfl, Nat.le_of_ble_eq_true rfl, Nat.le_of_ble_eq_true rfl⟩ rfl hl.1 rfl (Nat.le_of_ble_eq_true rfl) ⟨Nat.zero_le _, Nat.zero_le _⟩ nd_C_countByMonths_6 ?_
  refine lv_istore_n hx hb nd_C_countByMonths_9 rfl hl (by decide) rfl (fun ls hl => ?_)
  refine lv_iload_n hx hb nd_C_countByMonths_10 rfl (zv_at hl 2 rfl) ?_
  refine zw_sR (As := [_]) (rest := _) hF (c_C_dayIn l _) zw_preN nk_C_dayIn nw_379 ⟨rfl, rfl, Nat.le_of_ble_eq_true rfl, Nat.le_of_ble_eq_true rfl⟩ rfl hl.1 rfl (Nat.le_of_ble_eq_true rfl) ⟨Nat.zero_le _, Nat.zero_le _⟩ nd_C_countByMonths_11 ?_
  refine lv_bipush (v := 30) hx hb nd_C_countByMonths_14 (by decide) ?_
  refine zw_sR (As := [_, _]) (rest := _) hF (c_T_min l _ _) zw_preN nk_T_min nw_380 ⟨rfl, rfl, Nat.le_of_ble_eq_true rfl, Nat.le_of_ble_eq_true rfl⟩ rfl hl.1 rfl (Nat.le_of_ble_eq_true rfl) ⟨Nat.zero_le _, Nat.zero_le _⟩ nd_C_countByMonths_16 ?_
  refine lv_istore hx hb nd_C_countByMonths_19 hl (by decide) rfl (fun ls hl => ?_)
  refine lv_iload_n hx hb nd_C_countByMonths_21 rfl (zv_at hl 3 rfl) ?_
  refine zw_sR (As := [_]) (rest := _) hF (c_C_dayIn l _) zw_preN nk_C_dayIn nw_379 ⟨rfl, rfl, Nat.le_of_ble_eq_true rfl, Nat.le_of_ble_eq_true rfl⟩ rfl hl.1 rfl (Nat.le_of_ble_eq_true rfl) ⟨Nat.zero_le _, Nat.zero_le _⟩ nd_C_countByMonths_22 ?_
  refine lv_istore hx hb nd_C_countByMonths_25 hl (by decide) rfl (fun ls hl => ?_)
  refine lv_iload hx hb nd_C_countByMonths_27 (zv_at hl 4 rfl) ?_
  refine lv_bipush (v := 30) hx hb nd_C_countByMonths_29 (by decide) ?_
  refine lv_icmp_ne (tgt := 45) hx hb nd_C_countByMonths_31 (by decide) (fun h_31 => ?_) (fun h_31 => ?_)
  · skip
    refine lv_bipush (v := 30) hx hb nd_C_countByMonths_45 (by decide) ?_
    refine lv_iload_n hx hb nd_C_countByMonths_47 rfl (zv_at hl 3 rfl) ?_
    refine zw_sR (As := [_]) (rest := _) hF (c_C_monthIn l _) zw_preN nk_C_monthIn nw_381 ⟨rfl, rfl, Nat.le_of_ble_eq_true rfl, Nat.le_of_ble_eq_true rfl⟩ rfl hl.1 rfl (Nat.le_of_ble_eq_true rfl) ⟨Nat.zero_le _, Nat.zero_le _⟩ nd_C_countByMonths_48 ?_
    refine lv_iload_n hx hb nd_C_countByMonths_51 rfl (zv_at hl 2 rfl) ?_
    refine zw_sR (As := [_]) (rest := _) hF (c_C_monthIn l _) zw_preN nk_C_monthIn nw_381 ⟨rfl, rfl, Nat.le_of_ble_eq_true rfl, Nat.le_of_ble_eq_true rfl⟩ rfl hl.1 rfl (Nat.le_of_ble_eq_true rfl) ⟨Nat.zero_le _, Nat.zero_le _⟩ nd_C_countByMonths_52 ?_
    refine lv_isub hx hb nd_C_countByMonths_55 ?_
    refine lv_imul hx hb nd_C_countByMonths_56 ?_
    refine lv_iload hx hb nd_C_countByMonths_57 (zv_at hl 5 rfl) ?_
    refine lv_iadd hx hb nd_C_countByMonths_59 ?_
    refine lv_iload hx hb nd_C_countByMonths_60 (zv_at hl 4 rfl) ?_
    refine lv_isub hx hb nd_C_countByMonths_62 ?_
    refine zw_iret hx hb hr hlk nd_C_countByMonths_63 ?_
    unfold zb_byMonths zb_lastDay
    first | rw [if_neg h_31] | rw [if_pos h_31, if_neg h_38] | rw [if_pos h_31, if_pos h_38]
  · skip
    refine lv_iload hx hb nd_C_countByMonths_34 (zv_at hl 5 rfl) ?_
    refine lv_bipush (v := 31) hx hb nd_C_countByMonths_36 (by decide) ?_
    refine lv_icmp_ne (tgt := 45) hx hb nd_C_countByMonths_38 (by decide) (fun h_38 => ?_) (fun h_38 => ?_)
    · skip
      refine lv_bipush (v := 30) hx hb nd_C_countByMonths_45 (by decide) ?_
      refine lv_iload_n hx hb nd_C_countByMonths_47 rfl (zv_at hl 3 rfl) ?_
      refine zw_sR (As := [_]) (rest := _) hF (c_C_monthIn l _) zw_preN nk_C_monthIn nw_381 ⟨rfl, rfl, Nat.le_of_ble_eq_true rfl, Nat.le_of_ble_eq_true rfl⟩ rfl hl.1 rfl (Nat.le_of_ble_eq_true rfl) ⟨Nat.zero_le _, Nat.zero_le _⟩ nd_C_countByMonths_48 ?_
      refine lv_iload_n hx hb nd_C_countByMonths_51 rfl (zv_at hl 2 rfl) ?_
      refine zw_sR (As := [_]) (rest := _) hF (c_C_monthIn l _) zw_preN nk_C_monthIn nw_381 ⟨rfl, rfl, Nat.le_of_ble_eq_true rfl, Nat.le_of_ble_eq_true rfl⟩ rfl hl.1 rfl (Nat.le_of_ble_eq_true rfl) ⟨Nat.zero_le _, Nat.zero_le _⟩ nd_C_countByMonths_52 ?_
      refine lv_isub hx hb nd_C_countByMonths_55 ?_
      refine lv_imul hx hb nd_C_countByMonths_56 ?_
      refine lv_iload hx hb nd_C_countByMonths_57 (zv_at hl 5 rfl) ?_
      refine lv_iadd hx hb nd_C_countByMonths_59 ?_
      refine lv_iload hx hb nd_C_countByMonths_60 (zv_at hl 4 rfl) ?_
      refine lv_isub hx hb nd_C_countByMonths_62 ?_
      refine zw_iret hx hb hr hlk nd_C_countByMonths_63 ?_
      unfold zb_byMonths zb_lastDay
      first | rw [if_neg h_31] | rw [if_pos h_31, if_neg h_38] | rw [if_pos h_31, if_pos h_38]
    · skip
      refine lv_bipush (v := 30) hx hb nd_C_countByMonths_41 (by decide) ?_
      refine lv_istore hx hb nd_C_countByMonths_43 hl (by decide) rfl (fun ls hl => ?_)
      refine lv_bipush (v := 30) hx hb nd_C_countByMonths_45 (by decide) ?_
      refine lv_iload_n hx hb nd_C_countByMonths_47 rfl (zv_at hl 3 rfl) ?_
      refine zw_sR (As := [_]) (rest := _) hF (c_C_monthIn l _) zw_preN nk_C_monthIn nw_381 ⟨rfl, rfl, Nat.le_of_ble_eq_true rfl, Nat.le_of_ble_eq_true rfl⟩ rfl hl.1 rfl (Nat.le_of_ble_eq_true rfl) ⟨Nat.zero_le _, Nat.zero_le _⟩ nd_C_countByMonths_48 ?_
      refine lv_iload_n hx hb nd_C_countByMonths_51 rfl (zv_at hl 2 rfl) ?_
      refine zw_sR (As := [_]) (rest := _) hF (c_C_monthIn l _) zw_preN nk_C_monthIn nw_381 ⟨rfl, rfl, Nat.le_of_ble_eq_true rfl, Nat.le_of_ble_eq_true rfl⟩ rfl hl.1 rfl (Nat.le_of_ble_eq_true rfl) ⟨Nat.zero_le _, Nat.zero_le _⟩ nd_C_countByMonths_52 ?_
      refine lv_isub hx hb nd_C_countByMonths_55 ?_
      refine lv_imul hx hb nd_C_countByMonths_56 ?_
      refine lv_iload hx hb nd_C_countByMonths_57 (zv_at hl 5 rfl) ?_
      refine lv_iadd hx hb nd_C_countByMonths_59 ?_
      refine lv_iload hx hb nd_C_countByMonths_60 (zv_at hl 4 rfl) ?_
      refine lv_isub hx hb nd_C_countByMonths_62 ?_
      refine zw_iret hx hb hr hlk nd_C_countByMonths_63 ?_
      unfold zb_byMonths zb_lastDay
      first | rw [if_neg h_31] | rw [if_pos h_31, if_neg h_38] | rw [if_pos h_31, if_pos h_38]

set_option maxHeartbeats 4000000 in
set_option maxRecDepth 100000 in
theorem c_C_dayCount (l : Launch) (b x y : Int32) : Met l ny_C_dayCount (Cond.code ny_C_dayCount nc_C_dayCount 3 (some .int) :: zw_big) ({ frames := 3, cells := 0, slots := 0, locals := 76 } : Room) (zw_N [.int b, .int x, .int y]) (zw_R (.int (zb_dayCount b x y))) 0 0 (fun _ => False) := by
  refine Met.ofW (cc := nc_C_dayCount) (maxL := 3) (ret := (some .int)) (by decide) rfl ?_
  intro p e s m args below meth c s₁ B hml hv
  have hv : args = [.int b, .int x, .int y].toArray := hv
  subst hv
  have hx := B.exec
  have hb := B.bytes
  have hr := B.returns
  have hts0 := atoms_spec (ws := Cond.code ny_C_dayCount nc_C_dayCount 3 (some .int) :: zw_big) B.pre
  have hts : ∀ w ∈ zw_big, w.before [.int b, .int x, .int y].toArray s = true := fun w h => hts0 w (List.mem_cons_of_mem _ h)
  have hown : s.vm.findClass nR_C = some m.cls := findClass_of_methodNamed B.named
  have hlk := B.notSynchronized
  have hl := lv_entry ([.int b, .int x, .int y]) (n := 3) (Nat.le_of_ble_eq_true rfl)
  rw [lg_entry_eq]
  generalize (lg_sl ([.int b, .int x, .int y]) ++ List.replicate (3 - (lg_sl ([.int b, .int x, .int y])).length) Slot.unset).toArray = ls at hl ⊢
  have hl : lv_has ls 3 [(0, .int b), (1, .int x), (2, .int y)] := hl
  have hF : CallFix p m c nc_C_dayCount 3 s [.int b, .int x, .int y].toArray zw_big nR_C := ⟨hx, hb, hml, hown, hts⟩
  refine lv_iload_n hx hb nd_C_dayCount_0 rfl (zv_at hl 0 rfl) ?_
  refine lv_iconst (v := 2) hx hb nd_C_dayCount_1 (by decide) ?_
  refine lv_icmp_ne (tgt := 13) hx hb nd_C_dayCount_2 (by decide) (fun h_2 => ?_) (fun h_2 => ?_)
  · skip
    refine lv_iload_n hx hb nd_C_dayCount_13 rfl (zv_at hl 2 rfl) ?_
    refine lv_iload_n hx hb nd_C_dayCount_14 rfl (zv_at hl 1 rfl) ?_
    refine lv_isub hx hb nd_C_dayCount_15 ?_
    refine zw_iret hx hb hr hlk nd_C_dayCount_16 ?_
    unfold zb_dayCount
    first | rw [if_pos h_2] | rw [if_neg h_2]
  · skip
    refine lv_iload_n hx hb nd_C_dayCount_5 rfl (zv_at hl 1 rfl) ?_
    refine lv_iload_n hx hb nd_C_dayCount_6 rfl (zv_at hl 2 rfl) ?_
    refine zw_sR (As := [_, _]) (rest := _) hF (c_C_countByMonths l _ _) zw_preN nk_C_countByMonths nw_375 ⟨rfl, rfl, Nat.le_of_ble_eq_true rfl, Nat.le_of_ble_eq_true rfl⟩ rfl hl.1 rfl (Nat.le_of_ble_eq_true rfl) ⟨Nat.zero_le _, Nat.zero_le _⟩ nd_C_dayCount_7 ?_
    refine lv_goto (tgt := 16) hx hb nd_C_dayCount_10 (by decide) ?_
    refine zw_iret hx hb hr hlk nd_C_dayCount_16 ?_
    unfold zb_dayCount
    first | rw [if_pos h_2] | rw [if_neg h_2]

set_option maxHeartbeats 4000000 in
set_option maxRecDepth 100000 in
theorem c_C_isLastOfMonth (l : Launch) (x : Int32) : Met l ny_C_isLastOfMonth (Cond.code ny_C_isLastOfMonth nc_C_isLastOfMonth 1 (some .boolean) :: zw_big) ({ frames := 2, cells := 0, slots := 0, locals := 51 } : Room) (zw_N [.int x]) (zw_R (.int (zb_isLast x))) 0 0 (fun _ => False) := by
  refine Met.ofW (cc := nc_C_isLastOfMonth) (maxL := 1) (ret := (some .boolean)) (by decide) rfl ?_
  intro p e s m args below meth c s₁ B hml hv
  have hv : args = [.int x].toArray := hv
  subst hv
  have hx := B.exec
  have hb := B.bytes
  have hr := B.returns
  have hts0 := atoms_spec (ws := Cond.code ny_C_isLastOfMonth nc_C_isLastOfMonth 1 (some .boolean) :: zw_big) B.pre
  have hts : ∀ w ∈ zw_big, w.before [.int x].toArray s = true := fun w h => hts0 w (List.mem_cons_of_mem _ h)
  have hown : s.vm.findClass nR_C = some m.cls := findClass_of_methodNamed B.named
  have hlk := B.notSynchronized
  have hl := lv_entry ([.int x]) (n := 1) (Nat.le_of_ble_eq_true rfl)
  rw [lg_entry_eq]
  generalize (lg_sl ([.int x]) ++ List.replicate (1 - (lg_sl ([.int x])).length) Slot.unset).toArray = ls at hl ⊢
  have hl : lv_has ls 1 [(0, .int x)] := hl
  have hF : CallFix p m c nc_C_isLastOfMonth 1 s [.int x].toArray zw_big nR_C := ⟨hx, hb, hml, hown, hts⟩
  refine lv_iload_n hx hb nd_C_isLastOfMonth_0 rfl (zv_at hl 0 rfl) ?_
  refine lv_iconst (v := 1) hx hb nd_C_isLastOfMonth_1 (by decide) ?_
  refine lv_iadd hx hb nd_C_isLastOfMonth_2 ?_
  refine zw_sR (As := [_]) (rest := _) hF (c_C_monthAndDay l _) zw_preN nk_C_monthAndDay nw_378 ⟨rfl, rfl, Nat.le_of_ble_eq_true rfl, Nat.le_of_ble_eq_true rfl⟩ rfl hl.1 rfl (Nat.le_of_ble_eq_true rfl) ⟨Nat.zero_le _, Nat.zero_le _⟩ nd_C_isLastOfMonth_3 ?_
  refine zw_sR (As := [_]) (rest := _) hF (c_C_dayIn l _) zw_preN nk_C_dayIn nw_379 ⟨rfl, rfl, Nat.le_of_ble_eq_true rfl, Nat.le_of_ble_eq_true rfl⟩ rfl hl.1 rfl (Nat.le_of_ble_eq_true rfl) ⟨Nat.zero_le _, Nat.zero_le _⟩ nd_C_isLastOfMonth_6 ?_
  refine lv_iconst (v := 1) hx hb nd_C_isLastOfMonth_9 (by decide) ?_
  refine lv_icmp_ne (tgt := 17) hx hb nd_C_isLastOfMonth_10 (by decide) (fun h_10 => ?_) (fun h_10 => ?_)
  · skip
    refine lv_iconst (v := 0) hx hb nd_C_isLastOfMonth_17 (by decide) ?_
    refine zw_zret hx hb hr hlk nd_C_isLastOfMonth_18 (by decide) ?_
    unfold zb_isLast
    first | rw [if_pos h_10] | rw [if_neg h_10]
  · skip
    refine lv_iconst (v := 1) hx hb nd_C_isLastOfMonth_13 (by decide) ?_
    refine lv_goto (tgt := 18) hx hb nd_C_isLastOfMonth_14 (by decide) ?_
    refine zw_zret hx hb hr hlk nd_C_isLastOfMonth_18 (by decide) ?_
    unfold zb_isLast
    first | rw [if_pos h_10] | rw [if_neg h_10]
end
section
/-- what holds of a state of the class -/
def zb_I (S : zb_S) : Prop := (∃ n, n ≤ 6 ∧ zb_n S = nI n) ∧ (∃ o, o ≤ 6 ∧ zb_o S = nI o) ∧ (∃ r, r ≤ 8 ∧ zb_dm S = nI r) ∧ (∀ i, ∃ c, c < 3 ∧ zb_cur S i = nI c) ∧ (∀ k j, zb_hol S k = some j → j < 6) ∧ (∀ k j, zb_pyr S k = some j → j < 6 ∧ ∃ d, 1 ≤ d ∧ d ≤ 31 ∧ zb_ody S k = nI d) ∧ (∀ k j, zb_pye S k = some j → j < 6)
theorem zb_unit_ne (S : zb_S) (i : Nat) : ¬ zb_unit S i = 0 := by
  unfold zb_unit zb_yearOf
  split <;> decide

set_option maxHeartbeats 4000000 in
set_option maxRecDepth 100000 in
theorem c_A_spendable (l : Launch) (D : va_G) (G : zg_G) (S : zb_S) (i : Nat) (hi : i < 6) : Met l ny_A_spendable (Cond.code ny_A_spendable nc_A_spendable 1 (some .long) :: zw_big) ({ frames := 0, cells := 0, slots := 0, locals := 0 } : Room) (zw_P [.ref (zg_acc G i)] D (zb_tys G) (zb_cells G S)) (zw_R (.long (zb_spend S i))) 0 0 (fun _ => False) := by
  refine Met.ofW (cc := nc_A_spendable) (maxL := 1) (ret := (some .long)) (by decide) rfl ?_
  intro p e s m args below meth c s₁ B hml hv
  obtain ⟨rfl, hP, hK⟩ := hv
  have hx := B.exec
  have hb := B.bytes
  have hr := B.returns
  have hts0 := atoms_spec (ws := Cond.code ny_A_spendable nc_A_spendable 1 (some .long) :: zw_big) B.pre
  have hts : ∀ w ∈ zw_big, w.before [.ref (zg_acc G i)].toArray s = true := fun w h => hts0 w (List.mem_cons_of_mem _ h)
  have hown : s.vm.findClass nR_A = some m.cls := findClass_of_methodNamed B.named
  have hlk := B.notSynchronized
  have hl := lv_entry ([.ref (zg_acc G i)]) (n := 1) (Nat.le_of_ble_eq_true rfl)
  rw [lg_entry_eq]
  generalize (lg_sl ([.ref (zg_acc G i)]) ++ List.replicate (1 - (lg_sl ([.ref (zg_acc G i)])).length) Slot.unset).toArray = ls at hl ⊢
  have hl : lv_has ls 1 [(0, .ref (zg_acc G i))] := hl
  have hF : CallFix p m c nc_A_spendable 1 s [.ref (zg_acc G i)].toArray zw_big nR_A := ⟨hx, hb, hml, hown, hts⟩
  refine lv_aload_n hx hb nd_A_spendable_0 rfl (zv_at hl 0 rfl) ?_
  refine zb_getA hx hb hts hown hK hP (by assumption) 5 (by decide) (hts _ nw_83) rfl nd_A_spendable_1 ?_
  refine lv_aload_n hx hb nd_A_spendable_4 rfl (zv_at hl 0 rfl) ?_
  refine zb_getA hx hb hts hown hK hP (by assumption) 3 (by decide) (hts _ nw_79) rfl nd_A_spendable_5 ?_
  refine lv_i2l (v := _) hx hb nd_A_spendable_8 rfl ?_
  refine lv_ladd hx hb nd_A_spendable_9 ?_
  refine lv_aload_n hx hb nd_A_spendable_10 rfl (zv_at hl 0 rfl) ?_
  refine zb_getA hx hb hts hown hK hP (by assumption) 6 (by decide) (hts _ nw_85) rfl nd_A_spendable_11 ?_
  refine lv_lsub hx hb nd_A_spendable_14 ?_
  refine zw_lret hx hb hr hlk nd_A_spendable_15 ?_
  all_goals rfl

set_option maxHeartbeats 4000000 in
set_option maxRecDepth 100000 in
theorem c_A_accrue (l : Launch) (D : va_G) (G : zg_G) (hG : zw_apart (zb_adr G)) (S : zb_S) (i : Nat) (hi : i < 6) (k : Int32) : Met l ny_A_accrue (Cond.code ny_A_accrue nc_A_accrue 2 none :: zw_big) ({ frames := 0, cells := 0, slots := 0, locals := 0 } : Room) (zw_P [.ref (zg_acc G i), .int k] D (zb_tys G) (zb_cells G S)) (zb_Qv D G (zb_accrue S i k)) 0 0 (zb_Ad G) := by
  refine Met.ofW (cc := nc_A_accrue) (maxL := 2) (ret := none) (by decide) rfl ?_
  intro p e s m args below meth c s₁ B hml hv
  obtain ⟨rfl, hP, hK⟩ := hv
  have hx := B.exec
  have hb := B.bytes
  have hr := B.returns
  have hts0 := atoms_spec (ws := Cond.code ny_A_accrue nc_A_accrue 2 none :: zw_big) B.pre
  have hts : ∀ w ∈ zw_big, w.before [.ref (zg_acc G i), .int k].toArray s = true := fun w h => hts0 w (List.mem_cons_of_mem _ h)
  have hown : s.vm.findClass nR_A = some m.cls := findClass_of_methodNamed B.named
  have hlk := B.notSynchronized
  have hS : va_S (zb_Ad G) s.heap s.heap [] := va_S.rf
  have hl := lv_entry ([.ref (zg_acc G i), .int k]) (n := 2) (Nat.le_of_ble_eq_true rfl)
  rw [lg_entry_eq]
  generalize (lg_sl ([.ref (zg_acc G i), .int k]) ++ List.replicate (2 - (lg_sl ([.ref (zg_acc G i), .int k])).length) Slot.unset).toArray = ls at hl ⊢
  have hl : lv_has ls 2 [(0, .ref (zg_acc G i)), (1, .int k)] := hl
  have hF : CallFix p m c nc_A_accrue 2 s [.ref (zg_acc G i), .int k].toArray zw_big nR_A := ⟨hx, hb, hml, hown, hts⟩
  refine lv_aload_n hx hb nd_A_accrue_0 rfl (zv_at hl 0 rfl) ?_
  refine lv_dup hx hb nd_A_accrue_1 rfl ?_
  refine zb_getA hx hb hts hown hK hP (by assumption) 7 (by decide) (hts _ nw_87) rfl nd_A_accrue_2 ?_
  refine lv_aload_n hx hb nd_A_accrue_5 rfl (zv_at hl 0 rfl) ?_
  refine zb_getA hx hb hts hown hK hP (by assumption) 5 (by decide) (hts _ nw_83) rfl nd_A_accrue_6 ?_
  refine lv_aload_n hx hb nd_A_accrue_9 rfl (zv_at hl 0 rfl) ?_
  refine zb_getA hx hb hts hown hK hP (by assumption) 4 (by decide) (hts _ nw_82) rfl nd_A_accrue_10 ?_
  refine lv_i2l (v := _) hx hb nd_A_accrue_13 rfl ?_
  refine lv_lmul hx hb nd_A_accrue_14 ?_
  refine lv_iload_n hx hb nd_A_accrue_15 rfl (zv_at hl 1 rfl) ?_
  refine lv_i2l (v := _) hx hb nd_A_accrue_16 rfl ?_
  refine lv_lmul hx hb nd_A_accrue_17 ?_
  refine lv_ladd hx hb nd_A_accrue_18 ?_
  refine zb_put_acr hx hb hts hown hK hG hP hS (by assumption) (hts _ nw_87) nd_A_accrue_19 (fun H locs hP hS => ?_)
  refine zb_vret hx hb hr hlk nd_A_accrue_22 hP hS ?_
  all_goals rfl

set_option maxHeartbeats 4000000 in
set_option maxRecDepth 100000 in
theorem c_A_nearest (l : Launch) (x u : Int64) (hu : ¬ u = 0) : Met l ny_A_nearest (Cond.code ny_A_nearest nc_A_nearest 10 (some .long) :: zw_big) ({ frames := 1, cells := 0, slots := 0, locals := 25 } : Room) (zw_N [.long x, .long u]) (zw_R (.long (zb_near x u))) 0 0 (fun _ => False) := by
  refine Met.ofW (cc := nc_A_nearest) (maxL := 10) (ret := (some .long)) (by decide) rfl ?_
  intro p e s m args below meth c s₁ B hml hv
  have hv : args = [.long x, .long u].toArray := hv
  subst hv
  have hx := B.exec
  have hb := B.bytes
  have hr := B.returns
  have hts0 := atoms_spec (ws := Cond.code ny_A_nearest nc_A_nearest 10 (some .long) :: zw_big) B.pre
  have hts : ∀ w ∈ zw_big, w.before [.long x, .long u].toArray s = true := fun w h => hts0 w (List.mem_cons_of_mem _ h)
  have hown : s.vm.findClass nR_A = some m.cls := findClass_of_methodNamed B.named
  have hlk := B.notSynchronized
  have hl := lv_entry ([.long x, .long u]) (n := 10) (Nat.le_of_ble_eq_true rfl)
  rw [lg_entry_eq]
  generalize (lg_sl ([.long x, .long u]) ++ List.replicate (10 - (lg_sl ([.long x, .long u])).length) Slot.unset).toArray = ls at hl ⊢
  have hl : lv_has ls 10 [(0, .long x), (2, .long u)] := hl
  have hF : CallFix p m c nc_A_nearest 10 s [.long x, .long u].toArray zw_big nR_A := ⟨hx, hb, hml, hown, hts⟩
  refine lv_lload_n hx hb nd_A_nearest_0 rfl (zv_at hl 0 rfl) ?_
  refine lv_lload_n hx hb nd_A_nearest_1 rfl (zv_at hl 2 rfl) ?_
  refine zw_sR (As := [_, _]) (rest := _) hF (c_T_floorDivL l _ _ hu) zw_preN nk_T_floorDivL nw_400 ⟨rfl, rfl, Nat.le_of_ble_eq_true rfl, Nat.le_of_ble_eq_true rfl⟩ rfl hl.1 rfl (Nat.le_of_ble_eq_true rfl) ⟨Nat.zero_le _, Nat.zero_le _⟩ nd_A_nearest_2 ?_
  refine lv_lstore hx hb nd_A_nearest_5 hl (by decide) rfl (fun ls hl => ?_)
  refine lv_ldc2 (v := 2) hx hb hown (hts _ nw_403) nd_A_nearest_7 ?_
  refine lv_lload_n hx hb nd_A_nearest_10 rfl (zv_at hl 0 rfl) ?_
  refine lv_lload hx hb nd_A_nearest_11 (zv_at hl 4 rfl) ?_
  refine lv_lload_n hx hb nd_A_nearest_13 rfl (zv_at hl 2 rfl) ?_
  refine lv_lmul hx hb nd_A_nearest_14 ?_
  refine lv_lsub hx hb nd_A_nearest_15 ?_
  refine lv_lmul hx hb nd_A_nearest_16 ?_
  refine lv_lstore hx hb nd_A_nearest_17 hl (by decide) rfl (fun ls hl => ?_)
  refine lv_lload hx hb nd_A_nearest_19 (zv_at hl 4 rfl) ?_
  refine lv_lconst (v := 1) hx hb nd_A_nearest_21 (by decide) ?_
  refine lv_land hx hb nd_A_nearest_22 ?_
  refine lv_lconst (v := 1) hx hb nd_A_nearest_23 (by decide) ?_
  refine W.lcmp hx hb nd_A_nearest_24 ?_
  refine lv_if_ne (tgt := 32) hx hb nd_A_nearest_25 (by decide) (fun h_25 => ?_) (fun h_25 => ?_)
  · skip
    have h_25 := (show ¬ _ from fun q => h_25 ((lg_cmp_eq _ _).mpr q))
    refine lv_iconst (v := 0) hx hb nd_A_nearest_32 (by decide) ?_
    refine lv_istore hx hb nd_A_nearest_33 hl (by decide) rfl (fun ls hl => ?_)
    refine lv_lload hx hb nd_A_nearest_35 (zv_at hl 6 rfl) ?_
    refine lv_lload_n hx hb nd_A_nearest_37 rfl (zv_at hl 2 rfl) ?_
    refine W.lcmp hx hb nd_A_nearest_38 ?_
    refine lv_if_gt (tgt := 54) hx hb nd_A_nearest_39 (by decide) (fun h_39 => ?_) (fun h_39 => ?_)
    · skip
      have h_39 := (lg_cmp_gt _ _).mp h_39
      refine lv_iconst (v := 1) hx hb nd_A_nearest_54 (by decide) ?_
      refine lv_goto (tgt := 59) hx hb nd_A_nearest_55 (by decide) ?_
      refine lv_istore hx hb nd_A_nearest_59 hl (by decide) rfl (fun ls hl => ?_)
      refine lv_iload hx hb nd_A_nearest_61 (zv_at hl 9 rfl) ?_
      refine lv_if_eq (tgt := 73) hx hb nd_A_nearest_63 (by decide) (fun h_63 => ?_) (fun h_63 => ?_)
      · skip
        refine lv_lload hx hb nd_A_nearest_73 (zv_at hl 4 rfl) ?_
        refine zw_lret hx hb hr hlk nd_A_nearest_75 ?_
        unfold zb_near zb_near2
        first
          | exact absurd h_63 (by decide)
          | exact absurd h_51 (by decide)
          | rw [if_neg (Int64.not_le.mpr h_39)]
          | rw [if_pos (Int64.not_lt.mp h_39), if_neg h_46]
          | rw [if_pos (Int64.not_lt.mp h_39), if_pos h_46, if_pos h_25]
          | rw [if_pos (Int64.not_lt.mp h_39), if_pos h_46, if_neg h_25]
      · skip
        refine lv_lload hx hb nd_A_nearest_66 (zv_at hl 4 rfl) ?_
        refine lv_lconst (v := 1) hx hb nd_A_nearest_68 (by decide) ?_
        refine lv_ladd hx hb nd_A_nearest_69 ?_
        refine lv_goto (tgt := 75) hx hb nd_A_nearest_70 (by decide) ?_
        refine zw_lret hx hb hr hlk nd_A_nearest_75 ?_
        unfold zb_near zb_near2
        first
          | exact absurd h_63 (by decide)
          | exact absurd h_51 (by decide)
          | rw [if_neg (Int64.not_le.mpr h_39)]
          | rw [if_pos (Int64.not_lt.mp h_39), if_neg h_46]
          | rw [if_pos (Int64.not_lt.mp h_39), if_pos h_46, if_pos h_25]
          | rw [if_pos (Int64.not_lt.mp h_39), if_pos h_46, if_neg h_25]
    · skip
      have h_39 := (show ¬ _ from fun q => h_39 ((lg_cmp_gt _ _).mpr q))
      refine lv_lload hx hb nd_A_nearest_42 (zv_at hl 6 rfl) ?_
      refine lv_lload_n hx hb nd_A_nearest_44 rfl (zv_at hl 2 rfl) ?_
      refine W.lcmp hx hb nd_A_nearest_45 ?_
      refine lv_if_ne (tgt := 58) hx hb nd_A_nearest_46 (by decide) (fun h_46 => ?_) (fun h_46 => ?_)
      · skip
        have h_46 := (show ¬ _ from fun q => h_46 ((lg_cmp_eq _ _).mpr q))
        refine lv_iconst (v := 0) hx hb nd_A_nearest_58 (by decide) ?_
        refine lv_istore hx hb nd_A_nearest_59 hl (by decide) rfl (fun ls hl => ?_)
        refine lv_iload hx hb nd_A_nearest_61 (zv_at hl 9 rfl) ?_
        refine lv_if_eq (tgt := 73) hx hb nd_A_nearest_63 (by decide) (fun h_63 => ?_) (fun h_63 => ?_)
        · skip
          refine lv_lload hx hb nd_A_nearest_73 (zv_at hl 4 rfl) ?_
          refine zw_lret hx hb hr hlk nd_A_nearest_75 ?_
          unfold zb_near zb_near2
          first
            | exact absurd h_63 (by decide)
            | exact absurd h_51 (by decide)
            | rw [if_neg (Int64.not_le.mpr h_39)]
            | rw [if_pos (Int64.not_lt.mp h_39), if_neg h_46]
            | rw [if_pos (Int64.not_lt.mp h_39), if_pos h_46, if_pos h_25]
            | rw [if_pos (Int64.not_lt.mp h_39), if_pos h_46, if_neg h_25]
        · skip
          refine lv_lload hx hb nd_A_nearest_66 (zv_at hl 4 rfl) ?_
          refine lv_lconst (v := 1) hx hb nd_A_nearest_68 (by decide) ?_
          refine lv_ladd hx hb nd_A_nearest_69 ?_
          refine lv_goto (tgt := 75) hx hb nd_A_nearest_70 (by decide) ?_
          refine zw_lret hx hb hr hlk nd_A_nearest_75 ?_
          unfold zb_near zb_near2
          first
            | exact absurd h_63 (by decide)
            | exact absurd h_51 (by decide)
            | rw [if_neg (Int64.not_le.mpr h_39)]
            | rw [if_pos (Int64.not_lt.mp h_39), if_neg h_46]
            | rw [if_pos (Int64.not_lt.mp h_39), if_pos h_46, if_pos h_25]
            | rw [if_pos (Int64.not_lt.mp h_39), if_pos h_46, if_neg h_25]
      · skip
        have h_46 := (lg_cmp_eq _ _).mp h_46
        refine lv_iload hx hb nd_A_nearest_49 (zv_at hl 8 rfl) ?_
        refine lv_if_eq (tgt := 58) hx hb nd_A_nearest_51 (by decide) (fun h_51 => ?_) (fun h_51 => ?_)
        · skip
          refine lv_iconst (v := 0) hx hb nd_A_nearest_58 (by decide) ?_
          refine lv_istore hx hb nd_A_nearest_59 hl (by decide) rfl (fun ls hl => ?_)
          refine lv_iload hx hb nd_A_nearest_61 (zv_at hl 9 rfl) ?_
          refine lv_if_eq (tgt := 73) hx hb nd_A_nearest_63 (by decide) (fun h_63 => ?_) (fun h_63 => ?_)
          · skip
            refine lv_lload hx hb nd_A_nearest_73 (zv_at hl 4 rfl) ?_
            refine zw_lret hx hb hr hlk nd_A_nearest_75 ?_
            unfold zb_near zb_near2
            first
              | exact absurd h_63 (by decide)
              | exact absurd h_51 (by decide)
              | rw [if_neg (Int64.not_le.mpr h_39)]
              | rw [if_pos (Int64.not_lt.mp h_39), if_neg h_46]
              | rw [if_pos (Int64.not_lt.mp h_39), if_pos h_46, if_pos h_25]
              | rw [if_pos (Int64.not_lt.mp h_39), if_pos h_46, if_neg h_25]
          · skip
            refine lv_lload hx hb nd_A_nearest_66 (zv_at hl 4 rfl) ?_
            refine lv_lconst (v := 1) hx hb nd_A_nearest_68 (by decide) ?_
            refine lv_ladd hx hb nd_A_nearest_69 ?_
            refine lv_goto (tgt := 75) hx hb nd_A_nearest_70 (by decide) ?_
            refine zw_lret hx hb hr hlk nd_A_nearest_75 ?_
            unfold zb_near zb_near2
            first
              | exact absurd h_63 (by decide)
              | exact absurd h_51 (by decide)
              | rw [if_neg (Int64.not_le.mpr h_39)]
              | rw [if_pos (Int64.not_lt.mp h_39), if_neg h_46]
              | rw [if_pos (Int64.not_lt.mp h_39), if_pos h_46, if_pos h_25]
              | rw [if_pos (Int64.not_lt.mp h_39), if_pos h_46, if_neg h_25]
        · skip
          refine lv_iconst (v := 1) hx hb nd_A_nearest_54 (by decide) ?_
          refine lv_goto (tgt := 59) hx hb nd_A_nearest_55 (by decide) ?_
          refine lv_istore hx hb nd_A_nearest_59 hl (by decide) rfl (fun ls hl => ?_)
          refine lv_iload hx hb nd_A_nearest_61 (zv_at hl 9 rfl) ?_
          refine lv_if_eq (tgt := 73) hx hb nd_A_nearest_63 (by decide) (fun h_63 => ?_) (fun h_63 => ?_)
          · skip
            refine lv_lload hx hb nd_A_nearest_73 (zv_at hl 4 rfl) ?_
            refine zw_lret hx hb hr hlk nd_A_nearest_75 ?_
            unfold zb_near zb_near2
            first
              | exact absurd h_63 (by decide)
              | exact absurd h_51 (by decide)
              | rw [if_neg (Int64.not_le.mpr h_39)]
              | rw [if_pos (Int64.not_lt.mp h_39), if_neg h_46]
              | rw [if_pos (Int64.not_lt.mp h_39), if_pos h_46, if_pos h_25]
              | rw [if_pos (Int64.not_lt.mp h_39), if_pos h_46, if_neg h_25]
          · skip
            refine lv_lload hx hb nd_A_nearest_66 (zv_at hl 4 rfl) ?_
            refine lv_lconst (v := 1) hx hb nd_A_nearest_68 (by decide) ?_
            refine lv_ladd hx hb nd_A_nearest_69 ?_
            refine lv_goto (tgt := 75) hx hb nd_A_nearest_70 (by decide) ?_
            refine zw_lret hx hb hr hlk nd_A_nearest_75 ?_
            unfold zb_near zb_near2
            first
              | exact absurd h_63 (by decide)
              | exact absurd h_51 (by decide)
              | rw [if_neg (Int64.not_le.mpr h_39)]
              | rw [if_pos (Int64.not_lt.mp h_39), if_neg h_46]
              | rw [if_pos (Int64.not_lt.mp h_39), if_pos h_46, if_pos h_25]
              | rw [if_pos (Int64.not_lt.mp h_39), if_pos h_46, if_neg h_25]
  · skip
    have h_25 := (lg_cmp_eq _ _).mp h_25
    refine lv_iconst (v := 1) hx hb nd_A_nearest_28 (by decide) ?_
    refine lv_goto (tgt := 33) hx hb nd_A_nearest_29 (by decide) ?_
    refine lv_istore hx hb nd_A_nearest_33 hl (by decide) rfl (fun ls hl => ?_)
    refine lv_lload hx hb nd_A_nearest_35 (zv_at hl 6 rfl) ?_
    refine lv_lload_n hx hb nd_A_nearest_37 rfl (zv_at hl 2 rfl) ?_
    refine W.lcmp hx hb nd_A_nearest_38 ?_
    refine lv_if_gt (tgt := 54) hx hb nd_A_nearest_39 (by decide) (fun h_39 => ?_) (fun h_39 => ?_)
    · skip
      have h_39 := (lg_cmp_gt _ _).mp h_39
      refine lv_iconst (v := 1) hx hb nd_A_nearest_54 (by decide) ?_
      refine lv_goto (tgt := 59) hx hb nd_A_nearest_55 (by decide) ?_
      refine lv_istore hx hb nd_A_nearest_59 hl (by decide) rfl (fun ls hl => ?_)
      refine lv_iload hx hb nd_A_nearest_61 (zv_at hl 9 rfl) ?_
      refine lv_if_eq (tgt := 73) hx hb nd_A_nearest_63 (by decide) (fun h_63 => ?_) (fun h_63 => ?_)
      · skip
        refine lv_lload hx hb nd_A_nearest_73 (zv_at hl 4 rfl) ?_
        refine zw_lret hx hb hr hlk nd_A_nearest_75 ?_
        unfold zb_near zb_near2
        first
          | exact absurd h_63 (by decide)
          | exact absurd h_51 (by decide)
          | rw [if_neg (Int64.not_le.mpr h_39)]
          | rw [if_pos (Int64.not_lt.mp h_39), if_neg h_46]
          | rw [if_pos (Int64.not_lt.mp h_39), if_pos h_46, if_pos h_25]
          | rw [if_pos (Int64.not_lt.mp h_39), if_pos h_46, if_neg h_25]
      · skip
        refine lv_lload hx hb nd_A_nearest_66 (zv_at hl 4 rfl) ?_
        refine lv_lconst (v := 1) hx hb nd_A_nearest_68 (by decide) ?_
        refine lv_ladd hx hb nd_A_nearest_69 ?_
        refine lv_goto (tgt := 75) hx hb nd_A_nearest_70 (by decide) ?_
        refine zw_lret hx hb hr hlk nd_A_nearest_75 ?_
        unfold zb_near zb_near2
        first
          | exact absurd h_63 (by decide)
          | exact absurd h_51 (by decide)
          | rw [if_neg (Int64.not_le.mpr h_39)]
          | rw [if_pos (Int64.not_lt.mp h_39), if_neg h_46]
          | rw [if_pos (Int64.not_lt.mp h_39), if_pos h_46, if_pos h_25]
          | rw [if_pos (Int64.not_lt.mp h_39), if_pos h_46, if_neg h_25]
    · skip
      have h_39 := (show ¬ _ from fun q => h_39 ((lg_cmp_gt _ _).mpr q))
      refine lv_lload hx hb nd_A_nearest_42 (zv_at hl 6 rfl) ?_
      refine lv_lload_n hx hb nd_A_nearest_44 rfl (zv_at hl 2 rfl) ?_
      refine W.lcmp hx hb nd_A_nearest_45 ?_
      refine lv_if_ne (tgt := 58) hx hb nd_A_nearest_46 (by decide) (fun h_46 => ?_) (fun h_46 => ?_)
      · skip
        have h_46 := (show ¬ _ from fun q => h_46 ((lg_cmp_eq _ _).mpr q))
        refine lv_iconst (v := 0) hx hb nd_A_nearest_58 (by decide) ?_
        refine lv_istore hx hb nd_A_nearest_59 hl (by decide) rfl (fun ls hl => ?_)
        refine lv_iload hx hb nd_A_nearest_61 (zv_at hl 9 rfl) ?_
        refine lv_if_eq (tgt := 73) hx hb nd_A_nearest_63 (by decide) (fun h_63 => ?_) (fun h_63 => ?_)
        · skip
          refine lv_lload hx hb nd_A_nearest_73 (zv_at hl 4 rfl) ?_
          refine zw_lret hx hb hr hlk nd_A_nearest_75 ?_
          unfold zb_near zb_near2
          first
            | exact absurd h_63 (by decide)
            | exact absurd h_51 (by decide)
            | rw [if_neg (Int64.not_le.mpr h_39)]
            | rw [if_pos (Int64.not_lt.mp h_39), if_neg h_46]
            | rw [if_pos (Int64.not_lt.mp h_39), if_pos h_46, if_pos h_25]
            | rw [if_pos (Int64.not_lt.mp h_39), if_pos h_46, if_neg h_25]
        · skip
          refine lv_lload hx hb nd_A_nearest_66 (zv_at hl 4 rfl) ?_
          refine lv_lconst (v := 1) hx hb nd_A_nearest_68 (by decide) ?_
          refine lv_ladd hx hb nd_A_nearest_69 ?_
          refine lv_goto (tgt := 75) hx hb nd_A_nearest_70 (by decide) ?_
          refine zw_lret hx hb hr hlk nd_A_nearest_75 ?_
          unfold zb_near zb_near2
          first
            | exact absurd h_63 (by decide)
            | exact absurd h_51 (by decide)
            | rw [if_neg (Int64.not_le.mpr h_39)]
            | rw [if_pos (Int64.not_lt.mp h_39), if_neg h_46]
            | rw [if_pos (Int64.not_lt.mp h_39), if_pos h_46, if_pos h_25]
            | rw [if_pos (Int64.not_lt.mp h_39), if_pos h_46, if_neg h_25]
      · skip
        have h_46 := (lg_cmp_eq _ _).mp h_46
        refine lv_iload hx hb nd_A_nearest_49 (zv_at hl 8 rfl) ?_
        refine lv_if_eq (tgt := 58) hx hb nd_A_nearest_51 (by decide) (fun h_51 => ?_) (fun h_51 => ?_)
        · skip
          refine lv_iconst (v := 0) hx hb nd_A_nearest_58 (by decide) ?_
          refine lv_istore hx hb nd_A_nearest_59 hl (by decide) rfl (fun ls hl => ?_)
          refine lv_iload hx hb nd_A_nearest_61 (zv_at hl 9 rfl) ?_
          refine lv_if_eq (tgt := 73) hx hb nd_A_nearest_63 (by decide) (fun h_63 => ?_) (fun h_63 => ?_)
          · skip
            refine lv_lload hx hb nd_A_nearest_73 (zv_at hl 4 rfl) ?_
            refine zw_lret hx hb hr hlk nd_A_nearest_75 ?_
            unfold zb_near zb_near2
            first
              | exact absurd h_63 (by decide)
              | exact absurd h_51 (by decide)
              | rw [if_neg (Int64.not_le.mpr h_39)]
              | rw [if_pos (Int64.not_lt.mp h_39), if_neg h_46]
              | rw [if_pos (Int64.not_lt.mp h_39), if_pos h_46, if_pos h_25]
              | rw [if_pos (Int64.not_lt.mp h_39), if_pos h_46, if_neg h_25]
          · skip
            refine lv_lload hx hb nd_A_nearest_66 (zv_at hl 4 rfl) ?_
            refine lv_lconst (v := 1) hx hb nd_A_nearest_68 (by decide) ?_
            refine lv_ladd hx hb nd_A_nearest_69 ?_
            refine lv_goto (tgt := 75) hx hb nd_A_nearest_70 (by decide) ?_
            refine zw_lret hx hb hr hlk nd_A_nearest_75 ?_
            unfold zb_near zb_near2
            first
              | exact absurd h_63 (by decide)
              | exact absurd h_51 (by decide)
              | rw [if_neg (Int64.not_le.mpr h_39)]
              | rw [if_pos (Int64.not_lt.mp h_39), if_neg h_46]
              | rw [if_pos (Int64.not_lt.mp h_39), if_pos h_46, if_pos h_25]
              | rw [if_pos (Int64.not_lt.mp h_39), if_pos h_46, if_neg h_25]
        · skip
          refine lv_iconst (v := 1) hx hb nd_A_nearest_54 (by decide) ?_
          refine lv_goto (tgt := 59) hx hb nd_A_nearest_55 (by decide) ?_
          refine lv_istore hx hb nd_A_nearest_59 hl (by decide) rfl (fun ls hl => ?_)
          refine lv_iload hx hb nd_A_nearest_61 (zv_at hl 9 rfl) ?_
          refine lv_if_eq (tgt := 73) hx hb nd_A_nearest_63 (by decide) (fun h_63 => ?_) (fun h_63 => ?_)
          · skip
            refine lv_lload hx hb nd_A_nearest_73 (zv_at hl 4 rfl) ?_
            refine zw_lret hx hb hr hlk nd_A_nearest_75 ?_
            unfold zb_near zb_near2
            first
              | exact absurd h_63 (by decide)
              | exact absurd h_51 (by decide)
              | rw [if_neg (Int64.not_le.mpr h_39)]
              | rw [if_pos (Int64.not_lt.mp h_39), if_neg h_46]
              | rw [if_pos (Int64.not_lt.mp h_39), if_pos h_46, if_pos h_25]
              | rw [if_pos (Int64.not_lt.mp h_39), if_pos h_46, if_neg h_25]
          · skip
            refine lv_lload hx hb nd_A_nearest_66 (zv_at hl 4 rfl) ?_
            refine lv_lconst (v := 1) hx hb nd_A_nearest_68 (by decide) ?_
            refine lv_ladd hx hb nd_A_nearest_69 ?_
            refine lv_goto (tgt := 75) hx hb nd_A_nearest_70 (by decide) ?_
            refine zw_lret hx hb hr hlk nd_A_nearest_75 ?_
            unfold zb_near zb_near2
            first
              | exact absurd h_63 (by decide)
              | exact absurd h_51 (by decide)
              | rw [if_neg (Int64.not_le.mpr h_39)]
              | rw [if_pos (Int64.not_lt.mp h_39), if_neg h_46]
              | rw [if_pos (Int64.not_lt.mp h_39), if_pos h_46, if_pos h_25]
              | rw [if_pos (Int64.not_lt.mp h_39), if_pos h_46, if_neg h_25]

set_option maxHeartbeats 4000000 in
set_option maxRecDepth 100000 in
theorem c_A_takeInterest (l : Launch) (D : va_G) (G : zg_G) (hG : zw_apart (zb_adr G)) (S : zb_S) (i : Nat) (hi : i < 6) : Met l ny_A_takeInterest (Cond.code ny_A_takeInterest nc_A_takeInterest 5 (some .long) :: zw_big) ({ frames := 2, cells := 0, slots := 0, locals := 54 } : Room) (zw_P [.ref (zg_acc G i)] D (zb_tys G) (zb_cells G S)) (zb_Ql D G (zb_whole S i, zb_take S i)) 0 0 (zb_Ad G) := by
  refine Met.ofW (cc := nc_A_takeInterest) (maxL := 5) (ret := (some .long)) (by decide) rfl ?_
  intro p e s m args below meth c s₁ B hml hv
  obtain ⟨rfl, hP, hK⟩ := hv
  have hx := B.exec
  have hb := B.bytes
  have hr := B.returns
  have hts0 := atoms_spec (ws := Cond.code ny_A_takeInterest nc_A_takeInterest 5 (some .long) :: zw_big) B.pre
  have hts : ∀ w ∈ zw_big, w.before [.ref (zg_acc G i)].toArray s = true := fun w h => hts0 w (List.mem_cons_of_mem _ h)
  have hown : s.vm.findClass nR_A = some m.cls := findClass_of_methodNamed B.named
  have hlk := B.notSynchronized
  have hS : va_S (zb_Ad G) s.heap s.heap [] := va_S.rf
  have hl := lv_entry ([.ref (zg_acc G i)]) (n := 5) (Nat.le_of_ble_eq_true rfl)
  rw [lg_entry_eq]
  generalize (lg_sl ([.ref (zg_acc G i)]) ++ List.replicate (5 - (lg_sl ([.ref (zg_acc G i)])).length) Slot.unset).toArray = ls at hl ⊢
  have hl : lv_has ls 5 [(0, .ref (zg_acc G i))] := hl
  have hF : CallFix p m c nc_A_takeInterest 5 s [.ref (zg_acc G i)].toArray zw_big nR_A := ⟨hx, hb, hml, hown, hts⟩
  refine lv_ldc2 (v := 10000) hx hb hown (hts _ nw_393) nd_A_takeInterest_0 ?_
  refine lv_aload_n hx hb nd_A_takeInterest_3 rfl (zv_at hl 0 rfl) ?_
  refine zb_getA hx hb hts hown hK hP (by assumption) 2 (by decide) (hts _ nw_78) rfl nd_A_takeInterest_4 ?_
  refine zw_sR (As := [_]) (rest := _) hF (c_C_yearOf l _) zw_preN nk_C_yearOf nw_394 ⟨rfl, rfl, Nat.le_of_ble_eq_true rfl, Nat.le_of_ble_eq_true rfl⟩ rfl hl.1 rfl (Nat.le_of_ble_eq_true rfl) ⟨Nat.zero_le _, Nat.zero_le _⟩ nd_A_takeInterest_7 ?_
  refine lv_i2l (v := _) hx hb nd_A_takeInterest_10 rfl ?_
  refine lv_lmul hx hb nd_A_takeInterest_11 ?_
  refine lv_lstore_n hx hb nd_A_takeInterest_12 rfl hl (by decide) rfl (fun ls hl => ?_)
  refine lv_aload_n hx hb nd_A_takeInterest_13 rfl (zv_at hl 0 rfl) ?_
  refine zb_getA hx hb hts hown hK hP (by assumption) 7 (by decide) (hts _ nw_87) rfl nd_A_takeInterest_14 ?_
  refine lv_lload_n hx hb nd_A_takeInterest_17 rfl (zv_at hl 1 rfl) ?_
  refine zw_sR (As := [_, _]) (rest := _) hF (c_A_nearest l _ _ (by exact zb_unit_ne S i)) zw_preN nk_A_nearest nw_397 ⟨rfl, rfl, Nat.le_of_ble_eq_true rfl, Nat.le_of_ble_eq_true rfl⟩ rfl hl.1 rfl (Nat.le_of_ble_eq_true rfl) ⟨Nat.zero_le _, Nat.zero_le _⟩ nd_A_takeInterest_18 ?_
  refine lv_lstore_n hx hb nd_A_takeInterest_21 rfl hl (by decide) rfl (fun ls hl => ?_)
  refine lv_aload_n hx hb nd_A_takeInterest_22 rfl (zv_at hl 0 rfl) ?_
  refine lv_dup hx hb nd_A_takeInterest_23 rfl ?_
  refine zb_getA hx hb hts hown hK hP (by assumption) 5 (by decide) (hts _ nw_83) rfl nd_A_takeInterest_24 ?_
  refine lv_lload_n hx hb nd_A_takeInterest_27 rfl (zv_at hl 3 rfl) ?_
  refine lv_ladd hx hb nd_A_takeInterest_28 ?_
  refine zb_put_bal hx hb hts hown hK hG hP hS (by assumption) (hts _ nw_83) nd_A_takeInterest_29 (fun H locs hP hS => ?_)
  refine lv_aload_n hx hb nd_A_takeInterest_32 rfl (zv_at hl 0 rfl) ?_
  refine lv_dup hx hb nd_A_takeInterest_33 rfl ?_
  refine zb_getA hx hb hts hown hK hP (by assumption) 7 (by decide) (hts _ nw_87) rfl nd_A_takeInterest_34 ?_
  refine lv_lload_n hx hb nd_A_takeInterest_37 rfl (zv_at hl 3 rfl) ?_
  refine lv_lload_n hx hb nd_A_takeInterest_38 rfl (zv_at hl 1 rfl) ?_
  refine lv_lmul hx hb nd_A_takeInterest_39 ?_
  refine lv_lsub hx hb nd_A_takeInterest_40 ?_
  refine zb_put_acr hx hb hts hown hK hG hP hS (by assumption) (hts _ nw_87) nd_A_takeInterest_41 (fun H locs hP hS => ?_)
  refine lv_lload_n hx hb nd_A_takeInterest_44 rfl (zv_at hl 3 rfl) ?_
  refine zb_lret hx hb hr hlk nd_A_takeInterest_45 hP hS ?_
  all_goals rfl

set_option maxHeartbeats 4000000 in
set_option maxRecDepth 100000 in
theorem c_H_begin (l : Launch) (D : va_G) (G : zg_G) (hG : zw_apart (zb_adr G)) (S : zb_S) (k i : Nat) (hk : k < 8) (hi : i < 6) (a : Int32) : Met l ny_H_begin (Cond.code ny_H_begin nc_H_begin 3 none :: zw_big) ({ frames := 0, cells := 0, slots := 0, locals := 0 } : Room) (zw_P [.ref (zg_hld G k), .ref (zg_acc G i), .int a] D (zb_tys G) (zb_cells G S)) (zb_Qv D G (zb_begin S k i a)) 0 0 (zb_Ad G) := by
  refine Met.ofW (cc := nc_H_begin) (maxL := 3) (ret := none) (by decide) rfl ?_
  intro p e s m args below meth c s₁ B hml hv
  obtain ⟨rfl, hP, hK⟩ := hv
  have hx := B.exec
  have hb := B.bytes
  have hr := B.returns
  have hts0 := atoms_spec (ws := Cond.code ny_H_begin nc_H_begin 3 none :: zw_big) B.pre
  have hts : ∀ w ∈ zw_big, w.before [.ref (zg_hld G k), .ref (zg_acc G i), .int a].toArray s = true := fun w h => hts0 w (List.mem_cons_of_mem _ h)
  have hown : s.vm.findClass nR_H = some m.cls := findClass_of_methodNamed B.named
  have hlk := B.notSynchronized
  have hS : va_S (zb_Ad G) s.heap s.heap [] := va_S.rf
  have hl := lv_entry ([.ref (zg_hld G k), .ref (zg_acc G i), .int a]) (n := 3) (Nat.le_of_ble_eq_true rfl)
  rw [lg_entry_eq]
  generalize (lg_sl ([.ref (zg_hld G k), .ref (zg_acc G i), .int a]) ++ List.replicate (3 - (lg_sl ([.ref (zg_hld G k), .ref (zg_acc G i), .int a])).length) Slot.unset).toArray = ls at hl ⊢
  have hl : lv_has ls 3 [(0, .ref (zg_hld G k)), (1, .ref (zg_acc G i)), (2, .int a)] := hl
  have hF : CallFix p m c nc_H_begin 3 s [.ref (zg_hld G k), .ref (zg_acc G i), .int a].toArray zw_big nR_H := ⟨hx, hb, hml, hown, hts⟩
  refine lv_aload_n hx hb nd_H_begin_0 rfl (zv_at hl 0 rfl) ?_
  refine lv_aload_n hx hb nd_H_begin_1 rfl (zv_at hl 1 rfl) ?_
  refine zb_put_hol (v := some _) hx hb hts hown hK hG hP hS (by assumption) (hts _ nw_115) nd_H_begin_2 (fun H locs hP hS => ?_)
  refine lv_aload_n hx hb nd_H_begin_5 rfl (zv_at hl 0 rfl) ?_
  refine lv_iload_n hx hb nd_H_begin_6 rfl (zv_at hl 2 rfl) ?_
  refine zb_put_ham hx hb hts hown hK hG hP hS (by assumption) (hts _ nw_117) nd_H_begin_7 (fun H locs hP hS => ?_)
  refine lv_aload_n hx hb nd_H_begin_10 rfl (zv_at hl 1 rfl) ?_
  refine lv_dup hx hb nd_H_begin_11 rfl ?_
  refine zb_getA hx hb hts hown hK hP (by assumption) 6 (by decide) (hts _ nw_86) rfl nd_H_begin_12 ?_
  refine lv_iload_n hx hb nd_H_begin_15 rfl (zv_at hl 2 rfl) ?_
  refine lv_i2l (v := _) hx hb nd_H_begin_16 rfl ?_
  refine lv_ladd hx hb nd_H_begin_17 ?_
  refine zb_put_hel hx hb hts hown hK hG hP hS (by assumption) (hts _ nw_86) nd_H_begin_18 (fun H locs hP hS => ?_)
  refine zb_vret hx hb hr hlk nd_H_begin_21 hP hS ?_
  all_goals rfl

set_option maxHeartbeats 4000000 in
set_option maxRecDepth 100000 in
theorem c_H_end (l : Launch) (D : va_G) (G : zg_G) (hG : zw_apart (zb_adr G)) (S : zb_S) (k : Nat) (hk : k < 8) (hHol : ∀ j, zb_hol S k = some j → j < 6) : Met l ny_H_end (Cond.code ny_H_end nc_H_end 1 none :: zw_big) ({ frames := 0, cells := 0, slots := 0, locals := 0 } : Room) (zw_P [.ref (zg_hld G k)] D (zb_tys G) (zb_cells G S)) (zb_Qv D G (zb_end S k)) 0 0 (zb_Ad G) := by
  refine Met.ofW (cc := nc_H_end) (maxL := 1) (ret := none) (by decide) rfl ?_
  intro p e s m args below meth c s₁ B hml hv
  obtain ⟨rfl, hP, hK⟩ := hv
  have hx := B.exec
  have hb := B.bytes
  have hr := B.returns
  have hts0 := atoms_spec (ws := Cond.code ny_H_end nc_H_end 1 none :: zw_big) B.pre
  have hts : ∀ w ∈ zw_big, w.before [.ref (zg_hld G k)].toArray s = true := fun w h => hts0 w (List.mem_cons_of_mem _ h)
  have hown : s.vm.findClass nR_H = some m.cls := findClass_of_methodNamed B.named
  have hlk := B.notSynchronized
  have hS : va_S (zb_Ad G) s.heap s.heap [] := va_S.rf
  have hl := lv_entry ([.ref (zg_hld G k)]) (n := 1) (Nat.le_of_ble_eq_true rfl)
  rw [lg_entry_eq]
  generalize (lg_sl ([.ref (zg_hld G k)]) ++ List.replicate (1 - (lg_sl ([.ref (zg_hld G k)])).length) Slot.unset).toArray = ls at hl ⊢
  have hl : lv_has ls 1 [(0, .ref (zg_hld G k))] := hl
  have hF : CallFix p m c nc_H_end 1 s [.ref (zg_hld G k)].toArray zw_big nR_H := ⟨hx, hb, hml, hown, hts⟩
  refine lv_aload_n hx hb nd_H_end_0 rfl (zv_at hl 0 rfl) ?_
  refine zb_getH hx hb hts hown hK hP (by assumption) 0 (by decide) (hts _ nw_115) rfl nd_H_end_1 ?_
  refine zw_split (fun hj_1 => ?_) (fun j_1 hj_1 => ?_)
  · skip
    refine lv_ifnullN (tgt := 24) hx hb nd_H_end_4 (by decide) ?_
    refine lv_aload_n hx hb nd_H_end_24 rfl (zv_at hl 0 rfl) ?_
    refine lv_null hx hb nd_H_end_25 ?_
    refine zb_put_hol (v := none) hx hb hts hown hK hG hP hS (by assumption) (hts _ nw_115) nd_H_end_26 (fun H locs hP hS => ?_)
    refine lv_aload_n hx hb nd_H_end_29 rfl (zv_at hl 0 rfl) ?_
    refine lv_iconst (v := 0) hx hb nd_H_end_30 (by decide) ?_
    refine zb_put_ham hx hb hts hown hK hG hP hS (by assumption) (hts _ nw_117) nd_H_end_31 (fun H locs hP hS => ?_)
    refine zb_vret hx hb hr hlk nd_H_end_34 hP hS ?_
    unfold zb_end
    rw [hj_1]
    all_goals rfl
  · skip
    refine lv_ifnull hx hb nd_H_end_4 ?_
    refine lv_aload_n hx hb nd_H_end_7 rfl (zv_at hl 0 rfl) ?_
    refine zb_getH hx hb hts hown hK hP (by assumption) 0 (by decide) (hts _ nw_115) rfl nd_H_end_8 ?_
    refine zw_split (fun hj_8 => ?_) (fun j_8 hj_8 => ?_)
    · skip
      exact absurd (hj_1.symm.trans hj_8) (by simp) --done
    · skip
      obtain rfl : j_1 = j_8 := Option.some.inj (hj_1.symm.trans hj_8)
      have hj6 : j_1 < 6 := hHol _ hj_1
      refine lv_dup hx hb nd_H_end_11 rfl ?_
      refine zb_getA hx hb hts hown hK hP (by assumption) 6 (by decide) (hts _ nw_86) rfl nd_H_end_12 ?_
      refine lv_aload_n hx hb nd_H_end_15 rfl (zv_at hl 0 rfl) ?_
      refine zb_getH hx hb hts hown hK hP (by assumption) 1 (by decide) (hts _ nw_117) rfl nd_H_end_16 ?_
      refine lv_i2l (v := _) hx hb nd_H_end_19 rfl ?_
      refine lv_lsub hx hb nd_H_end_20 ?_
      refine zb_put_hel hx hb hts hown hK hG hP hS (by assumption) (hts _ nw_86) nd_H_end_21 (fun H locs hP hS => ?_)
      refine lv_aload_n hx hb nd_H_end_24 rfl (zv_at hl 0 rfl) ?_
      refine lv_null hx hb nd_H_end_25 ?_
      refine zb_put_hol (v := none) hx hb hts hown hK hG hP hS (by assumption) (hts _ nw_115) nd_H_end_26 (fun H locs hP hS => ?_)
      refine lv_aload_n hx hb nd_H_end_29 rfl (zv_at hl 0 rfl) ?_
      refine lv_iconst (v := 0) hx hb nd_H_end_30 (by decide) ?_
      refine zb_put_ham hx hb hts hown hK hG hP hS (by assumption) (hts _ nw_117) nd_H_end_31 (fun H locs hP hS => ?_)
      refine zb_vret hx hb hr hlk nd_H_end_34 hP hS ?_
      unfold zb_end
      rw [hj_1]
      all_goals rfl

set_option maxHeartbeats 4000000 in
set_option maxRecDepth 100000 in
theorem c_O_make (l : Launch) (D : va_G) (G : zg_G) (hG : zw_apart (zb_adr G)) (S : zb_S) (k i j : Nat) (hk : k < 6) (a d : Int32) : Met l ny_O_make (Cond.code ny_O_make nc_O_make 5 none :: zw_big) ({ frames := 0, cells := 0, slots := 0, locals := 0 } : Room) (zw_P [.ref (zg_ord G k), .ref (zg_acc G i), .ref (zg_acc G j), .int a, .int d] D (zb_tys G) (zb_cells G S)) (zb_Qv D G (zb_make S k (some i) (some j) a d)) 0 0 (zb_Ad G) := by
  refine Met.ofW (cc := nc_O_make) (maxL := 5) (ret := none) (by decide) rfl ?_
  intro p e s m args below meth c s₁ B hml hv
  obtain ⟨rfl, hP, hK⟩ := hv
  have hx := B.exec
  have hb := B.bytes
  have hr := B.returns
  have hts0 := atoms_spec (ws := Cond.code ny_O_make nc_O_make 5 none :: zw_big) B.pre
  have hts : ∀ w ∈ zw_big, w.before [.ref (zg_ord G k), .ref (zg_acc G i), .ref (zg_acc G j), .int a, .int d].toArray s = true := fun w h => hts0 w (List.mem_cons_of_mem _ h)
  have hown : s.vm.findClass nR_O = some m.cls := findClass_of_methodNamed B.named
  have hlk := B.notSynchronized
  have hS : va_S (zb_Ad G) s.heap s.heap [] := va_S.rf
  have hl := lv_entry ([.ref (zg_ord G k), .ref (zg_acc G i), .ref (zg_acc G j), .int a, .int d]) (n := 5) (Nat.le_of_ble_eq_true rfl)
  rw [lg_entry_eq]
  generalize (lg_sl ([.ref (zg_ord G k), .ref (zg_acc G i), .ref (zg_acc G j), .int a, .int d]) ++ List.replicate (5 - (lg_sl ([.ref (zg_ord G k), .ref (zg_acc G i), .ref (zg_acc G j), .int a, .int d])).length) Slot.unset).toArray = ls at hl ⊢
  have hl : lv_has ls 5 [(0, .ref (zg_ord G k)), (1, .ref (zg_acc G i)), (2, .ref (zg_acc G j)), (3, .int a), (4, .int d)] := hl
  have hF : CallFix p m c nc_O_make 5 s [.ref (zg_ord G k), .ref (zg_acc G i), .ref (zg_acc G j), .int a, .int d].toArray zw_big nR_O := ⟨hx, hb, hml, hown, hts⟩
  refine lv_aload_n hx hb nd_O_make_0 rfl (zv_at hl 0 rfl) ?_
  refine lv_aload_n hx hb nd_O_make_1 rfl (zv_at hl 1 rfl) ?_
  refine zb_put_pyr (v := some _) hx hb hts hown hK hG hP hS (by assumption) (hts _ nw_129) nd_O_make_2 (fun H locs hP hS => ?_)
  refine lv_aload_n hx hb nd_O_make_5 rfl (zv_at hl 0 rfl) ?_
  refine lv_aload_n hx hb nd_O_make_6 rfl (zv_at hl 2 rfl) ?_
  refine zb_put_pye (v := some _) hx hb hts hown hK hG hP hS (by assumption) (hts _ nw_131) nd_O_make_7 (fun H locs hP hS => ?_)
  refine lv_aload_n hx hb nd_O_make_10 rfl (zv_at hl 0 rfl) ?_
  refine lv_iload_n hx hb nd_O_make_11 rfl (zv_at hl 3 rfl) ?_
  refine zb_put_oam hx hb hts hown hK hG hP hS (by assumption) (hts _ nw_133) nd_O_make_12 (fun H locs hP hS => ?_)
  refine lv_aload_n hx hb nd_O_make_15 rfl (zv_at hl 0 rfl) ?_
  refine lv_iload hx hb nd_O_make_16 (zv_at hl 4 rfl) ?_
  refine zb_put_ody hx hb hts hown hK hG hP hS (by assumption) (hts _ nw_135) nd_O_make_18 (fun H locs hP hS => ?_)
  refine zb_vret hx hb hr hlk nd_O_make_21 hP hS ?_
  all_goals rfl
end
section
theorem zb_was_iff (f : Nat → Int32) (x : Int32) (k : Nat) : zb_was f x k = true ↔ ∃ j, j < k ∧ f j = x := by
  induction k with
  | zero => simp [zb_was]
  | succ k ih =>
    unfold zb_was
    simp only [Bool.or_eq_true, decide_eq_true_eq, ih]
    constructor
    · rintro (h | ⟨j, hj, h⟩)
      · exact ⟨k, by omega, h⟩
      · exact ⟨j, by omega, h⟩
    · rintro ⟨j, hj, h⟩
      by_cases e : j = k
      · subst e; exact Or.inl h
      · exact Or.inr ⟨j, by omega, h⟩
theorem zb_wasI_01 (r : zb_TR) (x : Int32) : zb_wasI r x = 0 ∨ zb_wasI r x = 1 := by
  unfold zb_wasI; split
  · exact Or.inr rfl
  · exact Or.inl rfl

set_option maxHeartbeats 4000000 in
set_option maxRecDepth 100000 in
theorem c_R_isFull (l : Launch) (D : va_G) (G : zg_G) (S : zb_S) : Met l ny_R_isFull (Cond.code ny_R_isFull nc_R_isFull 1 (some .boolean) :: zw_big) ({ frames := 0, cells := 0, slots := 0, locals := 0 } : Room) (zw_P [.ref (zg_rst G)] D (zb_tys G) (zb_cells G S)) (zw_R (.int (zb_full (zb_R S)))) 0 0 (fun _ => False) := by
  refine Met.ofW (cc := nc_R_isFull) (maxL := 1) (ret := (some .boolean)) (by decide) rfl ?_
  intro p e s m args below meth c s₁ B hml hv
  obtain ⟨rfl, hP, hK⟩ := hv
  have hx := B.exec
  have hb := B.bytes
  have hr := B.returns
  have hts0 := atoms_spec (ws := Cond.code ny_R_isFull nc_R_isFull 1 (some .boolean) :: zw_big) B.pre
  have hts : ∀ w ∈ zw_big, w.before [.ref (zg_rst G)].toArray s = true := fun w h => hts0 w (List.mem_cons_of_mem _ h)
  have hown : s.vm.findClass nR_R = some m.cls := findClass_of_methodNamed B.named
  have hlk := B.notSynchronized
  have hl := lv_entry ([.ref (zg_rst G)]) (n := 1) (Nat.le_of_ble_eq_true rfl)
  rw [lg_entry_eq]
  generalize (lg_sl ([.ref (zg_rst G)]) ++ List.replicate (1 - (lg_sl ([.ref (zg_rst G)])).length) Slot.unset).toArray = ls at hl ⊢
  have hl : lv_has ls 1 [(0, .ref (zg_rst G))] := hl
  have hF : CallFix p m c nc_R_isFull 1 s [.ref (zg_rst G)].toArray zw_big nR_R := ⟨hx, hb, hml, hown, hts⟩
  refine lv_aload_n hx hb nd_R_isFull_0 rfl (zv_at hl 0 rfl) ?_
  refine zb_getR hx hb hts hown hK hP 1 (by decide) (hts _ nw_32) rfl nd_R_isFull_1 ?_
  refine lv_bipush (v := 8) hx hb nd_R_isFull_4 (by decide) ?_
  refine lv_icmp_lt (tgt := 13) hx hb nd_R_isFull_6 (by decide) (fun h_6 => ?_) (fun h_6 => ?_)
  · skip
    refine lv_iconst (v := 0) hx hb nd_R_isFull_13 (by decide) ?_
    refine zw_zret hx hb hr hlk nd_R_isFull_14 (by decide) ?_
    unfold zb_full
    first | rw [if_pos (show zbR_dm (zb_R S) < 8 from h_6)] | rw [if_neg (show ¬ zbR_dm (zb_R S) < 8 from h_6)]
  · skip
    refine lv_iconst (v := 1) hx hb nd_R_isFull_9 (by decide) ?_
    refine lv_goto (tgt := 14) hx hb nd_R_isFull_10 (by decide) ?_
    refine zw_zret hx hb hr hlk nd_R_isFull_14 (by decide) ?_
    unfold zb_full
    first | rw [if_pos (show zbR_dm (zb_R S) < 8 from h_6)] | rw [if_neg (show ¬ zbR_dm (zb_R S) < 8 from h_6)]

set_option maxHeartbeats 4000000 in
set_option maxRecDepth 100000 in
theorem c_R_add (l : Launch) (D : va_G) (G : zg_G) (hG : zw_apart (zb_adr G)) (S : zb_S) (hdm : ∃ r, r ≤ 8 ∧ zb_dm S = nI r) (x : Int32) : Met l ny_R_add (Cond.code ny_R_add nc_R_add 2 none :: zw_big) ({ frames := 1, cells := 0, slots := 0, locals := 20 } : Room) (zw_P [.ref (zg_rst G), .int x] D (zb_tys G) (zb_cells G S)) (zb_Qv D G (zb_sR S (zb_add (zb_R S) x))) 0 0 (zb_Ad G) := by
  refine Met.ofW (cc := nc_R_add) (maxL := 2) (ret := none) (by decide) rfl ?_
  intro p e s m args below meth c s₁ B hml hv
  obtain ⟨rfl, hP, hK⟩ := hv
  have hx := B.exec
  have hb := B.bytes
  have hr := B.returns
  have hts0 := atoms_spec (ws := Cond.code ny_R_add nc_R_add 2 none :: zw_big) B.pre
  have hts : ∀ w ∈ zw_big, w.before [.ref (zg_rst G), .int x].toArray s = true := fun w h => hts0 w (List.mem_cons_of_mem _ h)
  have hown : s.vm.findClass nR_R = some m.cls := findClass_of_methodNamed B.named
  have hlk := B.notSynchronized
  have hS : va_S (zb_Ad G) s.heap s.heap [] := va_S.rf
  have hl := lv_entry ([.ref (zg_rst G), .int x]) (n := 2) (Nat.le_of_ble_eq_true rfl)
  rw [lg_entry_eq]
  generalize (lg_sl ([.ref (zg_rst G), .int x]) ++ List.replicate (2 - (lg_sl ([.ref (zg_rst G), .int x])).length) Slot.unset).toArray = ls at hl ⊢
  have hl : lv_has ls 2 [(0, .ref (zg_rst G)), (1, .int x)] := hl
  have hF : CallFix p m c nc_R_add 2 s [.ref (zg_rst G), .int x].toArray zw_big nR_R := ⟨hx, hb, hml, hown, hts⟩
  obtain ⟨r, hr8, er⟩ := hdm
  refine lv_aload_n hx hb nd_R_add_0 rfl (zv_at hl 0 rfl) ?_
  refine zw_vR (As := []) (rest := _) hF (c_R_isFull l D G _) (zw_preV hP hK (q0 := 4) (ci := 4) rfl rfl rfl) nk_R_isFull nw_334 ⟨rfl, rfl, Nat.le_of_ble_eq_true rfl, Nat.le_of_ble_eq_true rfl⟩ rfl hl.1 rfl (Nat.le_of_ble_eq_true rfl) ⟨Nat.zero_le _, Nat.zero_le _⟩ nd_R_add_1 ?_
  refine lv_if_ne (tgt := 27) hx hb nd_R_add_4 (by decide) (fun h_4 => ?_) (fun h_4 => ?_)
  · skip
    refine zb_vret hx hb hr hlk nd_R_add_27 hP hS ?_
    unfold zb_add
    first
      | (rw [if_pos (show zb_full (zb_R S) = 0 from h_4)]; rfl)
      | (rw [if_neg (show ¬ zb_full (zb_R S) = 0 from h_4)]; rfl)
  · skip
    have hlt : r < 8 := by
      have h := h_4
      unfold zb_full at h
      by_cases q : zbR_dm (zb_R S) < 8
      · have q2 : nI r < nI 8 := by rw [← er]; exact q
        exact (nI_ltI (by omega) (by decide)).mp q2
      · rw [if_neg q] at h; exact absurd h (by decide)
    refine lv_aload_n hx hb nd_R_add_7 rfl (zv_at hl 0 rfl) ?_
    refine zb_getR hx hb hts hown hK hP 0 (by decide) (hts _ nw_31) rfl nd_R_add_8 ?_
    refine lv_aload_n hx hb nd_R_add_11 rfl (zv_at hl 0 rfl) ?_
    refine zb_getR hx hb hts hown hK hP 1 (by decide) (hts _ nw_32) rfl nd_R_add_12 ?_
    refine lv_iload_n hx hb nd_R_add_15 rfl (zv_at hl 1 rfl) ?_
    refine zb_ast_dat hx hb hK hG hP hS (by show vp_in (zb_dm S) 8; rw [er]; exact vp_in_nI hlt (by decide)) nd_R_add_16 (fun H locs hP hS => ?_)
    refine lv_aload_n hx hb nd_R_add_17 rfl (zv_at hl 0 rfl) ?_
    refine lv_dup hx hb nd_R_add_18 rfl ?_
    refine zb_getR hx hb hts hown hK hP 1 (by decide) (hts _ nw_32) rfl nd_R_add_19 ?_
    refine lv_iconst (v := 1) hx hb nd_R_add_22 (by decide) ?_
    refine lv_iadd hx hb nd_R_add_23 ?_
    refine zb_put_dm hx hb hts hown hK hG hP hS (hts _ nw_32) nd_R_add_24 (fun H locs hP hS => ?_)
    refine zb_vret hx hb hr hlk nd_R_add_27 hP hS ?_
    unfold zb_add
    first
      | (rw [if_pos (show zb_full (zb_R S) = 0 from h_4)]; rfl)
      | (rw [if_neg (show ¬ zb_full (zb_R S) = 0 from h_4)]; rfl)

set_option maxHeartbeats 4000000 in
set_option maxRecDepth 100000 in
theorem c_R_wasMade (l : Launch) (D : va_G) (G : zg_G) (S : zb_S) (hdm : ∃ r, r ≤ 8 ∧ zb_dm S = nI r) (x : Int32) : Met l ny_R_wasMade (Cond.code ny_R_wasMade nc_R_wasMade 3 (some .boolean) :: zw_big) ({ frames := 0, cells := 0, slots := 0, locals := 0 } : Room) (zw_P [.ref (zg_rst G), .int x] D (zb_tys G) (zb_cells G S)) (zw_R (.int (zb_wasI (zb_R S) x))) 0 0 (fun _ => False) := by
  refine Met.ofW (cc := nc_R_wasMade) (maxL := 3) (ret := (some .boolean)) (by decide) rfl ?_
  intro p e s m args below meth c s₁ B hml hv
  obtain ⟨rfl, hP, hK⟩ := hv
  have hx := B.exec
  have hb := B.bytes
  have hr := B.returns
  have hts0 := atoms_spec (ws := Cond.code ny_R_wasMade nc_R_wasMade 3 (some .boolean) :: zw_big) B.pre
  have hts : ∀ w ∈ zw_big, w.before [.ref (zg_rst G), .int x].toArray s = true := fun w h => hts0 w (List.mem_cons_of_mem _ h)
  have hown : s.vm.findClass nR_R = some m.cls := findClass_of_methodNamed B.named
  have hlk := B.notSynchronized
  have hl := lv_entry ([.ref (zg_rst G), .int x]) (n := 3) (Nat.le_of_ble_eq_true rfl)
  rw [lg_entry_eq]
  generalize (lg_sl ([.ref (zg_rst G), .int x]) ++ List.replicate (3 - (lg_sl ([.ref (zg_rst G), .int x])).length) Slot.unset).toArray = ls at hl ⊢
  have hl : lv_has ls 3 [(0, .ref (zg_rst G)), (1, .int x)] := hl
  have hF : CallFix p m c nc_R_wasMade 3 s [.ref (zg_rst G), .int x].toArray zw_big nR_R := ⟨hx, hb, hml, hown, hts⟩
  obtain ⟨r, hr8, er⟩ := hdm
  have er2 : (zbR_dm (zb_R S)).toNatClampNeg = r := by show (zb_dm S).toNatClampNeg = r; rw [er]; exact nI_clamp (by omega)
  refine lv_iconst (v := 0) hx hb nd_R_wasMade_0 (by decide) ?_
  refine lv_istore_n hx hb nd_R_wasMade_1 rfl hl (by decide) rfl (fun ls hl => ?_)
  refine zw_loop (σ := Nat) (fun k i H locs ls => H = s.heap ∧ locs = [] ∧ i + k = r ∧ (∀ j, j < i → ¬ zb_dat S j = x) ∧ lv_has ls 3 [(0, .ref (zg_rst G)), (1, .int x), (2, .int (nI i))]) ?_ r 0 ⟨rfl, rfl, by omega, fun j hj => absurd hj (by omega), zv_sub hl (by intro q hq; simp only [List.mem_cons, List.not_mem_nil, or_false] at hq; rcases hq with rfl | rfl | rfl <;> rfl)⟩
  intro k i H locs ls hI ih
  obtain ⟨hH, hL, hik, hno, hl⟩ := hI
  subst hH
  subst hL
  refine lv_iload_n hx hb nd_R_wasMade_2 rfl (zv_at hl 2 rfl) ?_
  refine lv_aload_n hx hb nd_R_wasMade_3 rfl (zv_at hl 0 rfl) ?_
  refine zb_getR hx hb hts hown hK hP 1 (by decide) (hts _ nw_32) rfl nd_R_wasMade_4 ?_
  refine lv_icmp_ge (tgt := 28) hx hb nd_R_wasMade_7 (by decide) (fun h_7 => ?_) (fun h_7 => ?_)
  · skip
    have hk0 : r ≤ i := by
      have h : nI r ≤ nI i := by rw [← er]; exact h_7
      exact (nI_leI (by omega) (by omega)).mp h
    refine lv_iconst (v := 0) hx hb nd_R_wasMade_28 (by decide) ?_
    refine zw_zret hx hb hr hlk nd_R_wasMade_29 (by decide) ?_
    unfold zb_wasI
    rw [er2, if_neg (show ¬ zb_was (zbR_dat (zb_R S)) x r = true from fun q => by
      obtain ⟨j, hj, e⟩ := (zb_was_iff _ _ _).mp q
      exact hno j (by omega) e)]
  · skip
    have hk0 : i < r := by
      refine Nat.lt_of_not_le fun q => h_7 ?_
      show zb_dm S ≤ nI i
      rw [er]
      exact nI_le q (by omega)
    refine lv_aload_n hx hb nd_R_wasMade_10 rfl (zv_at hl 0 rfl) ?_
    refine zb_getR hx hb hts hown hK hP 0 (by decide) (hts _ nw_31) rfl nd_R_wasMade_11 ?_
    refine lv_iload_n hx hb nd_R_wasMade_14 rfl (zv_at hl 2 rfl) ?_
    refine zb_ald_dat hx hb hK hP (vp_in_nI (by omega) (by decide)) nd_R_wasMade_15 ?_
    refine lv_iload_n hx hb nd_R_wasMade_16 rfl (zv_at hl 1 rfl) ?_
    refine lv_icmp_ne (tgt := 22) hx hb nd_R_wasMade_17 (by decide) (fun h_17 => ?_) (fun h_17 => ?_)
    · skip
      have h_17 : ¬ zb_dat S i = x := by rw [nI_clamp (by omega)] at h_17; exact h_17
      refine zv_iinc (v := nI (i + 1)) hx hb nd_R_wasMade_22 hl rfl ((nI_succ i).symm) (by decide) rfl (fun ls hl => ?_)
      refine lv_goto (tgt := 2) hx hb nd_R_wasMade_25 (by decide) ?_
      exact ih (k - 1) (i + 1) _ _ _ (by omega) ⟨rfl, rfl, by omega, fun j hj => by
        by_cases e : j = i
        · subst e; exact h_17
        · exact hno j (by omega), zv_sub hl (by intro q hq; simp only [List.mem_cons, List.not_mem_nil, or_false] at hq; rcases hq with rfl | rfl | rfl <;> rfl)⟩
    · skip
      have h_17 : zb_dat S i = x := by rw [← h_17, nI_clamp (by omega)]
      refine lv_iconst (v := 1) hx hb nd_R_wasMade_20 (by decide) ?_
      refine zw_zret hx hb hr hlk nd_R_wasMade_21 (by decide) ?_
      unfold zb_wasI
      rw [er2, if_pos (show zb_was (zbR_dat (zb_R S)) x r = true from (zb_was_iff _ _ _).mpr ⟨i, hk0, h_17⟩)]

set_option maxHeartbeats 4000000 in
set_option maxRecDepth 100000 in
theorem c_R_isRest (l : Launch) (D : va_G) (G : zg_G) (S : zb_S) (hdm : ∃ r, r ≤ 8 ∧ zb_dm S = nI r) (x : Int32) : Met l ny_R_isRest (Cond.code ny_R_isRest nc_R_isRest 3 (some .boolean) :: zw_big) ({ frames := 1, cells := 0, slots := 0, locals := 22 } : Room) (zw_P [.ref (zg_rst G), .int x] D (zb_tys G) (zb_cells G S)) (zw_R (.int (zb_isRest (zb_R S) x))) 0 0 (fun _ => False) := by
  refine Met.ofW (cc := nc_R_isRest) (maxL := 3) (ret := (some .boolean)) (by decide) rfl ?_
  intro p e s m args below meth c s₁ B hml hv
  obtain ⟨rfl, hP, hK⟩ := hv
  have hx := B.exec
  have hb := B.bytes
  have hr := B.returns
  have hts0 := atoms_spec (ws := Cond.code ny_R_isRest nc_R_isRest 3 (some .boolean) :: zw_big) B.pre
  have hts : ∀ w ∈ zw_big, w.before [.ref (zg_rst G), .int x].toArray s = true := fun w h => hts0 w (List.mem_cons_of_mem _ h)
  have hown : s.vm.findClass nR_R = some m.cls := findClass_of_methodNamed B.named
  have hlk := B.notSynchronized
  have hl := lv_entry ([.ref (zg_rst G), .int x]) (n := 3) (Nat.le_of_ble_eq_true rfl)
  rw [lg_entry_eq]
  generalize (lg_sl ([.ref (zg_rst G), .int x]) ++ List.replicate (3 - (lg_sl ([.ref (zg_rst G), .int x])).length) Slot.unset).toArray = ls at hl ⊢
  have hl : lv_has ls 3 [(0, .ref (zg_rst G)), (1, .int x)] := hl
  have hF : CallFix p m c nc_R_isRest 3 s [.ref (zg_rst G), .int x].toArray zw_big nR_R := ⟨hx, hb, hml, hown, hts⟩
  refine lv_iload_n hx hb nd_R_isRest_0 rfl (zv_at hl 1 rfl) ?_
  refine lv_bipush (v := 7) hx hb nd_R_isRest_1 (by decide) ?_
  refine lv_irem hx hb nd_R_isRest_3 (by decide) ?_
  refine lv_istore_n hx hb nd_R_isRest_4 rfl hl (by decide) rfl (fun ls hl => ?_)
  refine lv_iload_n hx hb nd_R_isRest_5 rfl (zv_at hl 2 rfl) ?_
  refine lv_if_eq (tgt := 22) hx hb nd_R_isRest_6 (by decide) (fun h_6 => ?_) (fun h_6 => ?_)
  · skip
    refine lv_iconst (v := 1) hx hb nd_R_isRest_22 (by decide) ?_
    refine lv_goto (tgt := 27) hx hb nd_R_isRest_23 (by decide) ?_
    refine zw_zret hx hb hr hlk nd_R_isRest_27 (by decide) ?_
    unfold zb_isRest
    first | rw [if_pos h_6] | rw [if_neg h_6, if_pos h_11] | rw [if_neg h_6, if_neg h_11, if_pos h_19] | rw [if_neg h_6, if_neg h_11, if_neg h_19]
  · skip
    refine lv_iload_n hx hb nd_R_isRest_9 rfl (zv_at hl 2 rfl) ?_
    refine lv_iconst (v := 1) hx hb nd_R_isRest_10 (by decide) ?_
    refine lv_icmp_eq (tgt := 22) hx hb nd_R_isRest_11 (by decide) (fun h_11 => ?_) (fun h_11 => ?_)
    · skip
      refine lv_iconst (v := 1) hx hb nd_R_isRest_22 (by decide) ?_
      refine lv_goto (tgt := 27) hx hb nd_R_isRest_23 (by decide) ?_
      refine zw_zret hx hb hr hlk nd_R_isRest_27 (by decide) ?_
      unfold zb_isRest
      first | rw [if_pos h_6] | rw [if_neg h_6, if_pos h_11] | rw [if_neg h_6, if_neg h_11, if_pos h_19] | rw [if_neg h_6, if_neg h_11, if_neg h_19]
    · skip
      refine lv_aload_n hx hb nd_R_isRest_14 rfl (zv_at hl 0 rfl) ?_
      refine lv_iload_n hx hb nd_R_isRest_15 rfl (zv_at hl 1 rfl) ?_
      refine zw_vR (As := [_]) (rest := _) hF (c_R_wasMade l D G _ (by assumption) _) (zw_preV hP hK (q0 := 4) (ci := 4) rfl rfl rfl) nk_R_wasMade nw_303 ⟨rfl, rfl, Nat.le_of_ble_eq_true rfl, Nat.le_of_ble_eq_true rfl⟩ rfl hl.1 rfl (Nat.le_of_ble_eq_true rfl) ⟨Nat.zero_le _, Nat.zero_le _⟩ nd_R_isRest_16 ?_
      refine lv_if_eq (tgt := 26) hx hb nd_R_isRest_19 (by decide) (fun h_19 => ?_) (fun h_19 => ?_)
      · skip
        refine lv_iconst (v := 0) hx hb nd_R_isRest_26 (by decide) ?_
        refine zw_zret hx hb hr hlk nd_R_isRest_27 (by decide) ?_
        unfold zb_isRest
        first | rw [if_pos h_6] | rw [if_neg h_6, if_pos h_11] | rw [if_neg h_6, if_neg h_11, if_pos h_19] | rw [if_neg h_6, if_neg h_11, if_neg h_19]
      · skip
        refine lv_iconst (v := 1) hx hb nd_R_isRest_22 (by decide) ?_
        refine lv_goto (tgt := 27) hx hb nd_R_isRest_23 (by decide) ?_
        refine zw_zret hx hb hr hlk nd_R_isRest_27 (by decide) ?_
        unfold zb_isRest
        first | rw [if_pos h_6] | rw [if_neg h_6, if_pos h_11] | rw [if_neg h_6, if_neg h_11, if_pos h_19] | rw [if_neg h_6, if_neg h_11, if_neg h_19]

theorem zb_dayIn_nat (w : Int32) : ∃ q : Nat, q < 32 ∧ zb_dayIn w = nI q := by
  unfold zb_dayIn
  exact pk_andE _ 5 (by decide)
theorem zb_up_none {r : zb_TR} {f len i : Int32} {k : Nat} (hk : ¬ k = 0) (h : len < i) : zb_up r f len k i = none := by
  obtain ⟨j, rfl⟩ : ∃ j, k = j + 1 := ⟨k - 1, by omega⟩
  rw [zb_up, if_pos h]
theorem zb_up_some {r : zb_TR} {f len i : Int32} {k : Nat} (hk : ¬ k = 0) (h : ¬ len < i) (h2 : zb_isRest r (f + i) = 0) : zb_up r f len k i = some (f + i) := by
  obtain ⟨j, rfl⟩ : ∃ j, k = j + 1 := ⟨k - 1, by omega⟩
  rw [zb_up, if_neg h, if_pos h2]
theorem zb_up_next {r : zb_TR} {f len i : Int32} {k : Nat} (hk : ¬ k = 0) (h : ¬ len < i) (h2 : ¬ zb_isRest r (f + i) = 0) : zb_up r f len k i = zb_up r f len (k - 1) (i + 1) := by
  obtain ⟨j, rfl⟩ : ∃ j, k = j + 1 := ⟨k - 1, by omega⟩
  rw [zb_up, if_neg h, if_neg h2]; rfl
theorem zb_dn_none {r : zb_TR} {f i : Int32} {k : Nat} (hk : ¬ k = 0) (h : i < 1) : zb_dn r f k i = none := by
  obtain ⟨j, rfl⟩ : ∃ j, k = j + 1 := ⟨k - 1, by omega⟩
  rw [zb_dn, if_pos h]
theorem zb_dn_some {r : zb_TR} {f i : Int32} {k : Nat} (hk : ¬ k = 0) (h : ¬ i < 1) (h2 : zb_isRest r (f + i) = 0) : zb_dn r f k i = some (f + i) := by
  obtain ⟨j, rfl⟩ : ∃ j, k = j + 1 := ⟨k - 1, by omega⟩
  rw [zb_dn, if_neg h, if_pos h2]
theorem zb_dn_next {r : zb_TR} {f i : Int32} {k : Nat} (hk : ¬ k = 0) (h : ¬ i < 1) (h2 : ¬ zb_isRest r (f + i) = 0) : zb_dn r f k i = zb_dn r f (k - 1) (i - 1) := by
  obtain ⟨j, rfl⟩ : ∃ j, k = j + 1 := ⟨k - 1, by omega⟩
  rw [zb_dn, if_neg h, if_neg h2]; rfl
theorem zb_min_nat {d q : Nat} (hd : d < 2 ^ 31) (hq : q < 2 ^ 31) : zj_min (nI d) (nI q) = nI (if q < d then q else d) := by
  unfold zj_min
  by_cases h : q < d
  · rw [if_pos h, if_pos (nI_lt h hd)]
  · rw [if_neg h, if_neg (nI_nlt (by omega) hq)]

set_option maxHeartbeats 4000000 in
set_option maxRecDepth 100000 in
theorem c_R_dueDate (l : Launch) (D : va_G) (G : zg_G) (S : zb_S) (hdm : ∃ r, r ≤ 8 ∧ zb_dm S = nI r) (day x : Int32) (hd : ∃ d, 1 ≤ d ∧ d ≤ 31 ∧ day = nI d) : Met l ny_R_dueDate (Cond.code ny_R_dueDate nc_R_dueDate 7 (some .int) :: zw_big) ({ frames := 2, cells := 0, slots := 0, locals := 51 } : Room) (zw_P [.ref (zg_rst G), .int day, .int x] D (zb_tys G) (zb_cells G S)) (zw_R (.int (zb_due (zb_R S) day x))) 0 0 (fun _ => False) := by
  refine Met.ofW (cc := nc_R_dueDate) (maxL := 7) (ret := (some .int)) (by decide) rfl ?_
  intro p e s m args below meth c s₁ B hml hv
  obtain ⟨rfl, hP, hK⟩ := hv
  have hx := B.exec
  have hb := B.bytes
  have hr := B.returns
  have hts0 := atoms_spec (ws := Cond.code ny_R_dueDate nc_R_dueDate 7 (some .int) :: zw_big) B.pre
  have hts : ∀ w ∈ zw_big, w.before [.ref (zg_rst G), .int day, .int x].toArray s = true := fun w h => hts0 w (List.mem_cons_of_mem _ h)
  have hown : s.vm.findClass nR_R = some m.cls := findClass_of_methodNamed B.named
  have hlk := B.notSynchronized
  have hl := lv_entry ([.ref (zg_rst G), .int day, .int x]) (n := 7) (Nat.le_of_ble_eq_true rfl)
  rw [lg_entry_eq]
  generalize (lg_sl ([.ref (zg_rst G), .int day, .int x]) ++ List.replicate (7 - (lg_sl ([.ref (zg_rst G), .int day, .int x])).length) Slot.unset).toArray = ls at hl ⊢
  have hl : lv_has ls 7 [(0, .ref (zg_rst G)), (1, .int day), (2, .int x)] := hl
  have hF : CallFix p m c nc_R_dueDate 7 s [.ref (zg_rst G), .int day, .int x].toArray zw_big nR_R := ⟨hx, hb, hml, hown, hts⟩
  obtain ⟨d, hd1, hd2, rfl⟩ := hd
  generalize hF0 : x - zb_dayIn (zb_md x) = F
  obtain ⟨q, hq, eq⟩ := zb_dayIn_nat (zb_md (F + 32))
  obtain ⟨L, hL1, hL2, eL⟩ : ∃ L, 1 ≤ L ∧ L ≤ 32 ∧ 32 - zb_dayIn (zb_md (F + 32)) = nI L := ⟨32 - q, by omega, by omega, by rw [eq]; exact pk_sub (a := 32) (by omega)⟩
  obtain ⟨w, hw1, hw2, ew⟩ : ∃ w, 1 ≤ w ∧ w ≤ L ∧ zj_min (nI d) (nI L) = nI w := ⟨_, by split <;> omega, by split <;> omega, zb_min_nat (by omega) (by omega)⟩
  have hdue : zb_due (zb_R S) (nI d) x = zb_due3 (zb_R S) F (nI L) (nI w) := by unfold zb_due zb_due2; rw [hF0, eL, ew]
  refine lv_iload_n hx hb nd_R_dueDate_0 rfl (zv_at hl 2 rfl) ?_
  refine lv_iload_n hx hb nd_R_dueDate_1 rfl (zv_at hl 2 rfl) ?_
  refine zw_sR (As := [_]) (rest := _) hF (c_C_monthAndDay l _) zw_preN nk_C_monthAndDay nw_355 ⟨rfl, rfl, Nat.le_of_ble_eq_true rfl, Nat.le_of_ble_eq_true rfl⟩ rfl hl.1 rfl (Nat.le_of_ble_eq_true rfl) ⟨Nat.zero_le _, Nat.zero_le _⟩ nd_R_dueDate_2 ?_
  refine zw_sR (As := [_]) (rest := _) hF (c_C_dayIn l _) zw_preN nk_C_dayIn nw_356 ⟨rfl, rfl, Nat.le_of_ble_eq_true rfl, Nat.le_of_ble_eq_true rfl⟩ rfl hl.1 rfl (Nat.le_of_ble_eq_true rfl) ⟨Nat.zero_le _, Nat.zero_le _⟩ nd_R_dueDate_5 ?_
  refine lv_isub hx hb nd_R_dueDate_8 ?_
  rw [hF0]
  refine lv_istore_n hx hb nd_R_dueDate_9 rfl hl (by decide) rfl (fun ls hl => ?_)
  refine lv_bipush (v := 32) hx hb nd_R_dueDate_10 (by decide) ?_
  refine lv_iload_n hx hb nd_R_dueDate_12 rfl (zv_at hl 3 rfl) ?_
  refine lv_bipush (v := 32) hx hb nd_R_dueDate_13 (by decide) ?_
  refine lv_iadd hx hb nd_R_dueDate_15 ?_
  refine zw_sR (As := [_]) (rest := _) hF (c_C_monthAndDay l _) zw_preN nk_C_monthAndDay nw_355 ⟨rfl, rfl, Nat.le_of_ble_eq_true rfl, Nat.le_of_ble_eq_true rfl⟩ rfl hl.1 rfl (Nat.le_of_ble_eq_true rfl) ⟨Nat.zero_le _, Nat.zero_le _⟩ nd_R_dueDate_16 ?_
  refine zw_sR (As := [_]) (rest := _) hF (c_C_dayIn l _) zw_preN nk_C_dayIn nw_356 ⟨rfl, rfl, Nat.le_of_ble_eq_true rfl, Nat.le_of_ble_eq_true rfl⟩ rfl hl.1 rfl (Nat.le_of_ble_eq_true rfl) ⟨Nat.zero_le _, Nat.zero_le _⟩ nd_R_dueDate_19 ?_
  refine lv_isub hx hb nd_R_dueDate_22 ?_
  rw [eL]
  refine lv_istore hx hb nd_R_dueDate_23 hl (by decide) rfl (fun ls hl => ?_)
  refine lv_iload_n hx hb nd_R_dueDate_25 rfl (zv_at hl 1 rfl) ?_
  refine lv_iload hx hb nd_R_dueDate_26 (zv_at hl 4 rfl) ?_
  refine zw_sR (As := [_, _]) (rest := _) hF (c_T_min l _ _) zw_preN nk_T_min nw_359 ⟨rfl, rfl, Nat.le_of_ble_eq_true rfl, Nat.le_of_ble_eq_true rfl⟩ rfl hl.1 rfl (Nat.le_of_ble_eq_true rfl) ⟨Nat.zero_le _, Nat.zero_le _⟩ nd_R_dueDate_28 ?_
  rw [ew]
  refine lv_istore hx hb nd_R_dueDate_31 hl (by decide) rfl (fun ls hl => ?_)
  refine lv_iload hx hb nd_R_dueDate_33 (zv_at hl 5 rfl) ?_
  refine lv_istore hx hb nd_R_dueDate_35 hl (by decide) rfl (fun ls hl => ?_)
  refine zw_loop (σ := Nat) (fun k a H locs ls => H = s.heap ∧ locs = [] ∧ a + k = L + 1 ∧ w ≤ a ∧ zb_up (zb_R S) F (nI L) 40 (nI w) = zb_up (zb_R S) F (nI L) (40 + w - a) (nI a) ∧ lv_has ls 7 [(0, .ref (zg_rst G)), (1, .int (nI d)), (2, .int x), (3, .int F), (4, .int (nI L)), (5, .int (nI w)), (6, .int (nI a))]) ?_ (L + 1 - w) w ⟨rfl, rfl, by omega, by omega, by rw [show 40 + w - w = 40 by omega], zv_sub hl (by intro q hq; simp only [List.mem_cons, List.not_mem_nil, or_false] at hq; rcases hq with rfl | rfl | rfl | rfl | rfl | rfl | rfl <;> rfl)⟩
  intro k a H locs ls hI ih
  obtain ⟨hH, hLo, hak, hwa, hU, hl⟩ := hI
  subst hH
  subst hLo
  refine lv_iload hx hb nd_R_dueDate_37 (zv_at hl 6 rfl) ?_
  refine lv_iload hx hb nd_R_dueDate_39 (zv_at hl 4 rfl) ?_
  refine lv_icmp_gt (tgt := 66) hx hb nd_R_dueDate_41 (by decide) (fun h_41 => ?_) (fun h_41 => ?_)
  · skip
    have hU : zb_up (zb_R S) F (nI L) 40 (nI w) = none := by rw [hU, zb_up_none (by have := (nI_ltI (a := L) (b := a) (by omega) (by omega)).mp h_41; omega) h_41]
    have hw9 : nI w - 1 = nI (w - 1) := by
      have := nI_pred (w - 1)
      rw [show w - 1 + 1 = w by omega] at this
      exact this
    have hdue4 : zb_due (zb_R S) (nI d) x = zb_due4 (zb_R S) F (nI w) := by rw [hdue]; unfold zb_due3; rw [hU]
    refine lv_iload hx hb nd_R_dueDate_66 (zv_at hl 5 rfl) ?_
    refine lv_iconst (v := 1) hx hb nd_R_dueDate_68 (by decide) ?_
    refine lv_isub hx hb nd_R_dueDate_69 ?_
    refine lv_istore hx hb nd_R_dueDate_70 hl (by decide) rfl (fun ls hl => ?_)
    refine zw_loop (σ := Unit) (fun b u H locs ls => H = s.heap ∧ locs = [] ∧ b < w ∧ zb_dn (zb_R S) F 40 (nI (w - 1)) = zb_dn (zb_R S) F (41 + b - w) (nI b) ∧ lv_has ls 7 [(0, .ref (zg_rst G)), (1, .int (nI d)), (2, .int x), (3, .int F), (4, .int (nI L)), (5, .int (nI w)), (6, .int (nI b))]) ?_ (w - 1) () ⟨rfl, rfl, by omega, by rw [show 41 + (w - 1) - w = 40 by omega], zv_sub hl (by intro q hq; simp only [List.mem_cons, List.not_mem_nil, or_false] at hq; rcases hq with rfl | rfl | rfl | rfl | rfl | rfl | rfl; rfl; rfl; rfl; rfl; rfl; rfl; exact congrArg (fun z => some (Value.int z)) hw9)⟩
    intro b u H locs ls hI ih
    obtain ⟨hH, hLo, hbw, hV, hl⟩ := hI
    subst hH
    subst hLo
    refine lv_iload hx hb nd_R_dueDate_72 (zv_at hl 6 rfl) ?_
    refine lv_iconst (v := 1) hx hb nd_R_dueDate_74 (by decide) ?_
    refine lv_icmp_lt (tgt := 100) hx hb nd_R_dueDate_75 (by decide) (fun h_75 => ?_) (fun h_75 => ?_)
    · skip
      refine lv_iload_n hx hb nd_R_dueDate_100 rfl (zv_at hl 3 rfl) ?_
      refine lv_iload hx hb nd_R_dueDate_101 (zv_at hl 5 rfl) ?_
      refine lv_iadd hx hb nd_R_dueDate_103 ?_
      refine zw_iret hx hb hr hlk nd_R_dueDate_104 ?_
      rw [hdue4]
      unfold zb_due4
      rw [hw9, hV, zb_dn_none (by omega) h_75]
    · skip
      have hb0 : ¬ b = 0 := fun q => h_75 (by subst q; decide)
      have hb9 : nI b - 1 = nI (b - 1) := by
        have := nI_pred (b - 1)
        rw [show b - 1 + 1 = b by omega] at this
        exact this
      refine lv_aload_n hx hb nd_R_dueDate_78 rfl (zv_at hl 0 rfl) ?_
      refine lv_iload_n hx hb nd_R_dueDate_79 rfl (zv_at hl 3 rfl) ?_
      refine lv_iload hx hb nd_R_dueDate_80 (zv_at hl 6 rfl) ?_
      refine lv_iadd hx hb nd_R_dueDate_82 ?_
      refine zw_vR (As := [_]) (rest := _) hF (c_R_isRest l D G _ (by assumption) _) (zw_preV hP hK (q0 := 4) (ci := 4) rfl rfl rfl) nk_R_isRest nw_362 ⟨rfl, rfl, Nat.le_of_ble_eq_true rfl, Nat.le_of_ble_eq_true rfl⟩ rfl hl.1 rfl (Nat.le_of_ble_eq_true rfl) ⟨Nat.zero_le _, Nat.zero_le _⟩ nd_R_dueDate_83 ?_
      refine lv_if_ne (tgt := 94) hx hb nd_R_dueDate_86 (by decide) (fun h_86 => ?_) (fun h_86 => ?_)
      · skip
        refine zv_iinc (v := nI (b - 1)) hx hb nd_R_dueDate_94 hl rfl (by rw [show (Int32.ofInt (-1)) = -1 by decide]; have := pk_m1 (b - 1); rw [show b - 1 + 1 = b by omega] at this; exact this) (by decide) rfl (fun ls hl => ?_)
        refine lv_goto (tgt := 72) hx hb nd_R_dueDate_97 (by decide) ?_
        exact ih (b - 1) () _ _ _ (by omega) ⟨rfl, rfl, by omega, by rw [hV, zb_dn_next (by omega) h_75 h_86, hb9, show 41 + b - w - 1 = 41 + (b - 1) - w by omega], zv_sub hl (by intro q hq; simp only [List.mem_cons, List.not_mem_nil, or_false] at hq; rcases hq with rfl | rfl | rfl | rfl | rfl | rfl | rfl <;> rfl)⟩
      · skip
        refine lv_iload_n hx hb nd_R_dueDate_89 rfl (zv_at hl 3 rfl) ?_
        refine lv_iload hx hb nd_R_dueDate_90 (zv_at hl 6 rfl) ?_
        refine lv_iadd hx hb nd_R_dueDate_92 ?_
        refine zw_iret hx hb hr hlk nd_R_dueDate_93 ?_
        rw [hdue4]
        unfold zb_due4
        rw [hw9, hV, zb_dn_some (by omega) h_75 h_86]
  · skip
    have hka : a ≤ L := Nat.le_of_not_lt fun q => h_41 (nI_lt q (by omega))
    refine lv_aload_n hx hb nd_R_dueDate_44 rfl (zv_at hl 0 rfl) ?_
    refine lv_iload_n hx hb nd_R_dueDate_45 rfl (zv_at hl 3 rfl) ?_
    refine lv_iload hx hb nd_R_dueDate_46 (zv_at hl 6 rfl) ?_
    refine lv_iadd hx hb nd_R_dueDate_48 ?_
    refine zw_vR (As := [_]) (rest := _) hF (c_R_isRest l D G _ (by assumption) _) (zw_preV hP hK (q0 := 4) (ci := 4) rfl rfl rfl) nk_R_isRest nw_362 ⟨rfl, rfl, Nat.le_of_ble_eq_true rfl, Nat.le_of_ble_eq_true rfl⟩ rfl hl.1 rfl (Nat.le_of_ble_eq_true rfl) ⟨Nat.zero_le _, Nat.zero_le _⟩ nd_R_dueDate_49 ?_
    refine lv_if_ne (tgt := 60) hx hb nd_R_dueDate_52 (by decide) (fun h_52 => ?_) (fun h_52 => ?_)
    · skip
      refine zv_iinc (v := nI (a + 1)) hx hb nd_R_dueDate_60 hl rfl ((nI_succ a).symm) (by decide) rfl (fun ls hl => ?_)
      refine lv_goto (tgt := 37) hx hb nd_R_dueDate_63 (by decide) ?_
      exact ih (k - 1) (a + 1) _ _ _ (by omega) ⟨rfl, rfl, by omega, by omega, by rw [hU, zb_up_next (by omega) h_41 h_52, nI_succ, show 40 + w - a - 1 = 40 + w - (a + 1) by omega], zv_sub hl (by intro q hq; simp only [List.mem_cons, List.not_mem_nil, or_false] at hq; rcases hq with rfl | rfl | rfl | rfl | rfl | rfl | rfl <;> rfl)⟩
    · skip
      refine lv_iload_n hx hb nd_R_dueDate_55 rfl (zv_at hl 3 rfl) ?_
      refine lv_iload hx hb nd_R_dueDate_56 (zv_at hl 6 rfl) ?_
      refine lv_iadd hx hb nd_R_dueDate_58 ?_
      refine zw_iret hx hb hr hlk nd_R_dueDate_59 ?_
      rw [hdue]
      unfold zb_due3
      rw [hU, zb_up_some (by omega) h_41 h_52]
end
section
/-! PURE: the day behind a day; the length of a month. -/
def zc_mlL (b : Bool) (m : Nat) : Nat := cond (Nat.beq m 2) (cond b 29 28) (cond (or (Nat.beq m 4) (or (Nat.beq m 6) (or (Nat.beq m 9) (Nat.beq m 11)))) 30 31)
def zc_wmL (b : Bool) : Nat → Nat → Nat → Nat × Nat
  | 0, m, r => (m, r)
  | k + 1, m, r => cond (Nat.blt r (zc_mlL b m)) (m, r) (zc_wmL b k (m + 1) (r - zc_mlL b m))
theorem zc_ml_L (y m : Nat) : zc_ml y m = zc_mlL (zc_leap y) m := rfl
theorem zc_wm_L (y : Nat) : ∀ f m r, zc_wm f y m r = zc_wmL (zc_leap y) f m r := by
  intro f
  induction f with
  | zero => intro m r; rfl
  | succ f ih => intro m r; unfold zc_wm zc_wmL; rw [zc_ml_L, ih]
def zc_ylL (b : Bool) : Nat := cond b 366 365
/-- what a day of a year is: month and day are real, and the next day is the next -/
def zc_dayOk (b : Bool) (k : Nat) : Bool :=
  let w := zc_wmL b 12 1 k
  and (Nat.ble 1 w.1) (and (Nat.ble w.1 12) (and (Nat.blt w.2 (zc_mlL b w.1)) (cond (Nat.blt (k + 1) (zc_ylL b))
    (let v := zc_wmL b 12 1 (k + 1)
     cond (Nat.blt (w.2 + 1) (zc_mlL b w.1)) (and (Nat.beq v.1 w.1) (Nat.beq v.2 (w.2 + 1))) (and (Nat.beq v.1 (w.1 + 1)) (Nat.beq v.2 0)))
    (and (Nat.beq w.1 12) (Nat.beq w.2 30)))))
def zc_dayAll (b : Bool) : Nat → Bool
  | 0 => true
  | k + 1 => and (zc_dayOk b k) (zc_dayAll b k)
set_option maxRecDepth 100000 in
theorem zc_dayAll_t : zc_dayAll true 366 = true := by decide +kernel
set_option maxRecDepth 100000 in
theorem zc_dayAll_f : zc_dayAll false 365 = true := by decide +kernel
theorem zc_dayAll_at (b : Bool) : ∀ n, zc_dayAll b n = true → ∀ k, k < n → zc_dayOk b k = true := by
  intro n
  induction n with
  | zero => intro _ k hk; omega
  | succ n ih =>
    intro h k hk
    unfold zc_dayAll at h
    simp only [Bool.and_eq_true] at h
    by_cases e : k = n
    · rw [e]; exact h.1
    · exact ih h.2 k (by omega)
theorem zc_dayOk_all {b : Bool} {k : Nat} (h : k < zc_ylL b) : zc_dayOk b k = true := by
  cases b with
  | true => exact zc_dayAll_at true 366 zc_dayAll_t k h
  | false => exact zc_dayAll_at false 365 zc_dayAll_f k h
theorem zc_dayOk_spec {b : Bool} {k : Nat} (h : k < zc_ylL b) : 1 ≤ (zc_wmL b 12 1 k).1 ∧ (zc_wmL b 12 1 k).1 ≤ 12 ∧ (zc_wmL b 12 1 k).2 < zc_mlL b (zc_wmL b 12 1 k).1 ∧
    (k + 1 < zc_ylL b → (zc_wmL b 12 1 k).2 + 1 < zc_mlL b (zc_wmL b 12 1 k).1 → zc_wmL b 12 1 (k + 1) = ((zc_wmL b 12 1 k).1, (zc_wmL b 12 1 k).2 + 1)) ∧
    (k + 1 < zc_ylL b → ¬ (zc_wmL b 12 1 k).2 + 1 < zc_mlL b (zc_wmL b 12 1 k).1 → zc_wmL b 12 1 (k + 1) = ((zc_wmL b 12 1 k).1 + 1, 0)) ∧
    (¬ k + 1 < zc_ylL b → (zc_wmL b 12 1 k).1 = 12 ∧ (zc_wmL b 12 1 k).2 = 30) := by
  have h0 := zc_dayOk_all h
  unfold zc_dayOk at h0
  simp only [Bool.and_eq_true, Nat.ble_eq, Nat.blt_eq] at h0
  obtain ⟨h1, h2, h3, h4⟩ := h0
  refine ⟨h1, h2, h3, fun q1 q2 => ?_, fun q1 q2 => ?_, fun q1 => ?_⟩
  · have e1 : Nat.blt (k + 1) (zc_ylL b) = true := by rw [Nat.blt_eq]; exact q1
    have e2 : Nat.blt ((zc_wmL b 12 1 k).2 + 1) (zc_mlL b (zc_wmL b 12 1 k).1) = true := by rw [Nat.blt_eq]; exact q2
    rw [e1, e2] at h4
    simp only [cond_true, Bool.and_eq_true, Nat.beq_eq] at h4
    exact Prod.ext h4.1 h4.2
  · have e1 : Nat.blt (k + 1) (zc_ylL b) = true := by rw [Nat.blt_eq]; exact q1
    have e2 : Nat.blt ((zc_wmL b 12 1 k).2 + 1) (zc_mlL b (zc_wmL b 12 1 k).1) = false := by
      cases hb : Nat.blt ((zc_wmL b 12 1 k).2 + 1) (zc_mlL b (zc_wmL b 12 1 k).1) with
      | false => rfl
      | true => rw [Nat.blt_eq] at hb; exact absurd hb q2
    rw [e1, e2] at h4
    simp only [cond_true, cond_false, Bool.and_eq_true, Nat.beq_eq] at h4
    exact Prod.ext h4.1 h4.2
  · have e1 : Nat.blt (k + 1) (zc_ylL b) = false := by
      cases hb : Nat.blt (k + 1) (zc_ylL b) with
      | false => rfl
      | true => rw [Nat.blt_eq] at hb; exact absurd hb q1
    rw [e1] at h4
    simp only [cond_false, Bool.and_eq_true, Nat.beq_eq] at h4
    exact h4
theorem zc_mlL_in (b : Bool) {m : Nat} : 28 ≤ zc_mlL b m ∧ zc_mlL b m ≤ 31 := by
  unfold zc_mlL
  cases Nat.beq m 2 <;> cases b <;> cases (or (Nat.beq m 4) (or (Nat.beq m 6) (or (Nat.beq m 9) (Nat.beq m 11)))) <;> decide
/-- a date's year, month and day, and those of the next date -/
theorem zc_real {j : Nat} (h : j < 100077) : 2000 ≤ zc_y j ∧ zc_y j < 2274 ∧ 1 ≤ zc_m j ∧ zc_m j ≤ 12 ∧ 1 ≤ zc_d j ∧ zc_d j ≤ zc_ml (zc_y j) (zc_m j) ∧ zc_d j ≤ j + 1 := by
  obtain ⟨t, k, ht, hj, hk, hw⟩ := zc_wy_at h
  have hy : zc_y j = 2000 + t := by unfold zc_y; rw [hw]
  have hm : zc_m j = (zc_wmL (zc_leap (2000 + t)) 12 1 k).1 := by unfold zc_m; rw [hy, hw, zc_wm_L]
  have hd : zc_d j = (zc_wmL (zc_leap (2000 + t)) 12 1 k).2 + 1 := by unfold zc_d; rw [hy, hw, zc_wm_L]
  obtain ⟨h1, h2, h3, -⟩ := zc_dayOk_spec (b := zc_leap (2000 + t)) (k := k) hk
  have h4 : (zc_wmL (zc_leap (2000 + t)) 12 1 k).2 ≤ k := by
    have : ∀ f m r, (zc_wmL (zc_leap (2000 + t)) f m r).2 ≤ r := by
      intro f
      induction f with
      | zero => intro m r; exact Nat.le_refl _
      | succ f ih =>
        intro m r
        unfold zc_wmL
        cases Nat.blt r (zc_mlL (zc_leap (2000 + t)) m) with
        | true => exact Nat.le_refl _
        | false => exact Nat.le_trans (ih _ _) (Nat.sub_le _ _)
    exact this _ _ _
  rw [hy, hm, hd, zc_ml_L]
  refine ⟨by omega, by omega, h1, h2, by omega, by omega, by omega⟩
theorem zc_next {j : Nat} (h : j + 1 < 100077) : (zc_d j < zc_ml (zc_y j) (zc_m j) → zc_y (j + 1) = zc_y j ∧ zc_m (j + 1) = zc_m j ∧ zc_d (j + 1) = zc_d j + 1) ∧
    (¬ zc_d j < zc_ml (zc_y j) (zc_m j) → zc_d (j + 1) = 1) := by
  obtain ⟨t, k, ht, hj, hk, hw⟩ := zc_wy_at (j := j) (by omega)
  have hy : zc_y j = 2000 + t := by unfold zc_y; rw [hw]
  have hm : zc_m j = (zc_wmL (zc_leap (2000 + t)) 12 1 k).1 := by unfold zc_m; rw [hy, hw, zc_wm_L]
  have hd : zc_d j = (zc_wmL (zc_leap (2000 + t)) 12 1 k).2 + 1 := by unfold zc_d; rw [hy, hw, zc_wm_L]
  obtain ⟨h1, h2, h3, h4, h5, h6⟩ := zc_dayOk_spec (b := zc_leap (2000 + t)) (k := k) hk
  by_cases hq : k + 1 < zc_yl (2000 + t)
  · have hw1 : zc_wy 400 2000 (j + 1) = (2000 + t, k + 1) := by
      have h3' := zc_wy_eq t 400 0 (k + 1) (by omega) (by rw [Nat.zero_add]; exact hq)
      rw [Nat.zero_add] at h3'
      have e0 : zc_st 0 = 0 := by decide
      rw [show j + 1 = zc_st t - zc_st 0 + (k + 1) by omega]
      exact h3'
    have hy1 : zc_y (j + 1) = 2000 + t := by unfold zc_y; rw [hw1]
    have hm1 : zc_m (j + 1) = (zc_wmL (zc_leap (2000 + t)) 12 1 (k + 1)).1 := by unfold zc_m; rw [hy1, hw1, zc_wm_L]
    have hd1 : zc_d (j + 1) = (zc_wmL (zc_leap (2000 + t)) 12 1 (k + 1)).2 + 1 := by unfold zc_d; rw [hy1, hw1, zc_wm_L]
    rw [hy1, hm1, hd1, hy, hm, hd, zc_ml_L]
    constructor
    · intro q
      rw [h4 hq q]
      exact ⟨rfl, rfl, rfl⟩
    · intro q
      rw [h5 hq q]
  · have hw1 : zc_wy 400 2000 (j + 1) = (2000 + (t + 1), 0) := by
      have hp := zc_yl_pos (2000 + (t + 1))
      have h3' := zc_wy_eq (t + 1) 400 0 0 (by omega) (by rw [Nat.zero_add]; omega)
      rw [Nat.zero_add] at h3'
      have e0 : zc_st 0 = 0 := by decide
      have e1 := zc_st_succ t
      rw [show j + 1 = zc_st (t + 1) - zc_st 0 + 0 by omega]
      exact h3'
    have hy1 : zc_y (j + 1) = 2000 + (t + 1) := by unfold zc_y; rw [hw1]
    have hd1 : zc_d (j + 1) = 1 := by
      unfold zc_d; rw [hy1, hw1, zc_wm_L]
      cases zc_leap (2000 + (t + 1)) <;> rfl
    obtain ⟨e1, e2⟩ := h6 hq
    rw [hd1]
    constructor
    · intro q
      rw [hy, hm, hd, zc_ml_L, e1, e2] at q
      exfalso
      revert q
      cases zc_leap (2000 + t) <;> decide
    · intro _; rfl
theorem zc_in_month {j : Nat} : ∀ i, j + i < 100077 → zc_d j + i ≤ zc_ml (zc_y j) (zc_m j) → zc_y (j + i) = zc_y j ∧ zc_m (j + i) = zc_m j ∧ zc_d (j + i) = zc_d j + i := by
  intro i
  induction i with
  | zero => intro _ _; exact ⟨rfl, rfl, rfl⟩
  | succ i ih =>
    intro h1 h2
    obtain ⟨a, b, c⟩ := ih (by omega) (by omega)
    have h3 := (zc_next (j := j + i) (by omega)).1 (by rw [a, b, c]; omega)
    rw [a, b, c] at h3
    exact ⟨h3.1, h3.2.1, by rw [show j + (i + 1) = j + i + 1 by omega, h3.2.2]; omega⟩
theorem zc_last {j : Nat} (h : j + 1 < 100077) : zc_d (j + 1) = 1 ↔ zc_d j = zc_ml (zc_y j) (zc_m j) := by
  obtain ⟨-, -, -, -, r5, r6, -⟩ := zc_real (j := j) (by omega)
  obtain ⟨n1, n2⟩ := zc_next h
  constructor
  · intro q
    by_cases e : zc_d j < zc_ml (zc_y j) (zc_m j)
    · have := (n1 e).2.2; omega
    · omega
  · intro q
    exact n2 (by omega)
/-- the 32nd day counted from a month's first is in the next month -/
theorem zc_32 {j : Nat} (h : j + 32 < 100077) : zc_d (j + 32 - zc_d j) = 32 - zc_ml (zc_y j) (zc_m j) := by
  obtain ⟨-, -, -, -, r5, r6, r7⟩ := zc_real (j := j) (by omega)
  have hml := zc_mlL_in (zc_leap (zc_y j)) (m := zc_m j)
  rw [← zc_ml_L] at hml
  obtain ⟨a, b, c⟩ := zc_in_month (j := j) (zc_ml (zc_y j) (zc_m j) - zc_d j) (by omega) (by omega)
  have h1 := (zc_next (j := j + (zc_ml (zc_y j) (zc_m j) - zc_d j)) (by omega)).2 (by rw [a, b, c]; omega)
  have hml2 := zc_mlL_in (zc_leap (zc_y (j + (zc_ml (zc_y j) (zc_m j) - zc_d j) + 1))) (m := zc_m (j + (zc_ml (zc_y j) (zc_m j) - zc_d j) + 1))
  rw [← zc_ml_L] at hml2
  obtain ⟨-, -, c2⟩ := zc_in_month (j := j + (zc_ml (zc_y j) (zc_m j) - zc_d j) + 1) (31 - zc_ml (zc_y j) (zc_m j)) (by omega) (by omega)
  rw [show j + 32 - zc_d j = j + (zc_ml (zc_y j) (zc_m j) - zc_d j) + 1 + (31 - zc_ml (zc_y j) (zc_m j)) by omega, c2, h1]
  omega
end
section
/-! PURE: eight rest days can't fill a month. -/
theorem zp_pig (f : Nat → Int32) : ∀ (r : Nat) (vs : List Int32), vs.Nodup → (∀ v ∈ vs, ∃ i, i < r ∧ f i = v) → vs.length ≤ r := by
  intro r
  induction r with
  | zero =>
    intro vs _ h
    cases vs with
    | nil => exact Nat.le_refl _
    | cons v l => obtain ⟨i, hi, -⟩ := h v List.mem_cons_self; omega
  | succ r ih =>
    intro vs hn h
    by_cases hm : f r ∈ vs
    · have h1 := ih (vs.erase (f r)) (hn.erase _) (fun v hv => by
        rw [hn.mem_erase_iff] at hv
        obtain ⟨i, hi, he⟩ := h v hv.2
        by_cases e : i = r
        · subst e; exact absurd he.symm hv.1
        · exact ⟨i, by omega, he⟩)
      rw [List.length_erase_of_mem hm] at h1
      omega
    · have h1 := ih vs hn (fun v hv => by
        obtain ⟨i, hi, he⟩ := h v hv
        by_cases e : i = r
        · subst e; rw [he] at hm; exact absurd hv hm
        · exact ⟨i, by omega, he⟩)
      omega
/-- a date is a rest day: by its place in the week, or made -/
def zp_rest (f : Nat → Int32) (r : Nat) (x : Nat) : Prop := x % 7 = 0 ∨ x % 7 = 1 ∨ ∃ i, i < r ∧ f i = nI x
theorem zp_nI_inj {a b : Nat} (ha : a < 2 ^ 31) (hb : b < 2 ^ 31) (h : nI a = nI b) : a = b := (nI_eq ha hb).mp h
theorem zp_some_day (f : Nat → Int32) (r : Nat) (hr : r ≤ 8) (x0 : Nat) (hx : x0 < 2 ^ 30) : ∃ i, i < 28 ∧ ¬ zp_rest f r (x0 + i) := by
  refine Classical.byContradiction fun hno => ?_
  have hall : ∀ i, i < 28 → zp_rest f r (x0 + i) := fun i hi => Classical.byContradiction fun q => hno ⟨i, hi, q⟩
  obtain ⟨o, ho, hm⟩ : ∃ o, o < 7 ∧ (x0 + o) % 7 = 0 := ⟨(7 - x0 % 7) % 7, by omega, by omega⟩
  have hw : ∀ k, k < 19 → 2 ≤ k → ¬ k % 7 = 0 → ¬ k % 7 = 1 → ∃ i, i < r ∧ f i = nI (x0 + o + k) := by
    intro k h1 h2 h3 h4
    rcases hall (o + k) (by omega) with q | q | ⟨i, hi, q⟩
    · omega
    · omega
    · exact ⟨i, hi, by rw [q]; congr 1; omega⟩
  have hl := zp_pig f r ([2, 3, 4, 5, 6, 9, 10, 11, 12].map fun k => nI (x0 + o + k)) (by
      have inj : ∀ a b : Nat, a < 19 → b < 19 → nI (x0 + o + a) = nI (x0 + o + b) → a = b := by
        intro a b ha hb h
        have := zp_nI_inj (by omega) (by omega) h
        omega
      simp only [List.map_cons, List.map_nil, List.nodup_cons, List.mem_cons, List.not_mem_nil, or_false, not_or, List.nodup_nil, and_true, not_false_eq_true]
      refine ⟨⟨?_, ?_, ?_, ?_, ?_, ?_, ?_, ?_⟩, ⟨?_, ?_, ?_, ?_, ?_, ?_, ?_⟩, ⟨?_, ?_, ?_, ?_, ?_, ?_⟩, ⟨?_, ?_, ?_, ?_, ?_⟩, ⟨?_, ?_, ?_, ?_⟩, ⟨?_, ?_, ?_⟩, ⟨?_, ?_⟩, ?_⟩ <;> (intro h; have := inj _ _ (by decide) (by decide) h; omega)) (by
      intro v hv
      obtain ⟨k, hk, rfl⟩ := List.mem_map.mp hv
      simp only [List.mem_cons, List.not_mem_nil, or_false] at hk
      rcases hk with rfl | rfl | rfl | rfl | rfl | rfl | rfl | rfl | rfl <;> exact hw _ (by decide) (by decide) (by decide) (by decide))
  simp at hl
  omega
end
section
/-! PURE: one write after the other (the class) against all at once (the reference). -/
theorem zp_lt_toInt {a b : Int32} : a < b ↔ a.toInt < b.toInt := Int32.lt_iff_toInt_lt
theorem zp_le_toInt {a b : Int32} : a ≤ b ↔ a.toInt ≤ b.toInt := Int32.le_iff_toInt_le
theorem zp_of_pos {x : Int32} (h : ¬ x ≤ 0) : ∃ w : Nat, w < 2 ^ 31 ∧ x = nI w ∧ 0 < w := by
  have h0 : ¬ x < 0 := fun q => h (by rw [zp_le_toInt]; rw [zp_lt_toInt] at q; omega)
  obtain ⟨j, hj, rfl⟩ := nI_of h0
  refine ⟨j, hj, rfl, ?_⟩
  refine Nat.pos_of_ne_zero fun q => h ?_
  subst q
  decide
theorem zp_many (c : Nat) : ∀ d : zb_TD, c < 2 ^ 30 → zb_wMany c d = zm_afford d (nI c) := by
  induction c with
  | zero =>
    rintro ⟨st, wm, wl, li, tr, ch⟩ _
    show (1, (st, wm, wl, li, tr, ch)) = zm_afford (st, wm, wl, li, tr, ch) (nI 0)
    have e0 : (nI 0 : Int32) = 0 := nI_0
    unfold zm_afford
    show _ = if wl < 0 then _ else if wl < nI 0 then _ else _
    rw [e0]
    by_cases h : wl < 0
    · rw [if_pos h]
      have h2 : ¬ (0 : Int32) ≤ wl := by rw [zp_le_toInt]; rw [zp_lt_toInt] at h; omega
      show _ = (1, (st, wm + 0, (if 0 ≤ wl then wl - 0 else wl), li, tr, ch))
      rw [if_neg h2, Int32.add_zero]
    · rw [if_neg h, if_neg h]
      show _ = (1, (st, wm + 0, (if 0 ≤ wl then wl - 0 else wl), li, tr, ch))
      rw [Int32.add_zero, Int32.sub_zero]
      simp
  | succ c ih =>
    rintro ⟨st, wm, wl, li, tr, ch⟩ hc
    have hcI : (nI (c + 1)).toInt = (c : Int) + 1 := by rw [nI_toInt (by omega)]; omega
    have hcI0 : (nI c).toInt = (c : Int) := nI_toInt (by omega)
    show (if (zb_wOnce (st, wm, wl, li, tr, ch)).1 = 0 then _ else zb_wMany c (zb_wOnce (st, wm, wl, li, tr, ch)).2) = _
    by_cases h0 : wl = 0
    · have e : zb_wOnce (st, wm, wl, li, tr, ch) = (0, (1, wm, wl, li, tr, ch)) := by
        unfold zb_wOnce
        exact if_pos h0
      rw [e, if_pos rfl]
      unfold zm_afford
      show _ = if wl < 0 then _ else if wl < nI (c + 1) then _ else _
      have h1 : ¬ wl < 0 := by rw [h0]; decide
      have h2 : wl < nI (c + 1) := by rw [h0, zp_lt_toInt, hcI]; show (0 : Int) < _; omega
      rw [if_neg h1, if_pos h2]
      show _ = (0, (1, wm + wl, (if 0 ≤ wl then wl - wl else wl), li, tr, ch))
      rw [h0]
      show (0, (1, wm, (0 : Int32), li, tr, ch)) = _
      rw [Int32.add_zero, if_pos (by decide), Int32.sub_self]
    · by_cases h1 : wl ≤ 0
      · have e : zb_wOnce (st, wm, wl, li, tr, ch) = (1, (st, wm + 1, wl, li, tr, ch)) := by
          unfold zb_wOnce
          show (if wl = 0 then _ else if wl ≤ 0 then _ else _) = _
          rw [if_neg h0, if_pos h1]
          rfl
        rw [e, if_neg (show ¬ (1 : Int32) = 0 by decide), ih _ (by omega)]
        have h2 : wl < 0 := by
          rw [zp_lt_toInt]; rw [zp_le_toInt] at h1
          have : wl.toInt ≠ (0 : Int32).toInt := fun q => h0 (Int32.toInt_inj.mp q)
          omega
        have h3 : ¬ (0 : Int32) ≤ wl := by rw [zp_le_toInt]; rw [zp_lt_toInt] at h2; omega
        unfold zm_afford
        show (if wl < 0 then (1, (st, wm + 1 + nI c, (if 0 ≤ wl then wl - nI c else wl), li, tr, ch)) else _) = (if wl < 0 then (1, (st, wm + nI (c + 1), (if 0 ≤ wl then wl - nI (c + 1) else wl), li, tr, ch)) else _)
        rw [if_pos h2, if_pos h2, if_neg h3, if_neg h3, nI_succ, Int32.add_assoc, Int32.add_comm 1 (nI c)]
      · obtain ⟨w, hw, rfl, hw0⟩ := zp_of_pos h1
        have e : zb_wOnce (st, wm, nI w, li, tr, ch) = (1, (st, wm + 1, nI w - 1, li, tr, ch)) := by
          unfold zb_wOnce
          show (if nI w = 0 then _ else if nI w ≤ 0 then _ else _) = _
          rw [if_neg h0, if_neg h1]
          rfl
        have e1 : nI w - 1 = nI (w - 1) := by
          have := nI_pred (w - 1)
          rw [show w - 1 + 1 = w by omega] at this
          exact this
        rw [e, if_neg (show ¬ (1 : Int32) = 0 by decide), ih _ (by omega), e1]
        have hwI : (nI w).toInt = (w : Int) := nI_toInt (by omega)
        have hwI1 : (nI (w - 1)).toInt = (w : Int) - 1 := by rw [nI_toInt (by omega)]; omega
        have a1 : ¬ nI (w - 1) < 0 := nI_pos (by omega)
        have a2 : ¬ nI w < 0 := nI_pos (by omega)
        have b1 : (0 : Int32) ≤ nI (w - 1) := nI_pos' (by omega)
        have b2 : (0 : Int32) ≤ nI w := nI_pos' (by omega)
        unfold zm_afford
        show (if nI (w - 1) < 0 then _ else if nI (w - 1) < nI c then (0, (1, wm + 1 + nI (w - 1), (if 0 ≤ nI (w - 1) then nI (w - 1) - nI (w - 1) else nI (w - 1)), li, tr, ch)) else (1, (st, wm + 1 + nI c, (if 0 ≤ nI (w - 1) then nI (w - 1) - nI c else nI (w - 1)), li, tr, ch)))
          = (if nI w < 0 then _ else if nI w < nI (c + 1) then (0, (1, wm + nI w, (if 0 ≤ nI w then nI w - nI w else nI w), li, tr, ch)) else (1, (st, wm + nI (c + 1), (if 0 ≤ nI w then nI w - nI (c + 1) else nI w), li, tr, ch)))
        rw [if_neg a1, if_neg a2, if_pos b1, if_pos b1, if_pos b2, if_pos b2]
        have ew : wm + 1 + nI (w - 1) = wm + nI w := by
          rw [Int32.add_assoc, Int32.add_comm 1, ← nI_succ, show w - 1 + 1 = w by omega]
        have ec : wm + 1 + nI c = wm + nI (c + 1) := by
          rw [Int32.add_assoc, Int32.add_comm 1, ← nI_succ]
        by_cases hlt : w < c + 1
        · rw [if_pos (nI_lt (by omega) (by omega)), if_pos (nI_lt hlt (by omega)), ew, Int32.sub_self, Int32.sub_self]
        · rw [if_neg (nI_nlt (by omega) (by omega)), if_neg (nI_nlt (by omega) (by omega)), ec, pk_sub (by omega), pk_sub (by omega), show w - 1 - c = w - (c + 1) by omega]
end
