section
-- ===== PART A: goes FIRST, ahead of the names: the tables' words, and 'selects' of the private methods out of them =====
/-- a private method of a class that the tables say can be made, by its rows of tables_1 -/
def lw_okq (q : MethodName × Nat) : Prop := (q.1.cls ≠ "java/lang/invoke/MethodHandle" ∧ q.1.cls ≠ "java/lang/invoke/VarHandle") ∧ Cond.instantiable q.1.cls q.2 ∈ tables_1 ∧ Cond.privateMethod q.1 ∈ tables_1 ∧ Cond.instanceMethod q.1 ∈ tables_1
theorem lw_p0 : lw_okq (⟨"MoneyBooth", "lookAtOrders", "()I"⟩, 13) := ⟨⟨by decide +kernel, by decide +kernel⟩, List.mem_of_getElem? (i := 12) (by decide +kernel), List.mem_of_getElem? (i := 65) (by decide +kernel), List.mem_of_getElem? (i := 66) (by decide +kernel)⟩
theorem lw_p1 : lw_okq (⟨"MoneyBooth", "doneIfPossible", "(I)Z"⟩, 13) := ⟨⟨by decide +kernel, by decide +kernel⟩, List.mem_of_getElem? (i := 12) (by decide +kernel), List.mem_of_getElem? (i := 69) (by decide +kernel), List.mem_of_getElem? (i := 70) (by decide +kernel)⟩
theorem lw_p2 : lw_okq (⟨"MoneyBooth", "orderPart", "(II)I"⟩, 13) := ⟨⟨by decide +kernel, by decide +kernel⟩, List.mem_of_getElem? (i := 12) (by decide +kernel), List.mem_of_getElem? (i := 73) (by decide +kernel), List.mem_of_getElem? (i := 74) (by decide +kernel)⟩
theorem lw_p3 : lw_okq (⟨"MoneyBooth", "changeIfPossible", "(IIIII)I"⟩, 13) := ⟨⟨by decide +kernel, by decide +kernel⟩, List.mem_of_getElem? (i := 12) (by decide +kernel), List.mem_of_getElem? (i := 80) (by decide +kernel), List.mem_of_getElem? (i := 81) (by decide +kernel)⟩
theorem lw_p4 : lw_okq (⟨"MoneyBooth", "isCustomer", "(I)Z"⟩, 13) := ⟨⟨by decide +kernel, by decide +kernel⟩, List.mem_of_getElem? (i := 12) (by decide +kernel), List.mem_of_getElem? (i := 84) (by decide +kernel), List.mem_of_getElem? (i := 85) (by decide +kernel)⟩
theorem lw_p5 : lw_okq (⟨"MoneyBooth", "tenthousandths", "(IIJ)J"⟩, 13) := ⟨⟨by decide +kernel, by decide +kernel⟩, List.mem_of_getElem? (i := 12) (by decide +kernel), List.mem_of_getElem? (i := 91) (by decide +kernel), List.mem_of_getElem? (i := 92) (by decide +kernel)⟩
theorem lw_p6 : lw_okq (⟨"MoneyBooth", "rateOf", "(II)I"⟩, 13) := ⟨⟨by decide +kernel, by decide +kernel⟩, List.mem_of_getElem? (i := 12) (by decide +kernel), List.mem_of_getElem? (i := 95) (by decide +kernel), List.mem_of_getElem? (i := 96) (by decide +kernel)⟩
theorem lw_p7 : lw_okq (⟨"MoneyBooth", "inPurse", "(II)I"⟩, 13) := ⟨⟨by decide +kernel, by decide +kernel⟩, List.mem_of_getElem? (i := 12) (by decide +kernel), List.mem_of_getElem? (i := 103) (by decide +kernel), List.mem_of_getElem? (i := 104) (by decide +kernel)⟩
theorem lw_p8 : lw_okq (⟨"MoneyBooth", "isAllowed", "(IIIJ)Z"⟩, 13) := ⟨⟨by decide +kernel, by decide +kernel⟩, List.mem_of_getElem? (i := 12) (by decide +kernel), List.mem_of_getElem? (i := 107) (by decide +kernel), List.mem_of_getElem? (i := 108) (by decide +kernel)⟩
theorem lw_p9 : lw_okq (⟨"MoneyBooth", "keepDust", "(II)V"⟩, 13) := ⟨⟨by decide +kernel, by decide +kernel⟩, List.mem_of_getElem? (i := 12) (by decide +kernel), List.mem_of_getElem? (i := 118) (by decide +kernel), List.mem_of_getElem? (i := 119) (by decide +kernel)⟩
theorem lw_p10 : lw_okq (⟨"MoneyBooth", "moveOrder", "(II)V"⟩, 13) := ⟨⟨by decide +kernel, by decide +kernel⟩, List.mem_of_getElem? (i := 12) (by decide +kernel), List.mem_of_getElem? (i := 122) (by decide +kernel), List.mem_of_getElem? (i := 123) (by decide +kernel)⟩
theorem lw_p11 : lw_okq (⟨"MoneyBooth", "setOrderPart", "(III)V"⟩, 13) := ⟨⟨by decide +kernel, by decide +kernel⟩, List.mem_of_getElem? (i := 12) (by decide +kernel), List.mem_of_getElem? (i := 126) (by decide +kernel), List.mem_of_getElem? (i := 127) (by decide +kernel)⟩
theorem lw_p12 : lw_okq (⟨"MoneyBooth", "factOfBooth", "(I)I"⟩, 13) := ⟨⟨by decide +kernel, by decide +kernel⟩, List.mem_of_getElem? (i := 12) (by decide +kernel), List.mem_of_getElem? (i := 136) (by decide +kernel), List.mem_of_getElem? (i := 137) (by decide +kernel)⟩
theorem lw_p13 : lw_okq (⟨"MoneyBooth", "ratesThatAreNotZero", "()I"⟩, 13) := ⟨⟨by decide +kernel, by decide +kernel⟩, List.mem_of_getElem? (i := 12) (by decide +kernel), List.mem_of_getElem? (i := 140) (by decide +kernel), List.mem_of_getElem? (i := 141) (by decide +kernel)⟩
theorem lw_p14 : lw_okq (⟨"MoneyBooth", "digestOfMoneys", "(J)J"⟩, 13) := ⟨⟨by decide +kernel, by decide +kernel⟩, List.mem_of_getElem? (i := 12) (by decide +kernel), List.mem_of_getElem? (i := 144) (by decide +kernel), List.mem_of_getElem? (i := 145) (by decide +kernel)⟩
theorem lw_p15 : lw_okq (⟨"MoneyBooth", "factOfMoney", "(II)I"⟩, 13) := ⟨⟨by decide +kernel, by decide +kernel⟩, List.mem_of_getElem? (i := 12) (by decide +kernel), List.mem_of_getElem? (i := 148) (by decide +kernel), List.mem_of_getElem? (i := 149) (by decide +kernel)⟩
def lw_privs_1 : List (MethodName × Nat) := [(⟨"MoneyBooth", "lookAtOrders", "()I"⟩, 13), (⟨"MoneyBooth", "doneIfPossible", "(I)Z"⟩, 13), (⟨"MoneyBooth", "orderPart", "(II)I"⟩, 13), (⟨"MoneyBooth", "changeIfPossible", "(IIIII)I"⟩, 13), (⟨"MoneyBooth", "isCustomer", "(I)Z"⟩, 13), (⟨"MoneyBooth", "tenthousandths", "(IIJ)J"⟩, 13), (⟨"MoneyBooth", "rateOf", "(II)I"⟩, 13), (⟨"MoneyBooth", "inPurse", "(II)I"⟩, 13), (⟨"MoneyBooth", "isAllowed", "(IIIJ)Z"⟩, 13), (⟨"MoneyBooth", "keepDust", "(II)V"⟩, 13), (⟨"MoneyBooth", "moveOrder", "(II)V"⟩, 13), (⟨"MoneyBooth", "setOrderPart", "(III)V"⟩, 13), (⟨"MoneyBooth", "factOfBooth", "(I)I"⟩, 13), (⟨"MoneyBooth", "ratesThatAreNotZero", "()I"⟩, 13), (⟨"MoneyBooth", "digestOfMoneys", "(J)J"⟩, 13), (⟨"MoneyBooth", "factOfMoney", "(II)I"⟩, 13)]
theorem lw_r1 : ∀ q ∈ lw_privs_1, lw_okq q := List.forall_mem_cons.mpr ⟨lw_p0, List.forall_mem_cons.mpr ⟨lw_p1, List.forall_mem_cons.mpr ⟨lw_p2, List.forall_mem_cons.mpr ⟨lw_p3, List.forall_mem_cons.mpr ⟨lw_p4, List.forall_mem_cons.mpr ⟨lw_p5, List.forall_mem_cons.mpr ⟨lw_p6, List.forall_mem_cons.mpr ⟨lw_p7, List.forall_mem_cons.mpr ⟨lw_p8, List.forall_mem_cons.mpr ⟨lw_p9, List.forall_mem_cons.mpr ⟨lw_p10, List.forall_mem_cons.mpr ⟨lw_p11, List.forall_mem_cons.mpr ⟨lw_p12, List.forall_mem_cons.mpr ⟨lw_p13, List.forall_mem_cons.mpr ⟨lw_p14, List.forall_mem_cons.mpr ⟨lw_p15, fun _ h => absurd h List.not_mem_nil⟩⟩⟩⟩⟩⟩⟩⟩⟩⟩⟩⟩⟩⟩⟩⟩
theorem lw_p16 : lw_okq (⟨"MoneyBooth", "inAllPurses", "(I)I"⟩, 13) := ⟨⟨by decide +kernel, by decide +kernel⟩, List.mem_of_getElem? (i := 12) (by decide +kernel), List.mem_of_getElem? (i := 152) (by decide +kernel), List.mem_of_getElem? (i := 153) (by decide +kernel)⟩
theorem lw_p17 : lw_okq (⟨"java/lang/Throwable", "fillInStackTrace", "(I)Ljava/lang/Throwable;"⟩, 6) := ⟨⟨by decide +kernel, by decide +kernel⟩, List.mem_of_getElem? (i := 203) (by decide +kernel), List.mem_of_getElem? (i := 201) (by decide +kernel), List.mem_of_getElem? (i := 202) (by decide +kernel)⟩
theorem lw_p18 : lw_okq (⟨"MoneyBooth", "isPlace", "(I)Z"⟩, 13) := ⟨⟨by decide +kernel, by decide +kernel⟩, List.mem_of_getElem? (i := 12) (by decide +kernel), List.mem_of_getElem? (i := 334) (by decide +kernel), List.mem_of_getElem? (i := 335) (by decide +kernel)⟩
theorem lw_p19 : lw_okq (⟨"MoneyBooth", "mostAtGoal", "(IIJII)J"⟩, 13) := ⟨⟨by decide +kernel, by decide +kernel⟩, List.mem_of_getElem? (i := 12) (by decide +kernel), List.mem_of_getElem? (i := 392) (by decide +kernel), List.mem_of_getElem? (i := 393) (by decide +kernel)⟩
theorem lw_p20 : lw_okq (⟨"MoneyBooth", "behindOneChange", "(IIJ)J"⟩, 13) := ⟨⟨by decide +kernel, by decide +kernel⟩, List.mem_of_getElem? (i := 12) (by decide +kernel), List.mem_of_getElem? (i := 396) (by decide +kernel), List.mem_of_getElem? (i := 397) (by decide +kernel)⟩
theorem lw_p21 : lw_okq (⟨"MoneyBooth", "mostOver", "(IIIJII)J"⟩, 13) := ⟨⟨by decide +kernel, by decide +kernel⟩, List.mem_of_getElem? (i := 12) (by decide +kernel), List.mem_of_getElem? (i := 401) (by decide +kernel), List.mem_of_getElem? (i := 402) (by decide +kernel)⟩
theorem lw_p22 : lw_okq (⟨"MoneyBooth", "firstOrderPlace", "(II)I"⟩, 13) := ⟨⟨by decide +kernel, by decide +kernel⟩, List.mem_of_getElem? (i := 12) (by decide +kernel), List.mem_of_getElem? (i := 423) (by decide +kernel), List.mem_of_getElem? (i := 424) (by decide +kernel)⟩
theorem lw_p23 : lw_okq (⟨"MoneyBooth", "leastRateFor", "(I)I"⟩, 13) := ⟨⟨by decide +kernel, by decide +kernel⟩, List.mem_of_getElem? (i := 12) (by decide +kernel), List.mem_of_getElem? (i := 427) (by decide +kernel), List.mem_of_getElem? (i := 428) (by decide +kernel)⟩
theorem lw_p24 : lw_okq (⟨"MoneyBoothModel", "fail", "(I)I"⟩, 14) := ⟨⟨by decide +kernel, by decide +kernel⟩, List.mem_of_getElem? (i := 439) (by decide +kernel), List.mem_of_getElem? (i := 502) (by decide +kernel), List.mem_of_getElem? (i := 503) (by decide +kernel)⟩
theorem lw_p25 : lw_okq (⟨"MoneyBoothModel", "lookAt", "()I"⟩, 14) := ⟨⟨by decide +kernel, by decide +kernel⟩, List.mem_of_getElem? (i := 439) (by decide +kernel), List.mem_of_getElem? (i := 506) (by decide +kernel), List.mem_of_getElem? (i := 507) (by decide +kernel)⟩
theorem lw_p26 : lw_okq (⟨"MoneyBoothModel", "or", "(II)I"⟩, 14) := ⟨⟨by decide +kernel, by decide +kernel⟩, List.mem_of_getElem? (i := 439) (by decide +kernel), List.mem_of_getElem? (i := 510) (by decide +kernel), List.mem_of_getElem? (i := 511) (by decide +kernel)⟩
theorem lw_p27 : lw_okq (⟨"MoneyBoothModel", "rate", "(II)I"⟩, 14) := ⟨⟨by decide +kernel, by decide +kernel⟩, List.mem_of_getElem? (i := 439) (by decide +kernel), List.mem_of_getElem? (i := 514) (by decide +kernel), List.mem_of_getElem? (i := 515) (by decide +kernel)⟩
theorem lw_p28 : lw_okq (⟨"MoneyBoothModel", "isDue", "(II)Z"⟩, 14) := ⟨⟨by decide +kernel, by decide +kernel⟩, List.mem_of_getElem? (i := 439) (by decide +kernel), List.mem_of_getElem? (i := 518) (by decide +kernel), List.mem_of_getElem? (i := 519) (by decide +kernel)⟩
theorem lw_p29 : lw_okq (⟨"MoneyBoothModel", "can", "(IIIII)Z"⟩, 14) := ⟨⟨by decide +kernel, by decide +kernel⟩, List.mem_of_getElem? (i := 439) (by decide +kernel), List.mem_of_getElem? (i := 522) (by decide +kernel), List.mem_of_getElem? (i := 523) (by decide +kernel)⟩
theorem lw_p30 : lw_okq (⟨"MoneyBoothModel", "purse", "(II)I"⟩, 14) := ⟨⟨by decide +kernel, by decide +kernel⟩, List.mem_of_getElem? (i := 439) (by decide +kernel), List.mem_of_getElem? (i := 526) (by decide +kernel), List.mem_of_getElem? (i := 527) (by decide +kernel)⟩
theorem lw_p31 : lw_okq (⟨"MoneyBoothModel", "gives", "(JI)J"⟩, 14) := ⟨⟨by decide +kernel, by decide +kernel⟩, List.mem_of_getElem? (i := 439) (by decide +kernel), List.mem_of_getElem? (i := 530) (by decide +kernel), List.mem_of_getElem? (i := 531) (by decide +kernel)⟩
def lw_privs_2 : List (MethodName × Nat) := [(⟨"MoneyBooth", "inAllPurses", "(I)I"⟩, 13), (⟨"java/lang/Throwable", "fillInStackTrace", "(I)Ljava/lang/Throwable;"⟩, 6), (⟨"MoneyBooth", "isPlace", "(I)Z"⟩, 13), (⟨"MoneyBooth", "mostAtGoal", "(IIJII)J"⟩, 13), (⟨"MoneyBooth", "behindOneChange", "(IIJ)J"⟩, 13), (⟨"MoneyBooth", "mostOver", "(IIIJII)J"⟩, 13), (⟨"MoneyBooth", "firstOrderPlace", "(II)I"⟩, 13), (⟨"MoneyBooth", "leastRateFor", "(I)I"⟩, 13), (⟨"MoneyBoothModel", "fail", "(I)I"⟩, 14), (⟨"MoneyBoothModel", "lookAt", "()I"⟩, 14), (⟨"MoneyBoothModel", "or", "(II)I"⟩, 14), (⟨"MoneyBoothModel", "rate", "(II)I"⟩, 14), (⟨"MoneyBoothModel", "isDue", "(II)Z"⟩, 14), (⟨"MoneyBoothModel", "can", "(IIIII)Z"⟩, 14), (⟨"MoneyBoothModel", "purse", "(II)I"⟩, 14), (⟨"MoneyBoothModel", "gives", "(JI)J"⟩, 14)]
theorem lw_r2 : ∀ q ∈ lw_privs_2, lw_okq q := List.forall_mem_cons.mpr ⟨lw_p16, List.forall_mem_cons.mpr ⟨lw_p17, List.forall_mem_cons.mpr ⟨lw_p18, List.forall_mem_cons.mpr ⟨lw_p19, List.forall_mem_cons.mpr ⟨lw_p20, List.forall_mem_cons.mpr ⟨lw_p21, List.forall_mem_cons.mpr ⟨lw_p22, List.forall_mem_cons.mpr ⟨lw_p23, List.forall_mem_cons.mpr ⟨lw_p24, List.forall_mem_cons.mpr ⟨lw_p25, List.forall_mem_cons.mpr ⟨lw_p26, List.forall_mem_cons.mpr ⟨lw_p27, List.forall_mem_cons.mpr ⟨lw_p28, List.forall_mem_cons.mpr ⟨lw_p29, List.forall_mem_cons.mpr ⟨lw_p30, List.forall_mem_cons.mpr ⟨lw_p31, fun _ h => absurd h List.not_mem_nil⟩⟩⟩⟩⟩⟩⟩⟩⟩⟩⟩⟩⟩⟩⟩⟩
theorem lw_p32 : lw_okq (⟨"MoneyBoothModel", "parts", "(JI)J"⟩, 14) := ⟨⟨by decide +kernel, by decide +kernel⟩, List.mem_of_getElem? (i := 439) (by decide +kernel), List.mem_of_getElem? (i := 534) (by decide +kernel), List.mem_of_getElem? (i := 535) (by decide +kernel)⟩
theorem lw_p33 : lw_okq (⟨"MoneyBoothModel", "carryOut", "(IIII)I"⟩, 14) := ⟨⟨by decide +kernel, by decide +kernel⟩, List.mem_of_getElem? (i := 439) (by decide +kernel), List.mem_of_getElem? (i := 539) (by decide +kernel), List.mem_of_getElem? (i := 540) (by decide +kernel)⟩
theorem lw_p34 : lw_okq (⟨"MoneyBoothModel", "takeOut", "(I)V"⟩, 14) := ⟨⟨by decide +kernel, by decide +kernel⟩, List.mem_of_getElem? (i := 439) (by decide +kernel), List.mem_of_getElem? (i := 547) (by decide +kernel), List.mem_of_getElem? (i := 548) (by decide +kernel)⟩
theorem lw_p35 : lw_okq (⟨"MoneyBoothModel", "isCustomer", "(I)Z"⟩, 14) := ⟨⟨by decide +kernel, by decide +kernel⟩, List.mem_of_getElem? (i := 439) (by decide +kernel), List.mem_of_getElem? (i := 579) (by decide +kernel), List.mem_of_getElem? (i := 580) (by decide +kernel)⟩
theorem lw_p36 : lw_okq (⟨"MoneyBoothModel", "moneyTold", "(II)I"⟩, 14) := ⟨⟨by decide +kernel, by decide +kernel⟩, List.mem_of_getElem? (i := 439) (by decide +kernel), List.mem_of_getElem? (i := 603) (by decide +kernel), List.mem_of_getElem? (i := 604) (by decide +kernel)⟩
theorem lw_p37 : lw_okq (⟨"MoneyBoothModel", "all", "(I)I"⟩, 14) := ⟨⟨by decide +kernel, by decide +kernel⟩, List.mem_of_getElem? (i := 439) (by decide +kernel), List.mem_of_getElem? (i := 607) (by decide +kernel), List.mem_of_getElem? (i := 608) (by decide +kernel)⟩
theorem lw_p38 : lw_okq (⟨"MoneyBoothModel", "counted", "(I)I"⟩, 14) := ⟨⟨by decide +kernel, by decide +kernel⟩, List.mem_of_getElem? (i := 439) (by decide +kernel), List.mem_of_getElem? (i := 619) (by decide +kernel), List.mem_of_getElem? (i := 620) (by decide +kernel)⟩
theorem lw_p39 : lw_okq (⟨"MoneyBoothModel", "most", "(IIJII)J"⟩, 14) := ⟨⟨by decide +kernel, by decide +kernel⟩, List.mem_of_getElem? (i := 439) (by decide +kernel), List.mem_of_getElem? (i := 631) (by decide +kernel), List.mem_of_getElem? (i := 632) (by decide +kernel)⟩
def lw_privs_3 : List (MethodName × Nat) := [(⟨"MoneyBoothModel", "parts", "(JI)J"⟩, 14), (⟨"MoneyBoothModel", "carryOut", "(IIII)I"⟩, 14), (⟨"MoneyBoothModel", "takeOut", "(I)V"⟩, 14), (⟨"MoneyBoothModel", "isCustomer", "(I)Z"⟩, 14), (⟨"MoneyBoothModel", "moneyTold", "(II)I"⟩, 14), (⟨"MoneyBoothModel", "all", "(I)I"⟩, 14), (⟨"MoneyBoothModel", "counted", "(I)I"⟩, 14), (⟨"MoneyBoothModel", "most", "(IIJII)J"⟩, 14)]
theorem lw_r3 : ∀ q ∈ lw_privs_3, lw_okq q := List.forall_mem_cons.mpr ⟨lw_p32, List.forall_mem_cons.mpr ⟨lw_p33, List.forall_mem_cons.mpr ⟨lw_p34, List.forall_mem_cons.mpr ⟨lw_p35, List.forall_mem_cons.mpr ⟨lw_p36, List.forall_mem_cons.mpr ⟨lw_p37, List.forall_mem_cons.mpr ⟨lw_p38, List.forall_mem_cons.mpr ⟨lw_p39, fun _ h => absurd h List.not_mem_nil⟩⟩⟩⟩⟩⟩⟩⟩
def lw_privs : List (MethodName × Nat) := lw_privs_1 ++ (lw_privs_2 ++ (lw_privs_3))
def lw_tbl : List Cond := k2_sels lw_privs ++ tables_1
theorem lw_privs_ok : ∀ q ∈ lw_privs, lw_okq q := by
  show ∀ q ∈ lw_privs_1 ++ (lw_privs_2 ++ (lw_privs_3)), lw_okq q
  exact List.forall_mem_append.mpr ⟨lw_r1, List.forall_mem_append.mpr ⟨lw_r2, lw_r3⟩⟩
/-- the streams that the claim lets the run draw from -/
abbrev lw_cs : List Choice := [Jvm.Choice.named "NaN.bits"]
theorem lw_bits : nanBits ∈ lw_cs := by first | decide | exact List.mem_cons_self | simp [lw_cs, nanBits]

/-! ===== BEGIN words of one list among another's, by their places ===== -/
theorem goodIn_r {big : List Cond} (ws : List Cond) (ps : List Nat) (hp : ws = ps.filterMap (fun i => big[i]?)) (h : ws.all goodWord = true) : GoodIn big ws := by
  intro w hw
  have h1 := List.all_eq_true.mp h w hw
  rw [hp] at hw
  obtain ⟨i, -, hi⟩ := List.mem_filterMap.mp hw
  have hm : w ∈ big := by first | exact List.mem_of_getElem? hi | exact List.getElem?_mem hi
  exact ⟨hm, good_of_word h1⟩
theorem goodIn_app {big a b : List Cond} (ha : GoodIn big a) (hb : GoodIn big b) : GoodIn big (a ++ b) := fun w h => (List.mem_append.mp h).elim (ha w) (hb w)
theorem goodIn_ca {big a b : List Cond} {c : Cond} (ha : GoodIn big (c :: a)) (hb : GoodIn big b) : GoodIn big (c :: (a ++ b)) := fun w h => (List.mem_cons.mp h).elim (fun e => ha w (List.mem_cons.mpr (Or.inl e))) (fun h => (List.mem_append.mp h).elim (fun h => ha w (List.mem_cons.mpr (Or.inr h))) (hb w))
theorem goodIn_sub {big ws : List Cond} (hm : ∀ w ∈ ws, w ∈ big) (h : ws.all goodWord = true) : GoodIn big ws := fun w hw => ⟨hm w hw, good_of_word (List.all_eq_true.mp h w hw)⟩
/-! ===== END ===== -/

/-! ===== BEGIN exceptions that leave a method, and their catching by the caller (launches without stack traces) ===== -/
section VXA
/-! The laws vx_back, vx_callV, vx_callS, vx_callSW, vx_throw0, vx_throwS follow proofs of the library, with one case more: JvmDerived/Free/Laws.lean (Back.of_free), Shelf42/LK1.lean (callV, callS), Shelf/KitTraced.lean (throwNew0V, throwNewS). -/
/-- where a method has thrown q: the class by its name, the cell, what was written, the world -/
def vx_T (XC : String → State → State → Prop) (st : State) (q : Addr) (t : State) (mc ms : Nat) (free : Addr → Prop) : Prop :=
  ∃ (E : String) (ce : Cell) (L : List Loc), XC E st t ∧ t.heap[q]? = some ce ∧ ce.vm = .none ∧ st.vm.findClass E = some ce.cls ∧ st.WarmedH t.vm ∧ st.sameButNew ({ t with vm := st.vm } : State) L mc ms ∧ ∀ z ∈ L, free z.base
def vx_Q (Qc : Array Value → State → Outcome → State → Prop) (XC : String → State → State → Prop) (mc ms : Nat) (free : Addr → Prop) : Array Value → State → Outcome → State → Prop := fun a st o t =>
  (Qc a st o t ∧ ∃ L, FrameEnd st o t L mc ms ∧ ∀ q ∈ L, free q.base) ∨ ∃ q, o = .threw q ∧ vx_T XC st q t mc ms free
/-- a callee that returns or throws -/
def vx_Met (l : Launch) (y : MethodName) (ws : List Cond) (rm : Room) (Pc : Array Value → State → Prop) (Qc : Array Value → State → Outcome → State → Prop) (XC : String → State → State → Prop) (mc ms : Nat) (free : Addr → Prop) : Prop :=
  MetFree l y (headSpec ws rm) Pc (fun _ _ _ _ _ => True) (vx_Q Qc XC mc ms free)
def vx_Post (XC : String → State → State → Prop) (mc ms : Nat) (free : Addr → Prop) : Pt → Array Value → Addr → Pt → Prop := fun A a q B =>
  ∃ (g : JFrame) (mk : MethodId) (t : State) (L : List Loc) (E : String) (ce : Cell), B.U.heap = t.heap ∧ B.U.vm = t.vm ∧ XC E (A.U.calling g mk a) t ∧ t.heap[q]? = some ce ∧ ce.vm = .none ∧ A.U.vm.findClass E = some ce.cls ∧ B.locs = A.locs ++ L ∧ (∀ z ∈ L, free z.base) ∧ B.cells = A.cells + mc ∧ B.slots = A.slots + ms
def vx_Back (l : Launch) (R : Room) (p : Program) (e : Env) (below : List Frame) (s : State) (sargs : Array Value) (y : MethodName) (len W9 : Nat)
    (Pre : Pt → Array Value → Prop) (Post : Pt → Array Value → Option Value → Pt → Prop) (PostX : Pt → Array Value → Addr → Pt → Prop) : Prop :=
  ∀ (m : MethodId) (meth : Method) (c : Code) (A : Pt) (g : JFrame) (ig : Instr) (mk : MethodId) (a : Array Value),
    Stand p l e R s m sargs below meth c A.U A.locs A.cells A.slots → g.method = m → g.locals.size = c.maxLocals → decode c.code g.pc = .ok (ig, len) →
    2 * g.monitorRoom + (g.stack.map fun v => v.category).sum ≤ W9 → A.U.methodNamed? y = some mk → Pre A a →
    (∃ (v : Option Value) (B : Pt), Stand p l e R s m sargs below meth c B.U B.locs B.cells B.slots ∧ Post A a v B ∧
      Steps p.tables e below (doInvoke e (A.U.setTop g) [] mk a).1 (B.U.setTop { g with pc := g.pc + len, stack := v.toList ++ g.stack })) ∨
    (∃ (q : Addr) (B : Pt), Stand p l e R s m sargs below meth c B.U B.locs B.cells B.slots ∧ PostX A a q B ∧
      Steps p.tables e below (doInvoke e (A.U.setTop g) [] mk a).1 ((B.U.setTop g).pushFrame (.throwing q)))
section Payer
variable {l : Launch} {R : Room} {p : Program} {e : Env} {below : List Frame} {s : State} {sargs : Array Value} {y : MethodName} {len W9 : Nat}
theorem vx_back {ws : List Cond} {rm : Room} {Pc : Array Value → State → Prop} {Qc : Array Value → State → Outcome → State → Prop} {XC : String → State → State → Prop} {mc ms : Nat} {free : Addr → Prop} {bytes : ByteArray} {maxL : Nat} {ret : Option FieldType}
    (hM : vx_Met l y ws rm Pc Qc XC mc ms free) (hblind : FrameBlind Pc) (hrc : rm.cells = mc) (hrs : rm.slots = ms)
    (hframes : rm.frames + 1 ≤ R.frames) (hlocals : W9 + (maxL + 11) + rm.locals ≤ R.locals)
    (hws : ∀ w ∈ ws, ∀ a' U, s.WarmedH U.vm → w.before a' U = true) (hcode : Cond.code y bytes maxL ret ∈ ws) (hinit : ∀ a' U, s.WarmedH U.vm → (Cond.initialized y.cls).before a' U = true) :
    vx_Back l R p e below s sargs y len W9 (PreOf R mc ms Pc) (PostOf Qc mc ms free) (vx_Post XC mc ms free) := by
  intro m meth c A g ig mk a X hg hsize hdg hW hn hp
  have h1 : (headSpec ws rm).pre.before a A.U = true := atoms_intro fun w hw => hws w hw _ _ X.warmed
  have h2 : (Cond.code y bytes maxL ret).before a A.U = true := hws _ hcode _ _ X.warmed
  have h3 : (Cond.initialized y.cls).before a A.U = true := hinit _ _ X.warmed
  have h4 : A.cells + (headSpec ws rm).room.cells ≤ R.cells := by rw [show (headSpec ws rm).room.cells = mc from hrc]; exact hp.1
  have h5 : A.slots + (headSpec ws rm).room.slots ≤ R.slots := by rw [show (headSpec ws rm).room.slots = ms from hrs]; exact hp.2.1
  have hPc : Pc a (A.U.calling g mk a) := hblind _ _ _ _ hp.2.2
  obtain ⟨U, Ls, c0, s0⟩ := A
  dsimp only [Pt.U, Pt.locs, Pt.cells, Pt.slots] at h1 h2 h3 h4 h5 X hn hPc ⊢
  obtain ⟨methY, cY, hmY, hcY, -, hlY, -, -, -, -⟩ := Cond.code_spec hn h2
  obtain ⟨kY, hkY, -⟩ := className_of_methodNamed hn
  have hinitY : kY.init = .initialized := Cond.initialized_spec (findClass_of_methodNamed hn) hkY h3
  have h : At U g.method c below := by rw [hg]; exact X.here
  have hlocals9 : W9 + (maxL + 11) + (headSpec ws rm).room.locals ≤ R.locals := hlocals
  have happ : (headSpec ws rm).appliesLoose y e.platform (U.calling g mk a) = true :=
    Spec.appliesLoose_calling (g := g) h hdg hn hkY hinitY
      (X.room_calling (g := g) (R' := (headSpec ws rm).room) hsize hmY hcY hframes (by rw [hlY]; omega) h4 h5) h1
  obtain ⟨mid, hmid⟩ := h.above
  have hfr : (U.setTop g).frames = (.java g :: mid) ++ below := by rw [State.frames_setTop' g h.top, hmid]; rfl
  obtain ⟨o, s₂, hsteps, -, hend, hq⟩ := Steps.callFree hM p X.admits X.cas X.clock (acts := []) hfr happ hPc trivial
  have hq' : vx_Q Qc XC mc ms free a (U.calling g mk a) o s₂ := hq
  rw [State.frames_setTop' g h.top] at hend
  obtain ⟨g₀, hg0⟩ := Option.isSome_iff_exists.mp h.top
  obtain ⟨r, hr⟩ := State.topJava?_eq_some.mp hg0
  have hr' : (({ U with heap := s₂.heap, slotsUsed := s₂.slotsUsed } : State).setVm s₂.vm).frames = .java g₀ :: r := hr
  rcases hq' with ⟨hqc, L, hfe, hL⟩ | ⟨q, rfl, E, ce, L, hx, hce, hcv, hcl, hW₂, hsm, hL⟩
  · obtain ⟨⟨v, rfl⟩, hW₂, e2, q2, q3, q4, q5, q6⟩ := id hfe
    have e3 : s₂ = ({ (U.calling g mk a).setFrames s₂.frames with heap := s₂.heap, slotsUsed := s₂.slotsUsed } : State).setVm s₂.vm := by
      have : s₂ = ({ s₂ with vm := (U.calling g mk a).vm } : State).setVm s₂.vm := rfl
      rw [e2] at this
      exact this
    obtain ⟨c₂, i₂, len₂, hc₂, hd₂, hf₂⟩ := hend
    have hW' : U.WarmedH s₂.vm := hW₂
    have hcc : c₂ = c := by
      have h1 : s₂.code? g.method = U.code? g.method := by
        rw [State.code?_eq, State.code?_eq, hW'.alike.method?]
      exact Option.some.inj (hc₂.symm.trans (h1.trans h.code))
    subst hcc
    have hlen : len₂ = len := by rw [hdg] at hd₂; cases hd₂; rfl
    subst hlen
    have hs₂ : s₂ = (({ U with heap := s₂.heap, slotsUsed := s₂.slotsUsed } : State).setVm s₂.vm).setTop { g with pc := g.pc + len₂, stack := v.toList ++ g.stack } := by
      refine e3.trans ?_
      rw [hf₂, State.calling_eq h.top, State.setFrames_setFrames, State.setTop_of_frames _ hr', hr]
      rfl
    have hsame : U.sameButNew ({ U with heap := s₂.heap, slotsUsed := s₂.slotsUsed } : State) L mc ms := by
      refine ⟨?_, q2, q3, q4, q5, q6⟩
      obtain ⟨t, ht, -⟩ := State.frames_cons hr
      show ({ U with heap := s₂.heap, slotsUsed := s₂.slotsUsed } : State) = { U.setFrames U.frames with heap := s₂.heap, slotsUsed := s₂.slotsUsed }
      rw [State.setFrames_self ht]
    subst hg
    refine Or.inl ⟨v, ⟨(({ U with heap := s₂.heap, slotsUsed := s₂.slotsUsed } : State).setVm s₂.vm), Ls ++ L, c0 + mc, s0 + ms⟩,
      ⟨X.admits, X.cas, X.clock, X.frames, X.room, X.hears, X.method, X.code, (X.here.setHeapUsed s₂.heap s₂.slotsUsed).setVm hW'.alike, X.tail, State.WarmedH.trans X.warmed hW', X.limits, X.bytes, X.same.trans (hsame.setVm s.vm)⟩,
      ⟨g, mk, s₂, L, rfl, rfl, hqc, rfl, hL, rfl, rfl⟩, ?_⟩
    show Steps p.tables e below _ ((({ U with heap := s₂.heap, slotsUsed := s₂.slotsUsed } : State).setVm s₂.vm).setTop { g with pc := g.pc + len₂, stack := v.toList ++ g.stack })
    rw [← hs₂]
    exact hsteps
  · obtain ⟨e2, q2, q3, q4, q5, q6⟩ := id hsm
    have e3 : s₂ = ({ (U.calling g mk a).setFrames s₂.frames with heap := s₂.heap, slotsUsed := s₂.slotsUsed } : State).setVm s₂.vm := by
      have : s₂ = ({ s₂ with vm := (U.calling g mk a).vm } : State).setVm s₂.vm := rfl
      rw [e2] at this
      exact this
    have hf₂ : s₂.frames = .throwing q :: .java g :: U.frames.tail := hend
    have hW' : U.WarmedH s₂.vm := hW₂
    have hs₂ : s₂ = ((({ U with heap := s₂.heap, slotsUsed := s₂.slotsUsed } : State).setVm s₂.vm).setTop g).pushFrame (.throwing q) := by
      refine e3.trans ?_
      rw [hf₂, State.calling_eq h.top, State.setFrames_setFrames, State.pushFrame, State.frames_setTop _ hr', State.setTop_of_frames _ hr', State.setFrames_setFrames, hr]
      rfl
    have hsame : U.sameButNew ({ U with heap := s₂.heap, slotsUsed := s₂.slotsUsed } : State) L mc ms := by
      refine ⟨?_, q2, q3, q4, q5, q6⟩
      obtain ⟨t, ht, -⟩ := State.frames_cons hr
      show ({ U with heap := s₂.heap, slotsUsed := s₂.slotsUsed } : State) = { U.setFrames U.frames with heap := s₂.heap, slotsUsed := s₂.slotsUsed }
      rw [State.setFrames_self ht]
    subst hg
    refine Or.inr ⟨q, ⟨(({ U with heap := s₂.heap, slotsUsed := s₂.slotsUsed } : State).setVm s₂.vm), Ls ++ L, c0 + mc, s0 + ms⟩,
      ⟨X.admits, X.cas, X.clock, X.frames, X.room, X.hears, X.method, X.code, (X.here.setHeapUsed s₂.heap s₂.slotsUsed).setVm hW'.alike, X.tail, State.WarmedH.trans X.warmed hW', X.limits, X.bytes, X.same.trans (hsame.setVm s.vm)⟩,
      ⟨g, mk, s₂, L, E, ce, rfl, rfl, hx, hce, hcv, hcl, rfl, hL, rfl, rfl⟩, ?_⟩
    show Steps p.tables e below _ (((({ U with heap := s₂.heap, slotsUsed := s₂.slotsUsed } : State).setVm s₂.vm).setTop g).pushFrame (.throwing q))
    rw [← hs₂]
    exact hsteps
end Payer
section Calls
variable {p : Program} {l : Launch} {e : Env} {R : Room} {s : State} {m : MethodId} {args : Array Value} {below : List Frame} {meth : Method} {c : Code} {T : State} {locs : List Loc} {cells slots : Nat}
theorem vx_callV (X : Stand p l e R s m args below meth c T locs cells slots) (hexec : p.tables.exec = Jvm.exec) {own C : String} {index : Nat} {y : MethodName} {bytes : ByteArray} {maxL : Nat} {ret : Option FieldType}
    (hown : s.vm.findClass own = some m.cls) (hlink : (Cond.methodLink own index y).before args s = true) (hinst : (Cond.instanceMethod y).before args s = true) (hsel : (Cond.selects C y y).before args s = true)
    (hcode : (Cond.code y bytes maxL ret).before args s = true) (hy : y.cls ≠ "java/lang/invoke/MethodHandle" ∧ y.cls ≠ "java/lang/invoke/VarHandle")
    {W9 : Nat} {Pre : Pt → Array Value → Prop} {Post : Pt → Array Value → Option Value → Pt → Prop} {PostX : Pt → Array Value → Addr → Pt → Prop} (hK : vx_Back l R p e below s args y 3 W9 Pre Post PostX)
    {b : Addr} {cellB : Cell} (hcell : T.heap[b]? = some cellB) (hobj : cellB.vm.isStatics = false) (hcls : s.vm.findClass C = some cellB.cls)
    {g : JFrame} (hg : g.method = m) (hsize : g.locals.size = c.maxLocals) {argsL rest : List Value} (hlen : ∀ sig, parseMethodDescriptor y.desc = some sig → argsL.length = sig.parameters.length)
    (hstack : g.stack = argsL.reverse ++ .ref b :: rest) (hW : 2 * g.monitorRoom + (rest.map fun v => v.category).sum ≤ W9) (hdg : decode c.code g.pc = .ok (.invokevirtual index, 3))
    (hpre : ∀ vm₁, s.WarmedH vm₁ → Pre ⟨T.setVm vm₁, locs, cells, slots⟩ (Value.ref b :: argsL).toArray) :
    (∃ (v : Option Value) (vm₁ : Vm) (B : Pt), s.WarmedH vm₁ ∧ Stand p l e R s m args below meth c B.U B.locs B.cells B.slots ∧ Post ⟨T.setVm vm₁, locs, cells, slots⟩ (Value.ref b :: argsL).toArray v B ∧
      ∀ target, Steps p.tables e below (B.U.setTop { g with pc := g.pc + 3, stack := v.toList ++ rest }) target → Steps p.tables e below (T.setTop g) target) ∨
    (∃ (q : Addr) (vm₁ : Vm) (B : Pt), s.WarmedH vm₁ ∧ Stand p l e R s m args below meth c B.U B.locs B.cells B.slots ∧ PostX ⟨T.setVm vm₁, locs, cells, slots⟩ (Value.ref b :: argsL).toArray q B ∧
      Steps p.tables e below (T.setTop g) ((B.U.setTop { g with stack := rest }).pushFrame (.throwing q))) := by
  obtain ⟨mk, methM, hnamed, hmethM, hstM, habM⟩ := Cond.instanceMethod_spec hinst
  obtain ⟨methM', cM, hmethM', -, -, -, -, -, -, hsigM⟩ := Cond.code_spec hnamed hcode
  cases hmethM.symm.trans hmethM'
  obtain ⟨c2, r2, m2, q1, q2, q3, q4, kP, hkP, hkPi⟩ := Cond.selects_spec hsel
  cases hcls.symm.trans q1
  cases (State.methodFound?_of_named hnamed hy).symm.trans q2
  cases hnamed.symm.trans q3
  have hselP : selectMethod e.platform s.vm cellB.cls mk = .method mk := by rw [Launch.admits_selectMethod X.admits]; exact q4
  obtain ⟨vm₁, X₁, hstep₁⟩ := X.invokevirtual hexec hown hlink hnamed hmethM hstM hkP hkPi hy (a := b) (cell := cellB) hcell
    (fun z h => by rw [h] at hobj; cases hobj) hselP hmethM habM hkP hkPi (g := g) hg (argsL := argsL) (rest := rest) (hlen _ hsigM) hstack hdg
  rcases hK m meth c ⟨T.setVm vm₁, locs, cells, slots⟩ { g with stack := rest } (.invokevirtual index) mk (Value.ref b :: argsL).toArray X₁ hg hsize hdg hW (X₁.named hnamed) (hpre vm₁ X₁.warmed) with ⟨v, B, X', hpost, hsteps⟩ | ⟨q, B, X', hpost, hsteps⟩
  · exact Or.inl ⟨v, vm₁, B, X₁.warmed, X', hpost, fun target h => hstep₁ _ fun acts => by rw [doInvoke_state]; exact hsteps.trans h⟩
  · exact Or.inr ⟨q, vm₁, B, X₁.warmed, X', hpost, hstep₁ _ fun acts => by rw [doInvoke_state]; exact hsteps⟩
theorem vx_callS (X : Stand p l e R s m args below meth c T locs cells slots) (hexec : p.tables.exec = Jvm.exec) {own : String} {index : Nat} {y : MethodName} {bytes : ByteArray} {maxL : Nat} {ret : Option FieldType}
    (hown : s.vm.findClass own = some m.cls) (hlink : (Cond.methodLink own index y).before args s = true) (hstat : (Cond.static y).before args s = true) (hinit : (Cond.initialized y.cls).before args s = true)
    (hcode : (Cond.code y bytes maxL ret).before args s = true) (hy : y.cls ≠ "java/lang/invoke/MethodHandle" ∧ y.cls ≠ "java/lang/invoke/VarHandle")
    {W9 : Nat} {Pre : Pt → Array Value → Prop} {Post : Pt → Array Value → Option Value → Pt → Prop} {PostX : Pt → Array Value → Addr → Pt → Prop} (hK : vx_Back l R p e below s args y 3 W9 Pre Post PostX)
    {g : JFrame} (hg : g.method = m) (hsize : g.locals.size = c.maxLocals) {argsL rest : List Value} (hlen : ∀ sig, parseMethodDescriptor y.desc = some sig → argsL.length = sig.parameters.length)
    (hstack : g.stack = argsL.reverse ++ rest) (hW : 2 * g.monitorRoom + (rest.map fun v => v.category).sum ≤ W9) (hdg : decode c.code g.pc = .ok (.invokestatic index, 3))
    (hpre : ∀ vm₁, s.WarmedH vm₁ → Pre ⟨T.setVm vm₁, locs, cells, slots⟩ argsL.toArray) :
    (∃ (v : Option Value) (vm₁ : Vm) (B : Pt), s.WarmedH vm₁ ∧ Stand p l e R s m args below meth c B.U B.locs B.cells B.slots ∧ Post ⟨T.setVm vm₁, locs, cells, slots⟩ argsL.toArray v B ∧
      ∀ target, Steps p.tables e below (B.U.setTop { g with pc := g.pc + 3, stack := v.toList ++ rest }) target → Steps p.tables e below (T.setTop g) target) ∨
    (∃ (q : Addr) (vm₁ : Vm) (B : Pt), s.WarmedH vm₁ ∧ Stand p l e R s m args below meth c B.U B.locs B.cells B.slots ∧ PostX ⟨T.setVm vm₁, locs, cells, slots⟩ argsL.toArray q B ∧
      Steps p.tables e below (T.setTop g) ((B.U.setTop { g with stack := rest }).pushFrame (.throwing q))) := by
  obtain ⟨mk, hnamed⟩ := Cond.code_named hcode
  obtain ⟨methM, cM, hmethM, -, -, -, -, -, -, hsigM⟩ := Cond.code_spec hnamed hcode
  have hstatic : methM.isStatic = true := Cond.static_spec hnamed hmethM hstat
  obtain ⟨kP, hkP, -⟩ := className_of_methodNamed hnamed
  have hinitP : kP.init = .initialized := Cond.initialized_spec (findClass_of_methodNamed hnamed) hkP hinit
  obtain ⟨vm₁, X₁, hstep₁⟩ := X.invokestatic hexec hown hlink hnamed hmethM hstatic hkP hinitP hy (g := g) hg (argsL := argsL) (rest := rest) (hlen _ hsigM) hstack hdg
  rcases hK m meth c ⟨T.setVm vm₁, locs, cells, slots⟩ { g with stack := rest } (.invokestatic index) mk argsL.toArray X₁ hg hsize hdg hW (X₁.named hnamed) (hpre vm₁ X₁.warmed) with ⟨v, B, X', hpost, hsteps⟩ | ⟨q, B, X', hpost, hsteps⟩
  · exact Or.inl ⟨v, vm₁, B, X₁.warmed, X', hpost, fun target h => hstep₁ _ fun acts => by rw [doInvoke_state]; exact hsteps.trans h⟩
  · exact Or.inr ⟨q, vm₁, B, X₁.warmed, X', hpost, hstep₁ _ fun acts => by rw [doInvoke_state]; exact hsteps⟩
end Calls
theorem vx_cls {s : State} {T : State} {vm₁ : Vm} {E : String} {k : ClassId} (hW : s.WarmedH vm₁) (h : (T.setVm vm₁).vm.findClass E = some k) : s.vm.findClass E = some k := by
  have h1 : vm₁.findClass E = some k := h
  rw [hW.alike.findClass] at h1
  exact h1
/-- the method's frame g, with q thrown over it -/
def vx_W (p : Program) (l : Launch) (e : Env) (R : Room) (s : State) (m : MethodId) (args : Array Value) (below : List Frame) (meth : Method) (c : Code) (H : Heap) (locs : List Loc) (cells slots : Nat) (Q : State → Prop) (g : JFrame) (q : Addr) : Prop :=
  ∀ T : State, T.heap = H → Stand p l e R s m args below meth c T locs cells slots → ∃ t, Steps p.tables e below ((T.setTop g).pushFrame (.throwing q)) t ∧ Q t
def vx_Run (p : Program) (l : Launch) (e : Env) (R : Room) (s : State) (m : MethodId) (args : Array Value) (below : List Frame) (meth : Method) (c : Code) (H : Heap) (locs : List Loc) (cells slots mc ms : Nat) (g : JFrame) (rest : List Value) (Qa : State → Outcome → State → Prop) (XC : String → State → State → Prop) (free : Addr → Prop) : Prop :=
  ∀ T : State, T.heap = H → Stand p l e R s m args below meth c T locs cells slots →
    (∃ (v : Option Value) (st₀ t T' : State) (L : List Loc), st₀.heap = H ∧ Stand p l e R s m args below meth c T' (locs ++ L) (cells + mc) (slots + ms) ∧ (∀ q ∈ L, free q.base) ∧ T'.heap = t.heap ∧ T'.vm = t.vm ∧ Qa st₀ (.returned v) t ∧
      Goes p e below T g T' { g with pc := g.pc + 3, stack := v.toList ++ rest }) ∨
    (∃ (q : Addr) (st₀ t T' : State) (L : List Loc) (E : String) (ce : Cell), st₀.heap = H ∧ Stand p l e R s m args below meth c T' (locs ++ L) (cells + mc) (slots + ms) ∧ (∀ z ∈ L, free z.base) ∧ T'.heap = t.heap ∧ T'.vm = t.vm ∧ XC E st₀ t ∧ t.heap[q]? = some ce ∧ ce.vm = .none ∧ s.vm.findClass E = some ce.cls ∧
      Steps p.tables e below (T.setTop g) ((T'.setTop { g with stack := rest }).pushFrame (.throwing q)))
def vx_X {S : Type} (px : S → Prop) (B : String → S → State → Prop) (A : Nat → Prop) : String → State → State → Prop := fun E st t => ∃ u : S, px u ∧ B E u t ∧ va_F A st t
section Runs
variable {p : Program} {l : Launch} {e : Env} {R : Room} {s : State} {m : MethodId} {args : Array Value} {below : List Frame} {meth : Method} {c : Code} {H : Heap} {locs : List Loc} {cells slots : Nat}
variable {y : MethodName} {bytes cc : ByteArray} {maxL nL mc ms n index : Nat} {ret : Option FieldType} {ws : List Cond} {rm : Room} {Pc : Array Value → State → Prop} {Qc : Array Value → State → Outcome → State → Prop} {XC : String → State → State → Prop} {free : Addr → Prop} {Ts : List Cond} {own C : String} {b : Addr} {As rest : List Value} {g : JFrame}
theorem vx_callBack (cb : CallB R s args own index y bytes maxL ret ws rm mc ms n) (hM : vx_Met l y ws rm Pc Qc XC mc ms free) (hbl : FrameBlind Pc) : vx_Back l R p e below s args y 3 8 (PreOf R mc ms Pc) (PostOf Qc mc ms free) (vx_Post XC mc ms free) := by
  obtain ⟨hrc, hrs, hfr, hlo, hws, hcw, -, hini, -⟩ := cb
  exact vx_back (bytes := bytes) (maxL := maxL) (ret := ret) hM hbl hrc hrs hfr hlo hws hcw (fun a' U hW => word_at hW (Or.inl (by first | rfl | simp [Cond.onTables, Cond.keeps, Cond.steady])) hini)
theorem vx_runV (S : CallFix p m c cc nL s args Ts own) (hM : vx_Met l y ws rm Pc Qc XC mc ms free) (cw : CallW R s args own C index y bytes maxL ret ws rm mc ms n) (hp : PreV s H C b Pc As)
    (hg : g.method = m) (hn : As.length = n) (hsize : g.locals.size = nL) (hstack : g.stack = As.reverse ++ .ref b :: rest) (hW : 2 * g.monitorRoom + (rest.map fun v => v.category).sum ≤ 8) (hdg : decode cc g.pc = .ok (.invokevirtual index, 3)) (hf : cells + mc ≤ R.cells ∧ slots + ms ≤ R.slots) :
    vx_Run p l e R s m args below meth c H locs cells slots mc ms g rest (Qc (Value.ref b :: As).toArray) XC free := by
  have hK : vx_Back l R p e below s args y 3 8 (PreOf R mc ms Pc) (PostOf Qc mc ms free) (vx_Post XC mc ms free) := vx_callBack cw.1 hM hp.1
  obtain ⟨⟨-, -, -, -, -, -, hcode, -, hy, hlen, hl⟩, hin, hse⟩ := cw
  obtain ⟨hx, hb, hml, ho, -⟩ := S
  obtain ⟨-, ⟨cellB, hcB, hoB, hclB⟩, hPc⟩ := hp
  intro T hT X
  rcases vx_callV X hx (C := C) (bytes := bytes) (maxL := maxL) (ret := ret) ho hl hin hse hcode hy hK (by rw [hT]; exact hcB) hoB hclB hg (hsize.trans hml.symm) (argsL := As) (rest := rest) (fun sig h => hn.trans (hlen sig h)) hstack hW (by rw [hb]; exact hdg)
    (fun vm₁ hW₁ => ⟨hf.1, hf.2, hPc (T.setVm vm₁) hT hW₁⟩) with ⟨v, vm₁, ⟨U', l2, c2, s2⟩, hW₁, X', ⟨g', mk, t, L, e1, e2, hq, h1, hL, h2, h3⟩, st⟩ | ⟨q, vm₁, ⟨U', l2, c2, s2⟩, hW₁, X', ⟨g', mk, t, L, E, ce, e1, e2, hq, hce, hcv, hcl, h1, hL, h2, h3⟩, st⟩
  · dsimp only [Pt.U, Pt.locs, Pt.cells, Pt.slots] at X' e1 e2 h1 h2 h3 st
    subst h1; subst h2; subst h3
    exact Or.inl ⟨v, (T.setVm vm₁).calling g' mk (Value.ref b :: As).toArray, t, U', L, hT, X', hL, e1, e2, hq, st⟩
  · dsimp only [Pt.U, Pt.locs, Pt.cells, Pt.slots] at X' e1 e2 h1 h2 h3 st hcl
    subst h1; subst h2; subst h3
    exact Or.inr ⟨q, (T.setVm vm₁).calling g' mk (Value.ref b :: As).toArray, t, U', L, E, ce, hT, X', hL, e1, e2, hq, hce, hcv, vx_cls hW₁ hcl, st⟩
theorem vx_runS (S : CallFix p m c cc nL s args Ts own) (hM : vx_Met l y ws rm Pc Qc XC mc ms free) (cw : CallB R s args own index y bytes maxL ret ws rm mc ms n ∧ (Cond.static y).before args s = true) (hp : PreS s H Pc As)
    (hg : g.method = m) (hn : As.length = n) (hsize : g.locals.size = nL) (hstack : g.stack = As.reverse ++ rest) (hW : 2 * g.monitorRoom + (rest.map fun v => v.category).sum ≤ 8) (hdg : decode cc g.pc = .ok (.invokestatic index, 3)) (hf : cells + mc ≤ R.cells ∧ slots + ms ≤ R.slots) :
    vx_Run p l e R s m args below meth c H locs cells slots mc ms g rest (Qc As.toArray) XC free := by
  have hK : vx_Back l R p e below s args y 3 8 (PreOf R mc ms Pc) (PostOf Qc mc ms free) (vx_Post XC mc ms free) := vx_callBack cw.1 hM hp.1
  obtain ⟨⟨-, -, -, -, -, -, hcode, hini, hy, hlen, hl⟩, hstt⟩ := cw
  obtain ⟨hx, hb, hml, ho, -⟩ := S
  intro T hT X
  rcases vx_callS X hx (bytes := bytes) (maxL := maxL) (ret := ret) ho hl hstt hini hcode hy hK hg (hsize.trans hml.symm) (argsL := As) (rest := rest) (fun sig h => hn.trans (hlen sig h)) hstack hW (by rw [hb]; exact hdg)
    (fun vm₁ hW₁ => ⟨hf.1, hf.2, hp.2 (T.setVm vm₁) hT hW₁⟩) with ⟨v, vm₁, ⟨U', l2, c2, s2⟩, hW₁, X', ⟨g', mk, t, L, e1, e2, hq, h1, hL, h2, h3⟩, st⟩ | ⟨q, vm₁, ⟨U', l2, c2, s2⟩, hW₁, X', ⟨g', mk, t, L, E, ce, e1, e2, hq, hce, hcv, hcl, h1, hL, h2, h3⟩, st⟩
  · dsimp only [Pt.U, Pt.locs, Pt.cells, Pt.slots] at X' e1 e2 h1 h2 h3 st
    subst h1; subst h2; subst h3
    exact Or.inl ⟨v, (T.setVm vm₁).calling g' mk As.toArray, t, U', L, hT, X', hL, e1, e2, hq, st⟩
  · dsimp only [Pt.U, Pt.locs, Pt.cells, Pt.slots] at X' e1 e2 h1 h2 h3 st hcl
    subst h1; subst h2; subst h3
    exact Or.inr ⟨q, (T.setVm vm₁).calling g' mk As.toArray, t, U', L, E, ce, hT, X', hL, e1, e2, hq, hce, hcv, vx_cls hW₁ hcl, st⟩
end Runs
section Rows
variable {p : Program} {l : Launch} {e : Env} {R : Room} {s : State} {m : MethodId} {args : Array Value} {below : List Frame} {meth : Method} {c : Code} {H : Heap} {locs : List Loc} {cells slots : Nat} {Q : State → Prop}
variable {mc ms : Nat} {free : Addr → Prop} {A0 A1 : Nat → Prop} {H0 : Heap} {a : Array Value} {pc : Nat} {ls : Array Slot} {st0 rest : List Value}
theorem vx_keep {st₀ t T' : State} {L : List Loc} (h0 : st₀.heap = H) (e1 : T'.heap = t.heap) (hS : va_S A0 H0 H locs) (hA : ∀ q, q < H.size → A1 q → A0 q) (hf : ∀ q, free q → A0 q) (hL : ∀ q ∈ L, free q.base) (hF : va_F A1 st₀ t) :
    H.size ≤ T'.heap.size ∧ (∀ q : Nat, q < H.size → ¬ A1 q → T'.heap[q]? = H[q]?) ∧ va_S A0 H0 T'.heap (locs ++ L) := by
  obtain ⟨hz, hk⟩ := hF
  rw [h0] at hz hk
  exact ⟨by rw [e1]; exact hz, fun q h1 h2 => by rw [e1]; exact hk q h1 h2,
    ⟨Nat.le_trans hS.1 (by rw [e1]; exact hz), fun q h1 h2 => by rw [e1, hk q (Nat.lt_of_lt_of_le h1 hS.1) (fun z => h2 (hA q (Nat.lt_of_lt_of_le h1 hS.1) z))]; exact hS.2.1 q h1 h2, fun q hq => by
      rcases List.mem_append.mp hq with h | h
      · exact hS.2.2 q h
      · exact hf _ (hL q h)⟩⟩
theorem vx_calli {S SX : Type} {post : Int32 → S → Prop} {px : SX → Prop} {B : S → State → Prop} {BX : String → SX → State → Prop} {AX : Nat → Prop} (hr : vx_Run p l e R s m args below meth c H locs cells slots mc ms (F0 m pc ls st0) rest (va_Qi post B A1 a) (vx_X px BX AX) free) (hS : va_S A0 H0 H locs) (hA : ∀ q, q < H.size → A1 q → A0 q) (hf : ∀ q, free q → A0 q) (hAX : ∀ q, q < H.size → AX q → A0 q)
    (kx : ∀ (E : String) (ce : Cell) (q9 : Addr) (u : SX) (t : State) (H1 : Heap) (locs1 : List Loc), t.heap = H1 → s.vm.Alike t.vm → px u → BX E u t → H.size ≤ H1.size → (∀ q : Nat, q < H.size → ¬ AX q → H1[q]? = H[q]?) → va_S A0 H0 H1 locs1 → H1[q9]? = some ce → ce.vm = .none → s.vm.findClass E = some ce.cls → vx_W p l e R s m args below meth c H1 locs1 (cells + mc) (slots + ms) Q (F0 m pc ls rest) q9)
    (kk : ∀ (r : Int32) (u : S) (t : State) (H1 : Heap) (locs1 : List Loc), t.heap = H1 → s.vm.Alike t.vm → post r u → B u t → H.size ≤ H1.size → (∀ q : Nat, q < H.size → ¬ A1 q → H1[q]? = H[q]?) → va_S A0 H0 H1 locs1 → W p l e R s m args below meth c H1 locs1 (cells + mc) (slots + ms) Q (F0 m (pc + 3) ls (.int r :: rest))) : W p l e R s m args below meth c H locs cells slots Q (F0 m pc ls st0) := by
  intro T hT X
  rcases hr T hT X with ⟨v, st₀, t, T', L, h0, X', hL, e1, e2, ⟨⟨r, u, hv, hp, hb⟩, hF⟩, st⟩ | ⟨q, st₀, t, T', L, E, ce, h0, X', hL, e1, e2, ⟨u, hp, hb, hF⟩, hce, hcv, hcl, st⟩
  · cases hv
    obtain ⟨k1, k2, k3⟩ := vx_keep h0 e1 hS hA hf hL hF
    obtain ⟨t2, a1, b1⟩ := kk r u t T'.heap (locs ++ L) e1.symm (by rw [← e2]; exact X'.warmed.alike) hp hb k1 k2 k3 T' rfl X'
    exact ⟨t2, st t2 a1, b1⟩
  · obtain ⟨k1, k2, k3⟩ := vx_keep h0 e1 hS hAX hf hL hF
    obtain ⟨t2, a1, b1⟩ := kx E ce q u t T'.heap (locs ++ L) e1.symm (by rw [← e2]; exact X'.warmed.alike) hp hb k1 k2 k3 (by rw [e1]; exact hce) hcv hcl T' rfl X'
    exact ⟨t2, st.trans a1, b1⟩
theorem vx_calll {S SX : Type} {post : Int64 → S → Prop} {px : SX → Prop} {B : S → State → Prop} {BX : String → SX → State → Prop} {AX : Nat → Prop} (hr : vx_Run p l e R s m args below meth c H locs cells slots mc ms (F0 m pc ls st0) rest (va_Ql post B A1 a) (vx_X px BX AX) free) (hS : va_S A0 H0 H locs) (hA : ∀ q, q < H.size → A1 q → A0 q) (hf : ∀ q, free q → A0 q) (hAX : ∀ q, q < H.size → AX q → A0 q)
    (kx : ∀ (E : String) (ce : Cell) (q9 : Addr) (u : SX) (t : State) (H1 : Heap) (locs1 : List Loc), t.heap = H1 → s.vm.Alike t.vm → px u → BX E u t → H.size ≤ H1.size → (∀ q : Nat, q < H.size → ¬ AX q → H1[q]? = H[q]?) → va_S A0 H0 H1 locs1 → H1[q9]? = some ce → ce.vm = .none → s.vm.findClass E = some ce.cls → vx_W p l e R s m args below meth c H1 locs1 (cells + mc) (slots + ms) Q (F0 m pc ls rest) q9)
    (kk : ∀ (r : Int64) (u : S) (t : State) (H1 : Heap) (locs1 : List Loc), t.heap = H1 → s.vm.Alike t.vm → post r u → B u t → H.size ≤ H1.size → (∀ q : Nat, q < H.size → ¬ A1 q → H1[q]? = H[q]?) → va_S A0 H0 H1 locs1 → W p l e R s m args below meth c H1 locs1 (cells + mc) (slots + ms) Q (F0 m (pc + 3) ls (.long r :: rest))) : W p l e R s m args below meth c H locs cells slots Q (F0 m pc ls st0) := by
  intro T hT X
  rcases hr T hT X with ⟨v, st₀, t, T', L, h0, X', hL, e1, e2, ⟨⟨r, u, hv, hp, hb⟩, hF⟩, st⟩ | ⟨q, st₀, t, T', L, E, ce, h0, X', hL, e1, e2, ⟨u, hp, hb, hF⟩, hce, hcv, hcl, st⟩
  · cases hv
    obtain ⟨k1, k2, k3⟩ := vx_keep h0 e1 hS hA hf hL hF
    obtain ⟨t2, a1, b1⟩ := kk r u t T'.heap (locs ++ L) e1.symm (by rw [← e2]; exact X'.warmed.alike) hp hb k1 k2 k3 T' rfl X'
    exact ⟨t2, st t2 a1, b1⟩
  · obtain ⟨k1, k2, k3⟩ := vx_keep h0 e1 hS hAX hf hL hF
    obtain ⟨t2, a1, b1⟩ := kx E ce q u t T'.heap (locs ++ L) e1.symm (by rw [← e2]; exact X'.warmed.alike) hp hb k1 k2 k3 (by rw [e1]; exact hce) hcv hcl T' rfl X'
    exact ⟨t2, st.trans a1, b1⟩
theorem vx_callf {S SX : Type} {post : UInt32 → S → Prop} {px : SX → Prop} {B : S → State → Prop} {BX : String → SX → State → Prop} {AX : Nat → Prop} (hr : vx_Run p l e R s m args below meth c H locs cells slots mc ms (F0 m pc ls st0) rest (va_Qf post B A1 a) (vx_X px BX AX) free) (hS : va_S A0 H0 H locs) (hA : ∀ q, q < H.size → A1 q → A0 q) (hf : ∀ q, free q → A0 q) (hAX : ∀ q, q < H.size → AX q → A0 q)
    (kx : ∀ (E : String) (ce : Cell) (q9 : Addr) (u : SX) (t : State) (H1 : Heap) (locs1 : List Loc), t.heap = H1 → s.vm.Alike t.vm → px u → BX E u t → H.size ≤ H1.size → (∀ q : Nat, q < H.size → ¬ AX q → H1[q]? = H[q]?) → va_S A0 H0 H1 locs1 → H1[q9]? = some ce → ce.vm = .none → s.vm.findClass E = some ce.cls → vx_W p l e R s m args below meth c H1 locs1 (cells + mc) (slots + ms) Q (F0 m pc ls rest) q9)
    (kk : ∀ (r : UInt32) (u : S) (t : State) (H1 : Heap) (locs1 : List Loc), t.heap = H1 → s.vm.Alike t.vm → post r u → B u t → H.size ≤ H1.size → (∀ q : Nat, q < H.size → ¬ A1 q → H1[q]? = H[q]?) → va_S A0 H0 H1 locs1 → W p l e R s m args below meth c H1 locs1 (cells + mc) (slots + ms) Q (F0 m (pc + 3) ls (.float r :: rest))) : W p l e R s m args below meth c H locs cells slots Q (F0 m pc ls st0) := by
  intro T hT X
  rcases hr T hT X with ⟨v, st₀, t, T', L, h0, X', hL, e1, e2, ⟨⟨r, u, hv, hp, hb⟩, hF⟩, st⟩ | ⟨q, st₀, t, T', L, E, ce, h0, X', hL, e1, e2, ⟨u, hp, hb, hF⟩, hce, hcv, hcl, st⟩
  · cases hv
    obtain ⟨k1, k2, k3⟩ := vx_keep h0 e1 hS hA hf hL hF
    obtain ⟨t2, a1, b1⟩ := kk r u t T'.heap (locs ++ L) e1.symm (by rw [← e2]; exact X'.warmed.alike) hp hb k1 k2 k3 T' rfl X'
    exact ⟨t2, st t2 a1, b1⟩
  · obtain ⟨k1, k2, k3⟩ := vx_keep h0 e1 hS hAX hf hL hF
    obtain ⟨t2, a1, b1⟩ := kx E ce q u t T'.heap (locs ++ L) e1.symm (by rw [← e2]; exact X'.warmed.alike) hp hb k1 k2 k3 (by rw [e1]; exact hce) hcv hcl T' rfl X'
    exact ⟨t2, st.trans a1, b1⟩
theorem vx_calld {S SX : Type} {post : UInt64 → S → Prop} {px : SX → Prop} {B : S → State → Prop} {BX : String → SX → State → Prop} {AX : Nat → Prop} (hr : vx_Run p l e R s m args below meth c H locs cells slots mc ms (F0 m pc ls st0) rest (va_Qd post B A1 a) (vx_X px BX AX) free) (hS : va_S A0 H0 H locs) (hA : ∀ q, q < H.size → A1 q → A0 q) (hf : ∀ q, free q → A0 q) (hAX : ∀ q, q < H.size → AX q → A0 q)
    (kx : ∀ (E : String) (ce : Cell) (q9 : Addr) (u : SX) (t : State) (H1 : Heap) (locs1 : List Loc), t.heap = H1 → s.vm.Alike t.vm → px u → BX E u t → H.size ≤ H1.size → (∀ q : Nat, q < H.size → ¬ AX q → H1[q]? = H[q]?) → va_S A0 H0 H1 locs1 → H1[q9]? = some ce → ce.vm = .none → s.vm.findClass E = some ce.cls → vx_W p l e R s m args below meth c H1 locs1 (cells + mc) (slots + ms) Q (F0 m pc ls rest) q9)
    (kk : ∀ (r : UInt64) (u : S) (t : State) (H1 : Heap) (locs1 : List Loc), t.heap = H1 → s.vm.Alike t.vm → post r u → B u t → H.size ≤ H1.size → (∀ q : Nat, q < H.size → ¬ A1 q → H1[q]? = H[q]?) → va_S A0 H0 H1 locs1 → W p l e R s m args below meth c H1 locs1 (cells + mc) (slots + ms) Q (F0 m (pc + 3) ls (.double r :: rest))) : W p l e R s m args below meth c H locs cells slots Q (F0 m pc ls st0) := by
  intro T hT X
  rcases hr T hT X with ⟨v, st₀, t, T', L, h0, X', hL, e1, e2, ⟨⟨r, u, hv, hp, hb⟩, hF⟩, st⟩ | ⟨q, st₀, t, T', L, E, ce, h0, X', hL, e1, e2, ⟨u, hp, hb, hF⟩, hce, hcv, hcl, st⟩
  · cases hv
    obtain ⟨k1, k2, k3⟩ := vx_keep h0 e1 hS hA hf hL hF
    obtain ⟨t2, a1, b1⟩ := kk r u t T'.heap (locs ++ L) e1.symm (by rw [← e2]; exact X'.warmed.alike) hp hb k1 k2 k3 T' rfl X'
    exact ⟨t2, st t2 a1, b1⟩
  · obtain ⟨k1, k2, k3⟩ := vx_keep h0 e1 hS hAX hf hL hF
    obtain ⟨t2, a1, b1⟩ := kx E ce q u t T'.heap (locs ++ L) e1.symm (by rw [← e2]; exact X'.warmed.alike) hp hb k1 k2 k3 (by rw [e1]; exact hce) hcv hcl T' rfl X'
    exact ⟨t2, st.trans a1, b1⟩
theorem vx_callv {S SX : Type} {post : S → Prop} {px : SX → Prop} {B : S → State → Prop} {BX : String → SX → State → Prop} {AX : Nat → Prop} (hr : vx_Run p l e R s m args below meth c H locs cells slots mc ms (F0 m pc ls st0) rest (va_Qv post B A1 a) (vx_X px BX AX) free) (hS : va_S A0 H0 H locs) (hA : ∀ q, q < H.size → A1 q → A0 q) (hf : ∀ q, free q → A0 q) (hAX : ∀ q, q < H.size → AX q → A0 q)
    (kx : ∀ (E : String) (ce : Cell) (q9 : Addr) (u : SX) (t : State) (H1 : Heap) (locs1 : List Loc), t.heap = H1 → s.vm.Alike t.vm → px u → BX E u t → H.size ≤ H1.size → (∀ q : Nat, q < H.size → ¬ AX q → H1[q]? = H[q]?) → va_S A0 H0 H1 locs1 → H1[q9]? = some ce → ce.vm = .none → s.vm.findClass E = some ce.cls → vx_W p l e R s m args below meth c H1 locs1 (cells + mc) (slots + ms) Q (F0 m pc ls rest) q9)
    (kk : ∀ (u : S) (t : State) (H1 : Heap) (locs1 : List Loc), t.heap = H1 → s.vm.Alike t.vm → post u → B u t → H.size ≤ H1.size → (∀ q : Nat, q < H.size → ¬ A1 q → H1[q]? = H[q]?) → va_S A0 H0 H1 locs1 → W p l e R s m args below meth c H1 locs1 (cells + mc) (slots + ms) Q (F0 m (pc + 3) ls (rest))) : W p l e R s m args below meth c H locs cells slots Q (F0 m pc ls st0) := by
  intro T hT X
  rcases hr T hT X with ⟨v, st₀, t, T', L, h0, X', hL, e1, e2, ⟨⟨u, hv, hp, hb⟩, hF⟩, st⟩ | ⟨q, st₀, t, T', L, E, ce, h0, X', hL, e1, e2, ⟨u, hp, hb, hF⟩, hce, hcv, hcl, st⟩
  · cases hv
    obtain ⟨k1, k2, k3⟩ := vx_keep h0 e1 hS hA hf hL hF
    obtain ⟨t2, a1, b1⟩ := kk u t T'.heap (locs ++ L) e1.symm (by rw [← e2]; exact X'.warmed.alike) hp hb k1 k2 k3 T' rfl X'
    exact ⟨t2, st t2 a1, b1⟩
  · obtain ⟨k1, k2, k3⟩ := vx_keep h0 e1 hS hAX hf hL hF
    obtain ⟨t2, a1, b1⟩ := kx E ce q u t T'.heap (locs ++ L) e1.symm (by rw [← e2]; exact X'.warmed.alike) hp hb k1 k2 k3 (by rw [e1]; exact hce) hcv hcl T' rfl X'
    exact ⟨t2, st.trans a1, b1⟩
/-- caught by the row x of this method's table; the rows ahead don't take it -/
theorem vx_catch {own name : String} {E : String} {ce : Cell} {q : Addr} (hown : s.vm.findClass own = some m.cls) (pre : List ExceptionTableEntry) (x : ExceptionTableEntry) (suf : List ExceptionTableEntry) (hsplit : c.exceptionTable.toList = pre ++ x :: suf)
    (hpass : ∀ z ∈ pre, covers z pc = false ∨ (z.catchType ≠ 0 ∧ ∃ nm : String, (Cond.classLink own z.catchType nm).before args s = true ∧ va_Nc E nm s)) (hx : covers x pc = true) (h0 : x.catchType ≠ 0)
    (hlink : (Cond.classLink own x.catchType name).before args s = true) (hcast : (Cond.castable E name).before args s = true) (hcell : H[q]? = some ce) (hv : ce.vm = .none) (hcl : s.vm.findClass E = some ce.cls)
    (kk : W p l e R s m args below meth c H locs cells slots Q (F0 m x.handlerPc ls [.ref q])) : vx_W p l e R s m args below meth c H locs cells slots Q (F0 m pc ls rest) q := by
  intro T hT X
  have hpl : e.platform.magicAccessors = ({} : Platform).magicAccessors := by rw [X.admits.platform]
  obtain ⟨c3, c4, hc3, hc4, hasg⟩ := Cond.castable_spec hcast
  cases Option.some.inj (hc3.symm.trans hcl)
  obtain ⟨c5, hc5, hcl5⟩ := Cond.classLink_spec hown hlink e.platform hpl
  cases Option.some.inj (hc4.symm.trans hc5)
  obtain ⟨vm', X', st⟩ := X.thenCaughtThrough q (g := F0 m pc ls rest) rfl (Steps.refl _) (by rw [hT]; exact hcell) (by rw [hv]; rfl) (by obtain ⟨k9, h9, -⟩ := Vm.findClass_spec hcl; exact ⟨k9, h9⟩) pre x suf hsplit
    (fun z hz => by
      rcases hpass z hz with h | ⟨hz0, nm, hl1, hn1⟩
      · exact Or.inl h
      · obtain ⟨c6, hc6, hcl6⟩ := Cond.classLink_spec hown hl1 e.platform hpl
        obtain ⟨a8, b8, h1, h2, h3⟩ := hn1
        cases Option.some.inj (h1.symm.trans hcl)
        cases Option.some.inj (h2.symm.trans hc6)
        exact Or.inr ⟨hz0, _, hcl6, h3⟩) hx (Or.inr ⟨h0, c4, hcl5, hasg⟩)
  obtain ⟨t, a1, b1⟩ := kk (T.setVm vm') hT X'
  exact ⟨t, st.trans a1, b1⟩
end Rows
section Ends
variable {p : Program} {l : Launch} {e : Env} {R : Room} {s : State} {m : MethodId} {args : Array Value} {below : List Frame} {meth : Method} {c : Code} {H : Heap} {locs : List Loc} {cells slots : Nat} {Q : State → Prop}
variable {mc ms : Nat} {free : Addr → Prop} {A0 A1 : Nat → Prop} {H0 : Heap} {a : Array Value} {ls : Array Slot} {st0 rest : List Value}
variable {Qc : Array Value → State → Outcome → State → Prop} {XC : String → State → State → Prop}
/-- what a body that may throw owes at its end -/
def vx_MQ (below : List Frame) (Qc : Array Value → State → Outcome → State → Prop) (XC : String → State → State → Prop) (a : Array Value) (s : State) (mc ms : Nat) (free : Addr → Prop) : State → Prop := fun t =>
  ∃ o, t.status = .running ∧ Ended t below o ∧ vx_Q Qc XC mc ms free a s o t
theorem vx_ret {g : JFrame} {mc ms : Nat} (k : W p l e R s m args below meth c H locs cells slots (MQ below Qc args s mc ms free) g) : W p l e R s m args below meth c H locs cells slots (vx_MQ below Qc XC args s mc ms free) g := by
  intro T hT X
  obtain ⟨t, a1, o, b1, b2, b3, b4⟩ := k T hT X
  exact ⟨t, a1, o, b1, b2, Or.inl ⟨b3, b4⟩⟩
/-- not caught here: it goes on to the caller -/
theorem vx_widen {g : JFrame} {q : Addr} {k n : Nat} (h1 : cells ≤ k) (h2 : slots ≤ n) (kk : vx_W p l e R s m args below meth c H locs k n Q g q) : vx_W p l e R s m args below meth c H locs cells slots Q g q := fun T hT X => kk T hT (stand_widen X h1 h2)
theorem vx_out {pc : Nat} {E : String} {ce : Cell} {q : Addr} {mc ms : Nat} (hout : ∀ x ∈ c.exceptionTable.toList, covers x pc = false) (hlocks : meth.locks = false) (hcell : H[q]? = some ce) (hv : ce.vm = .none) (hcl : s.vm.findClass E = some ce.cls)
    (hx : ∀ t : State, t.heap = H → s.vm.Alike t.vm → XC E s t) (hf : ∀ z ∈ locs, free z.base) (hc : cells ≤ mc) (hs : slots ≤ ms) :
    vx_W p l e R s m args below meth c H locs cells slots (vx_MQ below Qc XC args s mc ms free) (F0 m pc ls rest) q := by
  intro T hT X
  obtain ⟨st1, hrun, hend, hW, hsm⟩ := X.leaveThrown q (g := F0 m pc ls rest) rfl rfl rfl hout hlocks
  have hcell9 : (T.setFrames (.throwing q :: below)).heap[q]? = some ce := by
    show T.heap[q]? = some ce
    rw [hT]; exact hcell
  exact ⟨_, st1, .threw q, hrun, hend, Or.inr ⟨q, rfl, E, ce, locs, hx _ hT hW.alike, hcell9, hv, hcl, hW, hsm.mono hc hs, hf⟩⟩
theorem vx_frame {U : State} {k n : Nat} (h : s.sameButNew ({ U with vm := s.vm } : State) locs k n) : s.heap.size ≤ U.heap.size ∧ ∀ q : Nat, q < s.heap.size → (∀ z ∈ locs, z.base ≠ q) → U.heap[q]? = s.heap[q]? := by
  obtain ⟨-, h2, -, -, -, h6⟩ := h
  refine ⟨h2, fun q hq hz => ?_⟩
  obtain ⟨c9, e1, e2, e3, e4⟩ := h6 q _ (Array.getElem?_eq_getElem hq)
  have hs : c9.slots = (s.heap[q]).slots := Array.ext_getElem? fun i => e4 i fun hm => hz _ hm rfl
  have h9 : c9 = s.heap[q] := by
    rw [hs] at e2
    exact e2
  have e5 : U.heap[q]? = some c9 := e1
  rw [e5, h9, Array.getElem?_eq_getElem hq]
/-- the words of a throw but the four that speak of the heap -/
def vx_no (w : Cond) : Bool := decide (w ≠ .isRef (.static Bundle.tN "UNASSIGNED_STACK" Bundle.steD)) && decide (w ≠ .isRef (.static Bundle.tN "SUPPRESSED_SENTINEL" Bundle.listD)) && decide (w ≠ .laysStatic Bundle.tN "UNASSIGNED_STACK" Bundle.steD) && decide (w ≠ .laysStatic Bundle.tN "SUPPRESSED_SENTINEL" Bundle.listD)
def vx_at0 (own : String) (ic : Nat) (X : String) (names : List String) : List Cond := (Bundle.ownAtoms0 own ic X names).filter vx_no
def vx_atS (own : String) (ic : Nat) (X : String) (names : List String) : List Cond := (Bundle.ownAtoms own ic X names).filter vx_no
/-- a word that the tables alone decide, or a good one -/
def vx_ot (w : Cond) : Bool := w.onTables || goodWord w
theorem vx_ot_at {args a' : Array Value} {s U : State} {w : Cond} (hW : s.WarmedH U.vm) (hvm : s.vm = U.vm) (hg : vx_ot w = true) (h : w.before args s = true) : w.before a' U = true := by
  simp only [vx_ot, Bool.or_eq_true] at hg
  rcases hg with hg | hg
  · exact va_tabs hg hvm h
  · exact word_at hW (good_of_word hg) h
/-- a list's words: the good ones out of the method's own list, the others by premises of their own -/
theorem vx_hat {args : Array Value} {s : State} {L B : List Cond} (h1 : ∀ w ∈ L.filter goodWord, w.before args s = true) (h2 : ∀ w ∈ L.filter (fun w => !goodWord w), w ∈ B) (h3 : ∀ w ∈ B, w.before args s = true) : ∀ w ∈ L, w.before args s = true := by
  intro w hw
  by_cases g : goodWord w = true
  · exact h1 w (List.mem_filter.mpr ⟨hw, g⟩)
  · refine h3 w (h2 w (List.mem_filter.mpr ⟨hw, ?_⟩))
    show (!goodWord w) = true
    cases hgw : goodWord w
    · rfl
    · exact absurd hgw g
theorem vx_c {args : Array Value} {s : State} {w : Cond} {B : List Cond} (h : w.before args s = true) (t : ∀ w ∈ B, w.before args s = true) : ∀ w' ∈ w :: B, w'.before args s = true := fun w' h' => (List.mem_cons.mp h').elim (fun e => by rw [e]; exact h) (t w')
theorem vx_n {args : Array Value} {s : State} : ∀ w ∈ ([] : List Cond), w.before args s = true := fun _ h => nomatch h
theorem vx_own {args : Array Value} {s : State} {L : List Cond} (h1 : ∀ w ∈ L.filter vx_no, w.before args s = true)
    (hU : (Cond.isRef (.static Bundle.tN "UNASSIGNED_STACK" Bundle.steD)).before args s = true) (hN : (Cond.isRef (.static Bundle.tN "SUPPRESSED_SENTINEL" Bundle.listD)).before args s = true)
    (lU : (Cond.laysStatic Bundle.tN "UNASSIGNED_STACK" Bundle.steD).before args s = true) (lN : (Cond.laysStatic Bundle.tN "SUPPRESSED_SENTINEL" Bundle.listD).before args s = true) : ∀ w ∈ L, w.before args s = true := by
  intro w hw
  by_cases e1 : w = .isRef (.static Bundle.tN "UNASSIGNED_STACK" Bundle.steD)
  · rw [e1]; exact hU
  · by_cases e2 : w = .isRef (.static Bundle.tN "SUPPRESSED_SENTINEL" Bundle.listD)
    · rw [e2]; exact hN
    · by_cases e3 : w = .laysStatic Bundle.tN "UNASSIGNED_STACK" Bundle.steD
      · rw [e3]; exact lU
      · by_cases e4 : w = .laysStatic Bundle.tN "SUPPRESSED_SENTINEL" Bundle.listD
        · rw [e4]; exact lN
        · exact h1 w (List.mem_filter.mpr ⟨hw, by unfold vx_no; rw [decide_eq_true e1, decide_eq_true e2, decide_eq_true e3, decide_eq_true e4]; rfl⟩)
/-- where a static field lies, its class's statics cell in H -/
def vx_L (C n d : String) (A : Nat → Prop) (U : State) (H : Heap) : Prop := ∃ (c : ClassId) (k : Class) (i : Nat) (f : Field) (a : Nat) (cell : Cell), U.vm.findClass C = some c ∧ U.fieldFound? C n d = some (c, k, i, f) ∧ f.isStatic = true ∧ k.statics = some a ∧ H[a]? = some cell ∧ cell.vm.isStatics = true ∧ cell.cls = c ∧ f.slot < cell.slots.size ∧ k.staticTypes[f.slot]? = some f.type ∧ ¬ A a
theorem vx_L.moved {C n d : String} {A : Nat → Prop} {u U : State} {H : Heap} (hvm : u.vm.Alike U.vm) (h : vx_L C n d A u H) : vx_L C n d A U H := by
  obtain ⟨c, k, i, f, a, cell, h1, h2, h3, h4, h5, h6, h7, h8, h9, h10⟩ := h
  obtain ⟨k', hi', he⟩ := State.fieldFound?_setVm hvm h2
  exact ⟨c, k', i, f, a, cell, by rw [hvm.findClass]; exact h1, hi', h3, by rw [he]; exact h4, h5, h6, h7, h8, by rw [he]; exact h9, h10⟩
theorem vx_L.kept {C n d : String} {A : Nat → Prop} {U : State} {H H1 : Heap} (h : vx_L C n d A U H) (hq : ∀ a : Nat, a < H.size → ¬ A a → H1[a]? = H[a]?) : vx_L C n d A U H1 := by
  obtain ⟨c, k, i, f, a, cell, h1, h2, h3, h4, h5, h6, h7, h8, h9, h10⟩ := h
  exact ⟨c, k, i, f, a, cell, h1, h2, h3, h4, by rw [hq a (Array.getElem?_eq_some_iff.mp h5).1 h10]; exact h5, h6, h7, h8, h9, h10⟩
theorem vx_L.narrow {C n d : String} {A B : Nat → Prop} {U : State} {H : Heap} (h : vx_L C n d A U H) (hAB : ∀ q, B q → A q) : vx_L C n d B U H := by
  obtain ⟨c, k, i, f, a, cell, h1, h2, h3, h4, h5, h6, h7, h8, h9, h10⟩ := h
  exact ⟨c, k, i, f, a, cell, h1, h2, h3, h4, h5, h6, h7, h8, h9, fun z => h10 (hAB _ z)⟩
theorem vx_L.word {C n d : String} {A : Nat → Prop} {s : State} {args : Array Value} (h : vx_L C n d A s s.heap) : (Cond.laysStatic C n d).before args s = true := by
  obtain ⟨c, k, i, f, a, cell, h1, h2, h3, h4, h5, h6, h7, h8, h9, -⟩ := h
  show (Cond.laysStatic C n d).holds args s none s [] = true
  exact Cond.laysStatic_of h1 h2 h3 h4 h5 h6 h7 h8 h9
/-- .. and what it holds: null or some reference -/
def vx_Zq (C n d : String) (A : Nat → Prop) (U : State) (H : Heap) : Prop := va_Zq C n d A U H ∧ vx_L C n d A U H
theorem vx_Zq.moved {C n d : String} {A : Nat → Prop} {u U : State} {H : Heap} (hvm : u.vm.Alike U.vm) (h : vx_Zq C n d A u H) : vx_Zq C n d A U H := ⟨va_Zq.moved hvm h.1, vx_L.moved hvm h.2⟩
theorem vx_Zq.kept {C n d : String} {A : Nat → Prop} {U : State} {H H1 : Heap} (h : vx_Zq C n d A U H) (hq : ∀ a : Nat, a < H.size → ¬ A a → H1[a]? = H[a]?) : vx_Zq C n d A U H1 := ⟨va_Zq.kept h.1 hq, vx_L.kept h.2 hq⟩
theorem vx_Zq.narrow {C n d : String} {A B : Nat → Prop} {U : State} {H : Heap} (h : vx_Zq C n d A U H) (hAB : ∀ q, B q → A q) : vx_Zq C n d B U H := ⟨va_Zq.narrow h.1 hAB, vx_L.narrow h.2 hAB⟩
theorem vx_Zqof {args : Array Value} {s : State} {C n d : String} {A : Nat → Prop} (hl : (Cond.laysStatic C n d).before args s = true) (hini : (Cond.initialized C).before args s = true) (h : (Cond.isRef (.static C n d)).before args s = true) (hA : ∀ a : Nat, a < s.heap.size → ¬ A a) : vx_Zq C n d A s s.heap := by
  refine ⟨va_Zqof hl hini h hA, ?_⟩
  obtain ⟨c, k, i, f, a, cell, h1, h2, h3, h4, h5, h6, h7, h8, h9⟩ := Cond.laysStatic_spec hl
  exact ⟨c, k, i, f, a, cell, h1, h2, h3, h4, h5, h6, h7, h8, h9, hA a (Array.getElem?_eq_some_iff.mp h5).1⟩
theorem vx_isRef {C n d : String} {v : Value} {A : Nat → Prop} {s : State} {args : Array Value} (h : va_Z C n d v A s s.heap) (hv : v.isRef = true) : (Cond.isRef (.static C n d)).before args s = true := by
  obtain ⟨cf, kf, fi, f, a, cell, h1, h2, h3, h4, h5, h6, h7, -⟩ := h
  have he : (Term.static C n d).eval args s none [] s = some v := by
    simp [Term.eval, State.fieldNamed?, h1, h2, h4, h5, h6, h7]
  simp only [Cond.before, Cond.holds, Cond.value, he]
  cases v <;> simp_all [Value.isRef]
theorem vx_isRefq {C n d : String} {A : Nat → Prop} {s : State} {args : Array Value} (h : va_Zq C n d A s s.heap) : (Cond.isRef (.static C n d)).before args s = true := by
  rcases h with h | ⟨t, h⟩
  · exact vx_isRef h rfl
  · exact vx_isRef h rfl
/-- the same frame, seen from here: as if the method were called anew in this heap -/
theorem vx_rebase {T : State} (X : Stand p l e R s m args below meth c T locs cells slots) {R' : Room} (hf : R'.frames ≤ R.frames) (hl : R'.locals ≤ R.locals) (hc : cells + R'.cells ≤ R.cells) (hs : slots + R'.slots ≤ R.slots) :
    Stand p l e R' ((T.setVm s.vm).setFrames (.invoking m args :: below)) m args below meth c T [] 0 0 := by
  have htop : (T.setVm s.vm).topJava?.isSome := X.here.top
  have hF : ((T.setVm s.vm).setFrames (.invoking m args :: below)).frames = .invoking m args :: below := State.frames_setFrames _ (State.cur_lt_of_top htop)
  obtain ⟨g₀, hg0⟩ := Option.isSome_iff_exists.mp htop
  obtain ⟨r, hr⟩ := State.topJava?_eq_some.mp hg0
  have hl9 : e.platform.stackLimits (T.setVm s.vm).me = e.platform.stackLimits s.me := X.limits
  have hb9 : (T.setVm s.vm).me.stackBytes = s.me.stackBytes := X.bytes
  refine ⟨X.admits, X.cas, X.clock, hF, ?_, X.hears, X.method, X.code, X.here, X.tail, X.warmed, ?_, ?_, ?_⟩
  · have h := X.room
    have hU : ((T.setVm s.vm).setFrames (.invoking m args :: below)).localsInUse = s.localsInUse := by
      rw [State.localsInUse_invoking hF (meth := meth) (c := c) X.method X.code, State.localsInUse_invoking X.frames X.method X.code]
    simp only [State.hasRoom, Bool.and_eq_true, decide_eq_true_eq] at h ⊢
    obtain ⟨⟨⟨⟨h1, h2, h3, h4, h5, h6⟩, h7⟩, h8⟩, h9⟩ := h
    rw [X.frames, List.length_cons] at h2 h3
    have q1 := X.heapSize
    have q2 := X.used
    simp only [hF, hU, List.length_cons, State.stackLimits_setFrames, State.stackBytes_setFrames, hl9, hb9]
    refine ⟨⟨⟨⟨by omega, by omega, by omega, by omega, by omega, h6⟩, ?_⟩, ?_⟩, X.book⟩
    · show T.heap.size + R'.cells ≤ e.platform.maxCells
      omega
    · show T.slotsUsed + R'.slots ≤ e.platform.maxSlots
      omega
  · rw [State.stackLimits_setFrames]; rfl
  · rw [State.stackBytes_setFrames]; rfl
  · refine ⟨?_, Nat.le_refl _, Nat.le_refl _, ?_, ?_, fun a c9 h9 => ⟨c9, h9, rfl, rfl, fun _ _ => rfl⟩⟩
    · obtain ⟨t, ht, -⟩ := State.frames_cons hr
      show T.setVm s.vm = { ((T.setVm s.vm).setFrames (.invoking m args :: below)).setFrames (T.setVm s.vm).frames with heap := T.heap, slotsUsed := T.slotsUsed }
      rw [State.setFrames_setFrames, State.setFrames_self ht]
      rfl
    · show T.slotsUsed = T.slotsUsed + ((T.heap.toList.drop T.heap.size).map (·.slots.size)).sum
      rw [List.drop_eq_nil_of_le (Nat.le_of_eq Array.length_toList)]
      rfl
    · show ((T.heap.toList.drop T.heap.size).map (·.slots.size)).sum ≤ 0
      rw [List.drop_eq_nil_of_le (Nat.le_of_eq Array.length_toList)]
      exact Nat.le_refl _
/-- 'throw new E()': new; dup; invokespecial; athrow -/
theorem vx_throw0 {cc : ByteArray} {pc : Nat} (hexec : p.tables.exec = Jvm.exec) (hb : c.code = cc) (hl : l.stackTraces = false) {own cls : String} {names : List String} {ik ic mc ms : Nat} {A : Nat → Prop}
    (hown : s.vm.findClass own = some m.cls) (hcls : Bundle.fit cls = true) (hnames : ∀ n ∈ names, Bundle.fit n = true)
    (hk : (Cond.classLink own ik cls).before args s = true) (hini : (Cond.initialized cls).before args s = true) (hat : ∀ w ∈ vx_at0 own ic cls names, w.before args s = true)
    (hgood : ∀ w ∈ Cond.classLink own ik cls :: Cond.initialized cls :: vx_at0 own ic cls names, vx_ot w = true)
    (hU : vx_Zq Bundle.tN "UNASSIGNED_STACK" Bundle.steD A s s.heap) (hN : vx_Zq Bundle.tN "SUPPRESSED_SENTINEL" Bundle.listD A s s.heap) (hS : va_S A s.heap H locs) (hsize : ls.size = c.maxLocals)
    (d0 : decode cc pc = .ok (.new ik, 3)) (d3 : decode cc (pc + 3) = .ok (.dup, 1)) (d4 : decode cc (pc + 4) = .ok (.invokespecial ic, 3)) (d7 : decode cc (pc + 7) = .ok (.athrow, 1))
    (hout : ∀ x ∈ c.exceptionTable.toList, covers x (pc + 7) = false)
    (hRframes : names.length + 3 < R.frames) (hRlocals : (rest.map fun v => v.category).sum + (13 * (names.length + 1) + 42) ≤ R.locals) (hRcells : cells + 1 ≤ R.cells) (hRslots : slots + 6 ≤ R.slots) (hlocks : meth.locks = false)
    (hx : ∀ t : State, s.vm.Alike t.vm → H.size ≤ t.heap.size → (∀ q : Nat, q < H.size → t.heap[q]? = H[q]?) → XC cls s t)
    (hf : ∀ z ∈ locs, free z.base) (hc : cells + 1 ≤ mc) (hs : slots + 6 ≤ ms) :
    W p l e R s m args below meth c H locs cells slots (vx_MQ below Qc XC args s mc ms free) (F0 m pc ls rest) := by
  intro T hT X
  have htr : e.platform.stackTraces = false := (show e.platform.stackTraces = l.stackTraces by rw [X.admits.platform]).trans hl
  have Y := vx_rebase X (R' := { frames := R.frames, locals := R.locals, cells := 1, slots := 6 }) (Nat.le_refl _) (Nat.le_refl _) hRcells hRslots
  obtain ⟨s', hA⟩ : ∃ z, z = (T.setVm s.vm).setFrames (.invoking m args :: below) := ⟨_, rfl⟩
  rw [← hA] at Y
  have hvm : s'.vm = s.vm := by rw [hA]; rfl
  have hhp : s'.heap = H := by rw [hA]; exact hT
  have hW0 : s.WarmedH s'.vm := by rw [hvm]; exact State.WarmedH.refl s
  have hat' : ∀ w ∈ vx_at0 own ic cls names, w.before args s' = true := fun w hw => vx_ot_at hW0 hvm.symm (hgood w (List.mem_cons_of_mem _ (List.mem_cons_of_mem _ hw))) (hat w hw)
  have hk' : (Cond.classLink own ik cls).before args s' = true := vx_ot_at hW0 hvm.symm (hgood _ List.mem_cons_self) hk
  have hini' : (Cond.initialized cls).before args s' = true := vx_ot_at hW0 hvm.symm (hgood _ (List.mem_cons_of_mem _ List.mem_cons_self)) hini
  have hU' : vx_Zq Bundle.tN "UNASSIGNED_STACK" Bundle.steD A s' s'.heap := by rw [hhp]; exact vx_Zq.moved hW0.alike (hU.kept hS.2.1)
  have hN' : vx_Zq Bundle.tN "SUPPRESSED_SENTINEL" Bundle.listD A s' s'.heap := by rw [hhp]; exact vx_Zq.moved hW0.alike (hN.kept hS.2.1)
  have h : ∀ w ∈ Bundle.ownAtoms0 own ic cls names, w.before args s' = true := vx_own hat' (vx_isRefq hU'.1) (vx_isRefq hN'.1) hU'.2.word hN'.2.word
  have hown' : s'.vm.findClass own = some m.cls := by rw [hvm]; exact hown
  have hins : (Cond.instantiable cls 6).before args s' = true := h _ (by simp [Bundle.ownAtoms0])
  obtain ⟨vm₁, cX, kX, hfX, hkX, -, -, X₁, st1⟩ := Y.newCold hexec (own := own) (C := cls) (index := ik) (n := 6) hown' hk' hins hini'
    (g := F0 m pc ls rest) rfl (by rw [hb]; exact d0) (Nat.le_refl _) (Nat.le_refl _)
  generalize hT1 : (T.setVm vm₁).pushCell { cls := cX, slots := kX.instanceTypes.map defaultValue, vm := .none } = T1 at X₁ st1
  have hcat : (Value.ref T.heap.size).category = 1 := rfl
  have hcellA : T1.heap[T.heap.size]? = some (freshCell cX kX) := by rw [← hT1]; exact State.heap_pushCell_size _ _
  have d3' : decode c.code (pc + 3) = .ok (.dup, 1) := by rw [hb]; exact d3
  obtain ⟨U, hsteps, hrun, hend, hW, hsame, ce, hce, hO⟩ := X₁.ctorThrow0 hexec htr (own := own) (cls := cls) (names := names) (ic := ic) hown' hcls hnames h (fun x hx => nomatch hx) hfX hkX hcellA (by rw [hhp, hT]; exact Nat.le_refl _)
    (g := { method := m, pc := pc + 4, locals := ls, stack := .ref T.heap.size :: .ref T.heap.size :: rest, locked := none }) rfl hsize rfl rfl (rest := rest) rfl
    (by rw [hb]; exact d4) (by rw [hb]; exact d7) hout hRframes (by simp only [List.map_cons, List.sum_cons, hcat]; omega) hlocks
  obtain ⟨f1, f2⟩ := vx_frame hsame
  rw [hhp] at f1 f2
  have hWs : s.WarmedH U.vm := State.WarmedH.trans hW0 hW
  have hcl : s.vm.findClass cls = some ce.cls := by
    have h9 := hO.cls
    rw [hvm] at h9
    exact h9
  have hall : s.sameButNew ({ U with vm := s.vm } : State) locs mc ms := by
    subst hA
    obtain ⟨e1, e2⟩ := hsame
    rw [State.setFrames_setFrames] at e1
    have h2 : (T.setVm s.vm).sameButNew ({ U with vm := s.vm } : State) [] (0 + 1) (0 + 6) := ⟨e1, e2⟩
    have h3 := X.same.trans h2
    rw [List.append_nil] at h3
    exact h3.mono hc hs
  refine ⟨U, ?_, .threw T.heap.size, hrun, hend, Or.inr ⟨T.heap.size, rfl, cls, ce, locs, hx U hWs.alike f1 (fun q hq => f2 q hq (fun z hz => nomatch hz)), hce, hO.vm, hcl, hWs, hall, hf⟩⟩
  refine st1 _ ?_
  show Steps p.tables e below (T1.setTop { method := m, pc := pc + 3, locals := ls, stack := .ref T.heap.size :: rest, locked := none }) _
  jvm_step X₁.here [X₁.here.top, hexec, d3', Value.category]
  exact hsteps
/-- 'throw new E("text")': new; dup; ldc; invokespecial; athrow -/
theorem vx_throwS {cc : ByteArray} {pc : Nat} (hexec : p.tables.exec = Jvm.exec) (hb : c.code = cc) (hl : l.stackTraces = false) {own cls text : String} {names : List String} {ik is ic mc ms sa : Nat} {A : Nat → Prop}
    (hown : s.vm.findClass own = some m.cls) (hcls : Bundle.fit cls = true) (hnames : ∀ n ∈ names, Bundle.fit n = true)
    (hk : (Cond.classLink own ik cls).before args s = true) (hini : (Cond.initialized cls).before args s = true) (hstr : vk_R own is text sa s) (hat : ∀ w ∈ vx_atS own ic cls names, w.before args s = true)
    (hgood : ∀ w ∈ Cond.classLink own ik cls :: Cond.initialized cls :: vx_atS own ic cls names, vx_ot w = true)
    (hU : vx_Zq Bundle.tN "UNASSIGNED_STACK" Bundle.steD A s s.heap) (hN : vx_Zq Bundle.tN "SUPPRESSED_SENTINEL" Bundle.listD A s s.heap) (hS : va_S A s.heap H locs) (hsize : ls.size = c.maxLocals)
    (d0 : decode cc pc = .ok (.new ik, 3)) (d3 : decode cc (pc + 3) = .ok (.dup, 1)) (d4 : decode cc (pc + 4) = .ok (.ldc is, 2)) (d6 : decode cc (pc + 6) = .ok (.invokespecial ic, 3)) (d9 : decode cc (pc + 9) = .ok (.athrow, 1))
    (hout : ∀ x ∈ c.exceptionTable.toList, covers x (pc + 9) = false)
    (hRframes : names.length + 3 < R.frames) (hRlocals : (rest.map fun v => v.category).sum + (13 * (names.length + 1) + 43) ≤ R.locals) (hRcells : cells + 1 ≤ R.cells) (hRslots : slots + 6 ≤ R.slots) (hlocks : meth.locks = false)
    (hx : ∀ t : State, s.vm.Alike t.vm → H.size ≤ t.heap.size → (∀ q : Nat, q < H.size → t.heap[q]? = H[q]?) → XC cls s t)
    (hf : ∀ z ∈ locs, free z.base) (hc : cells + 1 ≤ mc) (hs : slots + 6 ≤ ms) :
    W p l e R s m args below meth c H locs cells slots (vx_MQ below Qc XC args s mc ms free) (F0 m pc ls rest) := by
  intro T hT X
  have htr : e.platform.stackTraces = false := (show e.platform.stackTraces = l.stackTraces by rw [X.admits.platform]).trans hl
  have Y := vx_rebase X (R' := { frames := R.frames, locals := R.locals, cells := 1, slots := 6 }) (Nat.le_refl _) (Nat.le_refl _) hRcells hRslots
  obtain ⟨s', hA⟩ : ∃ z, z = (T.setVm s.vm).setFrames (.invoking m args :: below) := ⟨_, rfl⟩
  rw [← hA] at Y
  have hvm : s'.vm = s.vm := by rw [hA]; rfl
  have hhp : s'.heap = H := by rw [hA]; exact hT
  have hW0 : s.WarmedH s'.vm := by rw [hvm]; exact State.WarmedH.refl s
  have hat' : ∀ w ∈ vx_atS own ic cls names, w.before args s' = true := fun w hw => vx_ot_at hW0 hvm.symm (hgood w (List.mem_cons_of_mem _ (List.mem_cons_of_mem _ hw))) (hat w hw)
  have hk' : (Cond.classLink own ik cls).before args s' = true := vx_ot_at hW0 hvm.symm (hgood _ List.mem_cons_self) hk
  have hini' : (Cond.initialized cls).before args s' = true := vx_ot_at hW0 hvm.symm (hgood _ (List.mem_cons_of_mem _ List.mem_cons_self)) hini
  have hU' : vx_Zq Bundle.tN "UNASSIGNED_STACK" Bundle.steD A s' s'.heap := by rw [hhp]; exact vx_Zq.moved hW0.alike (hU.kept hS.2.1)
  have hN' : vx_Zq Bundle.tN "SUPPRESSED_SENTINEL" Bundle.listD A s' s'.heap := by rw [hhp]; exact vx_Zq.moved hW0.alike (hN.kept hS.2.1)
  have h : ∀ w ∈ Bundle.ownAtoms own ic cls names, w.before args s' = true := vx_own hat' (vx_isRefq hU'.1) (vx_isRefq hN'.1) hU'.2.word hN'.2.word
  have hown' : s'.vm.findClass own = some m.cls := by rw [hvm]; exact hown
  have hins : (Cond.instantiable cls 6).before args s' = true := h _ (by simp [Bundle.ownAtoms])
  obtain ⟨vm₁, cX, kX, hfX, hkX, -, -, X₁, st1⟩ := Y.newCold hexec (own := own) (C := cls) (index := ik) (n := 6) hown' hk' hins hini'
    (g := F0 m pc ls rest) rfl (by rw [hb]; exact d0) (Nat.le_refl _) (Nat.le_refl _)
  generalize hT1 : (T.setVm vm₁).pushCell { cls := cX, slots := kX.instanceTypes.map defaultValue, vm := .none } = T1 at X₁ st1
  have hcat : (Value.ref T.heap.size).category = 1 := rfl
  have hcellA : T1.heap[T.heap.size]? = some (freshCell cX kX) := by rw [← hT1]; exact State.heap_pushCell_size _ _
  have d3' : decode c.code (pc + 3) = .ok (.dup, 1) := by rw [hb]; exact d3
  have d4' : decode c.code (pc + 4) = .ok (.ldc is, 2) := by rw [hb]; exact d4
  have hstr' : vk_R own is text sa s' := vk_R.warm hW0 hstr
  obtain ⟨U, hsteps, hrun, hend, hW, hsame, ce, hce, hO⟩ := X₁.ctorThrowS hexec htr (own := own) (cls := cls) (names := names) (ic := ic) hown' hcls hnames h (fun x hx => nomatch hx) hfX hkX hcellA (by rw [hhp, hT]; exact Nat.le_refl _) (msg := .ref sa) rfl
    (g := { method := m, pc := pc + 6, locals := ls, stack := .ref sa :: .ref T.heap.size :: .ref T.heap.size :: rest, locked := none }) rfl hsize rfl rfl (rest := rest) rfl
    (by rw [hb]; exact d6) (by rw [hb]; exact d9) hout hRframes (by simp only [List.map_cons, List.sum_cons, hcat]; omega) hlocks
  obtain ⟨f1, f2⟩ := vx_frame hsame
  rw [hhp] at f1 f2
  have hWs : s.WarmedH U.vm := State.WarmedH.trans hW0 hW
  have hcl : s.vm.findClass cls = some ce.cls := by
    have h9 := hO.cls
    rw [hvm] at h9
    exact h9
  have hall : s.sameButNew ({ U with vm := s.vm } : State) locs mc ms := by
    subst hA
    obtain ⟨e1, e2⟩ := hsame
    rw [State.setFrames_setFrames] at e1
    have h2 : (T.setVm s.vm).sameButNew ({ U with vm := s.vm } : State) [] (0 + 1) (0 + 6) := ⟨e1, e2⟩
    have h3 := X.same.trans h2
    rw [List.append_nil] at h3
    exact h3.mono hc hs
  refine ⟨U, ?_, .threw T.heap.size, hrun, hend, Or.inr ⟨T.heap.size, rfl, cls, ce, locs, hx U hWs.alike f1 (fun q hq => f2 q hq (fun z hz => nomatch hz)), hce, hO.vm, hcl, hWs, hall, hf⟩⟩
  refine st1 _ ?_
  show Steps p.tables e below (T1.setTop { method := m, pc := pc + 3, locals := ls, stack := .ref T.heap.size :: rest, locked := none }) _
  jvm_step X₁.here [X₁.here.top, hexec, d3', Value.category]
  exact X₁.ldcString hexec (own := own) (text := text) (index := is) (a := sa) hown' hstr'.1 hstr'.2
    (g := { method := m, pc := pc + 4, locals := ls, stack := .ref T.heap.size :: .ref T.heap.size :: rest, locked := none }) rfl d4' _ hsteps
/-- 'throw new E("text")', the text by a wide index -/
theorem vx_throwSW {cc : ByteArray} {pc : Nat} (hexec : p.tables.exec = Jvm.exec) (hb : c.code = cc) (hl : l.stackTraces = false) {own cls text : String} {names : List String} {ik is ic mc ms sa : Nat} {A : Nat → Prop}
    (hown : s.vm.findClass own = some m.cls) (hcls : Bundle.fit cls = true) (hnames : ∀ n ∈ names, Bundle.fit n = true)
    (hk : (Cond.classLink own ik cls).before args s = true) (hini : (Cond.initialized cls).before args s = true) (hstr : vk_R own is text sa s) (hat : ∀ w ∈ vx_atS own ic cls names, w.before args s = true)
    (hgood : ∀ w ∈ Cond.classLink own ik cls :: Cond.initialized cls :: vx_atS own ic cls names, vx_ot w = true)
    (hU : vx_Zq Bundle.tN "UNASSIGNED_STACK" Bundle.steD A s s.heap) (hN : vx_Zq Bundle.tN "SUPPRESSED_SENTINEL" Bundle.listD A s s.heap) (hS : va_S A s.heap H locs) (hsize : ls.size = c.maxLocals)
    (d0 : decode cc pc = .ok (.new ik, 3)) (d3 : decode cc (pc + 3) = .ok (.dup, 1)) (d4 : decode cc (pc + 4) = .ok (.ldc_w is, 3)) (d7 : decode cc (pc + 7) = .ok (.invokespecial ic, 3)) (d10 : decode cc (pc + 10) = .ok (.athrow, 1))
    (hout : ∀ x ∈ c.exceptionTable.toList, covers x (pc + 10) = false)
    (hRframes : names.length + 3 < R.frames) (hRlocals : (rest.map fun v => v.category).sum + (13 * (names.length + 1) + 43) ≤ R.locals) (hRcells : cells + 1 ≤ R.cells) (hRslots : slots + 6 ≤ R.slots) (hlocks : meth.locks = false)
    (hx : ∀ t : State, s.vm.Alike t.vm → H.size ≤ t.heap.size → (∀ q : Nat, q < H.size → t.heap[q]? = H[q]?) → XC cls s t)
    (hf : ∀ z ∈ locs, free z.base) (hc : cells + 1 ≤ mc) (hs : slots + 6 ≤ ms) :
    W p l e R s m args below meth c H locs cells slots (vx_MQ below Qc XC args s mc ms free) (F0 m pc ls rest) := by
  intro T hT X
  have htr : e.platform.stackTraces = false := (show e.platform.stackTraces = l.stackTraces by rw [X.admits.platform]).trans hl
  have Y := vx_rebase X (R' := { frames := R.frames, locals := R.locals, cells := 1, slots := 6 }) (Nat.le_refl _) (Nat.le_refl _) hRcells hRslots
  obtain ⟨s', hA⟩ : ∃ z, z = (T.setVm s.vm).setFrames (.invoking m args :: below) := ⟨_, rfl⟩
  rw [← hA] at Y
  have hvm : s'.vm = s.vm := by rw [hA]; rfl
  have hhp : s'.heap = H := by rw [hA]; exact hT
  have hW0 : s.WarmedH s'.vm := by rw [hvm]; exact State.WarmedH.refl s
  have hat' : ∀ w ∈ vx_atS own ic cls names, w.before args s' = true := fun w hw => vx_ot_at hW0 hvm.symm (hgood w (List.mem_cons_of_mem _ (List.mem_cons_of_mem _ hw))) (hat w hw)
  have hk' : (Cond.classLink own ik cls).before args s' = true := vx_ot_at hW0 hvm.symm (hgood _ List.mem_cons_self) hk
  have hini' : (Cond.initialized cls).before args s' = true := vx_ot_at hW0 hvm.symm (hgood _ (List.mem_cons_of_mem _ List.mem_cons_self)) hini
  have hU' : vx_Zq Bundle.tN "UNASSIGNED_STACK" Bundle.steD A s' s'.heap := by rw [hhp]; exact vx_Zq.moved hW0.alike (hU.kept hS.2.1)
  have hN' : vx_Zq Bundle.tN "SUPPRESSED_SENTINEL" Bundle.listD A s' s'.heap := by rw [hhp]; exact vx_Zq.moved hW0.alike (hN.kept hS.2.1)
  have h : ∀ w ∈ Bundle.ownAtoms own ic cls names, w.before args s' = true := vx_own hat' (vx_isRefq hU'.1) (vx_isRefq hN'.1) hU'.2.word hN'.2.word
  have hown' : s'.vm.findClass own = some m.cls := by rw [hvm]; exact hown
  have hins : (Cond.instantiable cls 6).before args s' = true := h _ (by simp [Bundle.ownAtoms])
  obtain ⟨vm₁, cX, kX, hfX, hkX, -, -, X₁, st1⟩ := Y.newCold hexec (own := own) (C := cls) (index := ik) (n := 6) hown' hk' hins hini'
    (g := F0 m pc ls rest) rfl (by rw [hb]; exact d0) (Nat.le_refl _) (Nat.le_refl _)
  generalize hT1 : (T.setVm vm₁).pushCell { cls := cX, slots := kX.instanceTypes.map defaultValue, vm := .none } = T1 at X₁ st1
  have hcat : (Value.ref T.heap.size).category = 1 := rfl
  have hcellA : T1.heap[T.heap.size]? = some (freshCell cX kX) := by rw [← hT1]; exact State.heap_pushCell_size _ _
  have d3' : decode c.code (pc + 3) = .ok (.dup, 1) := by rw [hb]; exact d3
  have d4' : decode c.code (pc + 4) = .ok (.ldc_w is, 3) := by rw [hb]; exact d4
  have hstr' : vk_R own is text sa s' := vk_R.warm hW0 hstr
  obtain ⟨U, hsteps, hrun, hend, hW, hsame, ce, hce, hO⟩ := X₁.ctorThrowS hexec htr (own := own) (cls := cls) (names := names) (ic := ic) hown' hcls hnames h (fun x hx => nomatch hx) hfX hkX hcellA (by rw [hhp, hT]; exact Nat.le_refl _) (msg := .ref sa) rfl
    (g := { method := m, pc := pc + 7, locals := ls, stack := .ref sa :: .ref T.heap.size :: .ref T.heap.size :: rest, locked := none }) rfl hsize rfl rfl (rest := rest) rfl
    (by rw [hb]; exact d7) (by rw [hb]; exact d10) hout hRframes (by simp only [List.map_cons, List.sum_cons, hcat]; omega) hlocks
  obtain ⟨f1, f2⟩ := vx_frame hsame
  rw [hhp] at f1 f2
  have hWs : s.WarmedH U.vm := State.WarmedH.trans hW0 hW
  have hcl : s.vm.findClass cls = some ce.cls := by
    have h9 := hO.cls
    rw [hvm] at h9
    exact h9
  have hall : s.sameButNew ({ U with vm := s.vm } : State) locs mc ms := by
    subst hA
    obtain ⟨e1, e2⟩ := hsame
    rw [State.setFrames_setFrames] at e1
    have h2 : (T.setVm s.vm).sameButNew ({ U with vm := s.vm } : State) [] (0 + 1) (0 + 6) := ⟨e1, e2⟩
    have h3 := X.same.trans h2
    rw [List.append_nil] at h3
    exact h3.mono hc hs
  refine ⟨U, ?_, .threw T.heap.size, hrun, hend, Or.inr ⟨T.heap.size, rfl, cls, ce, locs, hx U hWs.alike f1 (fun q hq => f2 q hq (fun z hz => nomatch hz)), hce, hO.vm, hcl, hWs, hall, hf⟩⟩
  refine st1 _ ?_
  show Steps p.tables e below (T1.setTop { method := m, pc := pc + 3, locals := ls, stack := .ref T.heap.size :: rest, locked := none }) _
  jvm_step X₁.here [X₁.here.top, hexec, d3', Value.category]
  exact X₁.ldcStringW hexec (own := own) (text := text) (index := is) (a := sa) hown' hstr'.1 hstr'.2
    (g := { method := m, pc := pc + 4, locals := ls, stack := .ref T.heap.size :: .ref T.heap.size :: rest, locked := none }) rfl d4' _ hsteps
end Ends
section Bodies
variable {l : Launch}
theorem vx_ofW {y : MethodName} {ws ws' : List Cond} {rm : Room} {Pc : Array Value → State → Prop} {Qc : Array Value → State → Outcome → State → Prop} {XC : String → State → State → Prop} {mc ms : Nat} {free : Addr → Prop} {cc : ByteArray} {maxL : Nat} {ret : Option FieldType}
    (hy : plainName y.cls = true) (hw : ws = Cond.code y cc maxL ret :: ws')
    (body : ∀ p e s m args below meth c s₁, BodyLoose p l y (headSpec ws rm) cc maxL ret e s m args below meth c s₁ → c.maxLocals = maxL → (∀ x ∈ c.exceptionTable.toList, False) → Pc args s →
      W p l e (headSpec ws rm).room s m args below meth c s.heap [] 0 0 (vx_MQ below Qc XC args s mc ms free) (entryFrame m args maxL)) : vx_Met l y ws rm Pc Qc XC mc ms free := by
  refine MetFree.of_bodyS (code := cc) (maxLocals := maxL) (ret := ret) hy ?_ ?_
  · intro args s m h hn
    obtain ⟨meth, c, h1, h2, h3, h4, h5, h6, -, -⟩ := Cond.code_spec hn (atoms_spec (ws := ws) h _ (by rw [hw]; exact List.mem_cons_self))
    exact ⟨meth, c, h1, h2, h3, h4, h5, h6⟩
  · intro p e s m args below meth c s₁ B hml hP _
    have hh0 : s₁.heap = s.heap := by rw [B.state]; rfl
    have ht : ∀ x ∈ c.exceptionTable.toList, False := by
      obtain ⟨meth9, c9, h1, h2, -, -, -, -, h7, -⟩ := Cond.code_spec B.named (atoms_spec (ws := ws) B.pre _ (by rw [hw]; exact List.mem_cons_self))
      cases Option.some.inj (h1.symm.trans B.method)
      cases Option.some.inj (h2.symm.trans (Stand.of_body B).code)
      intro x hx
      rw [Array.isEmpty_iff.mp h7] at hx
      cases hx
    obtain ⟨t, a1, o, b1, b2, b3⟩ := body p e s m args below meth c s₁ B hml ht hP s₁ hh0 (Stand.of_body B)
    exact ⟨t, o, a1, b1, b2, b3⟩
/-- the table of a body with handlers -/
theorem vx_table {p : Program} {x y : MethodName} {S : Spec} {cc bytes : ByteArray} {maxL maxL' : Nat} {ret ret' : Option FieldType} {e : Env} {s s₁ : State} {m : MethodId} {args : Array Value} {below : List Frame} {meth : Method} {c : Code} {hh : List (Nat × Nat × Nat × Nat)}
    (B : BodyLoose p l y S cc maxL ret e s m args below meth c s₁) (h : (Cond.codeWith y bytes maxL' ret' hh).before args s = true) : c.exceptionTable.toList = tableOf hh := by
  obtain ⟨m9, meth9, c9, hn9, h1, h2, -, -, h6, -⟩ := Cond.codeWith_spec h
  cases Option.some.inj (hn9.symm.trans B.named)
  cases Option.some.inj (h1.symm.trans B.method)
  cases Option.some.inj (h2.symm.trans (Stand.of_body B).code)
  rw [← h6, table_eq]
end Bodies
end VXA
/-! ===== END ===== -/
/-! ===== BEGIN a static call of a method with an exception table ===== -/
section VXS
variable {p : Program} {l : Launch} {e : Env} {R : Room} {s : State} {m : MethodId} {args : Array Value} {below : List Frame} {meth : Method} {c : Code} {T : State} {H : Heap} {locs : List Loc} {cells slots : Nat}
abbrev vx_CSW (R : Room) (s : State) (args : Array Value) (own : String) (index : Nat) (y : MethodName) (bytes : ByteArray) (maxL : Nat) (ret : Option FieldType) (hh : List (Nat × Nat × Nat × Nat)) (ws : List Cond) (rm : Room) (mc ms n : Nat) : Prop :=
  (rm.cells = mc ∧ rm.slots = ms ∧ rm.frames + 1 ≤ R.frames ∧ 8 + (maxL + 11) + rm.locals ≤ R.locals ∧ (∀ w ∈ ws, ∀ (a' : Array Value) (U : State), s.WarmedH U.vm → w.before a' U = true) ∧ Cond.codeWith y bytes maxL ret hh ∈ ws) ∧
  (Cond.codeWith y bytes maxL ret hh).before args s = true ∧ (Cond.initialized y.cls).before args s = true ∧ (y.cls ≠ "java/lang/invoke/MethodHandle" ∧ y.cls ≠ "java/lang/invoke/VarHandle") ∧
  (∀ sig, parseMethodDescriptor y.desc = some sig → n = sig.parameters.length) ∧ (Cond.methodLink own index y).before args s = true ∧ (Cond.static y).before args s = true
theorem vx_cwSW {own : String} {index maxL mc ms : Nat} {y : MethodName} {bytes : ByteArray} {ret : Option FieldType} {hh : List (Nat × Nat × Nat × Nat)} {Ts ws ws' : List Cond} {rm : Room} (n : Nat) (ht : ∀ w ∈ Ts, w.before args s = true) (hT : GoodIn Ts (va_wsS own index y ws)) (hw : ws = Cond.codeWith y bytes maxL ret hh :: ws') (hrc : rm.cells = mc) (hrs : rm.slots = ms)
    (hd : y.cls ≠ "java/lang/invoke/MethodHandle" ∧ y.cls ≠ "java/lang/invoke/VarHandle" ∧ (parseMethodDescriptor y.desc).map (fun d => d.parameters.length) = some n) (hR : rm.frames + 1 ≤ R.frames ∧ 8 + (maxL + 11) + rm.locals ≤ R.locals) :
    vx_CSW R s args own index y bytes maxL ret hh ws rm mc ms n := by
  have ok : ∀ w ∈ va_wsS own index y ws, w.before args s = true := fun w h => ht w (hT w h).1
  have hG : GoodIn Ts ws := fun w h => hT w (by unfold va_wsS; exact List.mem_append_right _ h)
  have hc : Cond.codeWith y bytes maxL ret hh ∈ ws := by rw [hw]; exact List.mem_cons_self
  refine ⟨⟨hrc, hrs, hR.1, hR.2, pay_in ht hG, hc⟩, ht _ (hG _ hc).1, ok _ (by simp [va_wsS]), ⟨hd.1, hd.2.1⟩, fun sig h => ?_, ok _ (by simp [va_wsS]), ok _ (by simp [va_wsS])⟩
  have h2 := hd.2.2
  rw [h] at h2
  exact (Option.some.inj h2).symm
theorem vx_callSW (X : Stand p l e R s m args below meth c T locs cells slots) (hexec : p.tables.exec = Jvm.exec) {own : String} {index : Nat} {y : MethodName} {bytes : ByteArray} {maxL : Nat} {ret : Option FieldType} {hh : List (Nat × Nat × Nat × Nat)}
    (hown : s.vm.findClass own = some m.cls) (hlink : (Cond.methodLink own index y).before args s = true) (hstat : (Cond.static y).before args s = true) (hinit : (Cond.initialized y.cls).before args s = true)
    (hcode : (Cond.codeWith y bytes maxL ret hh).before args s = true) (hy : y.cls ≠ "java/lang/invoke/MethodHandle" ∧ y.cls ≠ "java/lang/invoke/VarHandle")
    {W9 : Nat} {Pre : Pt → Array Value → Prop} {Post : Pt → Array Value → Option Value → Pt → Prop} (hK : Back l R p e below s args y 3 W9 Pre Post)
    {g : JFrame} (hg : g.method = m) (hsize : g.locals.size = c.maxLocals) {argsL rest : List Value} (hlen : ∀ sig, parseMethodDescriptor y.desc = some sig → argsL.length = sig.parameters.length)
    (hstack : g.stack = argsL.reverse ++ rest) (hW : 2 * g.monitorRoom + (rest.map fun v => v.category).sum ≤ W9) (hdg : decode c.code g.pc = .ok (.invokestatic index, 3))
    (hpre : ∀ vm₁, s.WarmedH vm₁ → Pre ⟨T.setVm vm₁, locs, cells, slots⟩ argsL.toArray) :
    ∃ (v : Option Value) (vm₁ : Vm) (B : Pt), s.WarmedH vm₁ ∧ Stand p l e R s m args below meth c B.U B.locs B.cells B.slots ∧ Post ⟨T.setVm vm₁, locs, cells, slots⟩ argsL.toArray v B ∧
      ∀ target, Steps p.tables e below (B.U.setTop { g with pc := g.pc + 3, stack := v.toList ++ rest }) target → Steps p.tables e below (T.setTop g) target := by
  obtain ⟨mk, methM, cM, hnamed, hmethM, -, -, -, -, -, -, hsigM⟩ := Cond.codeWith_spec hcode
  have hstatic : methM.isStatic = true := Cond.static_spec hnamed hmethM hstat
  obtain ⟨kP, hkP, -⟩ := className_of_methodNamed hnamed
  have hinitP : kP.init = .initialized := Cond.initialized_spec (findClass_of_methodNamed hnamed) hkP hinit
  obtain ⟨vm₁, X₁, hstep₁⟩ := X.invokestatic hexec hown hlink hnamed hmethM hstatic hkP hinitP hy (g := g) hg (argsL := argsL) (rest := rest) (hlen _ hsigM) hstack hdg
  obtain ⟨v, B, X', hpost, hsteps⟩ := hK m meth c ⟨T.setVm vm₁, locs, cells, slots⟩ { g with stack := rest } (.invokestatic index) mk argsL.toArray X₁ hg hsize hdg hW (X₁.named hnamed) (hpre vm₁ X₁.warmed)
  exact ⟨v, vm₁, B, X₁.warmed, X', hpost, fun target h => hstep₁ _ fun acts => by rw [doInvoke_state]; exact hsteps.trans h⟩
theorem vx_runSW {y : MethodName} {bytes cc : ByteArray} {maxL nL mc ms n index : Nat} {ret : Option FieldType} {hh : List (Nat × Nat × Nat × Nat)} {ws : List Cond} {rm : Room} {Pc : Array Value → State → Prop} {Qc : Array Value → State → Outcome → State → Prop} {free : Addr → Prop} {Ts : List Cond} {own : String} {As rest : List Value} {g : JFrame}
    (S : CallFix p m c cc nL s args Ts own) (hM : Met l y ws rm Pc Qc mc ms free) (cw : vx_CSW R s args own index y bytes maxL ret hh ws rm mc ms n) (hp : PreS s H Pc As)
    (hg : g.method = m) (hn : As.length = n) (hsize : g.locals.size = nL) (hstack : g.stack = As.reverse ++ rest) (hW : 2 * g.monitorRoom + (rest.map fun v => v.category).sum ≤ 8) (hdg : decode cc g.pc = .ok (.invokestatic index, 3)) (hf : cells + mc ≤ R.cells ∧ slots + ms ≤ R.slots) :
    va_Run p l e R s m args below meth c H locs cells slots mc ms g rest (Qc As.toArray) (free) := by
  obtain ⟨⟨hrc, hrs, hfr, hlo, hws, hcw⟩, hcode, hini, hy, hlen, hl, hstt⟩ := cw
  have hK : Back l R p e below s args y 3 8 (PreOf R mc ms Pc) (PostOf Qc mc ms free) := va_backW (hh := hh) (bytes := bytes) (maxL := maxL) (ret := ret) hM hp.1 hrc hrs hfr hlo hws hcw (fun a' U hW => word_at hW (Or.inl (by first | rfl | simp [Cond.onTables, Cond.keeps, Cond.steady])) hini)
  obtain ⟨hx, hb, hml, ho, -⟩ := S
  intro T hT X
  obtain ⟨v, vm₁, ⟨U', l2, c2, s2⟩, hW₁, X', ⟨g', mk, t, L, e1, e2, hq, h1, hL, h2, h3⟩, st⟩ := vx_callSW X hx (hh := hh) (bytes := bytes) (maxL := maxL) (ret := ret) ho hl hstt hini hcode hy hK hg (hsize.trans hml.symm) (argsL := As) (rest := rest) (fun sig h => hn.trans (hlen sig h)) hstack hW (by rw [hb]; exact hdg)
    (fun vm₁ hW₁ => ⟨hf.1, hf.2, hp.2 (T.setVm vm₁) hT hW₁⟩)
  dsimp only [Pt.U, Pt.locs, Pt.cells, Pt.slots] at X' e1 e2 h1 h2 h3 st
  subst h1; subst h2; subst h3
  exact ⟨v, (T.setVm vm₁).calling g' mk As.toArray, t, U', L, hT, X', hL, e1, e2, hq, st⟩
/-- not caught here, past rows that name other classes: it goes on to the caller -/
theorem vx_outP {p : Program} {l : Launch} {e : Env} {R : Room} {s : State} {m : MethodId} {args : Array Value} {below : List Frame} {meth : Method} {c : Code} {H : Heap} {locs : List Loc} {cells slots : Nat} {free : Addr → Prop} {ls : Array Slot} {rest : List Value} {Qc : Array Value → State → Outcome → State → Prop} {XC : String → State → State → Prop}
    {pc : Nat} {own E : String} {ce : Cell} {q : Addr} {mc ms : Nat} (hown : s.vm.findClass own = some m.cls) (hlocks : meth.locks = false)
    (hpass : ∀ z ∈ c.exceptionTable.toList, covers z pc = false ∨ (z.catchType ≠ 0 ∧ ∃ nm : String, (Cond.classLink own z.catchType nm).before args s = true ∧ va_Nc E nm s)) (hcell : H[q]? = some ce) (hv : ce.vm = .none) (hcl : s.vm.findClass E = some ce.cls)
    (hx : ∀ t : State, t.heap = H → s.vm.Alike t.vm → XC E s t) (hf : ∀ z ∈ locs, free z.base) (hc : cells ≤ mc) (hs : slots ≤ ms) :
    vx_W p l e R s m args below meth c H locs cells slots (vx_MQ below Qc XC args s mc ms free) (F0 m pc ls rest) q := by
  intro T hT X
  have hpl : e.platform.magicAccessors = ({} : Platform).magicAccessors := by rw [X.admits.platform]
  obtain ⟨vm', hW', X', st⟩ := X.outThrough hlocks q (g := F0 m pc ls rest) rfl rfl rfl (cell := ce) (by rw [hT]; exact hcell) (by rw [hv]; rfl)
    (by obtain ⟨k9, h9, -⟩ := Vm.findClass_spec hcl; exact ⟨k9, h9⟩) (fun z hz => by
      rcases hpass z hz with h | ⟨hz0, nm, hl1, hn1⟩
      · exact Or.inl h
      · obtain ⟨c6, hc6, hcl6⟩ := Cond.classLink_spec hown hl1 e.platform hpl
        obtain ⟨a8, b8, h1, h2, h3⟩ := hn1
        cases Option.some.inj (h1.symm.trans hcl)
        cases Option.some.inj (h2.symm.trans hc6)
        exact Or.inr ⟨hz0, _, hcl6, h3⟩)
  obtain ⟨g₀, hfr⟩ := X'.frames_eq
  have hcell9 : ((T.setVm vm').setFrames (.throwing q :: below)).heap[q]? = some ce := by
    show T.heap[q]? = some ce
    rw [hT]; exact hcell
  have hend : Ended ((T.setVm vm').setFrames (.throwing q :: below)) below (.threw q) := State.frames_setFrames _ (State.cur_lt_of_frames hfr)
  refine ⟨(T.setVm vm').setFrames (.throwing q :: below), ?_, .threw q, X'.here.running, hend, Or.inr ⟨q, rfl, E, ce, locs, hx _ hT (X'.ends _).1.alike, hcell9, hv, hcl, (X'.ends _).1, (X'.ends _).2.mono hc hs, hf⟩⟩
  rw [X.pushThrowing_eq]
  exact st
/-- a thing of a world lies in the heap -/
theorem vx_lt {D : va_G} {cl : List vw_C} {ws : va_W} {H1 : Heap} (h : va_P D cl ws H1) {k : Nat} {q : Nat × va_E} (hk : ws[k]? = some q) : q.1 < H1.size := (h k q hk).lt
end VXS
/-! ===== END ===== -/
/-! ===== BEGIN methods with a table of their own: called by a name, returning or throwing ===== -/
section VXH
/-! vx_backW, vx_callVX, vx_callSX, vx_callVW, vx_runVW, vx_runVX, vx_runSX, vx_ofWH follow the same proofs as their sisters above (Free/Laws.lean, Shelf42/LK1.lean); vx_outP calls Shelf42/NT130.lean (outThrough). -/
section
variable {l : Launch} {R : Room} {p : Program} {e : Env} {below : List Frame} {s : State} {sargs : Array Value} {y : MethodName} {len W9 : Nat}
theorem vx_backW {ws : List Cond} {rm : Room} {Pc : Array Value → State → Prop} {Qc : Array Value → State → Outcome → State → Prop} {XC : String → State → State → Prop} {mc ms : Nat} {free : Addr → Prop} {bytes : ByteArray} {maxL : Nat} {ret : Option FieldType} {hh : List (Nat × Nat × Nat × Nat)}
    (hM : vx_Met l y ws rm Pc Qc XC mc ms free) (hblind : FrameBlind Pc) (hrc : rm.cells = mc) (hrs : rm.slots = ms)
    (hframes : rm.frames + 1 ≤ R.frames) (hlocals : W9 + (maxL + 11) + rm.locals ≤ R.locals)
    (hws : ∀ w ∈ ws, ∀ a' U, s.WarmedH U.vm → w.before a' U = true) (hcode : Cond.codeWith y bytes maxL ret hh ∈ ws) (hinit : ∀ a' U, s.WarmedH U.vm → (Cond.initialized y.cls).before a' U = true) :
    vx_Back l R p e below s sargs y len W9 (PreOf R mc ms Pc) (PostOf Qc mc ms free) (vx_Post XC mc ms free) := by
  intro m meth c A g ig mk a X hg hsize hdg hW hn hp
  have h1 : (headSpec ws rm).pre.before a A.U = true := atoms_intro fun w hw => hws w hw _ _ X.warmed
  have h2 : (Cond.codeWith y bytes maxL ret hh).before a A.U = true := hws _ hcode _ _ X.warmed
  have h3 : (Cond.initialized y.cls).before a A.U = true := hinit _ _ X.warmed
  have h4 : A.cells + (headSpec ws rm).room.cells ≤ R.cells := by rw [show (headSpec ws rm).room.cells = mc from hrc]; exact hp.1
  have h5 : A.slots + (headSpec ws rm).room.slots ≤ R.slots := by rw [show (headSpec ws rm).room.slots = ms from hrs]; exact hp.2.1
  have hPc : Pc a (A.U.calling g mk a) := hblind _ _ _ _ hp.2.2
  obtain ⟨U, Ls, c0, s0⟩ := A
  dsimp only [Pt.U, Pt.locs, Pt.cells, Pt.slots] at h1 h2 h3 h4 h5 X hn hPc ⊢
  obtain ⟨m9, methY, cY, hn9, hmY, hcY, -, hlY, -⟩ := Cond.codeWith_spec h2
  cases Option.some.inj (hn9.symm.trans hn)
  obtain ⟨kY, hkY, -⟩ := className_of_methodNamed hn
  have hinitY : kY.init = .initialized := Cond.initialized_spec (findClass_of_methodNamed hn) hkY h3
  have h : At U g.method c below := by rw [hg]; exact X.here
  have hlocals9 : W9 + (maxL + 11) + (headSpec ws rm).room.locals ≤ R.locals := hlocals
  have happ : (headSpec ws rm).appliesLoose y e.platform (U.calling g mk a) = true :=
    Spec.appliesLoose_calling (g := g) h hdg hn hkY hinitY
      (X.room_calling (g := g) (R' := (headSpec ws rm).room) hsize hmY hcY hframes (by rw [hlY]; omega) h4 h5) h1
  obtain ⟨mid, hmid⟩ := h.above
  have hfr : (U.setTop g).frames = (.java g :: mid) ++ below := by rw [State.frames_setTop' g h.top, hmid]; rfl
  obtain ⟨o, s₂, hsteps, -, hend, hq⟩ := Steps.callFree hM p X.admits X.cas X.clock (acts := []) hfr happ hPc trivial
  have hq' : vx_Q Qc XC mc ms free a (U.calling g mk a) o s₂ := hq
  rw [State.frames_setTop' g h.top] at hend
  obtain ⟨g₀, hg0⟩ := Option.isSome_iff_exists.mp h.top
  obtain ⟨r, hr⟩ := State.topJava?_eq_some.mp hg0
  have hr' : (({ U with heap := s₂.heap, slotsUsed := s₂.slotsUsed } : State).setVm s₂.vm).frames = .java g₀ :: r := hr
  rcases hq' with ⟨hqc, L, hfe, hL⟩ | ⟨q, rfl, E, ce, L, hx, hce, hcv, hcl, hW₂, hsm, hL⟩
  · obtain ⟨⟨v, rfl⟩, hW₂, e2, q2, q3, q4, q5, q6⟩ := id hfe
    have e3 : s₂ = ({ (U.calling g mk a).setFrames s₂.frames with heap := s₂.heap, slotsUsed := s₂.slotsUsed } : State).setVm s₂.vm := by
      have : s₂ = ({ s₂ with vm := (U.calling g mk a).vm } : State).setVm s₂.vm := rfl
      rw [e2] at this
      exact this
    obtain ⟨c₂, i₂, len₂, hc₂, hd₂, hf₂⟩ := hend
    have hW' : U.WarmedH s₂.vm := hW₂
    have hcc : c₂ = c := by
      have h1 : s₂.code? g.method = U.code? g.method := by
        rw [State.code?_eq, State.code?_eq, hW'.alike.method?]
      exact Option.some.inj (hc₂.symm.trans (h1.trans h.code))
    subst hcc
    have hlen : len₂ = len := by rw [hdg] at hd₂; cases hd₂; rfl
    subst hlen
    have hs₂ : s₂ = (({ U with heap := s₂.heap, slotsUsed := s₂.slotsUsed } : State).setVm s₂.vm).setTop { g with pc := g.pc + len₂, stack := v.toList ++ g.stack } := by
      refine e3.trans ?_
      rw [hf₂, State.calling_eq h.top, State.setFrames_setFrames, State.setTop_of_frames _ hr', hr]
      rfl
    have hsame : U.sameButNew ({ U with heap := s₂.heap, slotsUsed := s₂.slotsUsed } : State) L mc ms := by
      refine ⟨?_, q2, q3, q4, q5, q6⟩
      obtain ⟨t, ht, -⟩ := State.frames_cons hr
      show ({ U with heap := s₂.heap, slotsUsed := s₂.slotsUsed } : State) = { U.setFrames U.frames with heap := s₂.heap, slotsUsed := s₂.slotsUsed }
      rw [State.setFrames_self ht]
    subst hg
    refine Or.inl ⟨v, ⟨(({ U with heap := s₂.heap, slotsUsed := s₂.slotsUsed } : State).setVm s₂.vm), Ls ++ L, c0 + mc, s0 + ms⟩,
      ⟨X.admits, X.cas, X.clock, X.frames, X.room, X.hears, X.method, X.code, (X.here.setHeapUsed s₂.heap s₂.slotsUsed).setVm hW'.alike, X.tail, State.WarmedH.trans X.warmed hW', X.limits, X.bytes, X.same.trans (hsame.setVm s.vm)⟩,
      ⟨g, mk, s₂, L, rfl, rfl, hqc, rfl, hL, rfl, rfl⟩, ?_⟩
    show Steps p.tables e below _ ((({ U with heap := s₂.heap, slotsUsed := s₂.slotsUsed } : State).setVm s₂.vm).setTop { g with pc := g.pc + len₂, stack := v.toList ++ g.stack })
    rw [← hs₂]
    exact hsteps
  · obtain ⟨e2, q2, q3, q4, q5, q6⟩ := id hsm
    have e3 : s₂ = ({ (U.calling g mk a).setFrames s₂.frames with heap := s₂.heap, slotsUsed := s₂.slotsUsed } : State).setVm s₂.vm := by
      have : s₂ = ({ s₂ with vm := (U.calling g mk a).vm } : State).setVm s₂.vm := rfl
      rw [e2] at this
      exact this
    have hf₂ : s₂.frames = .throwing q :: .java g :: U.frames.tail := hend
    have hW' : U.WarmedH s₂.vm := hW₂
    have hs₂ : s₂ = ((({ U with heap := s₂.heap, slotsUsed := s₂.slotsUsed } : State).setVm s₂.vm).setTop g).pushFrame (.throwing q) := by
      refine e3.trans ?_
      rw [hf₂, State.calling_eq h.top, State.setFrames_setFrames, State.pushFrame, State.frames_setTop _ hr', State.setTop_of_frames _ hr', State.setFrames_setFrames, hr]
      rfl
    have hsame : U.sameButNew ({ U with heap := s₂.heap, slotsUsed := s₂.slotsUsed } : State) L mc ms := by
      refine ⟨?_, q2, q3, q4, q5, q6⟩
      obtain ⟨t, ht, -⟩ := State.frames_cons hr
      show ({ U with heap := s₂.heap, slotsUsed := s₂.slotsUsed } : State) = { U.setFrames U.frames with heap := s₂.heap, slotsUsed := s₂.slotsUsed }
      rw [State.setFrames_self ht]
    subst hg
    refine Or.inr ⟨q, ⟨(({ U with heap := s₂.heap, slotsUsed := s₂.slotsUsed } : State).setVm s₂.vm), Ls ++ L, c0 + mc, s0 + ms⟩,
      ⟨X.admits, X.cas, X.clock, X.frames, X.room, X.hears, X.method, X.code, (X.here.setHeapUsed s₂.heap s₂.slotsUsed).setVm hW'.alike, X.tail, State.WarmedH.trans X.warmed hW', X.limits, X.bytes, X.same.trans (hsame.setVm s.vm)⟩,
      ⟨g, mk, s₂, L, E, ce, rfl, rfl, hx, hce, hcv, hcl, rfl, hL, rfl, rfl⟩, ?_⟩
    show Steps p.tables e below _ (((({ U with heap := s₂.heap, slotsUsed := s₂.slotsUsed } : State).setVm s₂.vm).setTop g).pushFrame (.throwing q))
    rw [← hs₂]
    exact hsteps
end
variable {p : Program} {l : Launch} {e : Env} {R : Room} {s : State} {m : MethodId} {args : Array Value} {below : List Frame} {meth : Method} {c : Code} {T : State} {H : Heap} {locs : List Loc} {cells slots : Nat}
theorem vx_callVX (X : Stand p l e R s m args below meth c T locs cells slots) (hexec : p.tables.exec = Jvm.exec) {own C : String} {index : Nat} {y : MethodName} {bytes : ByteArray} {maxL : Nat} {ret : Option FieldType} {hh : List (Nat × Nat × Nat × Nat)}
    (hown : s.vm.findClass own = some m.cls) (hlink : (Cond.methodLink own index y).before args s = true) (hinst : (Cond.instanceMethod y).before args s = true) (hsel : (Cond.selects C y y).before args s = true)
    (hcode : (Cond.codeWith y bytes maxL ret hh).before args s = true) (hy : y.cls ≠ "java/lang/invoke/MethodHandle" ∧ y.cls ≠ "java/lang/invoke/VarHandle")
    {W9 : Nat} {Pre : Pt → Array Value → Prop} {Post : Pt → Array Value → Option Value → Pt → Prop} {PostX : Pt → Array Value → Addr → Pt → Prop} (hK : vx_Back l R p e below s args y 3 W9 Pre Post PostX)
    {b : Addr} {cellB : Cell} (hcell : T.heap[b]? = some cellB) (hobj : cellB.vm.isStatics = false) (hcls : s.vm.findClass C = some cellB.cls)
    {g : JFrame} (hg : g.method = m) (hsize : g.locals.size = c.maxLocals) {argsL rest : List Value} (hlen : ∀ sig, parseMethodDescriptor y.desc = some sig → argsL.length = sig.parameters.length)
    (hstack : g.stack = argsL.reverse ++ .ref b :: rest) (hW : 2 * g.monitorRoom + (rest.map fun v => v.category).sum ≤ W9) (hdg : decode c.code g.pc = .ok (.invokevirtual index, 3))
    (hpre : ∀ vm₁, s.WarmedH vm₁ → Pre ⟨T.setVm vm₁, locs, cells, slots⟩ (Value.ref b :: argsL).toArray) :
    (∃ (v : Option Value) (vm₁ : Vm) (B : Pt), s.WarmedH vm₁ ∧ Stand p l e R s m args below meth c B.U B.locs B.cells B.slots ∧ Post ⟨T.setVm vm₁, locs, cells, slots⟩ (Value.ref b :: argsL).toArray v B ∧
      ∀ target, Steps p.tables e below (B.U.setTop { g with pc := g.pc + 3, stack := v.toList ++ rest }) target → Steps p.tables e below (T.setTop g) target) ∨
    (∃ (q : Addr) (vm₁ : Vm) (B : Pt), s.WarmedH vm₁ ∧ Stand p l e R s m args below meth c B.U B.locs B.cells B.slots ∧ PostX ⟨T.setVm vm₁, locs, cells, slots⟩ (Value.ref b :: argsL).toArray q B ∧
      Steps p.tables e below (T.setTop g) ((B.U.setTop { g with stack := rest }).pushFrame (.throwing q))) := by
  obtain ⟨mk, methM, hnamed, hmethM, hstM, habM⟩ := Cond.instanceMethod_spec hinst
  obtain ⟨m8, methM', cM, hn8, hmethM', -, -, -, -, -, -, hsigM⟩ := Cond.codeWith_spec hcode
  cases Option.some.inj (hn8.symm.trans hnamed)
  cases hmethM.symm.trans hmethM'
  obtain ⟨c2, r2, m2, q1, q2, q3, q4, kP, hkP, hkPi⟩ := Cond.selects_spec hsel
  cases hcls.symm.trans q1
  cases (State.methodFound?_of_named hnamed hy).symm.trans q2
  cases hnamed.symm.trans q3
  have hselP : selectMethod e.platform s.vm cellB.cls mk = .method mk := by rw [Launch.admits_selectMethod X.admits]; exact q4
  obtain ⟨vm₁, X₁, hstep₁⟩ := X.invokevirtual hexec hown hlink hnamed hmethM hstM hkP hkPi hy (a := b) (cell := cellB) hcell
    (fun z h => by rw [h] at hobj; cases hobj) hselP hmethM habM hkP hkPi (g := g) hg (argsL := argsL) (rest := rest) (hlen _ hsigM) hstack hdg
  rcases hK m meth c ⟨T.setVm vm₁, locs, cells, slots⟩ { g with stack := rest } (.invokevirtual index) mk (Value.ref b :: argsL).toArray X₁ hg hsize hdg hW (X₁.named hnamed) (hpre vm₁ X₁.warmed) with ⟨v, B, X', hpost, hsteps⟩ | ⟨q, B, X', hpost, hsteps⟩
  · exact Or.inl ⟨v, vm₁, B, X₁.warmed, X', hpost, fun target h => hstep₁ _ fun acts => by rw [doInvoke_state]; exact hsteps.trans h⟩
  · exact Or.inr ⟨q, vm₁, B, X₁.warmed, X', hpost, hstep₁ _ fun acts => by rw [doInvoke_state]; exact hsteps⟩
theorem vx_callSX (X : Stand p l e R s m args below meth c T locs cells slots) (hexec : p.tables.exec = Jvm.exec) {own : String} {index : Nat} {y : MethodName} {bytes : ByteArray} {maxL : Nat} {ret : Option FieldType} {hh : List (Nat × Nat × Nat × Nat)}
    (hown : s.vm.findClass own = some m.cls) (hlink : (Cond.methodLink own index y).before args s = true) (hstat : (Cond.static y).before args s = true) (hinit : (Cond.initialized y.cls).before args s = true)
    (hcode : (Cond.codeWith y bytes maxL ret hh).before args s = true) (hy : y.cls ≠ "java/lang/invoke/MethodHandle" ∧ y.cls ≠ "java/lang/invoke/VarHandle")
    {W9 : Nat} {Pre : Pt → Array Value → Prop} {Post : Pt → Array Value → Option Value → Pt → Prop} {PostX : Pt → Array Value → Addr → Pt → Prop} (hK : vx_Back l R p e below s args y 3 W9 Pre Post PostX)
    {g : JFrame} (hg : g.method = m) (hsize : g.locals.size = c.maxLocals) {argsL rest : List Value} (hlen : ∀ sig, parseMethodDescriptor y.desc = some sig → argsL.length = sig.parameters.length)
    (hstack : g.stack = argsL.reverse ++ rest) (hW : 2 * g.monitorRoom + (rest.map fun v => v.category).sum ≤ W9) (hdg : decode c.code g.pc = .ok (.invokestatic index, 3))
    (hpre : ∀ vm₁, s.WarmedH vm₁ → Pre ⟨T.setVm vm₁, locs, cells, slots⟩ argsL.toArray) :
    (∃ (v : Option Value) (vm₁ : Vm) (B : Pt), s.WarmedH vm₁ ∧ Stand p l e R s m args below meth c B.U B.locs B.cells B.slots ∧ Post ⟨T.setVm vm₁, locs, cells, slots⟩ argsL.toArray v B ∧
      ∀ target, Steps p.tables e below (B.U.setTop { g with pc := g.pc + 3, stack := v.toList ++ rest }) target → Steps p.tables e below (T.setTop g) target) ∨
    (∃ (q : Addr) (vm₁ : Vm) (B : Pt), s.WarmedH vm₁ ∧ Stand p l e R s m args below meth c B.U B.locs B.cells B.slots ∧ PostX ⟨T.setVm vm₁, locs, cells, slots⟩ argsL.toArray q B ∧
      Steps p.tables e below (T.setTop g) ((B.U.setTop { g with stack := rest }).pushFrame (.throwing q))) := by
  obtain ⟨mk, methM, cM, hnamed, hmethM, -, -, -, -, -, -, hsigM⟩ := Cond.codeWith_spec hcode
  have hstatic : methM.isStatic = true := Cond.static_spec hnamed hmethM hstat
  obtain ⟨kP, hkP, -⟩ := className_of_methodNamed hnamed
  have hinitP : kP.init = .initialized := Cond.initialized_spec (findClass_of_methodNamed hnamed) hkP hinit
  obtain ⟨vm₁, X₁, hstep₁⟩ := X.invokestatic hexec hown hlink hnamed hmethM hstatic hkP hinitP hy (g := g) hg (argsL := argsL) (rest := rest) (hlen _ hsigM) hstack hdg
  rcases hK m meth c ⟨T.setVm vm₁, locs, cells, slots⟩ { g with stack := rest } (.invokestatic index) mk argsL.toArray X₁ hg hsize hdg hW (X₁.named hnamed) (hpre vm₁ X₁.warmed) with ⟨v, B, X', hpost, hsteps⟩ | ⟨q, B, X', hpost, hsteps⟩
  · exact Or.inl ⟨v, vm₁, B, X₁.warmed, X', hpost, fun target h => hstep₁ _ fun acts => by rw [doInvoke_state]; exact hsteps.trans h⟩
  · exact Or.inr ⟨q, vm₁, B, X₁.warmed, X', hpost, hstep₁ _ fun acts => by rw [doInvoke_state]; exact hsteps⟩
theorem vx_callVW (X : Stand p l e R s m args below meth c T locs cells slots) (hexec : p.tables.exec = Jvm.exec) {own C : String} {index : Nat} {y : MethodName} {bytes : ByteArray} {maxL : Nat} {ret : Option FieldType} {hh : List (Nat × Nat × Nat × Nat)}
    (hown : s.vm.findClass own = some m.cls) (hlink : (Cond.methodLink own index y).before args s = true) (hinst : (Cond.instanceMethod y).before args s = true) (hsel : (Cond.selects C y y).before args s = true)
    (hcode : (Cond.codeWith y bytes maxL ret hh).before args s = true) (hy : y.cls ≠ "java/lang/invoke/MethodHandle" ∧ y.cls ≠ "java/lang/invoke/VarHandle")
    {W9 : Nat} {Pre : Pt → Array Value → Prop} {Post : Pt → Array Value → Option Value → Pt → Prop} (hK : Back l R p e below s args y 3 W9 Pre Post)
    {b : Addr} {cellB : Cell} (hcell : T.heap[b]? = some cellB) (hobj : cellB.vm.isStatics = false) (hcls : s.vm.findClass C = some cellB.cls)
    {g : JFrame} (hg : g.method = m) (hsize : g.locals.size = c.maxLocals) {argsL rest : List Value} (hlen : ∀ sig, parseMethodDescriptor y.desc = some sig → argsL.length = sig.parameters.length)
    (hstack : g.stack = argsL.reverse ++ .ref b :: rest) (hW : 2 * g.monitorRoom + (rest.map fun v => v.category).sum ≤ W9) (hdg : decode c.code g.pc = .ok (.invokevirtual index, 3))
    (hpre : ∀ vm₁, s.WarmedH vm₁ → Pre ⟨T.setVm vm₁, locs, cells, slots⟩ (Value.ref b :: argsL).toArray) :
    ∃ (v : Option Value) (vm₁ : Vm) (B : Pt), s.WarmedH vm₁ ∧ Stand p l e R s m args below meth c B.U B.locs B.cells B.slots ∧ Post ⟨T.setVm vm₁, locs, cells, slots⟩ (Value.ref b :: argsL).toArray v B ∧
      ∀ target, Steps p.tables e below (B.U.setTop { g with pc := g.pc + 3, stack := v.toList ++ rest }) target → Steps p.tables e below (T.setTop g) target := by
  obtain ⟨mk, methM, hnamed, hmethM, hstM, habM⟩ := Cond.instanceMethod_spec hinst
  obtain ⟨m8, methM', cM, hn8, hmethM', -, -, -, -, -, -, hsigM⟩ := Cond.codeWith_spec hcode
  cases Option.some.inj (hn8.symm.trans hnamed)
  cases hmethM.symm.trans hmethM'
  obtain ⟨c2, r2, m2, q1, q2, q3, q4, kP, hkP, hkPi⟩ := Cond.selects_spec hsel
  cases hcls.symm.trans q1
  cases (State.methodFound?_of_named hnamed hy).symm.trans q2
  cases hnamed.symm.trans q3
  have hselP : selectMethod e.platform s.vm cellB.cls mk = .method mk := by rw [Launch.admits_selectMethod X.admits]; exact q4
  obtain ⟨vm₁, X₁, hstep₁⟩ := X.invokevirtual hexec hown hlink hnamed hmethM hstM hkP hkPi hy (a := b) (cell := cellB) hcell
    (fun z h => by rw [h] at hobj; cases hobj) hselP hmethM habM hkP hkPi (g := g) hg (argsL := argsL) (rest := rest) (hlen _ hsigM) hstack hdg
  obtain ⟨v, B, X', hpost, hsteps⟩ := hK m meth c ⟨T.setVm vm₁, locs, cells, slots⟩ { g with stack := rest } (.invokevirtual index) mk (Value.ref b :: argsL).toArray X₁ hg hsize hdg hW (X₁.named hnamed) (hpre vm₁ X₁.warmed)
  exact ⟨v, vm₁, B, X₁.warmed, X', hpost, fun target h => hstep₁ _ fun acts => by rw [doInvoke_state]; exact hsteps.trans h⟩
abbrev vx_CVW (R : Room) (s : State) (args : Array Value) (own C : String) (index : Nat) (y : MethodName) (bytes : ByteArray) (maxL : Nat) (ret : Option FieldType) (hh : List (Nat × Nat × Nat × Nat)) (ws : List Cond) (rm : Room) (mc ms n : Nat) : Prop :=
  (rm.cells = mc ∧ rm.slots = ms ∧ rm.frames + 1 ≤ R.frames ∧ 8 + (maxL + 11) + rm.locals ≤ R.locals ∧ (∀ w ∈ ws, ∀ (a' : Array Value) (U : State), s.WarmedH U.vm → w.before a' U = true) ∧ Cond.codeWith y bytes maxL ret hh ∈ ws) ∧
  (Cond.codeWith y bytes maxL ret hh).before args s = true ∧ (Cond.initialized y.cls).before args s = true ∧ (y.cls ≠ "java/lang/invoke/MethodHandle" ∧ y.cls ≠ "java/lang/invoke/VarHandle") ∧
  (∀ sig, parseMethodDescriptor y.desc = some sig → n = sig.parameters.length) ∧ (Cond.methodLink own index y).before args s = true ∧ (Cond.instanceMethod y).before args s = true ∧ (Cond.selects C y y).before args s = true
theorem vx_cwVW {own C : String} {index maxL mc ms : Nat} {y : MethodName} {bytes : ByteArray} {ret : Option FieldType} {hh : List (Nat × Nat × Nat × Nat)} {Ts ws ws' : List Cond} {rm : Room} (n : Nat) (ht : ∀ w ∈ Ts, w.before args s = true) (hT : GoodIn Ts (wsV own index C y ws)) (hw : ws = Cond.codeWith y bytes maxL ret hh :: ws') (hrc : rm.cells = mc) (hrs : rm.slots = ms)
    (hd : y.cls = C ∧ y.cls ≠ "java/lang/invoke/MethodHandle" ∧ y.cls ≠ "java/lang/invoke/VarHandle" ∧ (parseMethodDescriptor y.desc).map (fun d => d.parameters.length) = some n) (hR : rm.frames + 1 ≤ R.frames ∧ 8 + (maxL + 11) + rm.locals ≤ R.locals) :
    vx_CVW R s args own C index y bytes maxL ret hh ws rm mc ms n := by
  obtain ⟨hC, hd⟩ := hd
  subst hC
  have ok : ∀ w ∈ wsV own index y.cls y ws, w.before args s = true := fun w h => ht w (hT w h).1
  have hG : GoodIn Ts ws := fun w h => hT w (by unfold wsV; exact List.mem_append_right _ h)
  have hc : Cond.codeWith y bytes maxL ret hh ∈ ws := by rw [hw]; exact List.mem_cons_self
  refine ⟨⟨hrc, hrs, hR.1, hR.2, pay_in ht hG, hc⟩, ht _ (hG _ hc).1, ok _ (by simp [wsV]), ⟨hd.1, hd.2.1⟩, fun sig h => ?_, ok _ (by simp [wsV]), ok _ (by simp [wsV]), ok _ (by simp [wsV])⟩
  have h2 := hd.2.2
  rw [h] at h2
  exact (Option.some.inj h2).symm
theorem vx_runVW {y : MethodName} {bytes cc : ByteArray} {maxL nL mc ms n index : Nat} {ret : Option FieldType} {hh : List (Nat × Nat × Nat × Nat)} {ws : List Cond} {rm : Room} {Pc : Array Value → State → Prop} {Qc : Array Value → State → Outcome → State → Prop} {free : Addr → Prop} {Ts : List Cond} {own C : String} {b : Addr} {As rest : List Value} {g : JFrame}
    (S : CallFix p m c cc nL s args Ts own) (hM : Met l y ws rm Pc Qc mc ms free) (cw : vx_CVW R s args own C index y bytes maxL ret hh ws rm mc ms n) (hp : PreV s H C b Pc As)
    (hg : g.method = m) (hn : As.length = n) (hsize : g.locals.size = nL) (hstack : g.stack = As.reverse ++ .ref b :: rest) (hW : 2 * g.monitorRoom + (rest.map fun v => v.category).sum ≤ 8) (hdg : decode cc g.pc = .ok (.invokevirtual index, 3)) (hf : cells + mc ≤ R.cells ∧ slots + ms ≤ R.slots) :
    va_Run p l e R s m args below meth c H locs cells slots mc ms g rest (Qc (Value.ref b :: As).toArray) free := by
  obtain ⟨⟨hrc, hrs, hfr, hlo, hws, hcw⟩, hcode, hini, hy, hlen, hl, hin, hse⟩ := cw
  have hK : Back l R p e below s args y 3 8 (PreOf R mc ms Pc) (PostOf Qc mc ms free) := va_backW (hh := hh) (bytes := bytes) (maxL := maxL) (ret := ret) hM hp.1 hrc hrs hfr hlo hws hcw (fun a' U hW => word_at hW (Or.inl (by first | rfl | simp [Cond.onTables, Cond.keeps, Cond.steady])) hini)
  obtain ⟨hx, hb, hml, ho, -⟩ := S
  obtain ⟨-, ⟨cellB, hcB, hoB, hclB⟩, hPc⟩ := hp
  intro T hT X
  obtain ⟨v, vm₁, ⟨U', l2, c2, s2⟩, hW₁, X', ⟨g', mk, t, L, e1, e2, hq, h1, hL, h2, h3⟩, st⟩ := vx_callVW X hx (C := C) (hh := hh) (bytes := bytes) (maxL := maxL) (ret := ret) ho hl hin hse hcode hy hK (by rw [hT]; exact hcB) hoB hclB hg (hsize.trans hml.symm) (argsL := As) (rest := rest) (fun sig h => hn.trans (hlen sig h)) hstack hW (by rw [hb]; exact hdg)
    (fun vm₁ hW₁ => ⟨hf.1, hf.2, hPc (T.setVm vm₁) hT hW₁⟩)
  dsimp only [Pt.U, Pt.locs, Pt.cells, Pt.slots] at X' e1 e2 h1 h2 h3 st
  subst h1; subst h2; subst h3
  exact ⟨v, (T.setVm vm₁).calling g' mk (Value.ref b :: As).toArray, t, U', L, hT, X', hL, e1, e2, hq, st⟩
section
variable {y : MethodName} {bytes cc : ByteArray} {maxL nL mc ms n index : Nat} {ret : Option FieldType} {ws : List Cond} {rm : Room} {Pc : Array Value → State → Prop} {Qc : Array Value → State → Outcome → State → Prop} {XC : String → State → State → Prop} {free : Addr → Prop} {Ts : List Cond} {own C : String} {b : Addr} {As rest : List Value} {g : JFrame}
theorem vx_runVX {hh : List (Nat × Nat × Nat × Nat)} (S : CallFix p m c cc nL s args Ts own) (hM : vx_Met l y ws rm Pc Qc XC mc ms free) (cw : vx_CVW R s args own C index y bytes maxL ret hh ws rm mc ms n) (hp : PreV s H C b Pc As)
    (hg : g.method = m) (hn : As.length = n) (hsize : g.locals.size = nL) (hstack : g.stack = As.reverse ++ .ref b :: rest) (hW : 2 * g.monitorRoom + (rest.map fun v => v.category).sum ≤ 8) (hdg : decode cc g.pc = .ok (.invokevirtual index, 3)) (hf : cells + mc ≤ R.cells ∧ slots + ms ≤ R.slots) :
    vx_Run p l e R s m args below meth c H locs cells slots mc ms g rest (Qc (Value.ref b :: As).toArray) XC free := by
  obtain ⟨⟨hrc, hrs, hfr, hlo, hws, hcw⟩, hcode, hini, hy, hlen, hl, hin, hse⟩ := cw
  have hK : vx_Back l R p e below s args y 3 8 (PreOf R mc ms Pc) (PostOf Qc mc ms free) (vx_Post XC mc ms free) := vx_backW (hh := hh) (bytes := bytes) (maxL := maxL) (ret := ret) hM hp.1 hrc hrs hfr hlo hws hcw (fun a' U hW => word_at hW (Or.inl (by first | rfl | simp [Cond.onTables, Cond.keeps, Cond.steady])) hini)
  obtain ⟨hx, hb, hml, ho, -⟩ := S
  obtain ⟨-, ⟨cellB, hcB, hoB, hclB⟩, hPc⟩ := hp
  intro T hT X
  rcases vx_callVX X hx (C := C) (hh := hh) (bytes := bytes) (maxL := maxL) (ret := ret) ho hl hin hse hcode hy hK (by rw [hT]; exact hcB) hoB hclB hg (hsize.trans hml.symm) (argsL := As) (rest := rest) (fun sig h => hn.trans (hlen sig h)) hstack hW (by rw [hb]; exact hdg)
    (fun vm₁ hW₁ => ⟨hf.1, hf.2, hPc (T.setVm vm₁) hT hW₁⟩) with ⟨v, vm₁, ⟨U', l2, c2, s2⟩, hW₁, X', ⟨g', mk, t, L, e1, e2, hq, h1, hL, h2, h3⟩, st⟩ | ⟨q, vm₁, ⟨U', l2, c2, s2⟩, hW₁, X', ⟨g', mk, t, L, E, ce, e1, e2, hq, hce, hcv, hcl, h1, hL, h2, h3⟩, st⟩
  · dsimp only [Pt.U, Pt.locs, Pt.cells, Pt.slots] at X' e1 e2 h1 h2 h3 st
    subst h1; subst h2; subst h3
    exact Or.inl ⟨v, (T.setVm vm₁).calling g' mk (Value.ref b :: As).toArray, t, U', L, hT, X', hL, e1, e2, hq, st⟩
  · dsimp only [Pt.U, Pt.locs, Pt.cells, Pt.slots] at X' e1 e2 h1 h2 h3 st hcl
    subst h1; subst h2; subst h3
    exact Or.inr ⟨q, (T.setVm vm₁).calling g' mk (Value.ref b :: As).toArray, t, U', L, E, ce, hT, X', hL, e1, e2, hq, hce, hcv, vx_cls hW₁ hcl, st⟩
theorem vx_runSX {hh : List (Nat × Nat × Nat × Nat)} (S : CallFix p m c cc nL s args Ts own) (hM : vx_Met l y ws rm Pc Qc XC mc ms free) (cw : vx_CSW R s args own index y bytes maxL ret hh ws rm mc ms n) (hp : PreS s H Pc As)
    (hg : g.method = m) (hn : As.length = n) (hsize : g.locals.size = nL) (hstack : g.stack = As.reverse ++ rest) (hW : 2 * g.monitorRoom + (rest.map fun v => v.category).sum ≤ 8) (hdg : decode cc g.pc = .ok (.invokestatic index, 3)) (hf : cells + mc ≤ R.cells ∧ slots + ms ≤ R.slots) :
    vx_Run p l e R s m args below meth c H locs cells slots mc ms g rest (Qc As.toArray) XC free := by
  obtain ⟨⟨hrc, hrs, hfr, hlo, hws, hcw⟩, hcode, hini, hy, hlen, hl, hstt⟩ := cw
  have hK : vx_Back l R p e below s args y 3 8 (PreOf R mc ms Pc) (PostOf Qc mc ms free) (vx_Post XC mc ms free) := vx_backW (hh := hh) (bytes := bytes) (maxL := maxL) (ret := ret) hM hp.1 hrc hrs hfr hlo hws hcw (fun a' U hW => word_at hW (Or.inl (by first | rfl | simp [Cond.onTables, Cond.keeps, Cond.steady])) hini)
  obtain ⟨hx, hb, hml, ho, -⟩ := S
  intro T hT X
  rcases vx_callSX X hx (hh := hh) (bytes := bytes) (maxL := maxL) (ret := ret) ho hl hstt hini hcode hy hK hg (hsize.trans hml.symm) (argsL := As) (rest := rest) (fun sig h => hn.trans (hlen sig h)) hstack hW (by rw [hb]; exact hdg)
    (fun vm₁ hW₁ => ⟨hf.1, hf.2, hp.2 (T.setVm vm₁) hT hW₁⟩) with ⟨v, vm₁, ⟨U', l2, c2, s2⟩, hW₁, X', ⟨g', mk, t, L, e1, e2, hq, h1, hL, h2, h3⟩, st⟩ | ⟨q, vm₁, ⟨U', l2, c2, s2⟩, hW₁, X', ⟨g', mk, t, L, E, ce, e1, e2, hq, hce, hcv, hcl, h1, hL, h2, h3⟩, st⟩
  · dsimp only [Pt.U, Pt.locs, Pt.cells, Pt.slots] at X' e1 e2 h1 h2 h3 st
    subst h1; subst h2; subst h3
    exact Or.inl ⟨v, (T.setVm vm₁).calling g' mk As.toArray, t, U', L, hT, X', hL, e1, e2, hq, st⟩
  · dsimp only [Pt.U, Pt.locs, Pt.cells, Pt.slots] at X' e1 e2 h1 h2 h3 st hcl
    subst h1; subst h2; subst h3
    exact Or.inr ⟨q, (T.setVm vm₁).calling g' mk As.toArray, t, U', L, E, ce, hT, X', hL, e1, e2, hq, hce, hcv, vx_cls hW₁ hcl, st⟩
end
end VXH
theorem vx_ofWH {l : Launch} {y : MethodName} {ws ws' : List Cond} {rm : Room} {Pc : Array Value → State → Prop} {Qc : Array Value → State → Outcome → State → Prop} {XC : String → State → State → Prop} {mc ms : Nat} {free : Addr → Prop} {cc : ByteArray} {maxL : Nat} {ret : Option FieldType} {hh : List (Nat × Nat × Nat × Nat)}
    (hy : plainName y.cls = true) (hw : ws = Cond.codeWith y cc maxL ret hh :: ws')
    (body : ∀ p e s m args below meth c s₁, BodyLoose p l y (headSpec ws rm) cc maxL ret e s m args below meth c s₁ → c.maxLocals = maxL → Pc args s →
      W p l e (headSpec ws rm).room s m args below meth c s.heap [] 0 0 (vx_MQ below Qc XC args s mc ms free) (entryFrame m args maxL)) : vx_Met l y ws rm Pc Qc XC mc ms free := by
  refine MetFree.of_bodyS (code := cc) (maxLocals := maxL) (ret := ret) hy ?_ ?_
  · intro args s m h hn
    obtain ⟨m9, meth, c, hn9, h1, h2, h3, h4, -, h5, h6, -⟩ := Cond.codeWith_spec (atoms_spec (ws := ws) h _ (by rw [hw]; exact List.mem_cons_self))
    cases hn.symm.trans hn9
    exact ⟨meth, c, h1, h2, h3, h4, h5, h6⟩
  · intro p e s m args below meth c s₁ B hml hP _
    have hh0 : s₁.heap = s.heap := by rw [B.state]; rfl
    obtain ⟨t, a1, o, b1, b2, b3⟩ := body p e s m args below meth c s₁ B hml hP s₁ hh0 (Stand.of_body B)
    exact ⟨t, o, a1, b1, b2, b3⟩
/-! ===== END ===== -/

/-! ===== BEGIN printed: names, fields, word lists, decode rows ===== -/
def RX0 : String := "MoneyBooth"
def TX0 : u_T := fun k => match k with
  | 0 => ("MoneyBooth", "rates", "[I", true)
  | 1 => ("MoneyBooth", "stocks", "[I", true)
  | 2 => ("MoneyBooth", "dusts", "[I", true)
  | 3 => ("MoneyBooth", "limits", "[I", true)
  | 4 => ("MoneyBooth", "givenToday", "[I", true)
  | 5 => ("MoneyBooth", "purses", "[I", true)
  | 6 => ("MoneyBooth", "orders", "[I", true)
  | 7 => ("MoneyBooth", "day", "I", false)
  | 8 => ("MoneyBooth", "spread", "I", false)
  | 9 => ("MoneyBooth", "customers", "I", false)
  | 10 => ("MoneyBooth", "waiting", "I", false)
  | 11 => ("MoneyBooth", "changesMade", "I", false)
  | _ => ("MoneyBooth", "ordersDone", "I", false)
def tyX0 : Nat → FieldType := fun k => match k with
  | 0 => .array .int
  | 1 => .array .int
  | 2 => .array .int
  | 3 => .array .int
  | 4 => .array .int
  | 5 => .array .int
  | 6 => .array .int
  | 7 => .int
  | 8 => .int
  | 9 => .int
  | 10 => .int
  | 11 => .int
  | _ => .int
abbrev wsX00 : List Cond := u_ws RX0 TX0 13
theorem nmX0 : ∀ a, a < 13 → ∀ b, b < 13 → a ≠ b → (TX0 a).2.1 ≠ (TX0 b).2.1 := by decide +kernel
theorem tyX0_ok : ∀ k, k < 13 → parseFieldDescriptor (TX0 k).2.2.1 = some (tyX0 k) := by decide +kernel
abbrev cX0_init : ByteArray := prog_1_method_1_code
def yX0_init : MethodName := ⟨RX0, "<init>", "()V"⟩
abbrev cX0_setRate : ByteArray := prog_1_method_2_code
def yX0_setRate : MethodName := ⟨RX0, "setRate", "(III)I"⟩
abbrev cX0_setSpread : ByteArray := prog_1_method_3_code
def yX0_setSpread : MethodName := ⟨RX0, "setSpread", "(I)I"⟩
abbrev cX0_setLimit : ByteArray := prog_1_method_4_code
def yX0_setLimit : MethodName := ⟨RX0, "setLimit", "(II)I"⟩
abbrev cX0_stock : ByteArray := prog_1_method_5_code
def yX0_stock : MethodName := ⟨RX0, "stock", "(II)I"⟩
abbrev cX0_next : ByteArray := prog_1_method_6_code
def yX0_next : MethodName := ⟨RX0, "next", "()I"⟩
abbrev cX0_come : ByteArray := prog_1_method_7_code
def yX0_come : MethodName := ⟨RX0, "come", "()I"⟩
abbrev cX0_earn : ByteArray := prog_1_method_8_code
def yX0_earn : MethodName := ⟨RX0, "earn", "(III)I"⟩
abbrev cX0_change : ByteArray := prog_1_method_9_code
def yX0_change : MethodName := ⟨RX0, "change", "(IIII)I"⟩
abbrev cX0_order : ByteArray := prog_1_method_10_code
def yX0_order : MethodName := ⟨RX0, "order", "(IIIII)I"⟩
abbrev cX0_cancel : ByteArray := prog_1_method_11_code
def yX0_cancel : MethodName := ⟨RX0, "cancel", "(I)I"⟩
abbrev cX0_has : ByteArray := prog_1_method_12_code
def yX0_has : MethodName := ⟨RX0, "has", "(II)I"⟩
abbrev cX0_told : ByteArray := prog_1_method_13_code
def yX0_told : MethodName := ⟨RX0, "told", "(II)I"⟩
abbrev cX0_about : ByteArray := prog_1_method_14_code
def yX0_about : MethodName := ⟨RX0, "about", "(II)I"⟩
abbrev cX0_count : ByteArray := prog_1_method_15_code
def yX0_count : MethodName := ⟨RX0, "count", "(I)I"⟩
abbrev cX0_would : ByteArray := prog_1_method_16_code
def yX0_would : MethodName := ⟨RX0, "would", "(III)I"⟩
abbrev cX0_way : ByteArray := prog_1_method_17_code
def yX0_way : MethodName := ⟨RX0, "way", "(III)I"⟩
abbrev cX0_ring : ByteArray := prog_1_method_18_code
def yX0_ring : MethodName := ⟨RX0, "ring", "(II)I"⟩
abbrev cX0_needs : ByteArray := prog_1_method_19_code
def yX0_needs : MethodName := ⟨RX0, "needs", "(II)I"⟩
abbrev cX0_mean : ByteArray := prog_1_method_20_code
def yX0_mean : MethodName := ⟨RX0, "mean", "(I)D"⟩
abbrev cX0_digest : ByteArray := prog_1_method_21_code
def yX0_digest : MethodName := ⟨RX0, "digest", "()J"⟩
abbrev cX0_digestOfMoneys : ByteArray := prog_1_method_22_code
def yX0_digestOfMoneys : MethodName := ⟨RX0, "digestOfMoneys", "(J)J"⟩
abbrev cX0_isMoney : ByteArray := prog_1_method_23_code
def yX0_isMoney : MethodName := ⟨RX0, "isMoney", "(I)Z"⟩
abbrev cX0_isCustomer : ByteArray := prog_1_method_24_code
def yX0_isCustomer : MethodName := ⟨RX0, "isCustomer", "(I)Z"⟩
abbrev cX0_isPlace : ByteArray := prog_1_method_25_code
def yX0_isPlace : MethodName := ⟨RX0, "isPlace", "(I)Z"⟩
abbrev cX0_isNamedAmount : ByteArray := prog_1_method_26_code
def yX0_isNamedAmount : MethodName := ⟨RX0, "isNamedAmount", "(I)Z"⟩
abbrev cX0_isAmountOrNone : ByteArray := prog_1_method_27_code
def yX0_isAmountOrNone : MethodName := ⟨RX0, "isAmountOrNone", "(I)Z"⟩
abbrev cX0_rateOf : ByteArray := prog_1_method_28_code
def yX0_rateOf : MethodName := ⟨RX0, "rateOf", "(II)I"⟩
abbrev cX0_ratesThatAreNotZero : ByteArray := prog_1_method_29_code
def yX0_ratesThatAreNotZero : MethodName := ⟨RX0, "ratesThatAreNotZero", "()I"⟩
abbrev cX0_inPurse : ByteArray := prog_1_method_30_code
def yX0_inPurse : MethodName := ⟨RX0, "inPurse", "(II)I"⟩
abbrev cX0_inAllPurses : ByteArray := prog_1_method_31_code
def yX0_inAllPurses : MethodName := ⟨RX0, "inAllPurses", "(I)I"⟩
abbrev cX0_factOfMoney : ByteArray := prog_1_method_32_code
def yX0_factOfMoney : MethodName := ⟨RX0, "factOfMoney", "(II)I"⟩
abbrev cX0_factOfBooth : ByteArray := prog_1_method_33_code
def yX0_factOfBooth : MethodName := ⟨RX0, "factOfBooth", "(I)I"⟩
abbrev cX0_heldAtMost : ByteArray := prog_1_method_34_code
def yX0_heldAtMost : MethodName := ⟨RX0, "heldAtMost", "(J)I"⟩
abbrev cX0_isOrderCell : ByteArray := prog_1_method_35_code
def yX0_isOrderCell : MethodName := ⟨RX0, "isOrderCell", "(II)Z"⟩
abbrev cX0_orderPart : ByteArray := prog_1_method_36_code
def yX0_orderPart : MethodName := ⟨RX0, "orderPart", "(II)I"⟩
abbrev cX0_setOrderPart : ByteArray := prog_1_method_37_code
def yX0_setOrderPart : MethodName := ⟨RX0, "setOrderPart", "(III)V"⟩
abbrev cX0_moveOrder : ByteArray := prog_1_method_38_code
def yX0_moveOrder : MethodName := ⟨RX0, "moveOrder", "(II)V"⟩
abbrev cX0_firstOrderPlace : ByteArray := prog_1_method_39_code
def yX0_firstOrderPlace : MethodName := ⟨RX0, "firstOrderPlace", "(II)I"⟩
abbrev cX0_lookAtOrders : ByteArray := prog_1_method_40_code
def yX0_lookAtOrders : MethodName := ⟨RX0, "lookAtOrders", "()I"⟩
abbrev cX0_doneIfPossible : ByteArray := prog_1_method_41_code
def yX0_doneIfPossible : MethodName := ⟨RX0, "doneIfPossible", "(I)Z"⟩
abbrev cX0_tenthousandths : ByteArray := prog_1_method_42_code
def yX0_tenthousandths : MethodName := ⟨RX0, "tenthousandths", "(IIJ)J"⟩
abbrev cX0_wholeOnes : ByteArray := prog_1_method_43_code
def yX0_wholeOnes : MethodName := ⟨RX0, "wholeOnes", "(J)J"⟩
abbrev cX0_changeIfPossible : ByteArray := prog_1_method_44_code
def yX0_changeIfPossible : MethodName := ⟨RX0, "changeIfPossible", "(IIIII)I"⟩
abbrev cX0_isAllowed : ByteArray := prog_1_method_45_code
def yX0_isAllowed : MethodName := ⟨RX0, "isAllowed", "(IIIJ)Z"⟩
abbrev cX0_keepDust : ByteArray := prog_1_method_46_code
def yX0_keepDust : MethodName := ⟨RX0, "keepDust", "(II)V"⟩
abbrev cX0_leastRateFor : ByteArray := prog_1_method_47_code
def yX0_leastRateFor : MethodName := ⟨RX0, "leastRateFor", "(I)I"⟩
abbrev cX0_bit : ByteArray := prog_1_method_48_code
def yX0_bit : MethodName := ⟨RX0, "bit", "(I)I"⟩
abbrev cX0_behindOneChange : ByteArray := prog_1_method_49_code
def yX0_behindOneChange : MethodName := ⟨RX0, "behindOneChange", "(IIJ)J"⟩
abbrev cX0_mostAtGoal : ByteArray := prog_1_method_50_code
def yX0_mostAtGoal : MethodName := ⟨RX0, "mostAtGoal", "(IIJII)J"⟩
abbrev cX0_mostOver : ByteArray := prog_1_method_51_code
def yX0_mostOver : MethodName := ⟨RX0, "mostOver", "(IIIJII)J"⟩
def RX1 : String := "MoneyBoothModel"
def TX1 : u_T := fun k => match k with
  | 0 => ("MoneyBoothModel", "thrown", "I", false)
  | 1 => ("MoneyBoothModel", "day", "I", false)
  | 2 => ("MoneyBoothModel", "spread", "I", false)
  | 3 => ("MoneyBoothModel", "customers", "I", false)
  | 4 => ("MoneyBoothModel", "waiting", "I", false)
  | 5 => ("MoneyBoothModel", "changes", "I", false)
  | 6 => ("MoneyBoothModel", "done", "I", false)
  | 7 => ("MoneyBoothModel", "rates", "[I", true)
  | 8 => ("MoneyBoothModel", "stocks", "[I", true)
  | 9 => ("MoneyBoothModel", "dust", "[I", true)
  | 10 => ("MoneyBoothModel", "limits", "[I", true)
  | 11 => ("MoneyBoothModel", "given", "[I", true)
  | 12 => ("MoneyBoothModel", "purses", "[I", true)
  | _ => ("MoneyBoothModel", "orders", "[I", true)
def tyX1 : Nat → FieldType := fun k => match k with
  | 0 => .int
  | 1 => .int
  | 2 => .int
  | 3 => .int
  | 4 => .int
  | 5 => .int
  | 6 => .int
  | 7 => .array .int
  | 8 => .array .int
  | 9 => .array .int
  | 10 => .array .int
  | 11 => .array .int
  | 12 => .array .int
  | _ => .array .int
abbrev wsX10 : List Cond := u_ws RX1 TX1 14
theorem nmX1 : ∀ a, a < 14 → ∀ b, b < 14 → a ≠ b → (TX1 a).2.1 ≠ (TX1 b).2.1 := by decide +kernel
theorem tyX1_ok : ∀ k, k < 14 → parseFieldDescriptor (TX1 k).2.2.1 = some (tyX1 k) := by decide +kernel
abbrev cX1_init : ByteArray := prog_3_method_1_code
def yX1_init : MethodName := ⟨RX1, "<init>", "()V"⟩
abbrev cX1_thrown : ByteArray := prog_3_method_2_code
def yX1_thrown : MethodName := ⟨RX1, "thrown", "()I"⟩
abbrev cX1_fail : ByteArray := prog_3_method_3_code
def yX1_fail : MethodName := ⟨RX1, "fail", "(I)I"⟩
abbrev cX1_isIn : ByteArray := prog_3_method_4_code
def yX1_isIn : MethodName := ⟨RX1, "isIn", "(III)Z"⟩
abbrev cX1_isMoney : ByteArray := prog_3_method_5_code
def yX1_isMoney : MethodName := ⟨RX1, "isMoney", "(I)Z"⟩
abbrev cX1_isCustomer : ByteArray := prog_3_method_6_code
def yX1_isCustomer : MethodName := ⟨RX1, "isCustomer", "(I)Z"⟩
abbrev cX1_rate : ByteArray := prog_3_method_7_code
def yX1_rate : MethodName := ⟨RX1, "rate", "(II)I"⟩
abbrev cX1_purse : ByteArray := prog_3_method_8_code
def yX1_purse : MethodName := ⟨RX1, "purse", "(II)I"⟩
abbrev cX1_or : ByteArray := prog_3_method_9_code
def yX1_or : MethodName := ⟨RX1, "or", "(II)I"⟩
abbrev cX1_parts : ByteArray := prog_3_method_10_code
def yX1_parts : MethodName := ⟨RX1, "parts", "(JI)J"⟩
abbrev cX1_gives : ByteArray := prog_3_method_11_code
def yX1_gives : MethodName := ⟨RX1, "gives", "(JI)J"⟩
abbrev cX1_can : ByteArray := prog_3_method_12_code
def yX1_can : MethodName := ⟨RX1, "can", "(IIIII)Z"⟩
abbrev cX1_carryOut : ByteArray := prog_3_method_13_code
def yX1_carryOut : MethodName := ⟨RX1, "carryOut", "(IIII)I"⟩
abbrev cX1_takeOut : ByteArray := prog_3_method_14_code
def yX1_takeOut : MethodName := ⟨RX1, "takeOut", "(I)V"⟩
abbrev cX1_isDue : ByteArray := prog_3_method_15_code
def yX1_isDue : MethodName := ⟨RX1, "isDue", "(II)Z"⟩
abbrev cX1_lookAt : ByteArray := prog_3_method_16_code
def yX1_lookAt : MethodName := ⟨RX1, "lookAt", "()I"⟩
abbrev cX1_setRate : ByteArray := prog_3_method_17_code
def yX1_setRate : MethodName := ⟨RX1, "setRate", "(III)I"⟩
abbrev cX1_setSpread : ByteArray := prog_3_method_18_code
def yX1_setSpread : MethodName := ⟨RX1, "setSpread", "(I)I"⟩
abbrev cX1_setLimit : ByteArray := prog_3_method_19_code
def yX1_setLimit : MethodName := ⟨RX1, "setLimit", "(II)I"⟩
abbrev cX1_stock : ByteArray := prog_3_method_20_code
def yX1_stock : MethodName := ⟨RX1, "stock", "(II)I"⟩
abbrev cX1_next : ByteArray := prog_3_method_21_code
def yX1_next : MethodName := ⟨RX1, "next", "()I"⟩
abbrev cX1_come : ByteArray := prog_3_method_22_code
def yX1_come : MethodName := ⟨RX1, "come", "()I"⟩
abbrev cX1_earn : ByteArray := prog_3_method_23_code
def yX1_earn : MethodName := ⟨RX1, "earn", "(III)I"⟩
abbrev cX1_change : ByteArray := prog_3_method_24_code
def yX1_change : MethodName := ⟨RX1, "change", "(IIII)I"⟩
abbrev cX1_order : ByteArray := prog_3_method_25_code
def yX1_order : MethodName := ⟨RX1, "order", "(IIIII)I"⟩
abbrev cX1_cancel : ByteArray := prog_3_method_26_code
def yX1_cancel : MethodName := ⟨RX1, "cancel", "(I)I"⟩
abbrev cX1_has : ByteArray := prog_3_method_27_code
def yX1_has : MethodName := ⟨RX1, "has", "(II)I"⟩
abbrev cX1_all : ByteArray := prog_3_method_28_code
def yX1_all : MethodName := ⟨RX1, "all", "(I)I"⟩
abbrev cX1_moneyTold : ByteArray := prog_3_method_29_code
def yX1_moneyTold : MethodName := ⟨RX1, "moneyTold", "(II)I"⟩
abbrev cX1_told : ByteArray := prog_3_method_30_code
def yX1_told : MethodName := ⟨RX1, "told", "(II)I"⟩
abbrev cX1_about : ByteArray := prog_3_method_31_code
def yX1_about : MethodName := ⟨RX1, "about", "(II)I"⟩
abbrev cX1_counted : ByteArray := prog_3_method_32_code
def yX1_counted : MethodName := ⟨RX1, "counted", "(I)I"⟩
abbrev cX1_count : ByteArray := prog_3_method_33_code
def yX1_count : MethodName := ⟨RX1, "count", "(I)I"⟩
abbrev cX1_would : ByteArray := prog_3_method_34_code
def yX1_would : MethodName := ⟨RX1, "would", "(III)I"⟩
abbrev cX1_most : ByteArray := prog_3_method_35_code
def yX1_most : MethodName := ⟨RX1, "most", "(IIJII)J"⟩
abbrev cX1_way : ByteArray := prog_3_method_36_code
def yX1_way : MethodName := ⟨RX1, "way", "(III)I"⟩
abbrev cX1_ring : ByteArray := prog_3_method_37_code
def yX1_ring : MethodName := ⟨RX1, "ring", "(II)I"⟩
abbrev cX1_needs : ByteArray := prog_3_method_38_code
def yX1_needs : MethodName := ⟨RX1, "needs", "(II)I"⟩
abbrev cX1_mean : ByteArray := prog_3_method_39_code
def yX1_mean : MethodName := ⟨RX1, "mean", "(I)D"⟩
abbrev cX1_digest : ByteArray := prog_3_method_40_code
def yX1_digest : MethodName := ⟨RX1, "digest", "()J"⟩
def RJ9 : String := "java/lang/Math"
def TJ9 : u_T := fun k => match k with
  | _ => ("", "", "", false)
def tyJ9 : Nat → FieldType := fun k => match k with
  | _ => .int
abbrev wsJ90 : List Cond := u_ws RJ9 TJ9 0
theorem nmJ9 : ∀ a, a < 0 → ∀ b, b < 0 → a ≠ b → (TJ9 a).2.1 ≠ (TJ9 b).2.1 := by decide +kernel
theorem tyJ9_ok : ∀ k, k < 0 → parseFieldDescriptor (TJ9 k).2.2.1 = some (tyJ9 k) := by decide +kernel
abbrev cJ9_max_f86c9 : ByteArray := prog_8_method_66_code
def yJ9_max_f86c9 : MethodName := ⟨RJ9, "max", "(JJ)J"⟩
abbrev cJ9_min_7cf53 : ByteArray := prog_8_method_69_code
def yJ9_min_7cf53 : MethodName := ⟨RJ9, "min", "(II)I"⟩
abbrev cJ9_min_f86c9 : ByteArray := prog_8_method_70_code
def yJ9_min_f86c9 : MethodName := ⟨RJ9, "min", "(JJ)J"⟩
def RJ0 : String := "java/lang/String"
def TJ0 : u_T := fun k => match k with
  | _ => ("", "", "", false)
def tyJ0 : Nat → FieldType := fun k => match k with
  | _ => .int
abbrev wsJ00 : List Cond := u_ws RJ0 TJ0 0
theorem nmJ0 : ∀ a, a < 0 → ∀ b, b < 0 → a ≠ b → (TJ0 a).2.1 ≠ (TJ0 b).2.1 := by decide +kernel
theorem tyJ0_ok : ∀ k, k < 0 → parseFieldDescriptor (TJ0 k).2.2.1 = some (tyJ0 k) := by decide +kernel
def RJ10 : String := "java/lang/System"
def TJ10 : u_T := fun k => match k with
  | _ => ("", "", "", false)
def tyJ10 : Nat → FieldType := fun k => match k with
  | _ => .int
abbrev wsJ100 : List Cond := u_ws RJ10 TJ10 0
theorem nmJ10 : ∀ a, a < 0 → ∀ b, b < 0 → a ≠ b → (TJ10 a).2.1 ≠ (TJ10 b).2.1 := by decide +kernel
theorem tyJ10_ok : ∀ k, k < 0 → parseFieldDescriptor (TJ10 k).2.2.1 = some (tyJ10 k) := by decide +kernel
def RL : String := "MoneyBoothLaw"
abbrev cL_setRate : ByteArray := method_3_code
def yL_setRate : MethodName := ⟨RL, "setRate", "(LMoneyBooth;III[J)I"⟩
abbrev cL_setSpread : ByteArray := method_4_code
def yL_setSpread : MethodName := ⟨RL, "setSpread", "(LMoneyBooth;I[J)I"⟩
abbrev cL_setLimit : ByteArray := method_5_code
def yL_setLimit : MethodName := ⟨RL, "setLimit", "(LMoneyBooth;II[J)I"⟩
abbrev cL_stock : ByteArray := method_6_code
def yL_stock : MethodName := ⟨RL, "stock", "(LMoneyBooth;II[J)I"⟩
abbrev cL_come : ByteArray := method_7_code
def yL_come : MethodName := ⟨RL, "come", "(LMoneyBooth;[J)I"⟩
abbrev cL_earn : ByteArray := method_8_code
def yL_earn : MethodName := ⟨RL, "earn", "(LMoneyBooth;III[J)I"⟩
abbrev cL_change : ByteArray := method_9_code
def yL_change : MethodName := ⟨RL, "change", "(LMoneyBooth;IIII[J)I"⟩
abbrev cL_order : ByteArray := method_10_code
def yL_order : MethodName := ⟨RL, "order", "(LMoneyBooth;IIIII[J)I"⟩
abbrev cL_cancel : ByteArray := method_11_code
def yL_cancel : MethodName := ⟨RL, "cancel", "(LMoneyBooth;I[J)I"⟩
abbrev cL_has : ByteArray := method_12_code
def yL_has : MethodName := ⟨RL, "has", "(LMoneyBooth;II[J)I"⟩
abbrev cL_told : ByteArray := method_13_code
def yL_told : MethodName := ⟨RL, "told", "(LMoneyBooth;II[J)I"⟩
abbrev cL_about : ByteArray := method_14_code
def yL_about : MethodName := ⟨RL, "about", "(LMoneyBooth;II[J)I"⟩
abbrev cL_count : ByteArray := method_15_code
def yL_count : MethodName := ⟨RL, "count", "(LMoneyBooth;I[J)I"⟩
abbrev cL_would : ByteArray := method_16_code
def yL_would : MethodName := ⟨RL, "would", "(LMoneyBooth;III[J)I"⟩
abbrev cL_way : ByteArray := method_17_code
def yL_way : MethodName := ⟨RL, "way", "(LMoneyBooth;III[J)I"⟩
abbrev cL_ring : ByteArray := method_18_code
def yL_ring : MethodName := ⟨RL, "ring", "(LMoneyBooth;II[J)I"⟩
abbrev cL_needs : ByteArray := method_19_code
def yL_needs : MethodName := ⟨RL, "needs", "(LMoneyBooth;II[J)I"⟩
abbrev cL_mean : ByteArray := method_20_code
def yL_mean : MethodName := ⟨RL, "mean", "(LMoneyBooth;I[D)I"⟩
abbrev cL_law : ByteArray := code
def yL_law : MethodName := ⟨RL, "law", "([I)Z"⟩
def wsJ9_max_f86c9 : List Cond := .code yJ9_max_f86c9 cJ9_max_f86c9 4 (some .long) :: ([])
def wsJ9_min_7cf53 : List Cond := .code yJ9_min_7cf53 cJ9_min_7cf53 2 (some .int) :: ([])
def wsJ9_min_f86c9 : List Cond := .code yJ9_min_f86c9 cJ9_min_f86c9 4 (some .long) :: ([])
def wsL_law0_r1 : List Cond := [Cond.classLink RL 8 RX0, Cond.instantiable RX0 13, Cond.initialized RX0, Cond.classLink RL 77 RX1, Cond.instantiable RX1 14, Cond.initialized RX1, Cond.arrayClass .long, Cond.arrayClass .double, Cond.methodLink RL 76 yX0_init, Cond.instanceMethod yX0_init, Cond.code yX0_init cX0_init 2 none, Cond.methodLink RX0 1 objectInit, Cond.instanceMethod objectInit, Cond.code objectInit ⟨#[0xb1]⟩ 1 none, Cond.arrayClass .int, Cond.fieldLink RX0 9 "MoneyBooth" "rates" "[I", Cond.fieldLink RX0 13 "MoneyBooth" "stocks" "[I", Cond.fieldLink RX0 16 "MoneyBooth" "dusts" "[I", Cond.fieldLink RX0 19 "MoneyBooth" "limits" "[I", Cond.fieldLink RX0 22 "MoneyBooth" "givenToday" "[I", Cond.fieldLink RX0 25 "MoneyBooth" "purses" "[I", Cond.fieldLink RX0 28 "MoneyBooth" "orders" "[I", Cond.methodLink RL 79 yX1_init, Cond.instanceMethod yX1_init]
def wsL_law0_r2 : List Cond := [Cond.code yX1_init cX1_init 1 none, Cond.methodLink RX1 1 objectInit, Cond.fieldLink RX1 9 "MoneyBoothModel" "rates" "[I", Cond.fieldLink RX1 13 "MoneyBoothModel" "stocks" "[I", Cond.fieldLink RX1 16 "MoneyBoothModel" "dust" "[I", Cond.fieldLink RX1 19 "MoneyBoothModel" "limits" "[I", Cond.fieldLink RX1 22 "MoneyBoothModel" "given" "[I", Cond.fieldLink RX1 25 "MoneyBoothModel" "purses" "[I", Cond.fieldLink RX1 28 "MoneyBoothModel" "orders" "[I", Cond.methodLink RL 80 yL_setRate, Cond.static yL_setRate, Cond.initialized RL, Cond.codeWith yL_setRate cL_setRate 6 (some .int) [(0, 12, 15, 13), (0, 12, 19, 15)], Cond.classLink RL 13 "java/lang/IndexOutOfBoundsException", Cond.classLink RL 15 "java/lang/IllegalArgumentException", Cond.methodLink RL 7 yX0_setRate, Cond.instanceMethod yX0_setRate, Cond.selects RX0 yX0_setRate yX0_setRate, Cond.code yX0_setRate cX0_setRate 4 (some .int), Cond.classLink RX0 35 "java/lang/IndexOutOfBoundsException", Cond.initialized "java/lang/IndexOutOfBoundsException", Cond.classLink RX0 42 "java/lang/IllegalArgumentException", Cond.initialized "java/lang/IllegalArgumentException", Cond.methodLink RX0 31 yX0_isMoney]
def wsL_law0_r3 : List Cond := [Cond.static yX0_isMoney, Cond.code yX0_isMoney cX0_isMoney 1 (some .boolean), Cond.methodLink RX0 47 yX0_lookAtOrders, Cond.instanceMethod yX0_lookAtOrders, Cond.selects RX0 yX0_lookAtOrders yX0_lookAtOrders, Cond.code yX0_lookAtOrders cX0_lookAtOrders 3 (some .int), Cond.fieldLink RX0 95 "MoneyBooth" "waiting" "I", Cond.fieldLink RX0 182 "MoneyBooth" "ordersDone" "I", Cond.methodLink RX0 197 yX0_doneIfPossible, Cond.instanceMethod yX0_doneIfPossible, Cond.selects RX0 yX0_doneIfPossible yX0_doneIfPossible, Cond.code yX0_doneIfPossible cX0_doneIfPossible 3 (some .boolean), Cond.methodLink RX0 109 yX0_orderPart, Cond.instanceMethod yX0_orderPart, Cond.selects RX0 yX0_orderPart yX0_orderPart, Cond.code yX0_orderPart cX0_orderPart 3 (some .int), Cond.methodLink RX0 193 yX0_isOrderCell, Cond.static yX0_isOrderCell, Cond.code yX0_isOrderCell cX0_isOrderCell 2 (some .boolean), Cond.methodLink RX0 87 yX0_changeIfPossible, Cond.instanceMethod yX0_changeIfPossible, Cond.selects RX0 yX0_changeIfPossible yX0_changeIfPossible, Cond.code yX0_changeIfPossible cX0_changeIfPossible 12 (some .int), Cond.fieldLink RX0 179 "MoneyBooth" "changesMade" "I"]
def wsL_law0_r4 : List Cond := [Cond.constantLong RX0 200 (10000), Cond.methodLink RX0 80 yX0_isCustomer, Cond.instanceMethod yX0_isCustomer, Cond.selects RX0 yX0_isCustomer yX0_isCustomer, Cond.code yX0_isCustomer cX0_isCustomer 2 (some .boolean), Cond.fieldLink RX0 72 "MoneyBooth" "customers" "I", Cond.methodLink RX0 138 yX0_tenthousandths, Cond.instanceMethod yX0_tenthousandths, Cond.selects RX0 yX0_tenthousandths yX0_tenthousandths, Cond.code yX0_tenthousandths cX0_tenthousandths 5 (some .long), Cond.fieldLink RX0 53 "MoneyBooth" "spread" "I", Cond.methodLink RX0 173 yX0_rateOf, Cond.instanceMethod yX0_rateOf, Cond.selects RX0 yX0_rateOf yX0_rateOf, Cond.code yX0_rateOf cX0_rateOf 3 (some .int), Cond.methodLink RX0 142 yX0_wholeOnes, Cond.static yX0_wholeOnes, Cond.code yX0_wholeOnes cX0_wholeOnes 2 (some .long), Cond.methodLink RX0 117 yX0_inPurse, Cond.instanceMethod yX0_inPurse, Cond.selects RX0 yX0_inPurse yX0_inPurse, Cond.code yX0_inPurse cX0_inPurse 3 (some .int), Cond.methodLink RX0 202 yX0_isAllowed, Cond.instanceMethod yX0_isAllowed]
def wsL_law0_r5 : List Cond := [Cond.selects RX0 yX0_isAllowed yX0_isAllowed, Cond.code yX0_isAllowed cX0_isAllowed 6 (some .boolean), Cond.methodLink RX0 65 yX0_heldAtMost, Cond.static yX0_heldAtMost, Cond.code yX0_heldAtMost cX0_heldAtMost 2 (some .int), Cond.constantLong RX0 185 (999999), Cond.methodLink RX0 187 Lib.MathLoose.min_long.x, Cond.static Lib.MathLoose.min_long.x, Cond.initialized "java/lang/Math", Cond.code Lib.MathLoose.min_long.x Lib.MathLoose.min_long.code 4 (some .long), Cond.methodLink RX0 206 yX0_keepDust, Cond.instanceMethod yX0_keepDust, Cond.selects RX0 yX0_keepDust yX0_keepDust, Cond.code yX0_keepDust cX0_keepDust 4 none, Cond.methodLink RX0 113 yX0_moveOrder, Cond.instanceMethod yX0_moveOrder, Cond.selects RX0 yX0_moveOrder yX0_moveOrder, Cond.code yX0_moveOrder cX0_moveOrder 4 none, Cond.methodLink RX0 100 yX0_setOrderPart, Cond.instanceMethod yX0_setOrderPart, Cond.selects RX0 yX0_setOrderPart yX0_setOrderPart, Cond.code yX0_setOrderPart cX0_setOrderPart 4 none, Cond.methodLink RL 85 yX1_setRate, Cond.instanceMethod yX1_setRate]
def wsL_law0_r6 : List Cond := [Cond.selects RX1 yX1_setRate yX1_setRate, Cond.code yX1_setRate cX1_setRate 4 (some .int), Cond.fieldLink RX1 31 "MoneyBoothModel" "thrown" "I", Cond.methodLink RX1 101 yX1_isMoney, Cond.static yX1_isMoney, Cond.code yX1_isMoney cX1_isMoney 1 (some .boolean), Cond.methodLink RX1 35 yX1_isIn, Cond.static yX1_isIn, Cond.code yX1_isIn cX1_isIn 3 (some .boolean), Cond.methodLink RX1 105 yX1_fail, Cond.instanceMethod yX1_fail, Cond.selects RX1 yX1_fail yX1_fail, Cond.code yX1_fail cX1_fail 2 (some .int), Cond.methodLink RX1 109 yX1_lookAt, Cond.instanceMethod yX1_lookAt, Cond.selects RX1 yX1_lookAt yX1_lookAt, Cond.code yX1_lookAt cX1_lookAt 3 (some .int), Cond.fieldLink RX1 86 "MoneyBoothModel" "done" "I", Cond.fieldLink RX1 70 "MoneyBoothModel" "waiting" "I", Cond.methodLink RX1 79 yX1_or, Cond.instanceMethod yX1_or, Cond.selects RX1 yX1_or yX1_or, Cond.code yX1_or cX1_or 3 (some .int), Cond.methodLink RX1 58 yX1_rate]
def wsL_law0_r7 : List Cond := [Cond.instanceMethod yX1_rate, Cond.selects RX1 yX1_rate yX1_rate, Cond.code yX1_rate cX1_rate 3 (some .int), Cond.methodLink RX1 89 yX1_isDue, Cond.instanceMethod yX1_isDue, Cond.selects RX1 yX1_isDue yX1_isDue, Cond.code yX1_isDue cX1_isDue 3 (some .boolean), Cond.methodLink RX1 82 yX1_can, Cond.instanceMethod yX1_can, Cond.selects RX1 yX1_can yX1_can, Cond.code yX1_can cX1_can 8 (some .boolean), Cond.methodLink RX1 51 yX1_purse, Cond.instanceMethod yX1_purse, Cond.selects RX1 yX1_purse yX1_purse, Cond.code yX1_purse cX1_purse 3 (some .int), Cond.methodLink RX1 55 yX1_gives, Cond.instanceMethod yX1_gives, Cond.selects RX1 yX1_gives yX1_gives, Cond.code yX1_gives cX1_gives 4 (some .long), Cond.constantLong RX1 49 (10000), Cond.methodLink RX1 45 yX1_parts, Cond.instanceMethod yX1_parts, Cond.selects RX1 yX1_parts yX1_parts, Cond.code yX1_parts cX1_parts 4 (some .long)]
def wsL_law0_r8 : List Cond := [Cond.fieldLink RX1 42 "MoneyBoothModel" "spread" "I", Cond.methodLink RX1 93 yX1_carryOut, Cond.instanceMethod yX1_carryOut, Cond.selects RX1 yX1_carryOut yX1_carryOut, Cond.code yX1_carryOut cX1_carryOut 6 (some .int), Cond.constant RX1 61 (999999), Cond.methodLink RX1 62 Lib.Math.min.name, Cond.static Lib.Math.min.name, Cond.code Lib.Math.min.name Lib.Math.min.code 2 (some .int), Cond.fieldLink RX1 67 "MoneyBoothModel" "changes" "I", Cond.methodLink RX1 97 yX1_takeOut, Cond.instanceMethod yX1_takeOut, Cond.selects RX1 yX1_takeOut yX1_takeOut, Cond.code yX1_takeOut cX1_takeOut 2 none, Cond.methodLink RX1 73 arraycopyName, Cond.native arraycopyName, Cond.static arraycopyName, Cond.initialized "java/lang/System", Cond.methodLink RL 86 yX1_thrown, Cond.instanceMethod yX1_thrown, Cond.selects RX1 yX1_thrown yX1_thrown, Cond.code yX1_thrown cX1_thrown 1 (some .int), Cond.methodLink RL 89 yL_setSpread, Cond.static yL_setSpread]
def wsL_law0_r9 : List Cond := [Cond.codeWith yL_setSpread cL_setSpread 4 (some .int) [(0, 9, 12, 15)], Cond.methodLink RL 17 yX0_setSpread, Cond.instanceMethod yX0_setSpread, Cond.selects RX0 yX0_setSpread yX0_setSpread, Cond.code yX0_setSpread cX0_setSpread 2 (some .int), Cond.methodLink RL 92 yX1_setSpread, Cond.instanceMethod yX1_setSpread, Cond.selects RX1 yX1_setSpread yX1_setSpread, Cond.code yX1_setSpread cX1_setSpread 2 (some .int), Cond.methodLink RL 93 yL_setLimit, Cond.static yL_setLimit, Cond.codeWith yL_setLimit cL_setLimit 5 (some .int) [(0, 10, 13, 13), (0, 10, 17, 15)], Cond.methodLink RL 21 yX0_setLimit, Cond.instanceMethod yX0_setLimit, Cond.selects RX0 yX0_setLimit yX0_setLimit, Cond.code yX0_setLimit cX0_setLimit 4 (some .int), Cond.constant RX0 57 (99999), Cond.methodLink RL 96 yX1_setLimit, Cond.instanceMethod yX1_setLimit, Cond.selects RX1 yX1_setLimit yX1_setLimit, Cond.code yX1_setLimit cX1_setLimit 4 (some .int), Cond.constant RX1 113 (99999), Cond.methodLink RL 97 yL_stock, Cond.static yL_stock]
def wsL_law0_r10 : List Cond := [Cond.codeWith yL_stock cL_stock 5 (some .int) [(0, 10, 13, 13), (0, 10, 17, 15)], Cond.methodLink RL 25 yX0_stock, Cond.instanceMethod yX0_stock, Cond.selects RX0 yX0_stock yX0_stock, Cond.code yX0_stock cX0_stock 3 (some .int), Cond.methodLink RX0 60 yX0_isNamedAmount, Cond.static yX0_isNamedAmount, Cond.code yX0_isNamedAmount cX0_isNamedAmount 1 (some .boolean), Cond.methodLink RL 99 yX1_stock, Cond.instanceMethod yX1_stock, Cond.selects RX1 yX1_stock yX1_stock, Cond.code yX1_stock cX1_stock 3 (some .int), Cond.methodLink RL 100 yX0_next, Cond.instanceMethod yX0_next, Cond.selects RX0 yX0_next yX0_next, Cond.code yX0_next cX0_next 2 (some .int), Cond.fieldLink RX0 69 "MoneyBooth" "day" "I", Cond.methodLink RL 103 yX1_next, Cond.instanceMethod yX1_next, Cond.selects RX1 yX1_next yX1_next, Cond.code yX1_next cX1_next 2 (some .int), Cond.fieldLink RX1 114 "MoneyBoothModel" "day" "I", Cond.methodLink RL 104 yL_come, Cond.static yL_come]
def wsL_law0_r11 : List Cond := [Cond.codeWith yL_come cL_come 3 (some .int) [(0, 8, 11, 32)], Cond.classLink RL 32 "java/lang/IllegalStateException", Cond.methodLink RL 28 yX0_come, Cond.instanceMethod yX0_come, Cond.selects RX0 yX0_come yX0_come, Cond.code yX0_come cX0_come 1 (some .int), Cond.classLink RX0 75 "java/lang/IllegalStateException", Cond.initialized "java/lang/IllegalStateException", Cond.methodLink RL 107 yX1_come, Cond.instanceMethod yX1_come, Cond.selects RX1 yX1_come yX1_come, Cond.code yX1_come cX1_come 1 (some .int), Cond.fieldLink RX1 39 "MoneyBoothModel" "customers" "I", Cond.methodLink RL 108 yL_earn, Cond.static yL_earn, Cond.codeWith yL_earn cL_earn 6 (some .int) [(0, 12, 15, 13), (0, 12, 19, 15)], Cond.methodLink RL 34 yX0_earn, Cond.instanceMethod yX0_earn, Cond.selects RX0 yX0_earn yX0_earn, Cond.code yX0_earn cX0_earn 5 (some .int), Cond.methodLink RL 110 yX1_earn, Cond.instanceMethod yX1_earn, Cond.selects RX1 yX1_earn yX1_earn, Cond.code yX1_earn cX1_earn 5 (some .int)]
def wsL_law0_r12 : List Cond := [Cond.methodLink RX1 117 yX1_isCustomer, Cond.instanceMethod yX1_isCustomer, Cond.selects RX1 yX1_isCustomer yX1_isCustomer, Cond.code yX1_isCustomer cX1_isCustomer 2 (some .boolean), Cond.methodLink RL 111 yL_change, Cond.static yL_change, Cond.codeWith yL_change cL_change 7 (some .int) [(0, 14, 17, 13), (0, 14, 21, 32)], Cond.methodLink RL 37 yX0_change, Cond.instanceMethod yX0_change, Cond.selects RX0 yX0_change yX0_change, Cond.code yX0_change cX0_change 6 (some .int), Cond.methodLink RL 114 yX1_change, Cond.instanceMethod yX1_change, Cond.selects RX1 yX1_change yX1_change, Cond.code yX1_change cX1_change 5 (some .int), Cond.methodLink RL 115 yL_order, Cond.static yL_order, Cond.codeWith yL_order cL_order 8 (some .int) [(0, 16, 19, 13), (0, 16, 23, 15), (0, 16, 27, 32)], Cond.methodLink RL 41 yX0_order, Cond.instanceMethod yX0_order, Cond.selects RX0 yX0_order yX0_order, Cond.code yX0_order cX0_order 6 (some .int), Cond.methodLink RL 118 yX1_order, Cond.instanceMethod yX1_order]
def wsL_law0_r13 : List Cond := [Cond.selects RX1 yX1_order yX1_order, Cond.code yX1_order cX1_order 7 (some .int), Cond.methodLink RL 119 yL_cancel, Cond.static yL_cancel, Cond.codeWith yL_cancel cL_cancel 4 (some .int) [(0, 9, 12, 13)], Cond.methodLink RL 45 yX0_cancel, Cond.instanceMethod yX0_cancel, Cond.selects RX0 yX0_cancel yX0_cancel, Cond.code yX0_cancel cX0_cancel 4 (some .int), Cond.methodLink RX0 104 yX0_isPlace, Cond.instanceMethod yX0_isPlace, Cond.selects RX0 yX0_isPlace yX0_isPlace, Cond.code yX0_isPlace cX0_isPlace 2 (some .boolean), Cond.methodLink RL 121 yX1_cancel, Cond.instanceMethod yX1_cancel, Cond.selects RX1 yX1_cancel yX1_cancel, Cond.code yX1_cancel cX1_cancel 3 (some .int), Cond.methodLink RL 122 yL_has, Cond.static yL_has, Cond.codeWith yL_has cL_has 5 (some .int) [(0, 10, 13, 13)], Cond.methodLink RL 48 yX0_has, Cond.instanceMethod yX0_has, Cond.selects RX0 yX0_has yX0_has, Cond.code yX0_has cX0_has 3 (some .int)]
def wsL_law0_r14 : List Cond := [Cond.methodLink RL 124 yX1_has, Cond.instanceMethod yX1_has, Cond.selects RX1 yX1_has yX1_has, Cond.code yX1_has cX1_has 3 (some .int), Cond.methodLink RL 125 yL_told, Cond.static yL_told, Cond.codeWith yL_told cL_told 5 (some .int) [(0, 10, 13, 13)], Cond.methodLink RL 51 yX0_told, Cond.instanceMethod yX0_told, Cond.selects RX0 yX0_told yX0_told, Cond.code yX0_told cX0_told 3 (some .int), Cond.methodLink RX0 122 yX0_factOfMoney, Cond.instanceMethod yX0_factOfMoney, Cond.selects RX0 yX0_factOfMoney yX0_factOfMoney, Cond.code yX0_factOfMoney cX0_factOfMoney 3 (some .int), Cond.methodLink RX0 163 yX0_inAllPurses, Cond.instanceMethod yX0_inAllPurses, Cond.selects RX0 yX0_inAllPurses yX0_inAllPurses, Cond.code yX0_inAllPurses cX0_inAllPurses 4 (some .int), Cond.methodLink RL 127 yX1_told, Cond.instanceMethod yX1_told, Cond.selects RX1 yX1_told yX1_told, Cond.code yX1_told cX1_told 3 (some .int), Cond.methodLink RX1 123 yX1_moneyTold]
def wsL_law0_r15 : List Cond := [Cond.instanceMethod yX1_moneyTold, Cond.selects RX1 yX1_moneyTold yX1_moneyTold, Cond.code yX1_moneyTold cX1_moneyTold 3 (some .int), Cond.methodLink RX1 120 yX1_all, Cond.instanceMethod yX1_all, Cond.selects RX1 yX1_all yX1_all, Cond.code yX1_all cX1_all 4 (some .int), Cond.methodLink RL 128 yL_about, Cond.static yL_about, Cond.codeWith yL_about cL_about 5 (some .int) [(0, 10, 13, 13)], Cond.methodLink RL 54 yX0_about, Cond.instanceMethod yX0_about, Cond.selects RX0 yX0_about yX0_about, Cond.code yX0_about cX0_about 3 (some .int), Cond.methodLink RL 130 yX1_about, Cond.instanceMethod yX1_about, Cond.selects RX1 yX1_about yX1_about, Cond.code yX1_about cX1_about 3 (some .int), Cond.methodLink RL 131 yL_count, Cond.static yL_count, Cond.codeWith yL_count cL_count 4 (some .int) [(0, 9, 12, 13)], Cond.methodLink RL 57 yX0_count, Cond.instanceMethod yX0_count, Cond.selects RX0 yX0_count yX0_count]
def wsL_law0_r16 : List Cond := [Cond.code yX0_count cX0_count 2 (some .int), Cond.methodLink RX0 129 yX0_factOfBooth, Cond.instanceMethod yX0_factOfBooth, Cond.selects RX0 yX0_factOfBooth yX0_factOfBooth, Cond.code yX0_factOfBooth cX0_factOfBooth 2 (some .int), Cond.methodLink RX0 176 yX0_ratesThatAreNotZero, Cond.instanceMethod yX0_ratesThatAreNotZero, Cond.selects RX0 yX0_ratesThatAreNotZero yX0_ratesThatAreNotZero, Cond.code yX0_ratesThatAreNotZero cX0_ratesThatAreNotZero 3 (some .int), Cond.methodLink RL 133 yX1_count, Cond.instanceMethod yX1_count, Cond.selects RX1 yX1_count yX1_count, Cond.code yX1_count cX1_count 2 (some .int), Cond.methodLink RX1 126 yX1_counted, Cond.instanceMethod yX1_counted, Cond.selects RX1 yX1_counted yX1_counted, Cond.code yX1_counted cX1_counted 7 (some .int), Cond.methodLink RL 134 yL_would, Cond.static yL_would, Cond.codeWith yL_would cL_would 6 (some .int) [(0, 12, 15, 13), (0, 12, 19, 15)], Cond.methodLink RL 60 yX0_would, Cond.instanceMethod yX0_would, Cond.selects RX0 yX0_would yX0_would, Cond.code yX0_would cX0_would 4 (some .int)]
def wsL_law0_r17 : List Cond := [Cond.methodLink RX0 133 yX0_isAmountOrNone, Cond.static yX0_isAmountOrNone, Cond.code yX0_isAmountOrNone cX0_isAmountOrNone 1 (some .boolean), Cond.methodLink RL 136 yX1_would, Cond.instanceMethod yX1_would, Cond.selects RX1 yX1_would yX1_would, Cond.code yX1_would cX1_would 4 (some .int), Cond.methodLink RL 137 yL_way, Cond.static yL_way, Cond.codeWith yL_way cL_way 6 (some .int) [(0, 12, 15, 13), (0, 12, 19, 15)], Cond.methodLink RL 63 yX0_way, Cond.instanceMethod yX0_way, Cond.selects RX0 yX0_way yX0_way, Cond.code yX0_way cX0_way 4 (some .int), Cond.methodLink RX0 148 yX0_bit, Cond.static yX0_bit, Cond.code yX0_bit cX0_bit 1 (some .int), Cond.methodLink RX0 151 yX0_mostAtGoal, Cond.instanceMethod yX0_mostAtGoal, Cond.selects RX0 yX0_mostAtGoal yX0_mostAtGoal, Cond.code yX0_mostAtGoal cX0_mostAtGoal 10 (some .long), Cond.methodLink RX0 220 Lib.MathLoose.max_long.x, Cond.static Lib.MathLoose.max_long.x, Cond.code Lib.MathLoose.max_long.x Lib.MathLoose.max_long.code 4 (some .long)]
def wsL_law0_r18 : List Cond := [Cond.methodLink RX0 213 yX0_behindOneChange, Cond.instanceMethod yX0_behindOneChange, Cond.selects RX0 yX0_behindOneChange yX0_behindOneChange, Cond.code yX0_behindOneChange cX0_behindOneChange 5 (some .long), Cond.constantLong RX0 211 (2147483647), Cond.methodLink RX0 216 yX0_mostOver, Cond.instanceMethod yX0_mostOver, Cond.selects RX0 yX0_mostOver yX0_mostOver, Cond.code yX0_mostOver cX0_mostOver 10 (some .long), Cond.methodLink RL 139 yX1_way, Cond.instanceMethod yX1_way, Cond.selects RX1 yX1_way yX1_way, Cond.code yX1_way cX1_way 4 (some .int), Cond.methodLink RX1 136 yX1_most, Cond.instanceMethod yX1_most, Cond.selects RX1 yX1_most yX1_most, Cond.code yX1_most cX1_most 13 (some .long), Cond.constantLong RX1 131 (2147483647), Cond.methodLink RX1 133 Lib.MathLoose.min_long.x, Cond.methodLink RX1 140 Lib.MathLoose.max_long.x, Cond.methodLink RL 140 yL_ring, Cond.static yL_ring, Cond.codeWith yL_ring cL_ring 5 (some .int) [(0, 10, 13, 13), (0, 10, 17, 15)], Cond.methodLink RL 66 yX0_ring]
def wsL_law0_r19 : List Cond := [Cond.instanceMethod yX0_ring, Cond.selects RX0 yX0_ring yX0_ring, Cond.code yX0_ring cX0_ring 5 (some .int), Cond.methodLink RL 142 yX1_ring, Cond.instanceMethod yX1_ring, Cond.selects RX1 yX1_ring yX1_ring, Cond.code yX1_ring cX1_ring 3 (some .int), Cond.methodLink RL 143 yL_needs, Cond.static yL_needs, Cond.codeWith yL_needs cL_needs 5 (some .int) [(0, 10, 13, 13), (0, 10, 17, 15)], Cond.methodLink RL 69 yX0_needs, Cond.instanceMethod yX0_needs, Cond.selects RX0 yX0_needs yX0_needs, Cond.code yX0_needs cX0_needs 4 (some .int), Cond.methodLink RX0 157 yX0_firstOrderPlace, Cond.instanceMethod yX0_firstOrderPlace, Cond.selects RX0 yX0_firstOrderPlace yX0_firstOrderPlace, Cond.code yX0_firstOrderPlace cX0_firstOrderPlace 4 (some .int), Cond.methodLink RX0 160 yX0_leastRateFor, Cond.instanceMethod yX0_leastRateFor, Cond.selects RX0 yX0_leastRateFor yX0_leastRateFor, Cond.code yX0_leastRateFor cX0_leastRateFor 12 (some .int), Cond.constantLong RX0 209 (9999), Cond.methodLink RL 145 yX1_needs]
def wsL_law0_r20 : List Cond := [Cond.instanceMethod yX1_needs, Cond.selects RX1 yX1_needs yX1_needs, Cond.code yX1_needs cX1_needs 5 (some .int), Cond.methodLink RL 146 yL_mean, Cond.static yL_mean, Cond.codeWith yL_mean cL_mean 4 (some .int) [(0, 8, 11, 13)], Cond.methodLink RL 72 yX0_mean, Cond.instanceMethod yX0_mean, Cond.selects RX0 yX0_mean yX0_mean, Cond.code yX0_mean cX0_mean 2 (some .double), Cond.methodLink RL 149 yX1_mean, Cond.instanceMethod yX1_mean, Cond.selects RX1 yX1_mean yX1_mean, Cond.code yX1_mean cX1_mean 2 (some .double), Cond.methodLink RL 150 yX0_digest, Cond.instanceMethod yX0_digest, Cond.selects RX0 yX0_digest yX0_digest, Cond.code yX0_digest cX0_digest 5 (some .long), Cond.constantLong RX0 166 (1367), Cond.constantLong RX0 168 (31), Cond.methodLink RX0 170 yX0_digestOfMoneys, Cond.instanceMethod yX0_digestOfMoneys, Cond.selects RX0 yX0_digestOfMoneys yX0_digestOfMoneys, Cond.code yX0_digestOfMoneys cX0_digestOfMoneys 7 (some .long)]
def wsL_law0_r21 : List Cond := [Cond.methodLink RL 154 yX1_digest, Cond.instanceMethod yX1_digest, Cond.selects RX1 yX1_digest yX1_digest, Cond.code yX1_digest cX1_digest 5 (some .long), Cond.constantLong RX1 143 (1367), Cond.constantLong RX1 145 (31)]
def wsL_law0 : List Cond := (wsL_law0_r1 ++ (wsL_law0_r2 ++ (wsL_law0_r3 ++ (wsL_law0_r4 ++ (wsL_law0_r5 ++ (wsL_law0_r6 ++ (wsL_law0_r7 ++ (wsL_law0_r8 ++ (wsL_law0_r9 ++ (wsL_law0_r10 ++ (wsL_law0_r11 ++ (wsL_law0_r12 ++ (wsL_law0_r13 ++ (wsL_law0_r14 ++ (wsL_law0_r15 ++ (wsL_law0_r16 ++ (wsL_law0_r17 ++ (wsL_law0_r18 ++ (wsL_law0_r19 ++ (wsL_law0_r20 ++ wsL_law0_r21)))))))))))))))))))) ++ wsX00 ++ wsX10 ++ ([] : List Cond)
def wsL_law : List Cond := wsL_law0 ++ (vx_atS RX0 39 "java/lang/IndexOutOfBoundsException" ["java/lang/RuntimeException", "java/lang/Exception"]).filter goodWord ++ (vx_atS RX0 46 "java/lang/IllegalArgumentException" ["java/lang/RuntimeException", "java/lang/Exception"]).filter goodWord ++ (vx_atS RX0 79 "java/lang/IllegalStateException" ["java/lang/RuntimeException", "java/lang/Exception"]).filter goodWord
theorem inlX0 : ∀ w ∈ wsX00, w ∈ wsL_law := fun _ h => List.mem_append_left _ (List.mem_append_left _ (List.mem_append_left _ (List.mem_append_left _ (List.mem_append_left _ (List.mem_append_right _ h)))))
theorem inlX1 : ∀ w ∈ wsX10, w ∈ wsL_law := fun _ h => List.mem_append_left _ (List.mem_append_left _ (List.mem_append_left _ (List.mem_append_left _ (List.mem_append_right _ h))))
theorem dX0_init_0 : decode cX0_init 0 = .ok (.aload_n 0, 1) := by decide +kernel
theorem dX0_init_1 : decode cX0_init 1 = .ok (.invokespecial 1, 3) := by decide +kernel
theorem dX0_init_4 : decode cX0_init 4 = .ok (.aload_n 0, 1) := by decide +kernel
theorem dX0_init_5 : decode cX0_init 5 = .ok (.bipush 25, 2) := by decide +kernel
theorem dX0_init_7 : decode cX0_init 7 = .ok (.newarray .int, 2) := by decide +kernel
theorem dX0_init_9 : decode cX0_init 9 = .ok (.putfield 9, 3) := by decide +kernel
theorem dX0_init_12 : decode cX0_init 12 = .ok (.aload_n 0, 1) := by decide +kernel
theorem dX0_init_13 : decode cX0_init 13 = .ok (.iconst 5, 1) := by decide +kernel
theorem dX0_init_14 : decode cX0_init 14 = .ok (.newarray .int, 2) := by decide +kernel
theorem dX0_init_16 : decode cX0_init 16 = .ok (.putfield 13, 3) := by decide +kernel
theorem dX0_init_19 : decode cX0_init 19 = .ok (.aload_n 0, 1) := by decide +kernel
theorem dX0_init_20 : decode cX0_init 20 = .ok (.iconst 5, 1) := by decide +kernel
theorem dX0_init_21 : decode cX0_init 21 = .ok (.newarray .int, 2) := by decide +kernel
theorem dX0_init_23 : decode cX0_init 23 = .ok (.putfield 16, 3) := by decide +kernel
theorem dX0_init_26 : decode cX0_init 26 = .ok (.aload_n 0, 1) := by decide +kernel
theorem dX0_init_27 : decode cX0_init 27 = .ok (.iconst 5, 1) := by decide +kernel
theorem dX0_init_28 : decode cX0_init 28 = .ok (.newarray .int, 2) := by decide +kernel
theorem dX0_init_30 : decode cX0_init 30 = .ok (.putfield 19, 3) := by decide +kernel
theorem dX0_init_33 : decode cX0_init 33 = .ok (.aload_n 0, 1) := by decide +kernel
theorem dX0_init_34 : decode cX0_init 34 = .ok (.iconst 5, 1) := by decide +kernel
theorem dX0_init_35 : decode cX0_init 35 = .ok (.newarray .int, 2) := by decide +kernel
theorem dX0_init_37 : decode cX0_init 37 = .ok (.putfield 22, 3) := by decide +kernel
theorem dX0_init_40 : decode cX0_init 40 = .ok (.aload_n 0, 1) := by decide +kernel
theorem dX0_init_41 : decode cX0_init 41 = .ok (.bipush 30, 2) := by decide +kernel
theorem dX0_init_43 : decode cX0_init 43 = .ok (.newarray .int, 2) := by decide +kernel
theorem dX0_init_45 : decode cX0_init 45 = .ok (.putfield 25, 3) := by decide +kernel
theorem dX0_init_48 : decode cX0_init 48 = .ok (.aload_n 0, 1) := by decide +kernel
theorem dX0_init_49 : decode cX0_init 49 = .ok (.bipush 50, 2) := by decide +kernel
theorem dX0_init_51 : decode cX0_init 51 = .ok (.newarray .int, 2) := by decide +kernel
theorem dX0_init_53 : decode cX0_init 53 = .ok (.putfield 28, 3) := by decide +kernel
theorem dX0_init_56 : decode cX0_init 56 = .ok (.iconst 0, 1) := by decide +kernel
theorem dX0_init_57 : decode cX0_init 57 = .ok (.istore_n 1, 1) := by decide +kernel
theorem dX0_init_58 : decode cX0_init 58 = .ok (.iload_n 1, 1) := by decide +kernel
theorem dX0_init_59 : decode cX0_init 59 = .ok (.iconst 5, 1) := by decide +kernel
theorem dX0_init_60 : decode cX0_init 60 = .ok (.if_icmp .ge 27, 3) := by decide +kernel
theorem dX0_init_63 : decode cX0_init 63 = .ok (.aload_n 0, 1) := by decide +kernel
theorem dX0_init_64 : decode cX0_init 64 = .ok (.getfield 13, 3) := by decide +kernel
theorem dX0_init_67 : decode cX0_init 67 = .ok (.iload_n 1, 1) := by decide +kernel
theorem dX0_init_68 : decode cX0_init 68 = .ok (.sipush 1000, 3) := by decide +kernel
theorem dX0_init_71 : decode cX0_init 71 = .ok (.iastore, 1) := by decide +kernel
theorem dX0_init_72 : decode cX0_init 72 = .ok (.aload_n 0, 1) := by decide +kernel
theorem dX0_init_73 : decode cX0_init 73 = .ok (.getfield 19, 3) := by decide +kernel
theorem dX0_init_76 : decode cX0_init 76 = .ok (.iload_n 1, 1) := by decide +kernel
theorem dX0_init_77 : decode cX0_init 77 = .ok (.sipush 9999, 3) := by decide +kernel
theorem dX0_init_80 : decode cX0_init 80 = .ok (.iastore, 1) := by decide +kernel
theorem dX0_init_81 : decode cX0_init 81 = .ok (.iinc 1 1, 3) := by decide +kernel
theorem dX0_init_84 : decode cX0_init 84 = .ok (.goto (-26), 3) := by decide +kernel
theorem dX0_init_87 : decode cX0_init 87 = .ok (.return_, 1) := by decide +kernel
theorem dX0_setRate_0 : decode cX0_setRate 0 = .ok (.iload_n 1, 1) := by decide +kernel
theorem dX0_setRate_1 : decode cX0_setRate 1 = .ok (.invokestatic 31, 3) := by decide +kernel
theorem dX0_setRate_4 : decode cX0_setRate 4 = .ok (.ifCond .eq 10, 3) := by decide +kernel
theorem dX0_setRate_7 : decode cX0_setRate 7 = .ok (.iload_n 2, 1) := by decide +kernel
theorem dX0_setRate_8 : decode cX0_setRate 8 = .ok (.invokestatic 31, 3) := by decide +kernel
theorem dX0_setRate_11 : decode cX0_setRate 11 = .ok (.ifCond .ne 13, 3) := by decide +kernel
theorem dX0_setRate_14 : decode cX0_setRate 14 = .ok (.new 35, 3) := by decide +kernel
theorem dX0_setRate_17 : decode cX0_setRate 17 = .ok (.dup, 1) := by decide +kernel
theorem dX0_setRate_18 : decode cX0_setRate 18 = .ok (.ldc 37, 2) := by decide +kernel
theorem dX0_setRate_20 : decode cX0_setRate 20 = .ok (.invokespecial 39, 3) := by decide +kernel
theorem dX0_setRate_23 : decode cX0_setRate 23 = .ok (.athrow, 1) := by decide +kernel
theorem dX0_setRate_24 : decode cX0_setRate 24 = .ok (.iload_n 1, 1) := by decide +kernel
theorem dX0_setRate_25 : decode cX0_setRate 25 = .ok (.iload_n 2, 1) := by decide +kernel
theorem dX0_setRate_26 : decode cX0_setRate 26 = .ok (.if_icmp .eq 14, 3) := by decide +kernel
theorem dX0_setRate_29 : decode cX0_setRate 29 = .ok (.iload_n 3, 1) := by decide +kernel
theorem dX0_setRate_30 : decode cX0_setRate 30 = .ok (.ifCond .lt 10, 3) := by decide +kernel
theorem dX0_setRate_33 : decode cX0_setRate 33 = .ok (.iload_n 3, 1) := by decide +kernel
theorem dX0_setRate_34 : decode cX0_setRate 34 = .ok (.sipush 9999, 3) := by decide +kernel
theorem dX0_setRate_37 : decode cX0_setRate 37 = .ok (.if_icmp .le 13, 3) := by decide +kernel
theorem dX0_setRate_40 : decode cX0_setRate 40 = .ok (.new 42, 3) := by decide +kernel
theorem dX0_setRate_43 : decode cX0_setRate 43 = .ok (.dup, 1) := by decide +kernel
theorem dX0_setRate_44 : decode cX0_setRate 44 = .ok (.ldc 44, 2) := by decide +kernel
theorem dX0_setRate_46 : decode cX0_setRate 46 = .ok (.invokespecial 46, 3) := by decide +kernel
theorem dX0_setRate_49 : decode cX0_setRate 49 = .ok (.athrow, 1) := by decide +kernel
theorem dX0_setRate_50 : decode cX0_setRate 50 = .ok (.aload_n 0, 1) := by decide +kernel
theorem dX0_setRate_51 : decode cX0_setRate 51 = .ok (.getfield 9, 3) := by decide +kernel
theorem dX0_setRate_54 : decode cX0_setRate 54 = .ok (.iload_n 1, 1) := by decide +kernel
theorem dX0_setRate_55 : decode cX0_setRate 55 = .ok (.iconst 5, 1) := by decide +kernel
theorem dX0_setRate_56 : decode cX0_setRate 56 = .ok (.imul, 1) := by decide +kernel
theorem dX0_setRate_57 : decode cX0_setRate 57 = .ok (.iload_n 2, 1) := by decide +kernel
theorem dX0_setRate_58 : decode cX0_setRate 58 = .ok (.iadd, 1) := by decide +kernel
theorem dX0_setRate_59 : decode cX0_setRate 59 = .ok (.iload_n 3, 1) := by decide +kernel
theorem dX0_setRate_60 : decode cX0_setRate 60 = .ok (.iastore, 1) := by decide +kernel
theorem dX0_setRate_61 : decode cX0_setRate 61 = .ok (.aload_n 0, 1) := by decide +kernel
theorem dX0_setRate_62 : decode cX0_setRate 62 = .ok (.invokevirtual 47, 3) := by decide +kernel
theorem dX0_setRate_65 : decode cX0_setRate 65 = .ok (.ireturn, 1) := by decide +kernel
theorem dX0_setSpread_0 : decode cX0_setSpread 0 = .ok (.iload_n 1, 1) := by decide +kernel
theorem dX0_setSpread_1 : decode cX0_setSpread 1 = .ok (.ifCond .lt 9, 3) := by decide +kernel
theorem dX0_setSpread_4 : decode cX0_setSpread 4 = .ok (.iload_n 1, 1) := by decide +kernel
theorem dX0_setSpread_5 : decode cX0_setSpread 5 = .ok (.bipush 50, 2) := by decide +kernel
theorem dX0_setSpread_7 : decode cX0_setSpread 7 = .ok (.if_icmp .le 13, 3) := by decide +kernel
theorem dX0_setSpread_10 : decode cX0_setSpread 10 = .ok (.new 42, 3) := by decide +kernel
theorem dX0_setSpread_13 : decode cX0_setSpread 13 = .ok (.dup, 1) := by decide +kernel
theorem dX0_setSpread_14 : decode cX0_setSpread 14 = .ok (.ldc 51, 2) := by decide +kernel
theorem dX0_setSpread_16 : decode cX0_setSpread 16 = .ok (.invokespecial 46, 3) := by decide +kernel
theorem dX0_setSpread_19 : decode cX0_setSpread 19 = .ok (.athrow, 1) := by decide +kernel
theorem dX0_setSpread_20 : decode cX0_setSpread 20 = .ok (.aload_n 0, 1) := by decide +kernel
theorem dX0_setSpread_21 : decode cX0_setSpread 21 = .ok (.iload_n 1, 1) := by decide +kernel
theorem dX0_setSpread_22 : decode cX0_setSpread 22 = .ok (.putfield 53, 3) := by decide +kernel
theorem dX0_setSpread_25 : decode cX0_setSpread 25 = .ok (.aload_n 0, 1) := by decide +kernel
theorem dX0_setSpread_26 : decode cX0_setSpread 26 = .ok (.invokevirtual 47, 3) := by decide +kernel
theorem dX0_setSpread_29 : decode cX0_setSpread 29 = .ok (.ireturn, 1) := by decide +kernel
theorem dX0_setLimit_0 : decode cX0_setLimit 0 = .ok (.iload_n 1, 1) := by decide +kernel
theorem dX0_setLimit_1 : decode cX0_setLimit 1 = .ok (.invokestatic 31, 3) := by decide +kernel
theorem dX0_setLimit_4 : decode cX0_setLimit 4 = .ok (.ifCond .ne 13, 3) := by decide +kernel
theorem dX0_setLimit_7 : decode cX0_setLimit 7 = .ok (.new 35, 3) := by decide +kernel
theorem dX0_setLimit_10 : decode cX0_setLimit 10 = .ok (.dup, 1) := by decide +kernel
theorem dX0_setLimit_11 : decode cX0_setLimit 11 = .ok (.ldc 37, 2) := by decide +kernel
theorem dX0_setLimit_13 : decode cX0_setLimit 13 = .ok (.invokespecial 39, 3) := by decide +kernel
theorem dX0_setLimit_16 : decode cX0_setLimit 16 = .ok (.athrow, 1) := by decide +kernel
theorem dX0_setLimit_17 : decode cX0_setLimit 17 = .ok (.iload_n 2, 1) := by decide +kernel
theorem dX0_setLimit_18 : decode cX0_setLimit 18 = .ok (.ifCond .lt 9, 3) := by decide +kernel
theorem dX0_setLimit_21 : decode cX0_setLimit 21 = .ok (.iload_n 2, 1) := by decide +kernel
theorem dX0_setLimit_22 : decode cX0_setLimit 22 = .ok (.ldc 57, 2) := by decide +kernel
theorem dX0_setLimit_24 : decode cX0_setLimit 24 = .ok (.if_icmp .le 13, 3) := by decide +kernel
theorem dX0_setLimit_27 : decode cX0_setLimit 27 = .ok (.new 42, 3) := by decide +kernel
theorem dX0_setLimit_30 : decode cX0_setLimit 30 = .ok (.dup, 1) := by decide +kernel
theorem dX0_setLimit_31 : decode cX0_setLimit 31 = .ok (.ldc 58, 2) := by decide +kernel
theorem dX0_setLimit_33 : decode cX0_setLimit 33 = .ok (.invokespecial 46, 3) := by decide +kernel
theorem dX0_setLimit_36 : decode cX0_setLimit 36 = .ok (.athrow, 1) := by decide +kernel
theorem dX0_setLimit_37 : decode cX0_setLimit 37 = .ok (.aload_n 0, 1) := by decide +kernel
theorem dX0_setLimit_38 : decode cX0_setLimit 38 = .ok (.getfield 19, 3) := by decide +kernel
theorem dX0_setLimit_41 : decode cX0_setLimit 41 = .ok (.iload_n 1, 1) := by decide +kernel
theorem dX0_setLimit_42 : decode cX0_setLimit 42 = .ok (.iaload, 1) := by decide +kernel
theorem dX0_setLimit_43 : decode cX0_setLimit 43 = .ok (.istore_n 3, 1) := by decide +kernel
theorem dX0_setLimit_44 : decode cX0_setLimit 44 = .ok (.aload_n 0, 1) := by decide +kernel
theorem dX0_setLimit_45 : decode cX0_setLimit 45 = .ok (.getfield 19, 3) := by decide +kernel
theorem dX0_setLimit_48 : decode cX0_setLimit 48 = .ok (.iload_n 1, 1) := by decide +kernel
theorem dX0_setLimit_49 : decode cX0_setLimit 49 = .ok (.iload_n 2, 1) := by decide +kernel
theorem dX0_setLimit_50 : decode cX0_setLimit 50 = .ok (.iastore, 1) := by decide +kernel
theorem dX0_setLimit_51 : decode cX0_setLimit 51 = .ok (.iload_n 3, 1) := by decide +kernel
theorem dX0_setLimit_52 : decode cX0_setLimit 52 = .ok (.ireturn, 1) := by decide +kernel
theorem dX0_stock_0 : decode cX0_stock 0 = .ok (.iload_n 1, 1) := by decide +kernel
theorem dX0_stock_1 : decode cX0_stock 1 = .ok (.invokestatic 31, 3) := by decide +kernel
theorem dX0_stock_4 : decode cX0_stock 4 = .ok (.ifCond .ne 13, 3) := by decide +kernel
theorem dX0_stock_7 : decode cX0_stock 7 = .ok (.new 35, 3) := by decide +kernel
theorem dX0_stock_10 : decode cX0_stock 10 = .ok (.dup, 1) := by decide +kernel
theorem dX0_stock_11 : decode cX0_stock 11 = .ok (.ldc 37, 2) := by decide +kernel
theorem dX0_stock_13 : decode cX0_stock 13 = .ok (.invokespecial 39, 3) := by decide +kernel
theorem dX0_stock_16 : decode cX0_stock 16 = .ok (.athrow, 1) := by decide +kernel
theorem dX0_stock_17 : decode cX0_stock 17 = .ok (.iload_n 2, 1) := by decide +kernel
theorem dX0_stock_18 : decode cX0_stock 18 = .ok (.invokestatic 60, 3) := by decide +kernel
theorem dX0_stock_21 : decode cX0_stock 21 = .ok (.ifCond .ne 13, 3) := by decide +kernel
theorem dX0_stock_24 : decode cX0_stock 24 = .ok (.new 42, 3) := by decide +kernel
theorem dX0_stock_27 : decode cX0_stock 27 = .ok (.dup, 1) := by decide +kernel
theorem dX0_stock_28 : decode cX0_stock 28 = .ok (.ldc 63, 2) := by decide +kernel
theorem dX0_stock_30 : decode cX0_stock 30 = .ok (.invokespecial 46, 3) := by decide +kernel
theorem dX0_stock_33 : decode cX0_stock 33 = .ok (.athrow, 1) := by decide +kernel
theorem dX0_stock_34 : decode cX0_stock 34 = .ok (.aload_n 0, 1) := by decide +kernel
theorem dX0_stock_35 : decode cX0_stock 35 = .ok (.getfield 13, 3) := by decide +kernel
theorem dX0_stock_38 : decode cX0_stock 38 = .ok (.iload_n 1, 1) := by decide +kernel
theorem dX0_stock_39 : decode cX0_stock 39 = .ok (.aload_n 0, 1) := by decide +kernel
theorem dX0_stock_40 : decode cX0_stock 40 = .ok (.getfield 13, 3) := by decide +kernel
theorem dX0_stock_43 : decode cX0_stock 43 = .ok (.iload_n 1, 1) := by decide +kernel
theorem dX0_stock_44 : decode cX0_stock 44 = .ok (.iaload, 1) := by decide +kernel
theorem dX0_stock_45 : decode cX0_stock 45 = .ok (.iload_n 2, 1) := by decide +kernel
theorem dX0_stock_46 : decode cX0_stock 46 = .ok (.iadd, 1) := by decide +kernel
theorem dX0_stock_47 : decode cX0_stock 47 = .ok (.i2l, 1) := by decide +kernel
theorem dX0_stock_48 : decode cX0_stock 48 = .ok (.invokestatic 65, 3) := by decide +kernel
theorem dX0_stock_51 : decode cX0_stock 51 = .ok (.iastore, 1) := by decide +kernel
theorem dX0_stock_52 : decode cX0_stock 52 = .ok (.aload_n 0, 1) := by decide +kernel
theorem dX0_stock_53 : decode cX0_stock 53 = .ok (.getfield 13, 3) := by decide +kernel
theorem dX0_stock_56 : decode cX0_stock 56 = .ok (.iload_n 1, 1) := by decide +kernel
theorem dX0_stock_57 : decode cX0_stock 57 = .ok (.iaload, 1) := by decide +kernel
theorem dX0_stock_58 : decode cX0_stock 58 = .ok (.ireturn, 1) := by decide +kernel
theorem dX0_next_0 : decode cX0_next 0 = .ok (.aload_n 0, 1) := by decide +kernel
theorem dX0_next_1 : decode cX0_next 1 = .ok (.dup, 1) := by decide +kernel
theorem dX0_next_2 : decode cX0_next 2 = .ok (.getfield 69, 3) := by decide +kernel
theorem dX0_next_5 : decode cX0_next 5 = .ok (.iconst 1, 1) := by decide +kernel
theorem dX0_next_6 : decode cX0_next 6 = .ok (.iadd, 1) := by decide +kernel
theorem dX0_next_7 : decode cX0_next 7 = .ok (.putfield 69, 3) := by decide +kernel
theorem dX0_next_10 : decode cX0_next 10 = .ok (.iconst 0, 1) := by decide +kernel
theorem dX0_next_11 : decode cX0_next 11 = .ok (.istore_n 1, 1) := by decide +kernel
theorem dX0_next_12 : decode cX0_next 12 = .ok (.iload_n 1, 1) := by decide +kernel
theorem dX0_next_13 : decode cX0_next 13 = .ok (.iconst 5, 1) := by decide +kernel
theorem dX0_next_14 : decode cX0_next 14 = .ok (.if_icmp .ge 16, 3) := by decide +kernel
theorem dX0_next_17 : decode cX0_next 17 = .ok (.aload_n 0, 1) := by decide +kernel
theorem dX0_next_18 : decode cX0_next 18 = .ok (.getfield 22, 3) := by decide +kernel
theorem dX0_next_21 : decode cX0_next 21 = .ok (.iload_n 1, 1) := by decide +kernel
theorem dX0_next_22 : decode cX0_next 22 = .ok (.iconst 0, 1) := by decide +kernel
theorem dX0_next_23 : decode cX0_next 23 = .ok (.iastore, 1) := by decide +kernel
theorem dX0_next_24 : decode cX0_next 24 = .ok (.iinc 1 1, 3) := by decide +kernel
theorem dX0_next_27 : decode cX0_next 27 = .ok (.goto (-15), 3) := by decide +kernel
theorem dX0_next_30 : decode cX0_next 30 = .ok (.aload_n 0, 1) := by decide +kernel
theorem dX0_next_31 : decode cX0_next 31 = .ok (.invokevirtual 47, 3) := by decide +kernel
theorem dX0_next_34 : decode cX0_next 34 = .ok (.ireturn, 1) := by decide +kernel
theorem dX0_come_0 : decode cX0_come 0 = .ok (.aload_n 0, 1) := by decide +kernel
theorem dX0_come_1 : decode cX0_come 1 = .ok (.getfield 72, 3) := by decide +kernel
theorem dX0_come_4 : decode cX0_come 4 = .ok (.bipush 6, 2) := by decide +kernel
theorem dX0_come_6 : decode cX0_come 6 = .ok (.if_icmp .lt 13, 3) := by decide +kernel
theorem dX0_come_9 : decode cX0_come 9 = .ok (.new 75, 3) := by decide +kernel
theorem dX0_come_12 : decode cX0_come 12 = .ok (.dup, 1) := by decide +kernel
theorem dX0_come_13 : decode cX0_come 13 = .ok (.ldc 77, 2) := by decide +kernel
theorem dX0_come_15 : decode cX0_come 15 = .ok (.invokespecial 79, 3) := by decide +kernel
theorem dX0_come_18 : decode cX0_come 18 = .ok (.athrow, 1) := by decide +kernel
theorem dX0_come_19 : decode cX0_come 19 = .ok (.aload_n 0, 1) := by decide +kernel
theorem dX0_come_20 : decode cX0_come 20 = .ok (.dup, 1) := by decide +kernel
theorem dX0_come_21 : decode cX0_come 21 = .ok (.getfield 72, 3) := by decide +kernel
theorem dX0_come_24 : decode cX0_come 24 = .ok (.iconst 1, 1) := by decide +kernel
theorem dX0_come_25 : decode cX0_come 25 = .ok (.iadd, 1) := by decide +kernel
theorem dX0_come_26 : decode cX0_come 26 = .ok (.putfield 72, 3) := by decide +kernel
theorem dX0_come_29 : decode cX0_come 29 = .ok (.aload_n 0, 1) := by decide +kernel
theorem dX0_come_30 : decode cX0_come 30 = .ok (.getfield 72, 3) := by decide +kernel
theorem dX0_come_33 : decode cX0_come 33 = .ok (.iconst 1, 1) := by decide +kernel
theorem dX0_come_34 : decode cX0_come 34 = .ok (.isub, 1) := by decide +kernel
theorem dX0_come_35 : decode cX0_come 35 = .ok (.ireturn, 1) := by decide +kernel
theorem dX0_earn_0 : decode cX0_earn 0 = .ok (.aload_n 0, 1) := by decide +kernel
theorem dX0_earn_1 : decode cX0_earn 1 = .ok (.iload_n 1, 1) := by decide +kernel
theorem dX0_earn_2 : decode cX0_earn 2 = .ok (.invokevirtual 80, 3) := by decide +kernel
theorem dX0_earn_5 : decode cX0_earn 5 = .ok (.ifCond .eq 10, 3) := by decide +kernel
theorem dX0_earn_8 : decode cX0_earn 8 = .ok (.iload_n 2, 1) := by decide +kernel
theorem dX0_earn_9 : decode cX0_earn 9 = .ok (.invokestatic 31, 3) := by decide +kernel
theorem dX0_earn_12 : decode cX0_earn 12 = .ok (.ifCond .ne 13, 3) := by decide +kernel
theorem dX0_earn_15 : decode cX0_earn 15 = .ok (.new 35, 3) := by decide +kernel
theorem dX0_earn_18 : decode cX0_earn 18 = .ok (.dup, 1) := by decide +kernel
theorem dX0_earn_19 : decode cX0_earn 19 = .ok (.ldc 83, 2) := by decide +kernel
theorem dX0_earn_21 : decode cX0_earn 21 = .ok (.invokespecial 39, 3) := by decide +kernel
theorem dX0_earn_24 : decode cX0_earn 24 = .ok (.athrow, 1) := by decide +kernel
theorem dX0_earn_25 : decode cX0_earn 25 = .ok (.iload_n 3, 1) := by decide +kernel
theorem dX0_earn_26 : decode cX0_earn 26 = .ok (.invokestatic 60, 3) := by decide +kernel
theorem dX0_earn_29 : decode cX0_earn 29 = .ok (.ifCond .ne 13, 3) := by decide +kernel
theorem dX0_earn_32 : decode cX0_earn 32 = .ok (.new 42, 3) := by decide +kernel
theorem dX0_earn_35 : decode cX0_earn 35 = .ok (.dup, 1) := by decide +kernel
theorem dX0_earn_36 : decode cX0_earn 36 = .ok (.ldc 85, 2) := by decide +kernel
theorem dX0_earn_38 : decode cX0_earn 38 = .ok (.invokespecial 46, 3) := by decide +kernel
theorem dX0_earn_41 : decode cX0_earn 41 = .ok (.athrow, 1) := by decide +kernel
theorem dX0_earn_42 : decode cX0_earn 42 = .ok (.iload_n 1, 1) := by decide +kernel
theorem dX0_earn_43 : decode cX0_earn 43 = .ok (.iconst 5, 1) := by decide +kernel
theorem dX0_earn_44 : decode cX0_earn 44 = .ok (.imul, 1) := by decide +kernel
theorem dX0_earn_45 : decode cX0_earn 45 = .ok (.iload_n 2, 1) := by decide +kernel
theorem dX0_earn_46 : decode cX0_earn 46 = .ok (.iadd, 1) := by decide +kernel
theorem dX0_earn_47 : decode cX0_earn 47 = .ok (.istore 4, 2) := by decide +kernel
theorem dX0_earn_49 : decode cX0_earn 49 = .ok (.aload_n 0, 1) := by decide +kernel
theorem dX0_earn_50 : decode cX0_earn 50 = .ok (.getfield 25, 3) := by decide +kernel
theorem dX0_earn_53 : decode cX0_earn 53 = .ok (.iload 4, 2) := by decide +kernel
theorem dX0_earn_55 : decode cX0_earn 55 = .ok (.aload_n 0, 1) := by decide +kernel
theorem dX0_earn_56 : decode cX0_earn 56 = .ok (.getfield 25, 3) := by decide +kernel
theorem dX0_earn_59 : decode cX0_earn 59 = .ok (.iload 4, 2) := by decide +kernel
theorem dX0_earn_61 : decode cX0_earn 61 = .ok (.iaload, 1) := by decide +kernel
theorem dX0_earn_62 : decode cX0_earn 62 = .ok (.iload_n 3, 1) := by decide +kernel
theorem dX0_earn_63 : decode cX0_earn 63 = .ok (.iadd, 1) := by decide +kernel
theorem dX0_earn_64 : decode cX0_earn 64 = .ok (.i2l, 1) := by decide +kernel
theorem dX0_earn_65 : decode cX0_earn 65 = .ok (.invokestatic 65, 3) := by decide +kernel
theorem dX0_earn_68 : decode cX0_earn 68 = .ok (.iastore, 1) := by decide +kernel
theorem dX0_earn_69 : decode cX0_earn 69 = .ok (.aload_n 0, 1) := by decide +kernel
theorem dX0_earn_70 : decode cX0_earn 70 = .ok (.getfield 25, 3) := by decide +kernel
theorem dX0_earn_73 : decode cX0_earn 73 = .ok (.iload 4, 2) := by decide +kernel
theorem dX0_earn_75 : decode cX0_earn 75 = .ok (.iaload, 1) := by decide +kernel
theorem dX0_earn_76 : decode cX0_earn 76 = .ok (.ireturn, 1) := by decide +kernel
theorem dX0_change_0 : decode cX0_change 0 = .ok (.aload_n 0, 1) := by decide +kernel
theorem dX0_change_1 : decode cX0_change 1 = .ok (.iload_n 1, 1) := by decide +kernel
theorem dX0_change_2 : decode cX0_change 2 = .ok (.invokevirtual 80, 3) := by decide +kernel
theorem dX0_change_5 : decode cX0_change 5 = .ok (.ifCond .eq 17, 3) := by decide +kernel
theorem dX0_change_8 : decode cX0_change 8 = .ok (.iload_n 2, 1) := by decide +kernel
theorem dX0_change_9 : decode cX0_change 9 = .ok (.invokestatic 31, 3) := by decide +kernel
theorem dX0_change_12 : decode cX0_change 12 = .ok (.ifCond .eq 10, 3) := by decide +kernel
theorem dX0_change_15 : decode cX0_change 15 = .ok (.iload_n 3, 1) := by decide +kernel
theorem dX0_change_16 : decode cX0_change 16 = .ok (.invokestatic 31, 3) := by decide +kernel
theorem dX0_change_19 : decode cX0_change 19 = .ok (.ifCond .ne 13, 3) := by decide +kernel
theorem dX0_change_22 : decode cX0_change 22 = .ok (.new 35, 3) := by decide +kernel
theorem dX0_change_25 : decode cX0_change 25 = .ok (.dup, 1) := by decide +kernel
theorem dX0_change_26 : decode cX0_change 26 = .ok (.ldc 83, 2) := by decide +kernel
theorem dX0_change_28 : decode cX0_change 28 = .ok (.invokespecial 39, 3) := by decide +kernel
theorem dX0_change_31 : decode cX0_change 31 = .ok (.athrow, 1) := by decide +kernel
theorem dX0_change_32 : decode cX0_change 32 = .ok (.aload_n 0, 1) := by decide +kernel
theorem dX0_change_33 : decode cX0_change 33 = .ok (.iload_n 1, 1) := by decide +kernel
theorem dX0_change_34 : decode cX0_change 34 = .ok (.iload_n 2, 1) := by decide +kernel
theorem dX0_change_35 : decode cX0_change 35 = .ok (.iload_n 3, 1) := by decide +kernel
theorem dX0_change_36 : decode cX0_change 36 = .ok (.iload 4, 2) := by decide +kernel
theorem dX0_change_38 : decode cX0_change 38 = .ok (.iconst 1, 1) := by decide +kernel
theorem dX0_change_39 : decode cX0_change 39 = .ok (.invokevirtual 87, 3) := by decide +kernel
theorem dX0_change_42 : decode cX0_change 42 = .ok (.istore 5, 2) := by decide +kernel
theorem dX0_change_44 : decode cX0_change 44 = .ok (.iload 5, 2) := by decide +kernel
theorem dX0_change_46 : decode cX0_change 46 = .ok (.ifCond .ne 13, 3) := by decide +kernel
theorem dX0_change_49 : decode cX0_change 49 = .ok (.new 75, 3) := by decide +kernel
theorem dX0_change_52 : decode cX0_change 52 = .ok (.dup, 1) := by decide +kernel
theorem dX0_change_53 : decode cX0_change 53 = .ok (.ldc 91, 2) := by decide +kernel
theorem dX0_change_55 : decode cX0_change 55 = .ok (.invokespecial 79, 3) := by decide +kernel
theorem dX0_change_58 : decode cX0_change 58 = .ok (.athrow, 1) := by decide +kernel
theorem dX0_change_59 : decode cX0_change 59 = .ok (.iload 5, 2) := by decide +kernel
theorem dX0_change_61 : decode cX0_change 61 = .ok (.ireturn, 1) := by decide +kernel
theorem dX0_order_0 : decode cX0_order 0 = .ok (.aload_n 0, 1) := by decide +kernel
theorem dX0_order_1 : decode cX0_order 1 = .ok (.iload_n 1, 1) := by decide +kernel
theorem dX0_order_2 : decode cX0_order 2 = .ok (.invokevirtual 80, 3) := by decide +kernel
theorem dX0_order_5 : decode cX0_order 5 = .ok (.ifCond .eq 17, 3) := by decide +kernel
theorem dX0_order_8 : decode cX0_order 8 = .ok (.iload_n 2, 1) := by decide +kernel
theorem dX0_order_9 : decode cX0_order 9 = .ok (.invokestatic 31, 3) := by decide +kernel
theorem dX0_order_12 : decode cX0_order 12 = .ok (.ifCond .eq 10, 3) := by decide +kernel
theorem dX0_order_15 : decode cX0_order 15 = .ok (.iload_n 3, 1) := by decide +kernel
theorem dX0_order_16 : decode cX0_order 16 = .ok (.invokestatic 31, 3) := by decide +kernel
theorem dX0_order_19 : decode cX0_order 19 = .ok (.ifCond .ne 13, 3) := by decide +kernel
theorem dX0_order_22 : decode cX0_order 22 = .ok (.new 35, 3) := by decide +kernel
theorem dX0_order_25 : decode cX0_order 25 = .ok (.dup, 1) := by decide +kernel
theorem dX0_order_26 : decode cX0_order 26 = .ok (.ldc 83, 2) := by decide +kernel
theorem dX0_order_28 : decode cX0_order 28 = .ok (.invokespecial 39, 3) := by decide +kernel
theorem dX0_order_31 : decode cX0_order 31 = .ok (.athrow, 1) := by decide +kernel
theorem dX0_order_32 : decode cX0_order 32 = .ok (.iload_n 2, 1) := by decide +kernel
theorem dX0_order_33 : decode cX0_order 33 = .ok (.iload_n 3, 1) := by decide +kernel
theorem dX0_order_34 : decode cX0_order 34 = .ok (.if_icmp .eq 19, 3) := by decide +kernel
theorem dX0_order_37 : decode cX0_order 37 = .ok (.iload 4, 2) := by decide +kernel
theorem dX0_order_39 : decode cX0_order 39 = .ok (.invokestatic 60, 3) := by decide +kernel
theorem dX0_order_42 : decode cX0_order 42 = .ok (.ifCond .eq 11, 3) := by decide +kernel
theorem dX0_order_45 : decode cX0_order 45 = .ok (.iload 5, 2) := by decide +kernel
theorem dX0_order_47 : decode cX0_order 47 = .ok (.invokestatic 60, 3) := by decide +kernel
theorem dX0_order_50 : decode cX0_order 50 = .ok (.ifCond .ne 13, 3) := by decide +kernel
theorem dX0_order_53 : decode cX0_order 53 = .ok (.new 42, 3) := by decide +kernel
theorem dX0_order_56 : decode cX0_order 56 = .ok (.dup, 1) := by decide +kernel
theorem dX0_order_57 : decode cX0_order 57 = .ok (.ldc 93, 2) := by decide +kernel
theorem dX0_order_59 : decode cX0_order 59 = .ok (.invokespecial 46, 3) := by decide +kernel
theorem dX0_order_62 : decode cX0_order 62 = .ok (.athrow, 1) := by decide +kernel
theorem dX0_order_63 : decode cX0_order 63 = .ok (.aload_n 0, 1) := by decide +kernel
theorem dX0_order_64 : decode cX0_order 64 = .ok (.getfield 95, 3) := by decide +kernel
theorem dX0_order_67 : decode cX0_order 67 = .ok (.bipush 10, 2) := by decide +kernel
theorem dX0_order_69 : decode cX0_order 69 = .ok (.if_icmp .lt 13, 3) := by decide +kernel
theorem dX0_order_72 : decode cX0_order 72 = .ok (.new 75, 3) := by decide +kernel
theorem dX0_order_75 : decode cX0_order 75 = .ok (.dup, 1) := by decide +kernel
theorem dX0_order_76 : decode cX0_order 76 = .ok (.ldc 98, 2) := by decide +kernel
theorem dX0_order_78 : decode cX0_order 78 = .ok (.invokespecial 79, 3) := by decide +kernel
theorem dX0_order_81 : decode cX0_order 81 = .ok (.athrow, 1) := by decide +kernel
theorem dX0_order_82 : decode cX0_order 82 = .ok (.aload_n 0, 1) := by decide +kernel
theorem dX0_order_83 : decode cX0_order 83 = .ok (.aload_n 0, 1) := by decide +kernel
theorem dX0_order_84 : decode cX0_order 84 = .ok (.getfield 95, 3) := by decide +kernel
theorem dX0_order_87 : decode cX0_order 87 = .ok (.iconst 0, 1) := by decide +kernel
theorem dX0_order_88 : decode cX0_order 88 = .ok (.iload_n 1, 1) := by decide +kernel
theorem dX0_order_89 : decode cX0_order 89 = .ok (.invokevirtual 100, 3) := by decide +kernel
theorem dX0_order_92 : decode cX0_order 92 = .ok (.aload_n 0, 1) := by decide +kernel
theorem dX0_order_93 : decode cX0_order 93 = .ok (.aload_n 0, 1) := by decide +kernel
theorem dX0_order_94 : decode cX0_order 94 = .ok (.getfield 95, 3) := by decide +kernel
theorem dX0_order_97 : decode cX0_order 97 = .ok (.iconst 1, 1) := by decide +kernel
theorem dX0_order_98 : decode cX0_order 98 = .ok (.iload_n 2, 1) := by decide +kernel
theorem dX0_order_99 : decode cX0_order 99 = .ok (.invokevirtual 100, 3) := by decide +kernel
theorem dX0_order_102 : decode cX0_order 102 = .ok (.aload_n 0, 1) := by decide +kernel
theorem dX0_order_103 : decode cX0_order 103 = .ok (.aload_n 0, 1) := by decide +kernel
theorem dX0_order_104 : decode cX0_order 104 = .ok (.getfield 95, 3) := by decide +kernel
theorem dX0_order_107 : decode cX0_order 107 = .ok (.iconst 2, 1) := by decide +kernel
theorem dX0_order_108 : decode cX0_order 108 = .ok (.iload_n 3, 1) := by decide +kernel
theorem dX0_order_109 : decode cX0_order 109 = .ok (.invokevirtual 100, 3) := by decide +kernel
theorem dX0_order_112 : decode cX0_order 112 = .ok (.aload_n 0, 1) := by decide +kernel
theorem dX0_order_113 : decode cX0_order 113 = .ok (.aload_n 0, 1) := by decide +kernel
theorem dX0_order_114 : decode cX0_order 114 = .ok (.getfield 95, 3) := by decide +kernel
theorem dX0_order_117 : decode cX0_order 117 = .ok (.iconst 3, 1) := by decide +kernel
theorem dX0_order_118 : decode cX0_order 118 = .ok (.iload 4, 2) := by decide +kernel
theorem dX0_order_120 : decode cX0_order 120 = .ok (.invokevirtual 100, 3) := by decide +kernel
theorem dX0_order_123 : decode cX0_order 123 = .ok (.aload_n 0, 1) := by decide +kernel
theorem dX0_order_124 : decode cX0_order 124 = .ok (.aload_n 0, 1) := by decide +kernel
theorem dX0_order_125 : decode cX0_order 125 = .ok (.getfield 95, 3) := by decide +kernel
theorem dX0_order_128 : decode cX0_order 128 = .ok (.iconst 4, 1) := by decide +kernel
theorem dX0_order_129 : decode cX0_order 129 = .ok (.iload 5, 2) := by decide +kernel
theorem dX0_order_131 : decode cX0_order 131 = .ok (.invokevirtual 100, 3) := by decide +kernel
theorem dX0_order_134 : decode cX0_order 134 = .ok (.aload_n 0, 1) := by decide +kernel
theorem dX0_order_135 : decode cX0_order 135 = .ok (.dup, 1) := by decide +kernel
theorem dX0_order_136 : decode cX0_order 136 = .ok (.getfield 95, 3) := by decide +kernel
theorem dX0_order_139 : decode cX0_order 139 = .ok (.iconst 1, 1) := by decide +kernel
theorem dX0_order_140 : decode cX0_order 140 = .ok (.iadd, 1) := by decide +kernel
theorem dX0_order_141 : decode cX0_order 141 = .ok (.putfield 95, 3) := by decide +kernel
theorem dX0_order_144 : decode cX0_order 144 = .ok (.aload_n 0, 1) := by decide +kernel
theorem dX0_order_145 : decode cX0_order 145 = .ok (.getfield 95, 3) := by decide +kernel
theorem dX0_order_148 : decode cX0_order 148 = .ok (.ireturn, 1) := by decide +kernel
theorem dX0_cancel_0 : decode cX0_cancel 0 = .ok (.aload_n 0, 1) := by decide +kernel
theorem dX0_cancel_1 : decode cX0_cancel 1 = .ok (.iload_n 1, 1) := by decide +kernel
theorem dX0_cancel_2 : decode cX0_cancel 2 = .ok (.invokevirtual 104, 3) := by decide +kernel
theorem dX0_cancel_5 : decode cX0_cancel 5 = .ok (.ifCond .ne 13, 3) := by decide +kernel
theorem dX0_cancel_8 : decode cX0_cancel 8 = .ok (.new 35, 3) := by decide +kernel
theorem dX0_cancel_11 : decode cX0_cancel 11 = .ok (.dup, 1) := by decide +kernel
theorem dX0_cancel_12 : decode cX0_cancel 12 = .ok (.ldc 107, 2) := by decide +kernel
theorem dX0_cancel_14 : decode cX0_cancel 14 = .ok (.invokespecial 39, 3) := by decide +kernel
theorem dX0_cancel_17 : decode cX0_cancel 17 = .ok (.athrow, 1) := by decide +kernel
theorem dX0_cancel_18 : decode cX0_cancel 18 = .ok (.aload_n 0, 1) := by decide +kernel
theorem dX0_cancel_19 : decode cX0_cancel 19 = .ok (.iload_n 1, 1) := by decide +kernel
theorem dX0_cancel_20 : decode cX0_cancel 20 = .ok (.iconst 0, 1) := by decide +kernel
theorem dX0_cancel_21 : decode cX0_cancel 21 = .ok (.invokevirtual 109, 3) := by decide +kernel
theorem dX0_cancel_24 : decode cX0_cancel 24 = .ok (.istore_n 2, 1) := by decide +kernel
theorem dX0_cancel_25 : decode cX0_cancel 25 = .ok (.iload_n 1, 1) := by decide +kernel
theorem dX0_cancel_26 : decode cX0_cancel 26 = .ok (.iconst 1, 1) := by decide +kernel
theorem dX0_cancel_27 : decode cX0_cancel 27 = .ok (.iadd, 1) := by decide +kernel
theorem dX0_cancel_28 : decode cX0_cancel 28 = .ok (.istore_n 3, 1) := by decide +kernel
theorem dX0_cancel_29 : decode cX0_cancel 29 = .ok (.iload_n 3, 1) := by decide +kernel
theorem dX0_cancel_30 : decode cX0_cancel 30 = .ok (.aload_n 0, 1) := by decide +kernel
theorem dX0_cancel_31 : decode cX0_cancel 31 = .ok (.getfield 95, 3) := by decide +kernel
theorem dX0_cancel_34 : decode cX0_cancel 34 = .ok (.if_icmp .ge 17, 3) := by decide +kernel
theorem dX0_cancel_37 : decode cX0_cancel 37 = .ok (.aload_n 0, 1) := by decide +kernel
theorem dX0_cancel_38 : decode cX0_cancel 38 = .ok (.iload_n 3, 1) := by decide +kernel
theorem dX0_cancel_39 : decode cX0_cancel 39 = .ok (.iload_n 3, 1) := by decide +kernel
theorem dX0_cancel_40 : decode cX0_cancel 40 = .ok (.iconst 1, 1) := by decide +kernel
theorem dX0_cancel_41 : decode cX0_cancel 41 = .ok (.isub, 1) := by decide +kernel
theorem dX0_cancel_42 : decode cX0_cancel 42 = .ok (.invokevirtual 113, 3) := by decide +kernel
theorem dX0_cancel_45 : decode cX0_cancel 45 = .ok (.iinc 3 1, 3) := by decide +kernel
theorem dX0_cancel_48 : decode cX0_cancel 48 = .ok (.goto (-19), 3) := by decide +kernel
theorem dX0_cancel_51 : decode cX0_cancel 51 = .ok (.aload_n 0, 1) := by decide +kernel
theorem dX0_cancel_52 : decode cX0_cancel 52 = .ok (.dup, 1) := by decide +kernel
theorem dX0_cancel_53 : decode cX0_cancel 53 = .ok (.getfield 95, 3) := by decide +kernel
theorem dX0_cancel_56 : decode cX0_cancel 56 = .ok (.iconst 1, 1) := by decide +kernel
theorem dX0_cancel_57 : decode cX0_cancel 57 = .ok (.isub, 1) := by decide +kernel
theorem dX0_cancel_58 : decode cX0_cancel 58 = .ok (.putfield 95, 3) := by decide +kernel
theorem dX0_cancel_61 : decode cX0_cancel 61 = .ok (.iload_n 2, 1) := by decide +kernel
theorem dX0_cancel_62 : decode cX0_cancel 62 = .ok (.ireturn, 1) := by decide +kernel
theorem dX0_has_0 : decode cX0_has 0 = .ok (.aload_n 0, 1) := by decide +kernel
theorem dX0_has_1 : decode cX0_has 1 = .ok (.iload_n 1, 1) := by decide +kernel
theorem dX0_has_2 : decode cX0_has 2 = .ok (.invokevirtual 80, 3) := by decide +kernel
theorem dX0_has_5 : decode cX0_has 5 = .ok (.ifCond .eq 10, 3) := by decide +kernel
theorem dX0_has_8 : decode cX0_has 8 = .ok (.iload_n 2, 1) := by decide +kernel
theorem dX0_has_9 : decode cX0_has 9 = .ok (.invokestatic 31, 3) := by decide +kernel
theorem dX0_has_12 : decode cX0_has 12 = .ok (.ifCond .ne 13, 3) := by decide +kernel
theorem dX0_has_15 : decode cX0_has 15 = .ok (.new 35, 3) := by decide +kernel
theorem dX0_has_18 : decode cX0_has 18 = .ok (.dup, 1) := by decide +kernel
theorem dX0_has_19 : decode cX0_has 19 = .ok (.ldc 83, 2) := by decide +kernel
theorem dX0_has_21 : decode cX0_has 21 = .ok (.invokespecial 39, 3) := by decide +kernel
theorem dX0_has_24 : decode cX0_has 24 = .ok (.athrow, 1) := by decide +kernel
theorem dX0_has_25 : decode cX0_has 25 = .ok (.aload_n 0, 1) := by decide +kernel
theorem dX0_has_26 : decode cX0_has 26 = .ok (.iload_n 1, 1) := by decide +kernel
theorem dX0_has_27 : decode cX0_has 27 = .ok (.iload_n 2, 1) := by decide +kernel
theorem dX0_has_28 : decode cX0_has 28 = .ok (.invokevirtual 117, 3) := by decide +kernel
theorem dX0_has_31 : decode cX0_has 31 = .ok (.ireturn, 1) := by decide +kernel
theorem dX0_told_0 : decode cX0_told 0 = .ok (.iload_n 1, 1) := by decide +kernel
theorem dX0_told_1 : decode cX0_told 1 = .ok (.invokestatic 31, 3) := by decide +kernel
theorem dX0_told_4 : decode cX0_told 4 = .ok (.ifCond .eq 12, 3) := by decide +kernel
theorem dX0_told_7 : decode cX0_told 7 = .ok (.iload_n 2, 1) := by decide +kernel
theorem dX0_told_8 : decode cX0_told 8 = .ok (.ifCond .lt 8, 3) := by decide +kernel
theorem dX0_told_11 : decode cX0_told 11 = .ok (.iload_n 2, 1) := by decide +kernel
theorem dX0_told_12 : decode cX0_told 12 = .ok (.iconst 5, 1) := by decide +kernel
theorem dX0_told_13 : decode cX0_told 13 = .ok (.if_icmp .lt 13, 3) := by decide +kernel
theorem dX0_told_16 : decode cX0_told 16 = .ok (.new 35, 3) := by decide +kernel
theorem dX0_told_19 : decode cX0_told 19 = .ok (.dup, 1) := by decide +kernel
theorem dX0_told_20 : decode cX0_told 20 = .ok (.ldc 120, 2) := by decide +kernel
theorem dX0_told_22 : decode cX0_told 22 = .ok (.invokespecial 39, 3) := by decide +kernel
theorem dX0_told_25 : decode cX0_told 25 = .ok (.athrow, 1) := by decide +kernel
theorem dX0_told_26 : decode cX0_told 26 = .ok (.aload_n 0, 1) := by decide +kernel
theorem dX0_told_27 : decode cX0_told 27 = .ok (.iload_n 1, 1) := by decide +kernel
theorem dX0_told_28 : decode cX0_told 28 = .ok (.iload_n 2, 1) := by decide +kernel
theorem dX0_told_29 : decode cX0_told 29 = .ok (.invokevirtual 122, 3) := by decide +kernel
theorem dX0_told_32 : decode cX0_told 32 = .ok (.ireturn, 1) := by decide +kernel
theorem dX0_about_0 : decode cX0_about 0 = .ok (.aload_n 0, 1) := by decide +kernel
theorem dX0_about_1 : decode cX0_about 1 = .ok (.iload_n 1, 1) := by decide +kernel
theorem dX0_about_2 : decode cX0_about 2 = .ok (.invokevirtual 104, 3) := by decide +kernel
theorem dX0_about_5 : decode cX0_about 5 = .ok (.ifCond .eq 12, 3) := by decide +kernel
theorem dX0_about_8 : decode cX0_about 8 = .ok (.iload_n 2, 1) := by decide +kernel
theorem dX0_about_9 : decode cX0_about 9 = .ok (.ifCond .lt 8, 3) := by decide +kernel
theorem dX0_about_12 : decode cX0_about 12 = .ok (.iload_n 2, 1) := by decide +kernel
theorem dX0_about_13 : decode cX0_about 13 = .ok (.iconst 5, 1) := by decide +kernel
theorem dX0_about_14 : decode cX0_about 14 = .ok (.if_icmp .lt 13, 3) := by decide +kernel
theorem dX0_about_17 : decode cX0_about 17 = .ok (.new 35, 3) := by decide +kernel
theorem dX0_about_20 : decode cX0_about 20 = .ok (.dup, 1) := by decide +kernel
theorem dX0_about_21 : decode cX0_about 21 = .ok (.ldc 125, 2) := by decide +kernel
theorem dX0_about_23 : decode cX0_about 23 = .ok (.invokespecial 39, 3) := by decide +kernel
theorem dX0_about_26 : decode cX0_about 26 = .ok (.athrow, 1) := by decide +kernel
theorem dX0_about_27 : decode cX0_about 27 = .ok (.aload_n 0, 1) := by decide +kernel
theorem dX0_about_28 : decode cX0_about 28 = .ok (.iload_n 1, 1) := by decide +kernel
theorem dX0_about_29 : decode cX0_about 29 = .ok (.iload_n 2, 1) := by decide +kernel
theorem dX0_about_30 : decode cX0_about 30 = .ok (.invokevirtual 109, 3) := by decide +kernel
theorem dX0_about_33 : decode cX0_about 33 = .ok (.ireturn, 1) := by decide +kernel
theorem dX0_count_0 : decode cX0_count 0 = .ok (.iload_n 1, 1) := by decide +kernel
theorem dX0_count_1 : decode cX0_count 1 = .ok (.ifCond .lt 9, 3) := by decide +kernel
theorem dX0_count_4 : decode cX0_count 4 = .ok (.iload_n 1, 1) := by decide +kernel
theorem dX0_count_5 : decode cX0_count 5 = .ok (.bipush 7, 2) := by decide +kernel
theorem dX0_count_7 : decode cX0_count 7 = .ok (.if_icmp .lt 13, 3) := by decide +kernel
theorem dX0_count_10 : decode cX0_count 10 = .ok (.new 35, 3) := by decide +kernel
theorem dX0_count_13 : decode cX0_count 13 = .ok (.dup, 1) := by decide +kernel
theorem dX0_count_14 : decode cX0_count 14 = .ok (.ldc 127, 2) := by decide +kernel
theorem dX0_count_16 : decode cX0_count 16 = .ok (.invokespecial 39, 3) := by decide +kernel
theorem dX0_count_19 : decode cX0_count 19 = .ok (.athrow, 1) := by decide +kernel
theorem dX0_count_20 : decode cX0_count 20 = .ok (.aload_n 0, 1) := by decide +kernel
theorem dX0_count_21 : decode cX0_count 21 = .ok (.iload_n 1, 1) := by decide +kernel
theorem dX0_count_22 : decode cX0_count 22 = .ok (.invokevirtual 129, 3) := by decide +kernel
theorem dX0_count_25 : decode cX0_count 25 = .ok (.ireturn, 1) := by decide +kernel
theorem dX0_would_0 : decode cX0_would 0 = .ok (.iload_n 1, 1) := by decide +kernel
theorem dX0_would_1 : decode cX0_would 1 = .ok (.invokestatic 31, 3) := by decide +kernel
theorem dX0_would_4 : decode cX0_would 4 = .ok (.ifCond .eq 10, 3) := by decide +kernel
theorem dX0_would_7 : decode cX0_would 7 = .ok (.iload_n 2, 1) := by decide +kernel
theorem dX0_would_8 : decode cX0_would 8 = .ok (.invokestatic 31, 3) := by decide +kernel
theorem dX0_would_11 : decode cX0_would 11 = .ok (.ifCond .ne 13, 3) := by decide +kernel
theorem dX0_would_14 : decode cX0_would 14 = .ok (.new 35, 3) := by decide +kernel
theorem dX0_would_17 : decode cX0_would 17 = .ok (.dup, 1) := by decide +kernel
theorem dX0_would_18 : decode cX0_would 18 = .ok (.ldc 37, 2) := by decide +kernel
theorem dX0_would_20 : decode cX0_would 20 = .ok (.invokespecial 39, 3) := by decide +kernel
theorem dX0_would_23 : decode cX0_would 23 = .ok (.athrow, 1) := by decide +kernel
theorem dX0_would_24 : decode cX0_would 24 = .ok (.iload_n 3, 1) := by decide +kernel
theorem dX0_would_25 : decode cX0_would 25 = .ok (.invokestatic 133, 3) := by decide +kernel
theorem dX0_would_28 : decode cX0_would 28 = .ok (.ifCond .ne 13, 3) := by decide +kernel
theorem dX0_would_31 : decode cX0_would 31 = .ok (.new 42, 3) := by decide +kernel
theorem dX0_would_34 : decode cX0_would 34 = .ok (.dup, 1) := by decide +kernel
theorem dX0_would_35 : decode cX0_would 35 = .ok (.ldc 136, 2) := by decide +kernel
theorem dX0_would_37 : decode cX0_would 37 = .ok (.invokespecial 46, 3) := by decide +kernel
theorem dX0_would_40 : decode cX0_would 40 = .ok (.athrow, 1) := by decide +kernel
theorem dX0_would_41 : decode cX0_would 41 = .ok (.iload_n 1, 1) := by decide +kernel
theorem dX0_would_42 : decode cX0_would 42 = .ok (.iload_n 2, 1) := by decide +kernel
theorem dX0_would_43 : decode cX0_would 43 = .ok (.if_icmp .ne 5, 3) := by decide +kernel
theorem dX0_would_46 : decode cX0_would 46 = .ok (.iload_n 3, 1) := by decide +kernel
theorem dX0_would_47 : decode cX0_would 47 = .ok (.ireturn, 1) := by decide +kernel
theorem dX0_would_48 : decode cX0_would 48 = .ok (.aload_n 0, 1) := by decide +kernel
theorem dX0_would_49 : decode cX0_would 49 = .ok (.iload_n 1, 1) := by decide +kernel
theorem dX0_would_50 : decode cX0_would 50 = .ok (.iload_n 2, 1) := by decide +kernel
theorem dX0_would_51 : decode cX0_would 51 = .ok (.iload_n 3, 1) := by decide +kernel
theorem dX0_would_52 : decode cX0_would 52 = .ok (.i2l, 1) := by decide +kernel
theorem dX0_would_53 : decode cX0_would 53 = .ok (.invokevirtual 138, 3) := by decide +kernel
theorem dX0_would_56 : decode cX0_would 56 = .ok (.invokestatic 142, 3) := by decide +kernel
theorem dX0_would_59 : decode cX0_would 59 = .ok (.l2i, 1) := by decide +kernel
theorem dX0_would_60 : decode cX0_would 60 = .ok (.ireturn, 1) := by decide +kernel
theorem dX0_way_0 : decode cX0_way 0 = .ok (.iload_n 1, 1) := by decide +kernel
theorem dX0_way_1 : decode cX0_way 1 = .ok (.invokestatic 31, 3) := by decide +kernel
theorem dX0_way_4 : decode cX0_way 4 = .ok (.ifCond .eq 10, 3) := by decide +kernel
theorem dX0_way_7 : decode cX0_way 7 = .ok (.iload_n 2, 1) := by decide +kernel
theorem dX0_way_8 : decode cX0_way 8 = .ok (.invokestatic 31, 3) := by decide +kernel
theorem dX0_way_11 : decode cX0_way 11 = .ok (.ifCond .ne 13, 3) := by decide +kernel
theorem dX0_way_14 : decode cX0_way 14 = .ok (.new 35, 3) := by decide +kernel
theorem dX0_way_17 : decode cX0_way 17 = .ok (.dup, 1) := by decide +kernel
theorem dX0_way_18 : decode cX0_way 18 = .ok (.ldc 37, 2) := by decide +kernel
theorem dX0_way_20 : decode cX0_way 20 = .ok (.invokespecial 39, 3) := by decide +kernel
theorem dX0_way_23 : decode cX0_way 23 = .ok (.athrow, 1) := by decide +kernel
theorem dX0_way_24 : decode cX0_way 24 = .ok (.iload_n 1, 1) := by decide +kernel
theorem dX0_way_25 : decode cX0_way 25 = .ok (.iload_n 2, 1) := by decide +kernel
theorem dX0_way_26 : decode cX0_way 26 = .ok (.if_icmp .eq 10, 3) := by decide +kernel
theorem dX0_way_29 : decode cX0_way 29 = .ok (.iload_n 3, 1) := by decide +kernel
theorem dX0_way_30 : decode cX0_way 30 = .ok (.invokestatic 133, 3) := by decide +kernel
theorem dX0_way_33 : decode cX0_way 33 = .ok (.ifCond .ne 13, 3) := by decide +kernel
theorem dX0_way_36 : decode cX0_way 36 = .ok (.new 42, 3) := by decide +kernel
theorem dX0_way_39 : decode cX0_way 39 = .ok (.dup, 1) := by decide +kernel
theorem dX0_way_40 : decode cX0_way 40 = .ok (.ldc 146, 2) := by decide +kernel
theorem dX0_way_42 : decode cX0_way 42 = .ok (.invokespecial 46, 3) := by decide +kernel
theorem dX0_way_45 : decode cX0_way 45 = .ok (.athrow, 1) := by decide +kernel
theorem dX0_way_46 : decode cX0_way 46 = .ok (.aload_n 0, 1) := by decide +kernel
theorem dX0_way_47 : decode cX0_way 47 = .ok (.iload_n 1, 1) := by decide +kernel
theorem dX0_way_48 : decode cX0_way 48 = .ok (.iload_n 2, 1) := by decide +kernel
theorem dX0_way_49 : decode cX0_way 49 = .ok (.iload_n 3, 1) := by decide +kernel
theorem dX0_way_50 : decode cX0_way 50 = .ok (.i2l, 1) := by decide +kernel
theorem dX0_way_51 : decode cX0_way 51 = .ok (.iload_n 1, 1) := by decide +kernel
theorem dX0_way_52 : decode cX0_way 52 = .ok (.invokestatic 148, 3) := by decide +kernel
theorem dX0_way_55 : decode cX0_way 55 = .ok (.iload_n 2, 1) := by decide +kernel
theorem dX0_way_56 : decode cX0_way 56 = .ok (.invokestatic 148, 3) := by decide +kernel
theorem dX0_way_59 : decode cX0_way 59 = .ok (.ior, 1) := by decide +kernel
theorem dX0_way_60 : decode cX0_way 60 = .ok (.iconst 4, 1) := by decide +kernel
theorem dX0_way_61 : decode cX0_way 61 = .ok (.invokevirtual 151, 3) := by decide +kernel
theorem dX0_way_64 : decode cX0_way 64 = .ok (.l2i, 1) := by decide +kernel
theorem dX0_way_65 : decode cX0_way 65 = .ok (.ireturn, 1) := by decide +kernel
theorem dX0_ring_0 : decode cX0_ring 0 = .ok (.iload_n 1, 1) := by decide +kernel
theorem dX0_ring_1 : decode cX0_ring 1 = .ok (.invokestatic 31, 3) := by decide +kernel
theorem dX0_ring_4 : decode cX0_ring 4 = .ok (.ifCond .ne 13, 3) := by decide +kernel
theorem dX0_ring_7 : decode cX0_ring 7 = .ok (.new 35, 3) := by decide +kernel
theorem dX0_ring_10 : decode cX0_ring 10 = .ok (.dup, 1) := by decide +kernel
theorem dX0_ring_11 : decode cX0_ring 11 = .ok (.ldc 37, 2) := by decide +kernel
theorem dX0_ring_13 : decode cX0_ring 13 = .ok (.invokespecial 39, 3) := by decide +kernel
theorem dX0_ring_16 : decode cX0_ring 16 = .ok (.athrow, 1) := by decide +kernel
theorem dX0_ring_17 : decode cX0_ring 17 = .ok (.iload_n 2, 1) := by decide +kernel
theorem dX0_ring_18 : decode cX0_ring 18 = .ok (.invokestatic 133, 3) := by decide +kernel
theorem dX0_ring_21 : decode cX0_ring 21 = .ok (.ifCond .ne 13, 3) := by decide +kernel
theorem dX0_ring_24 : decode cX0_ring 24 = .ok (.new 42, 3) := by decide +kernel
theorem dX0_ring_27 : decode cX0_ring 27 = .ok (.dup, 1) := by decide +kernel
theorem dX0_ring_28 : decode cX0_ring 28 = .ok (.ldc 136, 2) := by decide +kernel
theorem dX0_ring_30 : decode cX0_ring 30 = .ok (.invokespecial 46, 3) := by decide +kernel
theorem dX0_ring_33 : decode cX0_ring 33 = .ok (.athrow, 1) := by decide +kernel
theorem dX0_ring_34 : decode cX0_ring 34 = .ok (.aload_n 0, 1) := by decide +kernel
theorem dX0_ring_35 : decode cX0_ring 35 = .ok (.iload_n 1, 1) := by decide +kernel
theorem dX0_ring_36 : decode cX0_ring 36 = .ok (.iload_n 1, 1) := by decide +kernel
theorem dX0_ring_37 : decode cX0_ring 37 = .ok (.iload_n 2, 1) := by decide +kernel
theorem dX0_ring_38 : decode cX0_ring 38 = .ok (.i2l, 1) := by decide +kernel
theorem dX0_ring_39 : decode cX0_ring 39 = .ok (.iload_n 1, 1) := by decide +kernel
theorem dX0_ring_40 : decode cX0_ring 40 = .ok (.invokestatic 148, 3) := by decide +kernel
theorem dX0_ring_43 : decode cX0_ring 43 = .ok (.iconst 5, 1) := by decide +kernel
theorem dX0_ring_44 : decode cX0_ring 44 = .ok (.invokevirtual 151, 3) := by decide +kernel
theorem dX0_ring_47 : decode cX0_ring 47 = .ok (.lstore_n 3, 1) := by decide +kernel
theorem dX0_ring_48 : decode cX0_ring 48 = .ok (.lload_n 3, 1) := by decide +kernel
theorem dX0_ring_49 : decode cX0_ring 49 = .ok (.iload_n 2, 1) := by decide +kernel
theorem dX0_ring_50 : decode cX0_ring 50 = .ok (.i2l, 1) := by decide +kernel
theorem dX0_ring_51 : decode cX0_ring 51 = .ok (.lcmp, 1) := by decide +kernel
theorem dX0_ring_52 : decode cX0_ring 52 = .ok (.ifCond .le 11, 3) := by decide +kernel
theorem dX0_ring_55 : decode cX0_ring 55 = .ok (.lload_n 3, 1) := by decide +kernel
theorem dX0_ring_56 : decode cX0_ring 56 = .ok (.iload_n 2, 1) := by decide +kernel
theorem dX0_ring_57 : decode cX0_ring 57 = .ok (.i2l, 1) := by decide +kernel
theorem dX0_ring_58 : decode cX0_ring 58 = .ok (.lsub, 1) := by decide +kernel
theorem dX0_ring_59 : decode cX0_ring 59 = .ok (.l2i, 1) := by decide +kernel
theorem dX0_ring_60 : decode cX0_ring 60 = .ok (.goto 4, 3) := by decide +kernel
theorem dX0_ring_63 : decode cX0_ring 63 = .ok (.iconst 0, 1) := by decide +kernel
theorem dX0_ring_64 : decode cX0_ring 64 = .ok (.ireturn, 1) := by decide +kernel
theorem dX0_needs_0 : decode cX0_needs 0 = .ok (.iload_n 1, 1) := by decide +kernel
theorem dX0_needs_1 : decode cX0_needs 1 = .ok (.invokestatic 31, 3) := by decide +kernel
theorem dX0_needs_4 : decode cX0_needs 4 = .ok (.ifCond .eq 10, 3) := by decide +kernel
theorem dX0_needs_7 : decode cX0_needs 7 = .ok (.iload_n 2, 1) := by decide +kernel
theorem dX0_needs_8 : decode cX0_needs 8 = .ok (.invokestatic 31, 3) := by decide +kernel
theorem dX0_needs_11 : decode cX0_needs 11 = .ok (.ifCond .ne 13, 3) := by decide +kernel
theorem dX0_needs_14 : decode cX0_needs 14 = .ok (.new 35, 3) := by decide +kernel
theorem dX0_needs_17 : decode cX0_needs 17 = .ok (.dup, 1) := by decide +kernel
theorem dX0_needs_18 : decode cX0_needs 18 = .ok (.ldc 37, 2) := by decide +kernel
theorem dX0_needs_20 : decode cX0_needs 20 = .ok (.invokespecial 39, 3) := by decide +kernel
theorem dX0_needs_23 : decode cX0_needs 23 = .ok (.athrow, 1) := by decide +kernel
theorem dX0_needs_24 : decode cX0_needs 24 = .ok (.iload_n 1, 1) := by decide +kernel
theorem dX0_needs_25 : decode cX0_needs 25 = .ok (.iload_n 2, 1) := by decide +kernel
theorem dX0_needs_26 : decode cX0_needs 26 = .ok (.if_icmp .ne 13, 3) := by decide +kernel
theorem dX0_needs_29 : decode cX0_needs 29 = .ok (.new 42, 3) := by decide +kernel
theorem dX0_needs_32 : decode cX0_needs 32 = .ok (.dup, 1) := by decide +kernel
theorem dX0_needs_33 : decode cX0_needs 33 = .ok (.ldc 155, 2) := by decide +kernel
theorem dX0_needs_35 : decode cX0_needs 35 = .ok (.invokespecial 46, 3) := by decide +kernel
theorem dX0_needs_38 : decode cX0_needs 38 = .ok (.athrow, 1) := by decide +kernel
theorem dX0_needs_39 : decode cX0_needs 39 = .ok (.aload_n 0, 1) := by decide +kernel
theorem dX0_needs_40 : decode cX0_needs 40 = .ok (.iload_n 1, 1) := by decide +kernel
theorem dX0_needs_41 : decode cX0_needs 41 = .ok (.iload_n 2, 1) := by decide +kernel
theorem dX0_needs_42 : decode cX0_needs 42 = .ok (.invokevirtual 157, 3) := by decide +kernel
theorem dX0_needs_45 : decode cX0_needs 45 = .ok (.istore_n 3, 1) := by decide +kernel
theorem dX0_needs_46 : decode cX0_needs 46 = .ok (.iload_n 3, 1) := by decide +kernel
theorem dX0_needs_47 : decode cX0_needs 47 = .ok (.ifCond .ge 7, 3) := by decide +kernel
theorem dX0_needs_50 : decode cX0_needs 50 = .ok (.iconst (-1), 1) := by decide +kernel
theorem dX0_needs_51 : decode cX0_needs 51 = .ok (.goto 8, 3) := by decide +kernel
theorem dX0_needs_54 : decode cX0_needs 54 = .ok (.aload_n 0, 1) := by decide +kernel
theorem dX0_needs_55 : decode cX0_needs 55 = .ok (.iload_n 3, 1) := by decide +kernel
theorem dX0_needs_56 : decode cX0_needs 56 = .ok (.invokevirtual 160, 3) := by decide +kernel
theorem dX0_needs_59 : decode cX0_needs 59 = .ok (.ireturn, 1) := by decide +kernel
theorem dX0_mean_0 : decode cX0_mean 0 = .ok (.iload_n 1, 1) := by decide +kernel
theorem dX0_mean_1 : decode cX0_mean 1 = .ok (.invokestatic 31, 3) := by decide +kernel
theorem dX0_mean_4 : decode cX0_mean 4 = .ok (.ifCond .ne 13, 3) := by decide +kernel
theorem dX0_mean_7 : decode cX0_mean 7 = .ok (.new 35, 3) := by decide +kernel
theorem dX0_mean_10 : decode cX0_mean 10 = .ok (.dup, 1) := by decide +kernel
theorem dX0_mean_11 : decode cX0_mean 11 = .ok (.ldc 37, 2) := by decide +kernel
theorem dX0_mean_13 : decode cX0_mean 13 = .ok (.invokespecial 39, 3) := by decide +kernel
theorem dX0_mean_16 : decode cX0_mean 16 = .ok (.athrow, 1) := by decide +kernel
theorem dX0_mean_17 : decode cX0_mean 17 = .ok (.aload_n 0, 1) := by decide +kernel
theorem dX0_mean_18 : decode cX0_mean 18 = .ok (.getfield 72, 3) := by decide +kernel
theorem dX0_mean_21 : decode cX0_mean 21 = .ok (.ifCond .gt 5, 3) := by decide +kernel
theorem dX0_mean_24 : decode cX0_mean 24 = .ok (.dconst 0, 1) := by decide +kernel
theorem dX0_mean_25 : decode cX0_mean 25 = .ok (.dreturn, 1) := by decide +kernel
theorem dX0_mean_26 : decode cX0_mean 26 = .ok (.aload_n 0, 1) := by decide +kernel
theorem dX0_mean_27 : decode cX0_mean 27 = .ok (.iload_n 1, 1) := by decide +kernel
theorem dX0_mean_28 : decode cX0_mean 28 = .ok (.invokevirtual 163, 3) := by decide +kernel
theorem dX0_mean_31 : decode cX0_mean 31 = .ok (.i2d, 1) := by decide +kernel
theorem dX0_mean_32 : decode cX0_mean 32 = .ok (.aload_n 0, 1) := by decide +kernel
theorem dX0_mean_33 : decode cX0_mean 33 = .ok (.getfield 72, 3) := by decide +kernel
theorem dX0_mean_36 : decode cX0_mean 36 = .ok (.i2d, 1) := by decide +kernel
theorem dX0_mean_37 : decode cX0_mean 37 = .ok (.ddiv, 1) := by decide +kernel
theorem dX0_mean_38 : decode cX0_mean 38 = .ok (.dreturn, 1) := by decide +kernel
theorem dX0_digest_0 : decode cX0_digest 0 = .ok (.ldc2_w 166, 3) := by decide +kernel
theorem dX0_digest_3 : decode cX0_digest 3 = .ok (.lstore_n 1, 1) := by decide +kernel
theorem dX0_digest_4 : decode cX0_digest 4 = .ok (.iconst 0, 1) := by decide +kernel
theorem dX0_digest_5 : decode cX0_digest 5 = .ok (.istore_n 3, 1) := by decide +kernel
theorem dX0_digest_6 : decode cX0_digest 6 = .ok (.iload_n 3, 1) := by decide +kernel
theorem dX0_digest_7 : decode cX0_digest 7 = .ok (.bipush 7, 2) := by decide +kernel
theorem dX0_digest_9 : decode cX0_digest 9 = .ok (.if_icmp .ge 22, 3) := by decide +kernel
theorem dX0_digest_12 : decode cX0_digest 12 = .ok (.lload_n 1, 1) := by decide +kernel
theorem dX0_digest_13 : decode cX0_digest 13 = .ok (.ldc2_w 168, 3) := by decide +kernel
theorem dX0_digest_16 : decode cX0_digest 16 = .ok (.lmul, 1) := by decide +kernel
theorem dX0_digest_17 : decode cX0_digest 17 = .ok (.aload_n 0, 1) := by decide +kernel
theorem dX0_digest_18 : decode cX0_digest 18 = .ok (.iload_n 3, 1) := by decide +kernel
theorem dX0_digest_19 : decode cX0_digest 19 = .ok (.invokevirtual 129, 3) := by decide +kernel
theorem dX0_digest_22 : decode cX0_digest 22 = .ok (.i2l, 1) := by decide +kernel
theorem dX0_digest_23 : decode cX0_digest 23 = .ok (.ladd, 1) := by decide +kernel
theorem dX0_digest_24 : decode cX0_digest 24 = .ok (.lstore_n 1, 1) := by decide +kernel
theorem dX0_digest_25 : decode cX0_digest 25 = .ok (.iinc 3 1, 3) := by decide +kernel
theorem dX0_digest_28 : decode cX0_digest 28 = .ok (.goto (-22), 3) := by decide +kernel
theorem dX0_digest_31 : decode cX0_digest 31 = .ok (.aload_n 0, 1) := by decide +kernel
theorem dX0_digest_32 : decode cX0_digest 32 = .ok (.lload_n 1, 1) := by decide +kernel
theorem dX0_digest_33 : decode cX0_digest 33 = .ok (.invokevirtual 170, 3) := by decide +kernel
theorem dX0_digest_36 : decode cX0_digest 36 = .ok (.lstore_n 1, 1) := by decide +kernel
theorem dX0_digest_37 : decode cX0_digest 37 = .ok (.iconst 0, 1) := by decide +kernel
theorem dX0_digest_38 : decode cX0_digest 38 = .ok (.istore_n 3, 1) := by decide +kernel
theorem dX0_digest_39 : decode cX0_digest 39 = .ok (.iload_n 3, 1) := by decide +kernel
theorem dX0_digest_40 : decode cX0_digest 40 = .ok (.aload_n 0, 1) := by decide +kernel
theorem dX0_digest_41 : decode cX0_digest 41 = .ok (.getfield 72, 3) := by decide +kernel
theorem dX0_digest_44 : decode cX0_digest 44 = .ok (.if_icmp .ge 39, 3) := by decide +kernel
theorem dX0_digest_47 : decode cX0_digest 47 = .ok (.iconst 0, 1) := by decide +kernel
theorem dX0_digest_48 : decode cX0_digest 48 = .ok (.istore 4, 2) := by decide +kernel
theorem dX0_digest_50 : decode cX0_digest 50 = .ok (.iload 4, 2) := by decide +kernel
theorem dX0_digest_52 : decode cX0_digest 52 = .ok (.iconst 5, 1) := by decide +kernel
theorem dX0_digest_53 : decode cX0_digest 53 = .ok (.if_icmp .ge 24, 3) := by decide +kernel
theorem dX0_digest_56 : decode cX0_digest 56 = .ok (.lload_n 1, 1) := by decide +kernel
theorem dX0_digest_57 : decode cX0_digest 57 = .ok (.ldc2_w 168, 3) := by decide +kernel
theorem dX0_digest_60 : decode cX0_digest 60 = .ok (.lmul, 1) := by decide +kernel
theorem dX0_digest_61 : decode cX0_digest 61 = .ok (.aload_n 0, 1) := by decide +kernel
theorem dX0_digest_62 : decode cX0_digest 62 = .ok (.iload_n 3, 1) := by decide +kernel
theorem dX0_digest_63 : decode cX0_digest 63 = .ok (.iload 4, 2) := by decide +kernel
theorem dX0_digest_65 : decode cX0_digest 65 = .ok (.invokevirtual 117, 3) := by decide +kernel
theorem dX0_digest_68 : decode cX0_digest 68 = .ok (.i2l, 1) := by decide +kernel
theorem dX0_digest_69 : decode cX0_digest 69 = .ok (.ladd, 1) := by decide +kernel
theorem dX0_digest_70 : decode cX0_digest 70 = .ok (.lstore_n 1, 1) := by decide +kernel
theorem dX0_digest_71 : decode cX0_digest 71 = .ok (.iinc 4 1, 3) := by decide +kernel
theorem dX0_digest_74 : decode cX0_digest 74 = .ok (.goto (-24), 3) := by decide +kernel
theorem dX0_digest_77 : decode cX0_digest 77 = .ok (.iinc 3 1, 3) := by decide +kernel
theorem dX0_digest_80 : decode cX0_digest 80 = .ok (.goto (-41), 3) := by decide +kernel
theorem dX0_digest_83 : decode cX0_digest 83 = .ok (.iconst 0, 1) := by decide +kernel
theorem dX0_digest_84 : decode cX0_digest 84 = .ok (.istore_n 3, 1) := by decide +kernel
theorem dX0_digest_85 : decode cX0_digest 85 = .ok (.iload_n 3, 1) := by decide +kernel
theorem dX0_digest_86 : decode cX0_digest 86 = .ok (.aload_n 0, 1) := by decide +kernel
theorem dX0_digest_87 : decode cX0_digest 87 = .ok (.getfield 95, 3) := by decide +kernel
theorem dX0_digest_90 : decode cX0_digest 90 = .ok (.if_icmp .ge 39, 3) := by decide +kernel
theorem dX0_digest_93 : decode cX0_digest 93 = .ok (.iconst 0, 1) := by decide +kernel
theorem dX0_digest_94 : decode cX0_digest 94 = .ok (.istore 4, 2) := by decide +kernel
theorem dX0_digest_96 : decode cX0_digest 96 = .ok (.iload 4, 2) := by decide +kernel
theorem dX0_digest_98 : decode cX0_digest 98 = .ok (.iconst 5, 1) := by decide +kernel
theorem dX0_digest_99 : decode cX0_digest 99 = .ok (.if_icmp .ge 24, 3) := by decide +kernel
theorem dX0_digest_102 : decode cX0_digest 102 = .ok (.lload_n 1, 1) := by decide +kernel
theorem dX0_digest_103 : decode cX0_digest 103 = .ok (.ldc2_w 168, 3) := by decide +kernel
theorem dX0_digest_106 : decode cX0_digest 106 = .ok (.lmul, 1) := by decide +kernel
theorem dX0_digest_107 : decode cX0_digest 107 = .ok (.aload_n 0, 1) := by decide +kernel
theorem dX0_digest_108 : decode cX0_digest 108 = .ok (.iload_n 3, 1) := by decide +kernel
theorem dX0_digest_109 : decode cX0_digest 109 = .ok (.iload 4, 2) := by decide +kernel
theorem dX0_digest_111 : decode cX0_digest 111 = .ok (.invokevirtual 109, 3) := by decide +kernel
theorem dX0_digest_114 : decode cX0_digest 114 = .ok (.i2l, 1) := by decide +kernel
theorem dX0_digest_115 : decode cX0_digest 115 = .ok (.ladd, 1) := by decide +kernel
theorem dX0_digest_116 : decode cX0_digest 116 = .ok (.lstore_n 1, 1) := by decide +kernel
theorem dX0_digest_117 : decode cX0_digest 117 = .ok (.iinc 4 1, 3) := by decide +kernel
theorem dX0_digest_120 : decode cX0_digest 120 = .ok (.goto (-24), 3) := by decide +kernel
theorem dX0_digest_123 : decode cX0_digest 123 = .ok (.iinc 3 1, 3) := by decide +kernel
theorem dX0_digest_126 : decode cX0_digest 126 = .ok (.goto (-41), 3) := by decide +kernel
theorem dX0_digest_129 : decode cX0_digest 129 = .ok (.lload_n 1, 1) := by decide +kernel
theorem dX0_digest_130 : decode cX0_digest 130 = .ok (.lreturn, 1) := by decide +kernel
theorem dX0_digestOfMoneys_0 : decode cX0_digestOfMoneys 0 = .ok (.lload_n 1, 1) := by decide +kernel
theorem dX0_digestOfMoneys_1 : decode cX0_digestOfMoneys 1 = .ok (.lstore_n 3, 1) := by decide +kernel
theorem dX0_digestOfMoneys_2 : decode cX0_digestOfMoneys 2 = .ok (.iconst 0, 1) := by decide +kernel
theorem dX0_digestOfMoneys_3 : decode cX0_digestOfMoneys 3 = .ok (.istore 5, 2) := by decide +kernel
theorem dX0_digestOfMoneys_5 : decode cX0_digestOfMoneys 5 = .ok (.iload 5, 2) := by decide +kernel
theorem dX0_digestOfMoneys_7 : decode cX0_digestOfMoneys 7 = .ok (.iconst 5, 1) := by decide +kernel
theorem dX0_digestOfMoneys_8 : decode cX0_digestOfMoneys 8 = .ok (.if_icmp .ge 71, 3) := by decide +kernel
theorem dX0_digestOfMoneys_11 : decode cX0_digestOfMoneys 11 = .ok (.iconst 0, 1) := by decide +kernel
theorem dX0_digestOfMoneys_12 : decode cX0_digestOfMoneys 12 = .ok (.istore 6, 2) := by decide +kernel
theorem dX0_digestOfMoneys_14 : decode cX0_digestOfMoneys 14 = .ok (.iload 6, 2) := by decide +kernel
theorem dX0_digestOfMoneys_16 : decode cX0_digestOfMoneys 16 = .ok (.iconst 5, 1) := by decide +kernel
theorem dX0_digestOfMoneys_17 : decode cX0_digestOfMoneys 17 = .ok (.if_icmp .ge 25, 3) := by decide +kernel
theorem dX0_digestOfMoneys_20 : decode cX0_digestOfMoneys 20 = .ok (.lload_n 3, 1) := by decide +kernel
theorem dX0_digestOfMoneys_21 : decode cX0_digestOfMoneys 21 = .ok (.ldc2_w 168, 3) := by decide +kernel
theorem dX0_digestOfMoneys_24 : decode cX0_digestOfMoneys 24 = .ok (.lmul, 1) := by decide +kernel
theorem dX0_digestOfMoneys_25 : decode cX0_digestOfMoneys 25 = .ok (.aload_n 0, 1) := by decide +kernel
theorem dX0_digestOfMoneys_26 : decode cX0_digestOfMoneys 26 = .ok (.iload 5, 2) := by decide +kernel
theorem dX0_digestOfMoneys_28 : decode cX0_digestOfMoneys 28 = .ok (.iload 6, 2) := by decide +kernel
theorem dX0_digestOfMoneys_30 : decode cX0_digestOfMoneys 30 = .ok (.invokevirtual 122, 3) := by decide +kernel
theorem dX0_digestOfMoneys_33 : decode cX0_digestOfMoneys 33 = .ok (.i2l, 1) := by decide +kernel
theorem dX0_digestOfMoneys_34 : decode cX0_digestOfMoneys 34 = .ok (.ladd, 1) := by decide +kernel
theorem dX0_digestOfMoneys_35 : decode cX0_digestOfMoneys 35 = .ok (.lstore_n 3, 1) := by decide +kernel
theorem dX0_digestOfMoneys_36 : decode cX0_digestOfMoneys 36 = .ok (.iinc 6 1, 3) := by decide +kernel
theorem dX0_digestOfMoneys_39 : decode cX0_digestOfMoneys 39 = .ok (.goto (-25), 3) := by decide +kernel
theorem dX0_digestOfMoneys_42 : decode cX0_digestOfMoneys 42 = .ok (.iconst 0, 1) := by decide +kernel
theorem dX0_digestOfMoneys_43 : decode cX0_digestOfMoneys 43 = .ok (.istore 6, 2) := by decide +kernel
theorem dX0_digestOfMoneys_45 : decode cX0_digestOfMoneys 45 = .ok (.iload 6, 2) := by decide +kernel
theorem dX0_digestOfMoneys_47 : decode cX0_digestOfMoneys 47 = .ok (.iconst 5, 1) := by decide +kernel
theorem dX0_digestOfMoneys_48 : decode cX0_digestOfMoneys 48 = .ok (.if_icmp .ge 25, 3) := by decide +kernel
theorem dX0_digestOfMoneys_51 : decode cX0_digestOfMoneys 51 = .ok (.lload_n 3, 1) := by decide +kernel
theorem dX0_digestOfMoneys_52 : decode cX0_digestOfMoneys 52 = .ok (.ldc2_w 168, 3) := by decide +kernel
theorem dX0_digestOfMoneys_55 : decode cX0_digestOfMoneys 55 = .ok (.lmul, 1) := by decide +kernel
theorem dX0_digestOfMoneys_56 : decode cX0_digestOfMoneys 56 = .ok (.aload_n 0, 1) := by decide +kernel
theorem dX0_digestOfMoneys_57 : decode cX0_digestOfMoneys 57 = .ok (.iload 5, 2) := by decide +kernel
theorem dX0_digestOfMoneys_59 : decode cX0_digestOfMoneys 59 = .ok (.iload 6, 2) := by decide +kernel
theorem dX0_digestOfMoneys_61 : decode cX0_digestOfMoneys 61 = .ok (.invokevirtual 173, 3) := by decide +kernel
theorem dX0_digestOfMoneys_64 : decode cX0_digestOfMoneys 64 = .ok (.i2l, 1) := by decide +kernel
theorem dX0_digestOfMoneys_65 : decode cX0_digestOfMoneys 65 = .ok (.ladd, 1) := by decide +kernel
theorem dX0_digestOfMoneys_66 : decode cX0_digestOfMoneys 66 = .ok (.lstore_n 3, 1) := by decide +kernel
theorem dX0_digestOfMoneys_67 : decode cX0_digestOfMoneys 67 = .ok (.iinc 6 1, 3) := by decide +kernel
theorem dX0_digestOfMoneys_70 : decode cX0_digestOfMoneys 70 = .ok (.goto (-25), 3) := by decide +kernel
theorem dX0_digestOfMoneys_73 : decode cX0_digestOfMoneys 73 = .ok (.iinc 5 1, 3) := by decide +kernel
theorem dX0_digestOfMoneys_76 : decode cX0_digestOfMoneys 76 = .ok (.goto (-71), 3) := by decide +kernel
theorem dX0_digestOfMoneys_79 : decode cX0_digestOfMoneys 79 = .ok (.lload_n 3, 1) := by decide +kernel
theorem dX0_digestOfMoneys_80 : decode cX0_digestOfMoneys 80 = .ok (.lreturn, 1) := by decide +kernel
theorem dX0_isMoney_0 : decode cX0_isMoney 0 = .ok (.iload_n 0, 1) := by decide +kernel
theorem dX0_isMoney_1 : decode cX0_isMoney 1 = .ok (.ifCond .lt 12, 3) := by decide +kernel
theorem dX0_isMoney_4 : decode cX0_isMoney 4 = .ok (.iload_n 0, 1) := by decide +kernel
theorem dX0_isMoney_5 : decode cX0_isMoney 5 = .ok (.iconst 5, 1) := by decide +kernel
theorem dX0_isMoney_6 : decode cX0_isMoney 6 = .ok (.if_icmp .ge 7, 3) := by decide +kernel
theorem dX0_isMoney_9 : decode cX0_isMoney 9 = .ok (.iconst 1, 1) := by decide +kernel
theorem dX0_isMoney_10 : decode cX0_isMoney 10 = .ok (.goto 4, 3) := by decide +kernel
theorem dX0_isMoney_13 : decode cX0_isMoney 13 = .ok (.iconst 0, 1) := by decide +kernel
theorem dX0_isMoney_14 : decode cX0_isMoney 14 = .ok (.ireturn, 1) := by decide +kernel
theorem dX0_isCustomer_0 : decode cX0_isCustomer 0 = .ok (.iload_n 1, 1) := by decide +kernel
theorem dX0_isCustomer_1 : decode cX0_isCustomer 1 = .ok (.ifCond .lt 21, 3) := by decide +kernel
theorem dX0_isCustomer_4 : decode cX0_isCustomer 4 = .ok (.iload_n 1, 1) := by decide +kernel
theorem dX0_isCustomer_5 : decode cX0_isCustomer 5 = .ok (.aload_n 0, 1) := by decide +kernel
theorem dX0_isCustomer_6 : decode cX0_isCustomer 6 = .ok (.getfield 72, 3) := by decide +kernel
theorem dX0_isCustomer_9 : decode cX0_isCustomer 9 = .ok (.if_icmp .ge 13, 3) := by decide +kernel
theorem dX0_isCustomer_12 : decode cX0_isCustomer 12 = .ok (.iload_n 1, 1) := by decide +kernel
theorem dX0_isCustomer_13 : decode cX0_isCustomer 13 = .ok (.bipush 6, 2) := by decide +kernel
theorem dX0_isCustomer_15 : decode cX0_isCustomer 15 = .ok (.if_icmp .ge 7, 3) := by decide +kernel
theorem dX0_isCustomer_18 : decode cX0_isCustomer 18 = .ok (.iconst 1, 1) := by decide +kernel
theorem dX0_isCustomer_19 : decode cX0_isCustomer 19 = .ok (.goto 4, 3) := by decide +kernel
theorem dX0_isCustomer_22 : decode cX0_isCustomer 22 = .ok (.iconst 0, 1) := by decide +kernel
theorem dX0_isCustomer_23 : decode cX0_isCustomer 23 = .ok (.ireturn, 1) := by decide +kernel
theorem dX0_isPlace_0 : decode cX0_isPlace 0 = .ok (.iload_n 1, 1) := by decide +kernel
theorem dX0_isPlace_1 : decode cX0_isPlace 1 = .ok (.ifCond .lt 21, 3) := by decide +kernel
theorem dX0_isPlace_4 : decode cX0_isPlace 4 = .ok (.iload_n 1, 1) := by decide +kernel
theorem dX0_isPlace_5 : decode cX0_isPlace 5 = .ok (.aload_n 0, 1) := by decide +kernel
theorem dX0_isPlace_6 : decode cX0_isPlace 6 = .ok (.getfield 95, 3) := by decide +kernel
theorem dX0_isPlace_9 : decode cX0_isPlace 9 = .ok (.if_icmp .ge 13, 3) := by decide +kernel
theorem dX0_isPlace_12 : decode cX0_isPlace 12 = .ok (.iload_n 1, 1) := by decide +kernel
theorem dX0_isPlace_13 : decode cX0_isPlace 13 = .ok (.bipush 10, 2) := by decide +kernel
theorem dX0_isPlace_15 : decode cX0_isPlace 15 = .ok (.if_icmp .ge 7, 3) := by decide +kernel
theorem dX0_isPlace_18 : decode cX0_isPlace 18 = .ok (.iconst 1, 1) := by decide +kernel
theorem dX0_isPlace_19 : decode cX0_isPlace 19 = .ok (.goto 4, 3) := by decide +kernel
theorem dX0_isPlace_22 : decode cX0_isPlace 22 = .ok (.iconst 0, 1) := by decide +kernel
theorem dX0_isPlace_23 : decode cX0_isPlace 23 = .ok (.ireturn, 1) := by decide +kernel
theorem dX0_isNamedAmount_0 : decode cX0_isNamedAmount 0 = .ok (.iload_n 0, 1) := by decide +kernel
theorem dX0_isNamedAmount_1 : decode cX0_isNamedAmount 1 = .ok (.iconst 1, 1) := by decide +kernel
theorem dX0_isNamedAmount_2 : decode cX0_isNamedAmount 2 = .ok (.if_icmp .lt 13, 3) := by decide +kernel
theorem dX0_isNamedAmount_5 : decode cX0_isNamedAmount 5 = .ok (.iload_n 0, 1) := by decide +kernel
theorem dX0_isNamedAmount_6 : decode cX0_isNamedAmount 6 = .ok (.ldc 57, 2) := by decide +kernel
theorem dX0_isNamedAmount_8 : decode cX0_isNamedAmount 8 = .ok (.if_icmp .gt 7, 3) := by decide +kernel
theorem dX0_isNamedAmount_11 : decode cX0_isNamedAmount 11 = .ok (.iconst 1, 1) := by decide +kernel
theorem dX0_isNamedAmount_12 : decode cX0_isNamedAmount 12 = .ok (.goto 4, 3) := by decide +kernel
theorem dX0_isNamedAmount_15 : decode cX0_isNamedAmount 15 = .ok (.iconst 0, 1) := by decide +kernel
theorem dX0_isNamedAmount_16 : decode cX0_isNamedAmount 16 = .ok (.ireturn, 1) := by decide +kernel
theorem dX0_isAmountOrNone_0 : decode cX0_isAmountOrNone 0 = .ok (.iload_n 0, 1) := by decide +kernel
theorem dX0_isAmountOrNone_1 : decode cX0_isAmountOrNone 1 = .ok (.ifCond .eq 10, 3) := by decide +kernel
theorem dX0_isAmountOrNone_4 : decode cX0_isAmountOrNone 4 = .ok (.iload_n 0, 1) := by decide +kernel
theorem dX0_isAmountOrNone_5 : decode cX0_isAmountOrNone 5 = .ok (.invokestatic 60, 3) := by decide +kernel
theorem dX0_isAmountOrNone_8 : decode cX0_isAmountOrNone 8 = .ok (.ifCond .eq 7, 3) := by decide +kernel
theorem dX0_isAmountOrNone_11 : decode cX0_isAmountOrNone 11 = .ok (.iconst 1, 1) := by decide +kernel
theorem dX0_isAmountOrNone_12 : decode cX0_isAmountOrNone 12 = .ok (.goto 4, 3) := by decide +kernel
theorem dX0_isAmountOrNone_15 : decode cX0_isAmountOrNone 15 = .ok (.iconst 0, 1) := by decide +kernel
theorem dX0_isAmountOrNone_16 : decode cX0_isAmountOrNone 16 = .ok (.ireturn, 1) := by decide +kernel
theorem dX0_rateOf_0 : decode cX0_rateOf 0 = .ok (.iload_n 1, 1) := by decide +kernel
theorem dX0_rateOf_1 : decode cX0_rateOf 1 = .ok (.invokestatic 31, 3) := by decide +kernel
theorem dX0_rateOf_4 : decode cX0_rateOf 4 = .ok (.ifCond .eq 23, 3) := by decide +kernel
theorem dX0_rateOf_7 : decode cX0_rateOf 7 = .ok (.iload_n 2, 1) := by decide +kernel
theorem dX0_rateOf_8 : decode cX0_rateOf 8 = .ok (.invokestatic 31, 3) := by decide +kernel
theorem dX0_rateOf_11 : decode cX0_rateOf 11 = .ok (.ifCond .eq 16, 3) := by decide +kernel
theorem dX0_rateOf_14 : decode cX0_rateOf 14 = .ok (.aload_n 0, 1) := by decide +kernel
theorem dX0_rateOf_15 : decode cX0_rateOf 15 = .ok (.getfield 9, 3) := by decide +kernel
theorem dX0_rateOf_18 : decode cX0_rateOf 18 = .ok (.iload_n 1, 1) := by decide +kernel
theorem dX0_rateOf_19 : decode cX0_rateOf 19 = .ok (.iconst 5, 1) := by decide +kernel
theorem dX0_rateOf_20 : decode cX0_rateOf 20 = .ok (.imul, 1) := by decide +kernel
theorem dX0_rateOf_21 : decode cX0_rateOf 21 = .ok (.iload_n 2, 1) := by decide +kernel
theorem dX0_rateOf_22 : decode cX0_rateOf 22 = .ok (.iadd, 1) := by decide +kernel
theorem dX0_rateOf_23 : decode cX0_rateOf 23 = .ok (.iaload, 1) := by decide +kernel
theorem dX0_rateOf_24 : decode cX0_rateOf 24 = .ok (.goto 4, 3) := by decide +kernel
theorem dX0_rateOf_27 : decode cX0_rateOf 27 = .ok (.iconst 0, 1) := by decide +kernel
theorem dX0_rateOf_28 : decode cX0_rateOf 28 = .ok (.ireturn, 1) := by decide +kernel
theorem dX0_ratesThatAreNotZero_0 : decode cX0_ratesThatAreNotZero 0 = .ok (.iconst 0, 1) := by decide +kernel
theorem dX0_ratesThatAreNotZero_1 : decode cX0_ratesThatAreNotZero 1 = .ok (.istore_n 1, 1) := by decide +kernel
theorem dX0_ratesThatAreNotZero_2 : decode cX0_ratesThatAreNotZero 2 = .ok (.iconst 0, 1) := by decide +kernel
theorem dX0_ratesThatAreNotZero_3 : decode cX0_ratesThatAreNotZero 3 = .ok (.istore_n 2, 1) := by decide +kernel
theorem dX0_ratesThatAreNotZero_4 : decode cX0_ratesThatAreNotZero 4 = .ok (.iload_n 2, 1) := by decide +kernel
theorem dX0_ratesThatAreNotZero_5 : decode cX0_ratesThatAreNotZero 5 = .ok (.aload_n 0, 1) := by decide +kernel
theorem dX0_ratesThatAreNotZero_6 : decode cX0_ratesThatAreNotZero 6 = .ok (.getfield 9, 3) := by decide +kernel
theorem dX0_ratesThatAreNotZero_9 : decode cX0_ratesThatAreNotZero 9 = .ok (.arraylength, 1) := by decide +kernel
theorem dX0_ratesThatAreNotZero_10 : decode cX0_ratesThatAreNotZero 10 = .ok (.if_icmp .ge 21, 3) := by decide +kernel
theorem dX0_ratesThatAreNotZero_13 : decode cX0_ratesThatAreNotZero 13 = .ok (.aload_n 0, 1) := by decide +kernel
theorem dX0_ratesThatAreNotZero_14 : decode cX0_ratesThatAreNotZero 14 = .ok (.getfield 9, 3) := by decide +kernel
theorem dX0_ratesThatAreNotZero_17 : decode cX0_ratesThatAreNotZero 17 = .ok (.iload_n 2, 1) := by decide +kernel
theorem dX0_ratesThatAreNotZero_18 : decode cX0_ratesThatAreNotZero 18 = .ok (.iaload, 1) := by decide +kernel
theorem dX0_ratesThatAreNotZero_19 : decode cX0_ratesThatAreNotZero 19 = .ok (.ifCond .eq 6, 3) := by decide +kernel
theorem dX0_ratesThatAreNotZero_22 : decode cX0_ratesThatAreNotZero 22 = .ok (.iinc 1 1, 3) := by decide +kernel
theorem dX0_ratesThatAreNotZero_25 : decode cX0_ratesThatAreNotZero 25 = .ok (.iinc 2 1, 3) := by decide +kernel
theorem dX0_ratesThatAreNotZero_28 : decode cX0_ratesThatAreNotZero 28 = .ok (.goto (-24), 3) := by decide +kernel
theorem dX0_ratesThatAreNotZero_31 : decode cX0_ratesThatAreNotZero 31 = .ok (.iload_n 1, 1) := by decide +kernel
theorem dX0_ratesThatAreNotZero_32 : decode cX0_ratesThatAreNotZero 32 = .ok (.ireturn, 1) := by decide +kernel
theorem dX0_inPurse_0 : decode cX0_inPurse 0 = .ok (.aload_n 0, 1) := by decide +kernel
theorem dX0_inPurse_1 : decode cX0_inPurse 1 = .ok (.iload_n 1, 1) := by decide +kernel
theorem dX0_inPurse_2 : decode cX0_inPurse 2 = .ok (.invokevirtual 80, 3) := by decide +kernel
theorem dX0_inPurse_5 : decode cX0_inPurse 5 = .ok (.ifCond .eq 23, 3) := by decide +kernel
theorem dX0_inPurse_8 : decode cX0_inPurse 8 = .ok (.iload_n 2, 1) := by decide +kernel
theorem dX0_inPurse_9 : decode cX0_inPurse 9 = .ok (.invokestatic 31, 3) := by decide +kernel
theorem dX0_inPurse_12 : decode cX0_inPurse 12 = .ok (.ifCond .eq 16, 3) := by decide +kernel
theorem dX0_inPurse_15 : decode cX0_inPurse 15 = .ok (.aload_n 0, 1) := by decide +kernel
theorem dX0_inPurse_16 : decode cX0_inPurse 16 = .ok (.getfield 25, 3) := by decide +kernel
theorem dX0_inPurse_19 : decode cX0_inPurse 19 = .ok (.iload_n 1, 1) := by decide +kernel
theorem dX0_inPurse_20 : decode cX0_inPurse 20 = .ok (.iconst 5, 1) := by decide +kernel
theorem dX0_inPurse_21 : decode cX0_inPurse 21 = .ok (.imul, 1) := by decide +kernel
theorem dX0_inPurse_22 : decode cX0_inPurse 22 = .ok (.iload_n 2, 1) := by decide +kernel
theorem dX0_inPurse_23 : decode cX0_inPurse 23 = .ok (.iadd, 1) := by decide +kernel
theorem dX0_inPurse_24 : decode cX0_inPurse 24 = .ok (.iaload, 1) := by decide +kernel
theorem dX0_inPurse_25 : decode cX0_inPurse 25 = .ok (.goto 4, 3) := by decide +kernel
theorem dX0_inPurse_28 : decode cX0_inPurse 28 = .ok (.iconst 0, 1) := by decide +kernel
theorem dX0_inPurse_29 : decode cX0_inPurse 29 = .ok (.ireturn, 1) := by decide +kernel
theorem dX0_inAllPurses_0 : decode cX0_inAllPurses 0 = .ok (.iconst 0, 1) := by decide +kernel
theorem dX0_inAllPurses_1 : decode cX0_inAllPurses 1 = .ok (.istore_n 2, 1) := by decide +kernel
theorem dX0_inAllPurses_2 : decode cX0_inAllPurses 2 = .ok (.iconst 0, 1) := by decide +kernel
theorem dX0_inAllPurses_3 : decode cX0_inAllPurses 3 = .ok (.istore_n 3, 1) := by decide +kernel
theorem dX0_inAllPurses_4 : decode cX0_inAllPurses 4 = .ok (.iload_n 3, 1) := by decide +kernel
theorem dX0_inAllPurses_5 : decode cX0_inAllPurses 5 = .ok (.aload_n 0, 1) := by decide +kernel
theorem dX0_inAllPurses_6 : decode cX0_inAllPurses 6 = .ok (.getfield 72, 3) := by decide +kernel
theorem dX0_inAllPurses_9 : decode cX0_inAllPurses 9 = .ok (.if_icmp .ge 18, 3) := by decide +kernel
theorem dX0_inAllPurses_12 : decode cX0_inAllPurses 12 = .ok (.iload_n 2, 1) := by decide +kernel
theorem dX0_inAllPurses_13 : decode cX0_inAllPurses 13 = .ok (.aload_n 0, 1) := by decide +kernel
theorem dX0_inAllPurses_14 : decode cX0_inAllPurses 14 = .ok (.iload_n 3, 1) := by decide +kernel
theorem dX0_inAllPurses_15 : decode cX0_inAllPurses 15 = .ok (.iload_n 1, 1) := by decide +kernel
theorem dX0_inAllPurses_16 : decode cX0_inAllPurses 16 = .ok (.invokevirtual 117, 3) := by decide +kernel
theorem dX0_inAllPurses_19 : decode cX0_inAllPurses 19 = .ok (.iadd, 1) := by decide +kernel
theorem dX0_inAllPurses_20 : decode cX0_inAllPurses 20 = .ok (.istore_n 2, 1) := by decide +kernel
theorem dX0_inAllPurses_21 : decode cX0_inAllPurses 21 = .ok (.iinc 3 1, 3) := by decide +kernel
theorem dX0_inAllPurses_24 : decode cX0_inAllPurses 24 = .ok (.goto (-20), 3) := by decide +kernel
theorem dX0_inAllPurses_27 : decode cX0_inAllPurses 27 = .ok (.iload_n 2, 1) := by decide +kernel
theorem dX0_inAllPurses_28 : decode cX0_inAllPurses 28 = .ok (.ireturn, 1) := by decide +kernel
theorem dX0_factOfMoney_0 : decode cX0_factOfMoney 0 = .ok (.iload_n 1, 1) := by decide +kernel
theorem dX0_factOfMoney_1 : decode cX0_factOfMoney 1 = .ok (.invokestatic 31, 3) := by decide +kernel
theorem dX0_factOfMoney_4 : decode cX0_factOfMoney 4 = .ok (.ifCond .ne 5, 3) := by decide +kernel
theorem dX0_factOfMoney_7 : decode cX0_factOfMoney 7 = .ok (.iconst 0, 1) := by decide +kernel
theorem dX0_factOfMoney_8 : decode cX0_factOfMoney 8 = .ok (.ireturn, 1) := by decide +kernel
theorem dX0_factOfMoney_9 : decode cX0_factOfMoney 9 = .ok (.iload_n 2, 1) := by decide +kernel
theorem dX0_factOfMoney_10 : decode cX0_factOfMoney 10 = .ok (.tableswitch 58 0 3 #[30, 37, 44, 51], 30) := by decide +kernel
theorem dX0_factOfMoney_40 : decode cX0_factOfMoney 40 = .ok (.aload_n 0, 1) := by decide +kernel
theorem dX0_factOfMoney_41 : decode cX0_factOfMoney 41 = .ok (.getfield 13, 3) := by decide +kernel
theorem dX0_factOfMoney_44 : decode cX0_factOfMoney 44 = .ok (.iload_n 1, 1) := by decide +kernel
theorem dX0_factOfMoney_45 : decode cX0_factOfMoney 45 = .ok (.iaload, 1) := by decide +kernel
theorem dX0_factOfMoney_46 : decode cX0_factOfMoney 46 = .ok (.ireturn, 1) := by decide +kernel
theorem dX0_factOfMoney_47 : decode cX0_factOfMoney 47 = .ok (.aload_n 0, 1) := by decide +kernel
theorem dX0_factOfMoney_48 : decode cX0_factOfMoney 48 = .ok (.getfield 16, 3) := by decide +kernel
theorem dX0_factOfMoney_51 : decode cX0_factOfMoney 51 = .ok (.iload_n 1, 1) := by decide +kernel
theorem dX0_factOfMoney_52 : decode cX0_factOfMoney 52 = .ok (.iaload, 1) := by decide +kernel
theorem dX0_factOfMoney_53 : decode cX0_factOfMoney 53 = .ok (.ireturn, 1) := by decide +kernel
theorem dX0_factOfMoney_54 : decode cX0_factOfMoney 54 = .ok (.aload_n 0, 1) := by decide +kernel
theorem dX0_factOfMoney_55 : decode cX0_factOfMoney 55 = .ok (.getfield 19, 3) := by decide +kernel
theorem dX0_factOfMoney_58 : decode cX0_factOfMoney 58 = .ok (.iload_n 1, 1) := by decide +kernel
theorem dX0_factOfMoney_59 : decode cX0_factOfMoney 59 = .ok (.iaload, 1) := by decide +kernel
theorem dX0_factOfMoney_60 : decode cX0_factOfMoney 60 = .ok (.ireturn, 1) := by decide +kernel
theorem dX0_factOfMoney_61 : decode cX0_factOfMoney 61 = .ok (.aload_n 0, 1) := by decide +kernel
theorem dX0_factOfMoney_62 : decode cX0_factOfMoney 62 = .ok (.getfield 22, 3) := by decide +kernel
theorem dX0_factOfMoney_65 : decode cX0_factOfMoney 65 = .ok (.iload_n 1, 1) := by decide +kernel
theorem dX0_factOfMoney_66 : decode cX0_factOfMoney 66 = .ok (.iaload, 1) := by decide +kernel
theorem dX0_factOfMoney_67 : decode cX0_factOfMoney 67 = .ok (.ireturn, 1) := by decide +kernel
theorem dX0_factOfMoney_68 : decode cX0_factOfMoney 68 = .ok (.aload_n 0, 1) := by decide +kernel
theorem dX0_factOfMoney_69 : decode cX0_factOfMoney 69 = .ok (.iload_n 1, 1) := by decide +kernel
theorem dX0_factOfMoney_70 : decode cX0_factOfMoney 70 = .ok (.invokevirtual 163, 3) := by decide +kernel
theorem dX0_factOfMoney_73 : decode cX0_factOfMoney 73 = .ok (.ireturn, 1) := by decide +kernel
theorem dX0_factOfBooth_0 : decode cX0_factOfBooth 0 = .ok (.iload_n 1, 1) := by decide +kernel
theorem dX0_factOfBooth_1 : decode cX0_factOfBooth 1 = .ok (.tableswitch 69 0 5 #[39, 44, 49, 54, 59, 64], 39) := by decide +kernel
theorem dX0_factOfBooth_40 : decode cX0_factOfBooth 40 = .ok (.aload_n 0, 1) := by decide +kernel
theorem dX0_factOfBooth_41 : decode cX0_factOfBooth 41 = .ok (.getfield 69, 3) := by decide +kernel
theorem dX0_factOfBooth_44 : decode cX0_factOfBooth 44 = .ok (.ireturn, 1) := by decide +kernel
theorem dX0_factOfBooth_45 : decode cX0_factOfBooth 45 = .ok (.aload_n 0, 1) := by decide +kernel
theorem dX0_factOfBooth_46 : decode cX0_factOfBooth 46 = .ok (.getfield 53, 3) := by decide +kernel
theorem dX0_factOfBooth_49 : decode cX0_factOfBooth 49 = .ok (.ireturn, 1) := by decide +kernel
theorem dX0_factOfBooth_50 : decode cX0_factOfBooth 50 = .ok (.aload_n 0, 1) := by decide +kernel
theorem dX0_factOfBooth_51 : decode cX0_factOfBooth 51 = .ok (.getfield 72, 3) := by decide +kernel
theorem dX0_factOfBooth_54 : decode cX0_factOfBooth 54 = .ok (.ireturn, 1) := by decide +kernel
theorem dX0_factOfBooth_55 : decode cX0_factOfBooth 55 = .ok (.aload_n 0, 1) := by decide +kernel
theorem dX0_factOfBooth_56 : decode cX0_factOfBooth 56 = .ok (.getfield 95, 3) := by decide +kernel
theorem dX0_factOfBooth_59 : decode cX0_factOfBooth 59 = .ok (.ireturn, 1) := by decide +kernel
theorem dX0_factOfBooth_60 : decode cX0_factOfBooth 60 = .ok (.aload_n 0, 1) := by decide +kernel
theorem dX0_factOfBooth_61 : decode cX0_factOfBooth 61 = .ok (.invokevirtual 176, 3) := by decide +kernel
theorem dX0_factOfBooth_64 : decode cX0_factOfBooth 64 = .ok (.ireturn, 1) := by decide +kernel
theorem dX0_factOfBooth_65 : decode cX0_factOfBooth 65 = .ok (.aload_n 0, 1) := by decide +kernel
theorem dX0_factOfBooth_66 : decode cX0_factOfBooth 66 = .ok (.getfield 179, 3) := by decide +kernel
theorem dX0_factOfBooth_69 : decode cX0_factOfBooth 69 = .ok (.ireturn, 1) := by decide +kernel
theorem dX0_factOfBooth_70 : decode cX0_factOfBooth 70 = .ok (.aload_n 0, 1) := by decide +kernel
theorem dX0_factOfBooth_71 : decode cX0_factOfBooth 71 = .ok (.getfield 182, 3) := by decide +kernel
theorem dX0_factOfBooth_74 : decode cX0_factOfBooth 74 = .ok (.ireturn, 1) := by decide +kernel
theorem dX0_heldAtMost_0 : decode cX0_heldAtMost 0 = .ok (.lload_n 0, 1) := by decide +kernel
theorem dX0_heldAtMost_1 : decode cX0_heldAtMost 1 = .ok (.ldc2_w 185, 3) := by decide +kernel
theorem dX0_heldAtMost_4 : decode cX0_heldAtMost 4 = .ok (.invokestatic 187, 3) := by decide +kernel
theorem dX0_heldAtMost_7 : decode cX0_heldAtMost 7 = .ok (.l2i, 1) := by decide +kernel
theorem dX0_heldAtMost_8 : decode cX0_heldAtMost 8 = .ok (.ireturn, 1) := by decide +kernel
theorem dX0_isOrderCell_0 : decode cX0_isOrderCell 0 = .ok (.iload_n 0, 1) := by decide +kernel
theorem dX0_isOrderCell_1 : decode cX0_isOrderCell 1 = .ok (.ifCond .lt 22, 3) := by decide +kernel
theorem dX0_isOrderCell_4 : decode cX0_isOrderCell 4 = .ok (.iload_n 0, 1) := by decide +kernel
theorem dX0_isOrderCell_5 : decode cX0_isOrderCell 5 = .ok (.bipush 10, 2) := by decide +kernel
theorem dX0_isOrderCell_7 : decode cX0_isOrderCell 7 = .ok (.if_icmp .ge 16, 3) := by decide +kernel
theorem dX0_isOrderCell_10 : decode cX0_isOrderCell 10 = .ok (.iload_n 1, 1) := by decide +kernel
theorem dX0_isOrderCell_11 : decode cX0_isOrderCell 11 = .ok (.ifCond .lt 12, 3) := by decide +kernel
theorem dX0_isOrderCell_14 : decode cX0_isOrderCell 14 = .ok (.iload_n 1, 1) := by decide +kernel
theorem dX0_isOrderCell_15 : decode cX0_isOrderCell 15 = .ok (.iconst 5, 1) := by decide +kernel
theorem dX0_isOrderCell_16 : decode cX0_isOrderCell 16 = .ok (.if_icmp .ge 7, 3) := by decide +kernel
theorem dX0_isOrderCell_19 : decode cX0_isOrderCell 19 = .ok (.iconst 1, 1) := by decide +kernel
theorem dX0_isOrderCell_20 : decode cX0_isOrderCell 20 = .ok (.goto 4, 3) := by decide +kernel
theorem dX0_isOrderCell_23 : decode cX0_isOrderCell 23 = .ok (.iconst 0, 1) := by decide +kernel
theorem dX0_isOrderCell_24 : decode cX0_isOrderCell 24 = .ok (.ireturn, 1) := by decide +kernel
theorem dX0_orderPart_0 : decode cX0_orderPart 0 = .ok (.iload_n 1, 1) := by decide +kernel
theorem dX0_orderPart_1 : decode cX0_orderPart 1 = .ok (.iload_n 2, 1) := by decide +kernel
theorem dX0_orderPart_2 : decode cX0_orderPart 2 = .ok (.invokestatic 193, 3) := by decide +kernel
theorem dX0_orderPart_5 : decode cX0_orderPart 5 = .ok (.ifCond .eq 16, 3) := by decide +kernel
theorem dX0_orderPart_8 : decode cX0_orderPart 8 = .ok (.aload_n 0, 1) := by decide +kernel
theorem dX0_orderPart_9 : decode cX0_orderPart 9 = .ok (.getfield 28, 3) := by decide +kernel
theorem dX0_orderPart_12 : decode cX0_orderPart 12 = .ok (.iload_n 1, 1) := by decide +kernel
theorem dX0_orderPart_13 : decode cX0_orderPart 13 = .ok (.iconst 5, 1) := by decide +kernel
theorem dX0_orderPart_14 : decode cX0_orderPart 14 = .ok (.imul, 1) := by decide +kernel
theorem dX0_orderPart_15 : decode cX0_orderPart 15 = .ok (.iload_n 2, 1) := by decide +kernel
theorem dX0_orderPart_16 : decode cX0_orderPart 16 = .ok (.iadd, 1) := by decide +kernel
theorem dX0_orderPart_17 : decode cX0_orderPart 17 = .ok (.iaload, 1) := by decide +kernel
theorem dX0_orderPart_18 : decode cX0_orderPart 18 = .ok (.goto 4, 3) := by decide +kernel
theorem dX0_orderPart_21 : decode cX0_orderPart 21 = .ok (.iconst 0, 1) := by decide +kernel
theorem dX0_orderPart_22 : decode cX0_orderPart 22 = .ok (.ireturn, 1) := by decide +kernel
theorem dX0_setOrderPart_0 : decode cX0_setOrderPart 0 = .ok (.iload_n 1, 1) := by decide +kernel
theorem dX0_setOrderPart_1 : decode cX0_setOrderPart 1 = .ok (.iload_n 2, 1) := by decide +kernel
theorem dX0_setOrderPart_2 : decode cX0_setOrderPart 2 = .ok (.invokestatic 193, 3) := by decide +kernel
theorem dX0_setOrderPart_5 : decode cX0_setOrderPart 5 = .ok (.ifCond .eq 14, 3) := by decide +kernel
theorem dX0_setOrderPart_8 : decode cX0_setOrderPart 8 = .ok (.aload_n 0, 1) := by decide +kernel
theorem dX0_setOrderPart_9 : decode cX0_setOrderPart 9 = .ok (.getfield 28, 3) := by decide +kernel
theorem dX0_setOrderPart_12 : decode cX0_setOrderPart 12 = .ok (.iload_n 1, 1) := by decide +kernel
theorem dX0_setOrderPart_13 : decode cX0_setOrderPart 13 = .ok (.iconst 5, 1) := by decide +kernel
theorem dX0_setOrderPart_14 : decode cX0_setOrderPart 14 = .ok (.imul, 1) := by decide +kernel
theorem dX0_setOrderPart_15 : decode cX0_setOrderPart 15 = .ok (.iload_n 2, 1) := by decide +kernel
theorem dX0_setOrderPart_16 : decode cX0_setOrderPart 16 = .ok (.iadd, 1) := by decide +kernel
theorem dX0_setOrderPart_17 : decode cX0_setOrderPart 17 = .ok (.iload_n 3, 1) := by decide +kernel
theorem dX0_setOrderPart_18 : decode cX0_setOrderPart 18 = .ok (.iastore, 1) := by decide +kernel
theorem dX0_setOrderPart_19 : decode cX0_setOrderPart 19 = .ok (.return_, 1) := by decide +kernel
theorem dX0_moveOrder_0 : decode cX0_moveOrder 0 = .ok (.iconst 0, 1) := by decide +kernel
theorem dX0_moveOrder_1 : decode cX0_moveOrder 1 = .ok (.istore_n 3, 1) := by decide +kernel
theorem dX0_moveOrder_2 : decode cX0_moveOrder 2 = .ok (.iload_n 3, 1) := by decide +kernel
theorem dX0_moveOrder_3 : decode cX0_moveOrder 3 = .ok (.iconst 5, 1) := by decide +kernel
theorem dX0_moveOrder_4 : decode cX0_moveOrder 4 = .ok (.if_icmp .ge 21, 3) := by decide +kernel
theorem dX0_moveOrder_7 : decode cX0_moveOrder 7 = .ok (.aload_n 0, 1) := by decide +kernel
theorem dX0_moveOrder_8 : decode cX0_moveOrder 8 = .ok (.iload_n 2, 1) := by decide +kernel
theorem dX0_moveOrder_9 : decode cX0_moveOrder 9 = .ok (.iload_n 3, 1) := by decide +kernel
theorem dX0_moveOrder_10 : decode cX0_moveOrder 10 = .ok (.aload_n 0, 1) := by decide +kernel
theorem dX0_moveOrder_11 : decode cX0_moveOrder 11 = .ok (.iload_n 1, 1) := by decide +kernel
theorem dX0_moveOrder_12 : decode cX0_moveOrder 12 = .ok (.iload_n 3, 1) := by decide +kernel
theorem dX0_moveOrder_13 : decode cX0_moveOrder 13 = .ok (.invokevirtual 109, 3) := by decide +kernel
theorem dX0_moveOrder_16 : decode cX0_moveOrder 16 = .ok (.invokevirtual 100, 3) := by decide +kernel
theorem dX0_moveOrder_19 : decode cX0_moveOrder 19 = .ok (.iinc 3 1, 3) := by decide +kernel
theorem dX0_moveOrder_22 : decode cX0_moveOrder 22 = .ok (.goto (-20), 3) := by decide +kernel
theorem dX0_moveOrder_25 : decode cX0_moveOrder 25 = .ok (.return_, 1) := by decide +kernel
theorem dX0_firstOrderPlace_0 : decode cX0_firstOrderPlace 0 = .ok (.iconst 0, 1) := by decide +kernel
theorem dX0_firstOrderPlace_1 : decode cX0_firstOrderPlace 1 = .ok (.istore_n 3, 1) := by decide +kernel
theorem dX0_firstOrderPlace_2 : decode cX0_firstOrderPlace 2 = .ok (.iload_n 3, 1) := by decide +kernel
theorem dX0_firstOrderPlace_3 : decode cX0_firstOrderPlace 3 = .ok (.aload_n 0, 1) := by decide +kernel
theorem dX0_firstOrderPlace_4 : decode cX0_firstOrderPlace 4 = .ok (.getfield 95, 3) := by decide +kernel
theorem dX0_firstOrderPlace_7 : decode cX0_firstOrderPlace 7 = .ok (.if_icmp .ge 31, 3) := by decide +kernel
theorem dX0_firstOrderPlace_10 : decode cX0_firstOrderPlace 10 = .ok (.aload_n 0, 1) := by decide +kernel
theorem dX0_firstOrderPlace_11 : decode cX0_firstOrderPlace 11 = .ok (.iload_n 3, 1) := by decide +kernel
theorem dX0_firstOrderPlace_12 : decode cX0_firstOrderPlace 12 = .ok (.iconst 1, 1) := by decide +kernel
theorem dX0_firstOrderPlace_13 : decode cX0_firstOrderPlace 13 = .ok (.invokevirtual 109, 3) := by decide +kernel
theorem dX0_firstOrderPlace_16 : decode cX0_firstOrderPlace 16 = .ok (.iload_n 1, 1) := by decide +kernel
theorem dX0_firstOrderPlace_17 : decode cX0_firstOrderPlace 17 = .ok (.if_icmp .ne 15, 3) := by decide +kernel
theorem dX0_firstOrderPlace_20 : decode cX0_firstOrderPlace 20 = .ok (.aload_n 0, 1) := by decide +kernel
theorem dX0_firstOrderPlace_21 : decode cX0_firstOrderPlace 21 = .ok (.iload_n 3, 1) := by decide +kernel
theorem dX0_firstOrderPlace_22 : decode cX0_firstOrderPlace 22 = .ok (.iconst 2, 1) := by decide +kernel
theorem dX0_firstOrderPlace_23 : decode cX0_firstOrderPlace 23 = .ok (.invokevirtual 109, 3) := by decide +kernel
theorem dX0_firstOrderPlace_26 : decode cX0_firstOrderPlace 26 = .ok (.iload_n 2, 1) := by decide +kernel
theorem dX0_firstOrderPlace_27 : decode cX0_firstOrderPlace 27 = .ok (.if_icmp .ne 5, 3) := by decide +kernel
theorem dX0_firstOrderPlace_30 : decode cX0_firstOrderPlace 30 = .ok (.iload_n 3, 1) := by decide +kernel
theorem dX0_firstOrderPlace_31 : decode cX0_firstOrderPlace 31 = .ok (.ireturn, 1) := by decide +kernel
theorem dX0_firstOrderPlace_32 : decode cX0_firstOrderPlace 32 = .ok (.iinc 3 1, 3) := by decide +kernel
theorem dX0_firstOrderPlace_35 : decode cX0_firstOrderPlace 35 = .ok (.goto (-33), 3) := by decide +kernel
theorem dX0_firstOrderPlace_38 : decode cX0_firstOrderPlace 38 = .ok (.iconst (-1), 1) := by decide +kernel
theorem dX0_firstOrderPlace_39 : decode cX0_firstOrderPlace 39 = .ok (.ireturn, 1) := by decide +kernel
theorem dX0_lookAtOrders_0 : decode cX0_lookAtOrders 0 = .ok (.iconst 0, 1) := by decide +kernel
theorem dX0_lookAtOrders_1 : decode cX0_lookAtOrders 1 = .ok (.istore_n 1, 1) := by decide +kernel
theorem dX0_lookAtOrders_2 : decode cX0_lookAtOrders 2 = .ok (.iconst 0, 1) := by decide +kernel
theorem dX0_lookAtOrders_3 : decode cX0_lookAtOrders 3 = .ok (.istore_n 2, 1) := by decide +kernel
theorem dX0_lookAtOrders_4 : decode cX0_lookAtOrders 4 = .ok (.iload_n 2, 1) := by decide +kernel
theorem dX0_lookAtOrders_5 : decode cX0_lookAtOrders 5 = .ok (.aload_n 0, 1) := by decide +kernel
theorem dX0_lookAtOrders_6 : decode cX0_lookAtOrders 6 = .ok (.getfield 95, 3) := by decide +kernel
theorem dX0_lookAtOrders_9 : decode cX0_lookAtOrders 9 = .ok (.if_icmp .ge 26, 3) := by decide +kernel
theorem dX0_lookAtOrders_12 : decode cX0_lookAtOrders 12 = .ok (.aload_n 0, 1) := by decide +kernel
theorem dX0_lookAtOrders_13 : decode cX0_lookAtOrders 13 = .ok (.iload_n 2, 1) := by decide +kernel
theorem dX0_lookAtOrders_14 : decode cX0_lookAtOrders 14 = .ok (.invokevirtual 197, 3) := by decide +kernel
theorem dX0_lookAtOrders_17 : decode cX0_lookAtOrders 17 = .ok (.ifCond .ne 12, 3) := by decide +kernel
theorem dX0_lookAtOrders_20 : decode cX0_lookAtOrders 20 = .ok (.aload_n 0, 1) := by decide +kernel
theorem dX0_lookAtOrders_21 : decode cX0_lookAtOrders 21 = .ok (.iload_n 2, 1) := by decide +kernel
theorem dX0_lookAtOrders_22 : decode cX0_lookAtOrders 22 = .ok (.iload_n 1, 1) := by decide +kernel
theorem dX0_lookAtOrders_23 : decode cX0_lookAtOrders 23 = .ok (.invokevirtual 113, 3) := by decide +kernel
theorem dX0_lookAtOrders_26 : decode cX0_lookAtOrders 26 = .ok (.iinc 1 1, 3) := by decide +kernel
theorem dX0_lookAtOrders_29 : decode cX0_lookAtOrders 29 = .ok (.iinc 2 1, 3) := by decide +kernel
theorem dX0_lookAtOrders_32 : decode cX0_lookAtOrders 32 = .ok (.goto (-28), 3) := by decide +kernel
theorem dX0_lookAtOrders_35 : decode cX0_lookAtOrders 35 = .ok (.aload_n 0, 1) := by decide +kernel
theorem dX0_lookAtOrders_36 : decode cX0_lookAtOrders 36 = .ok (.getfield 95, 3) := by decide +kernel
theorem dX0_lookAtOrders_39 : decode cX0_lookAtOrders 39 = .ok (.iload_n 1, 1) := by decide +kernel
theorem dX0_lookAtOrders_40 : decode cX0_lookAtOrders 40 = .ok (.isub, 1) := by decide +kernel
theorem dX0_lookAtOrders_41 : decode cX0_lookAtOrders 41 = .ok (.istore_n 2, 1) := by decide +kernel
theorem dX0_lookAtOrders_42 : decode cX0_lookAtOrders 42 = .ok (.aload_n 0, 1) := by decide +kernel
theorem dX0_lookAtOrders_43 : decode cX0_lookAtOrders 43 = .ok (.iload_n 1, 1) := by decide +kernel
theorem dX0_lookAtOrders_44 : decode cX0_lookAtOrders 44 = .ok (.putfield 95, 3) := by decide +kernel
theorem dX0_lookAtOrders_47 : decode cX0_lookAtOrders 47 = .ok (.aload_n 0, 1) := by decide +kernel
theorem dX0_lookAtOrders_48 : decode cX0_lookAtOrders 48 = .ok (.dup, 1) := by decide +kernel
theorem dX0_lookAtOrders_49 : decode cX0_lookAtOrders 49 = .ok (.getfield 182, 3) := by decide +kernel
theorem dX0_lookAtOrders_52 : decode cX0_lookAtOrders 52 = .ok (.iload_n 2, 1) := by decide +kernel
theorem dX0_lookAtOrders_53 : decode cX0_lookAtOrders 53 = .ok (.iadd, 1) := by decide +kernel
theorem dX0_lookAtOrders_54 : decode cX0_lookAtOrders 54 = .ok (.putfield 182, 3) := by decide +kernel
theorem dX0_lookAtOrders_57 : decode cX0_lookAtOrders 57 = .ok (.iload_n 2, 1) := by decide +kernel
theorem dX0_lookAtOrders_58 : decode cX0_lookAtOrders 58 = .ok (.ireturn, 1) := by decide +kernel
theorem dX0_doneIfPossible_0 : decode cX0_doneIfPossible 0 = .ok (.aload_n 0, 1) := by decide +kernel
theorem dX0_doneIfPossible_1 : decode cX0_doneIfPossible 1 = .ok (.aload_n 0, 1) := by decide +kernel
theorem dX0_doneIfPossible_2 : decode cX0_doneIfPossible 2 = .ok (.iload_n 1, 1) := by decide +kernel
theorem dX0_doneIfPossible_3 : decode cX0_doneIfPossible 3 = .ok (.iconst 0, 1) := by decide +kernel
theorem dX0_doneIfPossible_4 : decode cX0_doneIfPossible 4 = .ok (.invokevirtual 109, 3) := by decide +kernel
theorem dX0_doneIfPossible_7 : decode cX0_doneIfPossible 7 = .ok (.aload_n 0, 1) := by decide +kernel
theorem dX0_doneIfPossible_8 : decode cX0_doneIfPossible 8 = .ok (.iload_n 1, 1) := by decide +kernel
theorem dX0_doneIfPossible_9 : decode cX0_doneIfPossible 9 = .ok (.iconst 1, 1) := by decide +kernel
theorem dX0_doneIfPossible_10 : decode cX0_doneIfPossible 10 = .ok (.invokevirtual 109, 3) := by decide +kernel
theorem dX0_doneIfPossible_13 : decode cX0_doneIfPossible 13 = .ok (.aload_n 0, 1) := by decide +kernel
theorem dX0_doneIfPossible_14 : decode cX0_doneIfPossible 14 = .ok (.iload_n 1, 1) := by decide +kernel
theorem dX0_doneIfPossible_15 : decode cX0_doneIfPossible 15 = .ok (.iconst 2, 1) := by decide +kernel
theorem dX0_doneIfPossible_16 : decode cX0_doneIfPossible 16 = .ok (.invokevirtual 109, 3) := by decide +kernel
theorem dX0_doneIfPossible_19 : decode cX0_doneIfPossible 19 = .ok (.aload_n 0, 1) := by decide +kernel
theorem dX0_doneIfPossible_20 : decode cX0_doneIfPossible 20 = .ok (.iload_n 1, 1) := by decide +kernel
theorem dX0_doneIfPossible_21 : decode cX0_doneIfPossible 21 = .ok (.iconst 3, 1) := by decide +kernel
theorem dX0_doneIfPossible_22 : decode cX0_doneIfPossible 22 = .ok (.invokevirtual 109, 3) := by decide +kernel
theorem dX0_doneIfPossible_25 : decode cX0_doneIfPossible 25 = .ok (.aload_n 0, 1) := by decide +kernel
theorem dX0_doneIfPossible_26 : decode cX0_doneIfPossible 26 = .ok (.iload_n 1, 1) := by decide +kernel
theorem dX0_doneIfPossible_27 : decode cX0_doneIfPossible 27 = .ok (.iconst 4, 1) := by decide +kernel
theorem dX0_doneIfPossible_28 : decode cX0_doneIfPossible 28 = .ok (.invokevirtual 109, 3) := by decide +kernel
theorem dX0_doneIfPossible_31 : decode cX0_doneIfPossible 31 = .ok (.invokevirtual 87, 3) := by decide +kernel
theorem dX0_doneIfPossible_34 : decode cX0_doneIfPossible 34 = .ok (.istore_n 2, 1) := by decide +kernel
theorem dX0_doneIfPossible_35 : decode cX0_doneIfPossible 35 = .ok (.iload_n 2, 1) := by decide +kernel
theorem dX0_doneIfPossible_36 : decode cX0_doneIfPossible 36 = .ok (.ifCond .eq 7, 3) := by decide +kernel
theorem dX0_doneIfPossible_39 : decode cX0_doneIfPossible 39 = .ok (.iconst 1, 1) := by decide +kernel
theorem dX0_doneIfPossible_40 : decode cX0_doneIfPossible 40 = .ok (.goto 4, 3) := by decide +kernel
theorem dX0_doneIfPossible_43 : decode cX0_doneIfPossible 43 = .ok (.iconst 0, 1) := by decide +kernel
theorem dX0_doneIfPossible_44 : decode cX0_doneIfPossible 44 = .ok (.ireturn, 1) := by decide +kernel
theorem dX0_tenthousandths_0 : decode cX0_tenthousandths 0 = .ok (.lload_n 3, 1) := by decide +kernel
theorem dX0_tenthousandths_1 : decode cX0_tenthousandths 1 = .ok (.aload_n 0, 1) := by decide +kernel
theorem dX0_tenthousandths_2 : decode cX0_tenthousandths 2 = .ok (.iload_n 1, 1) := by decide +kernel
theorem dX0_tenthousandths_3 : decode cX0_tenthousandths 3 = .ok (.iload_n 2, 1) := by decide +kernel
theorem dX0_tenthousandths_4 : decode cX0_tenthousandths 4 = .ok (.invokevirtual 173, 3) := by decide +kernel
theorem dX0_tenthousandths_7 : decode cX0_tenthousandths 7 = .ok (.i2l, 1) := by decide +kernel
theorem dX0_tenthousandths_8 : decode cX0_tenthousandths 8 = .ok (.lmul, 1) := by decide +kernel
theorem dX0_tenthousandths_9 : decode cX0_tenthousandths 9 = .ok (.bipush 100, 2) := by decide +kernel
theorem dX0_tenthousandths_11 : decode cX0_tenthousandths 11 = .ok (.aload_n 0, 1) := by decide +kernel
theorem dX0_tenthousandths_12 : decode cX0_tenthousandths 12 = .ok (.getfield 53, 3) := by decide +kernel
theorem dX0_tenthousandths_15 : decode cX0_tenthousandths 15 = .ok (.isub, 1) := by decide +kernel
theorem dX0_tenthousandths_16 : decode cX0_tenthousandths 16 = .ok (.i2l, 1) := by decide +kernel
theorem dX0_tenthousandths_17 : decode cX0_tenthousandths 17 = .ok (.lmul, 1) := by decide +kernel
theorem dX0_tenthousandths_18 : decode cX0_tenthousandths 18 = .ok (.lreturn, 1) := by decide +kernel
theorem dX0_wholeOnes_0 : decode cX0_wholeOnes 0 = .ok (.lload_n 0, 1) := by decide +kernel
theorem dX0_wholeOnes_1 : decode cX0_wholeOnes 1 = .ok (.ldc2_w 200, 3) := by decide +kernel
theorem dX0_wholeOnes_4 : decode cX0_wholeOnes 4 = .ok (.ldiv, 1) := by decide +kernel
theorem dX0_wholeOnes_5 : decode cX0_wholeOnes 5 = .ok (.lreturn, 1) := by decide +kernel
theorem dX0_changeIfPossible_0 : decode cX0_changeIfPossible 0 = .ok (.aload_n 0, 1) := by decide +kernel
theorem dX0_changeIfPossible_1 : decode cX0_changeIfPossible 1 = .ok (.iload_n 1, 1) := by decide +kernel
theorem dX0_changeIfPossible_2 : decode cX0_changeIfPossible 2 = .ok (.invokevirtual 80, 3) := by decide +kernel
theorem dX0_changeIfPossible_5 : decode cX0_changeIfPossible 5 = .ok (.ifCond .eq 22, 3) := by decide +kernel
theorem dX0_changeIfPossible_8 : decode cX0_changeIfPossible 8 = .ok (.iload_n 2, 1) := by decide +kernel
theorem dX0_changeIfPossible_9 : decode cX0_changeIfPossible 9 = .ok (.invokestatic 31, 3) := by decide +kernel
theorem dX0_changeIfPossible_12 : decode cX0_changeIfPossible 12 = .ok (.ifCond .eq 15, 3) := by decide +kernel
theorem dX0_changeIfPossible_15 : decode cX0_changeIfPossible 15 = .ok (.iload_n 3, 1) := by decide +kernel
theorem dX0_changeIfPossible_16 : decode cX0_changeIfPossible 16 = .ok (.invokestatic 31, 3) := by decide +kernel
theorem dX0_changeIfPossible_19 : decode cX0_changeIfPossible 19 = .ok (.ifCond .eq 8, 3) := by decide +kernel
theorem dX0_changeIfPossible_22 : decode cX0_changeIfPossible 22 = .ok (.iload_n 2, 1) := by decide +kernel
theorem dX0_changeIfPossible_23 : decode cX0_changeIfPossible 23 = .ok (.iload_n 3, 1) := by decide +kernel
theorem dX0_changeIfPossible_24 : decode cX0_changeIfPossible 24 = .ok (.if_icmp .ne 5, 3) := by decide +kernel
theorem dX0_changeIfPossible_27 : decode cX0_changeIfPossible 27 = .ok (.iconst 0, 1) := by decide +kernel
theorem dX0_changeIfPossible_28 : decode cX0_changeIfPossible 28 = .ok (.ireturn, 1) := by decide +kernel
theorem dX0_changeIfPossible_29 : decode cX0_changeIfPossible 29 = .ok (.aload_n 0, 1) := by decide +kernel
theorem dX0_changeIfPossible_30 : decode cX0_changeIfPossible 30 = .ok (.iload_n 2, 1) := by decide +kernel
theorem dX0_changeIfPossible_31 : decode cX0_changeIfPossible 31 = .ok (.iload_n 3, 1) := by decide +kernel
theorem dX0_changeIfPossible_32 : decode cX0_changeIfPossible 32 = .ok (.iload 4, 2) := by decide +kernel
theorem dX0_changeIfPossible_34 : decode cX0_changeIfPossible 34 = .ok (.i2l, 1) := by decide +kernel
theorem dX0_changeIfPossible_35 : decode cX0_changeIfPossible 35 = .ok (.invokevirtual 138, 3) := by decide +kernel
theorem dX0_changeIfPossible_38 : decode cX0_changeIfPossible 38 = .ok (.lstore 6, 2) := by decide +kernel
theorem dX0_changeIfPossible_40 : decode cX0_changeIfPossible 40 = .ok (.lload 6, 2) := by decide +kernel
theorem dX0_changeIfPossible_42 : decode cX0_changeIfPossible 42 = .ok (.invokestatic 142, 3) := by decide +kernel
theorem dX0_changeIfPossible_45 : decode cX0_changeIfPossible 45 = .ok (.lstore 8, 2) := by decide +kernel
theorem dX0_changeIfPossible_47 : decode cX0_changeIfPossible 47 = .ok (.lload 8, 2) := by decide +kernel
theorem dX0_changeIfPossible_49 : decode cX0_changeIfPossible 49 = .ok (.iload 5, 2) := by decide +kernel
theorem dX0_changeIfPossible_51 : decode cX0_changeIfPossible 51 = .ok (.i2l, 1) := by decide +kernel
theorem dX0_changeIfPossible_52 : decode cX0_changeIfPossible 52 = .ok (.lcmp, 1) := by decide +kernel
theorem dX0_changeIfPossible_53 : decode cX0_changeIfPossible 53 = .ok (.ifCond .lt 21, 3) := by decide +kernel
theorem dX0_changeIfPossible_56 : decode cX0_changeIfPossible 56 = .ok (.aload_n 0, 1) := by decide +kernel
theorem dX0_changeIfPossible_57 : decode cX0_changeIfPossible 57 = .ok (.aload_n 0, 1) := by decide +kernel
theorem dX0_changeIfPossible_58 : decode cX0_changeIfPossible 58 = .ok (.iload_n 1, 1) := by decide +kernel
theorem dX0_changeIfPossible_59 : decode cX0_changeIfPossible 59 = .ok (.iload_n 2, 1) := by decide +kernel
theorem dX0_changeIfPossible_60 : decode cX0_changeIfPossible 60 = .ok (.invokevirtual 117, 3) := by decide +kernel
theorem dX0_changeIfPossible_63 : decode cX0_changeIfPossible 63 = .ok (.iload_n 3, 1) := by decide +kernel
theorem dX0_changeIfPossible_64 : decode cX0_changeIfPossible 64 = .ok (.iload 4, 2) := by decide +kernel
theorem dX0_changeIfPossible_66 : decode cX0_changeIfPossible 66 = .ok (.lload 8, 2) := by decide +kernel
theorem dX0_changeIfPossible_68 : decode cX0_changeIfPossible 68 = .ok (.invokevirtual 202, 3) := by decide +kernel
theorem dX0_changeIfPossible_71 : decode cX0_changeIfPossible 71 = .ok (.ifCond .ne 5, 3) := by decide +kernel
theorem dX0_changeIfPossible_74 : decode cX0_changeIfPossible 74 = .ok (.iconst 0, 1) := by decide +kernel
theorem dX0_changeIfPossible_75 : decode cX0_changeIfPossible 75 = .ok (.ireturn, 1) := by decide +kernel
theorem dX0_changeIfPossible_76 : decode cX0_changeIfPossible 76 = .ok (.iload_n 1, 1) := by decide +kernel
theorem dX0_changeIfPossible_77 : decode cX0_changeIfPossible 77 = .ok (.iconst 5, 1) := by decide +kernel
theorem dX0_changeIfPossible_78 : decode cX0_changeIfPossible 78 = .ok (.imul, 1) := by decide +kernel
theorem dX0_changeIfPossible_79 : decode cX0_changeIfPossible 79 = .ok (.iload_n 2, 1) := by decide +kernel
theorem dX0_changeIfPossible_80 : decode cX0_changeIfPossible 80 = .ok (.iadd, 1) := by decide +kernel
theorem dX0_changeIfPossible_81 : decode cX0_changeIfPossible 81 = .ok (.istore 10, 2) := by decide +kernel
theorem dX0_changeIfPossible_83 : decode cX0_changeIfPossible 83 = .ok (.iload_n 1, 1) := by decide +kernel
theorem dX0_changeIfPossible_84 : decode cX0_changeIfPossible 84 = .ok (.iconst 5, 1) := by decide +kernel
theorem dX0_changeIfPossible_85 : decode cX0_changeIfPossible 85 = .ok (.imul, 1) := by decide +kernel
theorem dX0_changeIfPossible_86 : decode cX0_changeIfPossible 86 = .ok (.iload_n 3, 1) := by decide +kernel
theorem dX0_changeIfPossible_87 : decode cX0_changeIfPossible 87 = .ok (.iadd, 1) := by decide +kernel
theorem dX0_changeIfPossible_88 : decode cX0_changeIfPossible 88 = .ok (.istore 11, 2) := by decide +kernel
theorem dX0_changeIfPossible_90 : decode cX0_changeIfPossible 90 = .ok (.aload_n 0, 1) := by decide +kernel
theorem dX0_changeIfPossible_91 : decode cX0_changeIfPossible 91 = .ok (.getfield 25, 3) := by decide +kernel
theorem dX0_changeIfPossible_94 : decode cX0_changeIfPossible 94 = .ok (.iload 10, 2) := by decide +kernel
theorem dX0_changeIfPossible_96 : decode cX0_changeIfPossible 96 = .ok (.dup2, 1) := by decide +kernel
theorem dX0_changeIfPossible_97 : decode cX0_changeIfPossible 97 = .ok (.iaload, 1) := by decide +kernel
theorem dX0_changeIfPossible_98 : decode cX0_changeIfPossible 98 = .ok (.iload 4, 2) := by decide +kernel
theorem dX0_changeIfPossible_100 : decode cX0_changeIfPossible 100 = .ok (.isub, 1) := by decide +kernel
theorem dX0_changeIfPossible_101 : decode cX0_changeIfPossible 101 = .ok (.iastore, 1) := by decide +kernel
theorem dX0_changeIfPossible_102 : decode cX0_changeIfPossible 102 = .ok (.aload_n 0, 1) := by decide +kernel
theorem dX0_changeIfPossible_103 : decode cX0_changeIfPossible 103 = .ok (.getfield 25, 3) := by decide +kernel
theorem dX0_changeIfPossible_106 : decode cX0_changeIfPossible 106 = .ok (.iload 11, 2) := by decide +kernel
theorem dX0_changeIfPossible_108 : decode cX0_changeIfPossible 108 = .ok (.aload_n 0, 1) := by decide +kernel
theorem dX0_changeIfPossible_109 : decode cX0_changeIfPossible 109 = .ok (.getfield 25, 3) := by decide +kernel
theorem dX0_changeIfPossible_112 : decode cX0_changeIfPossible 112 = .ok (.iload 11, 2) := by decide +kernel
theorem dX0_changeIfPossible_114 : decode cX0_changeIfPossible 114 = .ok (.iaload, 1) := by decide +kernel
theorem dX0_changeIfPossible_115 : decode cX0_changeIfPossible 115 = .ok (.i2l, 1) := by decide +kernel
theorem dX0_changeIfPossible_116 : decode cX0_changeIfPossible 116 = .ok (.lload 8, 2) := by decide +kernel
theorem dX0_changeIfPossible_118 : decode cX0_changeIfPossible 118 = .ok (.ladd, 1) := by decide +kernel
theorem dX0_changeIfPossible_119 : decode cX0_changeIfPossible 119 = .ok (.invokestatic 65, 3) := by decide +kernel
theorem dX0_changeIfPossible_122 : decode cX0_changeIfPossible 122 = .ok (.iastore, 1) := by decide +kernel
theorem dX0_changeIfPossible_123 : decode cX0_changeIfPossible 123 = .ok (.aload_n 0, 1) := by decide +kernel
theorem dX0_changeIfPossible_124 : decode cX0_changeIfPossible 124 = .ok (.getfield 13, 3) := by decide +kernel
theorem dX0_changeIfPossible_127 : decode cX0_changeIfPossible 127 = .ok (.iload_n 2, 1) := by decide +kernel
theorem dX0_changeIfPossible_128 : decode cX0_changeIfPossible 128 = .ok (.aload_n 0, 1) := by decide +kernel
theorem dX0_changeIfPossible_129 : decode cX0_changeIfPossible 129 = .ok (.getfield 13, 3) := by decide +kernel
theorem dX0_changeIfPossible_132 : decode cX0_changeIfPossible 132 = .ok (.iload_n 2, 1) := by decide +kernel
theorem dX0_changeIfPossible_133 : decode cX0_changeIfPossible 133 = .ok (.iaload, 1) := by decide +kernel
theorem dX0_changeIfPossible_134 : decode cX0_changeIfPossible 134 = .ok (.i2l, 1) := by decide +kernel
theorem dX0_changeIfPossible_135 : decode cX0_changeIfPossible 135 = .ok (.iload 4, 2) := by decide +kernel
theorem dX0_changeIfPossible_137 : decode cX0_changeIfPossible 137 = .ok (.i2l, 1) := by decide +kernel
theorem dX0_changeIfPossible_138 : decode cX0_changeIfPossible 138 = .ok (.ladd, 1) := by decide +kernel
theorem dX0_changeIfPossible_139 : decode cX0_changeIfPossible 139 = .ok (.invokestatic 65, 3) := by decide +kernel
theorem dX0_changeIfPossible_142 : decode cX0_changeIfPossible 142 = .ok (.iastore, 1) := by decide +kernel
theorem dX0_changeIfPossible_143 : decode cX0_changeIfPossible 143 = .ok (.aload_n 0, 1) := by decide +kernel
theorem dX0_changeIfPossible_144 : decode cX0_changeIfPossible 144 = .ok (.getfield 13, 3) := by decide +kernel
theorem dX0_changeIfPossible_147 : decode cX0_changeIfPossible 147 = .ok (.iload_n 3, 1) := by decide +kernel
theorem dX0_changeIfPossible_148 : decode cX0_changeIfPossible 148 = .ok (.dup2, 1) := by decide +kernel
theorem dX0_changeIfPossible_149 : decode cX0_changeIfPossible 149 = .ok (.iaload, 1) := by decide +kernel
theorem dX0_changeIfPossible_150 : decode cX0_changeIfPossible 150 = .ok (.lload 8, 2) := by decide +kernel
theorem dX0_changeIfPossible_152 : decode cX0_changeIfPossible 152 = .ok (.l2i, 1) := by decide +kernel
theorem dX0_changeIfPossible_153 : decode cX0_changeIfPossible 153 = .ok (.isub, 1) := by decide +kernel
theorem dX0_changeIfPossible_154 : decode cX0_changeIfPossible 154 = .ok (.iastore, 1) := by decide +kernel
theorem dX0_changeIfPossible_155 : decode cX0_changeIfPossible 155 = .ok (.aload_n 0, 1) := by decide +kernel
theorem dX0_changeIfPossible_156 : decode cX0_changeIfPossible 156 = .ok (.getfield 22, 3) := by decide +kernel
theorem dX0_changeIfPossible_159 : decode cX0_changeIfPossible 159 = .ok (.iload_n 3, 1) := by decide +kernel
theorem dX0_changeIfPossible_160 : decode cX0_changeIfPossible 160 = .ok (.dup2, 1) := by decide +kernel
theorem dX0_changeIfPossible_161 : decode cX0_changeIfPossible 161 = .ok (.iaload, 1) := by decide +kernel
theorem dX0_changeIfPossible_162 : decode cX0_changeIfPossible 162 = .ok (.lload 8, 2) := by decide +kernel
theorem dX0_changeIfPossible_164 : decode cX0_changeIfPossible 164 = .ok (.l2i, 1) := by decide +kernel
theorem dX0_changeIfPossible_165 : decode cX0_changeIfPossible 165 = .ok (.iadd, 1) := by decide +kernel
theorem dX0_changeIfPossible_166 : decode cX0_changeIfPossible 166 = .ok (.iastore, 1) := by decide +kernel
theorem dX0_changeIfPossible_167 : decode cX0_changeIfPossible 167 = .ok (.aload_n 0, 1) := by decide +kernel
theorem dX0_changeIfPossible_168 : decode cX0_changeIfPossible 168 = .ok (.dup, 1) := by decide +kernel
theorem dX0_changeIfPossible_169 : decode cX0_changeIfPossible 169 = .ok (.getfield 179, 3) := by decide +kernel
theorem dX0_changeIfPossible_172 : decode cX0_changeIfPossible 172 = .ok (.iconst 1, 1) := by decide +kernel
theorem dX0_changeIfPossible_173 : decode cX0_changeIfPossible 173 = .ok (.iadd, 1) := by decide +kernel
theorem dX0_changeIfPossible_174 : decode cX0_changeIfPossible 174 = .ok (.putfield 179, 3) := by decide +kernel
theorem dX0_changeIfPossible_177 : decode cX0_changeIfPossible 177 = .ok (.aload_n 0, 1) := by decide +kernel
theorem dX0_changeIfPossible_178 : decode cX0_changeIfPossible 178 = .ok (.iload_n 3, 1) := by decide +kernel
theorem dX0_changeIfPossible_179 : decode cX0_changeIfPossible 179 = .ok (.lload 6, 2) := by decide +kernel
theorem dX0_changeIfPossible_181 : decode cX0_changeIfPossible 181 = .ok (.ldc2_w 200, 3) := by decide +kernel
theorem dX0_changeIfPossible_184 : decode cX0_changeIfPossible 184 = .ok (.lrem, 1) := by decide +kernel
theorem dX0_changeIfPossible_185 : decode cX0_changeIfPossible 185 = .ok (.l2i, 1) := by decide +kernel
theorem dX0_changeIfPossible_186 : decode cX0_changeIfPossible 186 = .ok (.invokevirtual 206, 3) := by decide +kernel
theorem dX0_changeIfPossible_189 : decode cX0_changeIfPossible 189 = .ok (.lload 8, 2) := by decide +kernel
theorem dX0_changeIfPossible_191 : decode cX0_changeIfPossible 191 = .ok (.l2i, 1) := by decide +kernel
theorem dX0_changeIfPossible_192 : decode cX0_changeIfPossible 192 = .ok (.ireturn, 1) := by decide +kernel
theorem dX0_isAllowed_0 : decode cX0_isAllowed 0 = .ok (.iload_n 2, 1) := by decide +kernel
theorem dX0_isAllowed_1 : decode cX0_isAllowed 1 = .ok (.invokestatic 31, 3) := by decide +kernel
theorem dX0_isAllowed_4 : decode cX0_isAllowed 4 = .ok (.ifCond .eq 58, 3) := by decide +kernel
theorem dX0_isAllowed_7 : decode cX0_isAllowed 7 = .ok (.iload_n 3, 1) := by decide +kernel
theorem dX0_isAllowed_8 : decode cX0_isAllowed 8 = .ok (.iconst 1, 1) := by decide +kernel
theorem dX0_isAllowed_9 : decode cX0_isAllowed 9 = .ok (.if_icmp .lt 53, 3) := by decide +kernel
theorem dX0_isAllowed_12 : decode cX0_isAllowed 12 = .ok (.iload_n 3, 1) := by decide +kernel
theorem dX0_isAllowed_13 : decode cX0_isAllowed 13 = .ok (.iload_n 1, 1) := by decide +kernel
theorem dX0_isAllowed_14 : decode cX0_isAllowed 14 = .ok (.if_icmp .gt 48, 3) := by decide +kernel
theorem dX0_isAllowed_17 : decode cX0_isAllowed 17 = .ok (.lload 4, 2) := by decide +kernel
theorem dX0_isAllowed_19 : decode cX0_isAllowed 19 = .ok (.lconst 1, 1) := by decide +kernel
theorem dX0_isAllowed_20 : decode cX0_isAllowed 20 = .ok (.lcmp, 1) := by decide +kernel
theorem dX0_isAllowed_21 : decode cX0_isAllowed 21 = .ok (.ifCond .lt 41, 3) := by decide +kernel
theorem dX0_isAllowed_24 : decode cX0_isAllowed 24 = .ok (.lload 4, 2) := by decide +kernel
theorem dX0_isAllowed_26 : decode cX0_isAllowed 26 = .ok (.aload_n 0, 1) := by decide +kernel
theorem dX0_isAllowed_27 : decode cX0_isAllowed 27 = .ok (.getfield 13, 3) := by decide +kernel
theorem dX0_isAllowed_30 : decode cX0_isAllowed 30 = .ok (.iload_n 2, 1) := by decide +kernel
theorem dX0_isAllowed_31 : decode cX0_isAllowed 31 = .ok (.iaload, 1) := by decide +kernel
theorem dX0_isAllowed_32 : decode cX0_isAllowed 32 = .ok (.i2l, 1) := by decide +kernel
theorem dX0_isAllowed_33 : decode cX0_isAllowed 33 = .ok (.lcmp, 1) := by decide +kernel
theorem dX0_isAllowed_34 : decode cX0_isAllowed 34 = .ok (.ifCond .gt 28, 3) := by decide +kernel
theorem dX0_isAllowed_37 : decode cX0_isAllowed 37 = .ok (.aload_n 0, 1) := by decide +kernel
theorem dX0_isAllowed_38 : decode cX0_isAllowed 38 = .ok (.getfield 22, 3) := by decide +kernel
theorem dX0_isAllowed_41 : decode cX0_isAllowed 41 = .ok (.iload_n 2, 1) := by decide +kernel
theorem dX0_isAllowed_42 : decode cX0_isAllowed 42 = .ok (.iaload, 1) := by decide +kernel
theorem dX0_isAllowed_43 : decode cX0_isAllowed 43 = .ok (.i2l, 1) := by decide +kernel
theorem dX0_isAllowed_44 : decode cX0_isAllowed 44 = .ok (.lload 4, 2) := by decide +kernel
theorem dX0_isAllowed_46 : decode cX0_isAllowed 46 = .ok (.ladd, 1) := by decide +kernel
theorem dX0_isAllowed_47 : decode cX0_isAllowed 47 = .ok (.aload_n 0, 1) := by decide +kernel
theorem dX0_isAllowed_48 : decode cX0_isAllowed 48 = .ok (.getfield 19, 3) := by decide +kernel
theorem dX0_isAllowed_51 : decode cX0_isAllowed 51 = .ok (.iload_n 2, 1) := by decide +kernel
theorem dX0_isAllowed_52 : decode cX0_isAllowed 52 = .ok (.iaload, 1) := by decide +kernel
theorem dX0_isAllowed_53 : decode cX0_isAllowed 53 = .ok (.i2l, 1) := by decide +kernel
theorem dX0_isAllowed_54 : decode cX0_isAllowed 54 = .ok (.lcmp, 1) := by decide +kernel
theorem dX0_isAllowed_55 : decode cX0_isAllowed 55 = .ok (.ifCond .gt 7, 3) := by decide +kernel
theorem dX0_isAllowed_58 : decode cX0_isAllowed 58 = .ok (.iconst 1, 1) := by decide +kernel
theorem dX0_isAllowed_59 : decode cX0_isAllowed 59 = .ok (.goto 4, 3) := by decide +kernel
theorem dX0_isAllowed_62 : decode cX0_isAllowed 62 = .ok (.iconst 0, 1) := by decide +kernel
theorem dX0_isAllowed_63 : decode cX0_isAllowed 63 = .ok (.ireturn, 1) := by decide +kernel
theorem dX0_keepDust_0 : decode cX0_keepDust 0 = .ok (.iload_n 1, 1) := by decide +kernel
theorem dX0_keepDust_1 : decode cX0_keepDust 1 = .ok (.invokestatic 31, 3) := by decide +kernel
theorem dX0_keepDust_4 : decode cX0_keepDust 4 = .ok (.ifCond .ne 4, 3) := by decide +kernel
theorem dX0_keepDust_7 : decode cX0_keepDust 7 = .ok (.return_, 1) := by decide +kernel
theorem dX0_keepDust_8 : decode cX0_keepDust 8 = .ok (.aload_n 0, 1) := by decide +kernel
theorem dX0_keepDust_9 : decode cX0_keepDust 9 = .ok (.getfield 16, 3) := by decide +kernel
theorem dX0_keepDust_12 : decode cX0_keepDust 12 = .ok (.iload_n 1, 1) := by decide +kernel
theorem dX0_keepDust_13 : decode cX0_keepDust 13 = .ok (.iaload, 1) := by decide +kernel
theorem dX0_keepDust_14 : decode cX0_keepDust 14 = .ok (.iload_n 2, 1) := by decide +kernel
theorem dX0_keepDust_15 : decode cX0_keepDust 15 = .ok (.iadd, 1) := by decide +kernel
theorem dX0_keepDust_16 : decode cX0_keepDust 16 = .ok (.istore_n 3, 1) := by decide +kernel
theorem dX0_keepDust_17 : decode cX0_keepDust 17 = .ok (.aload_n 0, 1) := by decide +kernel
theorem dX0_keepDust_18 : decode cX0_keepDust 18 = .ok (.getfield 13, 3) := by decide +kernel
theorem dX0_keepDust_21 : decode cX0_keepDust 21 = .ok (.iload_n 1, 1) := by decide +kernel
theorem dX0_keepDust_22 : decode cX0_keepDust 22 = .ok (.aload_n 0, 1) := by decide +kernel
theorem dX0_keepDust_23 : decode cX0_keepDust 23 = .ok (.getfield 13, 3) := by decide +kernel
theorem dX0_keepDust_26 : decode cX0_keepDust 26 = .ok (.iload_n 1, 1) := by decide +kernel
theorem dX0_keepDust_27 : decode cX0_keepDust 27 = .ok (.iaload, 1) := by decide +kernel
theorem dX0_keepDust_28 : decode cX0_keepDust 28 = .ok (.iload_n 3, 1) := by decide +kernel
theorem dX0_keepDust_29 : decode cX0_keepDust 29 = .ok (.sipush 10000, 3) := by decide +kernel
theorem dX0_keepDust_32 : decode cX0_keepDust 32 = .ok (.idiv, 1) := by decide +kernel
theorem dX0_keepDust_33 : decode cX0_keepDust 33 = .ok (.iadd, 1) := by decide +kernel
theorem dX0_keepDust_34 : decode cX0_keepDust 34 = .ok (.i2l, 1) := by decide +kernel
theorem dX0_keepDust_35 : decode cX0_keepDust 35 = .ok (.invokestatic 65, 3) := by decide +kernel
theorem dX0_keepDust_38 : decode cX0_keepDust 38 = .ok (.iastore, 1) := by decide +kernel
theorem dX0_keepDust_39 : decode cX0_keepDust 39 = .ok (.aload_n 0, 1) := by decide +kernel
theorem dX0_keepDust_40 : decode cX0_keepDust 40 = .ok (.getfield 16, 3) := by decide +kernel
theorem dX0_keepDust_43 : decode cX0_keepDust 43 = .ok (.iload_n 1, 1) := by decide +kernel
theorem dX0_keepDust_44 : decode cX0_keepDust 44 = .ok (.iload_n 3, 1) := by decide +kernel
theorem dX0_keepDust_45 : decode cX0_keepDust 45 = .ok (.sipush 10000, 3) := by decide +kernel
theorem dX0_keepDust_48 : decode cX0_keepDust 48 = .ok (.irem, 1) := by decide +kernel
theorem dX0_keepDust_49 : decode cX0_keepDust 49 = .ok (.iastore, 1) := by decide +kernel
theorem dX0_keepDust_50 : decode cX0_keepDust 50 = .ok (.return_, 1) := by decide +kernel
theorem dX0_leastRateFor_0 : decode cX0_leastRateFor 0 = .ok (.aload_n 0, 1) := by decide +kernel
theorem dX0_leastRateFor_1 : decode cX0_leastRateFor 1 = .ok (.iload_n 1, 1) := by decide +kernel
theorem dX0_leastRateFor_2 : decode cX0_leastRateFor 2 = .ok (.iconst 3, 1) := by decide +kernel
theorem dX0_leastRateFor_3 : decode cX0_leastRateFor 3 = .ok (.invokevirtual 109, 3) := by decide +kernel
theorem dX0_leastRateFor_6 : decode cX0_leastRateFor 6 = .ok (.istore_n 2, 1) := by decide +kernel
theorem dX0_leastRateFor_7 : decode cX0_leastRateFor 7 = .ok (.aload_n 0, 1) := by decide +kernel
theorem dX0_leastRateFor_8 : decode cX0_leastRateFor 8 = .ok (.iload_n 1, 1) := by decide +kernel
theorem dX0_leastRateFor_9 : decode cX0_leastRateFor 9 = .ok (.iconst 4, 1) := by decide +kernel
theorem dX0_leastRateFor_10 : decode cX0_leastRateFor 10 = .ok (.invokevirtual 109, 3) := by decide +kernel
theorem dX0_leastRateFor_13 : decode cX0_leastRateFor 13 = .ok (.i2l, 1) := by decide +kernel
theorem dX0_leastRateFor_14 : decode cX0_leastRateFor 14 = .ok (.ldc2_w 200, 3) := by decide +kernel
theorem dX0_leastRateFor_17 : decode cX0_leastRateFor 17 = .ok (.lmul, 1) := by decide +kernel
theorem dX0_leastRateFor_18 : decode cX0_leastRateFor 18 = .ok (.lstore_n 3, 1) := by decide +kernel
theorem dX0_leastRateFor_19 : decode cX0_leastRateFor 19 = .ok (.iload_n 2, 1) := by decide +kernel
theorem dX0_leastRateFor_20 : decode cX0_leastRateFor 20 = .ok (.i2l, 1) := by decide +kernel
theorem dX0_leastRateFor_21 : decode cX0_leastRateFor 21 = .ok (.bipush 100, 2) := by decide +kernel
theorem dX0_leastRateFor_23 : decode cX0_leastRateFor 23 = .ok (.aload_n 0, 1) := by decide +kernel
theorem dX0_leastRateFor_24 : decode cX0_leastRateFor 24 = .ok (.getfield 53, 3) := by decide +kernel
theorem dX0_leastRateFor_27 : decode cX0_leastRateFor 27 = .ok (.isub, 1) := by decide +kernel
theorem dX0_leastRateFor_28 : decode cX0_leastRateFor 28 = .ok (.i2l, 1) := by decide +kernel
theorem dX0_leastRateFor_29 : decode cX0_leastRateFor 29 = .ok (.lmul, 1) := by decide +kernel
theorem dX0_leastRateFor_30 : decode cX0_leastRateFor 30 = .ok (.lstore 5, 2) := by decide +kernel
theorem dX0_leastRateFor_32 : decode cX0_leastRateFor 32 = .ok (.lload 5, 2) := by decide +kernel
theorem dX0_leastRateFor_34 : decode cX0_leastRateFor 34 = .ok (.lconst 1, 1) := by decide +kernel
theorem dX0_leastRateFor_35 : decode cX0_leastRateFor 35 = .ok (.lcmp, 1) := by decide +kernel
theorem dX0_leastRateFor_36 : decode cX0_leastRateFor 36 = .ok (.ifCond .ge 5, 3) := by decide +kernel
theorem dX0_leastRateFor_39 : decode cX0_leastRateFor 39 = .ok (.iconst (-1), 1) := by decide +kernel
theorem dX0_leastRateFor_40 : decode cX0_leastRateFor 40 = .ok (.ireturn, 1) := by decide +kernel
theorem dX0_leastRateFor_41 : decode cX0_leastRateFor 41 = .ok (.lload_n 3, 1) := by decide +kernel
theorem dX0_leastRateFor_42 : decode cX0_leastRateFor 42 = .ok (.lload 5, 2) := by decide +kernel
theorem dX0_leastRateFor_44 : decode cX0_leastRateFor 44 = .ok (.ladd, 1) := by decide +kernel
theorem dX0_leastRateFor_45 : decode cX0_leastRateFor 45 = .ok (.lconst 1, 1) := by decide +kernel
theorem dX0_leastRateFor_46 : decode cX0_leastRateFor 46 = .ok (.lsub, 1) := by decide +kernel
theorem dX0_leastRateFor_47 : decode cX0_leastRateFor 47 = .ok (.lload 5, 2) := by decide +kernel
theorem dX0_leastRateFor_49 : decode cX0_leastRateFor 49 = .ok (.ldiv, 1) := by decide +kernel
theorem dX0_leastRateFor_50 : decode cX0_leastRateFor 50 = .ok (.lstore 7, 2) := by decide +kernel
theorem dX0_leastRateFor_52 : decode cX0_leastRateFor 52 = .ok (.lload 7, 2) := by decide +kernel
theorem dX0_leastRateFor_54 : decode cX0_leastRateFor 54 = .ok (.ldc2_w 209, 3) := by decide +kernel
theorem dX0_leastRateFor_57 : decode cX0_leastRateFor 57 = .ok (.lcmp, 1) := by decide +kernel
theorem dX0_leastRateFor_58 : decode cX0_leastRateFor 58 = .ok (.ifCond .le 5, 3) := by decide +kernel
theorem dX0_leastRateFor_61 : decode cX0_leastRateFor 61 = .ok (.iconst (-1), 1) := by decide +kernel
theorem dX0_leastRateFor_62 : decode cX0_leastRateFor 62 = .ok (.ireturn, 1) := by decide +kernel
theorem dX0_leastRateFor_63 : decode cX0_leastRateFor 63 = .ok (.lload 5, 2) := by decide +kernel
theorem dX0_leastRateFor_65 : decode cX0_leastRateFor 65 = .ok (.lload 7, 2) := by decide +kernel
theorem dX0_leastRateFor_67 : decode cX0_leastRateFor 67 = .ok (.lmul, 1) := by decide +kernel
theorem dX0_leastRateFor_68 : decode cX0_leastRateFor 68 = .ok (.invokestatic 142, 3) := by decide +kernel
theorem dX0_leastRateFor_71 : decode cX0_leastRateFor 71 = .ok (.lstore 9, 2) := by decide +kernel
theorem dX0_leastRateFor_73 : decode cX0_leastRateFor 73 = .ok (.aload_n 0, 1) := by decide +kernel
theorem dX0_leastRateFor_74 : decode cX0_leastRateFor 74 = .ok (.aload_n 0, 1) := by decide +kernel
theorem dX0_leastRateFor_75 : decode cX0_leastRateFor 75 = .ok (.iload_n 1, 1) := by decide +kernel
theorem dX0_leastRateFor_76 : decode cX0_leastRateFor 76 = .ok (.iconst 0, 1) := by decide +kernel
theorem dX0_leastRateFor_77 : decode cX0_leastRateFor 77 = .ok (.invokevirtual 109, 3) := by decide +kernel
theorem dX0_leastRateFor_80 : decode cX0_leastRateFor 80 = .ok (.aload_n 0, 1) := by decide +kernel
theorem dX0_leastRateFor_81 : decode cX0_leastRateFor 81 = .ok (.iload_n 1, 1) := by decide +kernel
theorem dX0_leastRateFor_82 : decode cX0_leastRateFor 82 = .ok (.iconst 1, 1) := by decide +kernel
theorem dX0_leastRateFor_83 : decode cX0_leastRateFor 83 = .ok (.invokevirtual 109, 3) := by decide +kernel
theorem dX0_leastRateFor_86 : decode cX0_leastRateFor 86 = .ok (.invokevirtual 117, 3) := by decide +kernel
theorem dX0_leastRateFor_89 : decode cX0_leastRateFor 89 = .ok (.istore 11, 2) := by decide +kernel
theorem dX0_leastRateFor_91 : decode cX0_leastRateFor 91 = .ok (.aload_n 0, 1) := by decide +kernel
theorem dX0_leastRateFor_92 : decode cX0_leastRateFor 92 = .ok (.iload 11, 2) := by decide +kernel
theorem dX0_leastRateFor_94 : decode cX0_leastRateFor 94 = .ok (.aload_n 0, 1) := by decide +kernel
theorem dX0_leastRateFor_95 : decode cX0_leastRateFor 95 = .ok (.iload_n 1, 1) := by decide +kernel
theorem dX0_leastRateFor_96 : decode cX0_leastRateFor 96 = .ok (.iconst 2, 1) := by decide +kernel
theorem dX0_leastRateFor_97 : decode cX0_leastRateFor 97 = .ok (.invokevirtual 109, 3) := by decide +kernel
theorem dX0_leastRateFor_100 : decode cX0_leastRateFor 100 = .ok (.iload_n 2, 1) := by decide +kernel
theorem dX0_leastRateFor_101 : decode cX0_leastRateFor 101 = .ok (.lload 9, 2) := by decide +kernel
theorem dX0_leastRateFor_103 : decode cX0_leastRateFor 103 = .ok (.invokevirtual 202, 3) := by decide +kernel
theorem dX0_leastRateFor_106 : decode cX0_leastRateFor 106 = .ok (.ifCond .eq 9, 3) := by decide +kernel
theorem dX0_leastRateFor_109 : decode cX0_leastRateFor 109 = .ok (.lload 7, 2) := by decide +kernel
theorem dX0_leastRateFor_111 : decode cX0_leastRateFor 111 = .ok (.l2i, 1) := by decide +kernel
theorem dX0_leastRateFor_112 : decode cX0_leastRateFor 112 = .ok (.goto 4, 3) := by decide +kernel
theorem dX0_leastRateFor_115 : decode cX0_leastRateFor 115 = .ok (.iconst (-1), 1) := by decide +kernel
theorem dX0_leastRateFor_116 : decode cX0_leastRateFor 116 = .ok (.ireturn, 1) := by decide +kernel
theorem dX0_bit_0 : decode cX0_bit 0 = .ok (.iload_n 0, 1) := by decide +kernel
theorem dX0_bit_1 : decode cX0_bit 1 = .ok (.invokestatic 31, 3) := by decide +kernel
theorem dX0_bit_4 : decode cX0_bit 4 = .ok (.ifCond .eq 9, 3) := by decide +kernel
theorem dX0_bit_7 : decode cX0_bit 7 = .ok (.iconst 1, 1) := by decide +kernel
theorem dX0_bit_8 : decode cX0_bit 8 = .ok (.iload_n 0, 1) := by decide +kernel
theorem dX0_bit_9 : decode cX0_bit 9 = .ok (.ishl, 1) := by decide +kernel
theorem dX0_bit_10 : decode cX0_bit 10 = .ok (.goto 4, 3) := by decide +kernel
theorem dX0_bit_13 : decode cX0_bit 13 = .ok (.iconst 0, 1) := by decide +kernel
theorem dX0_bit_14 : decode cX0_bit 14 = .ok (.ireturn, 1) := by decide +kernel
theorem dX0_behindOneChange_0 : decode cX0_behindOneChange 0 = .ok (.aload_n 0, 1) := by decide +kernel
theorem dX0_behindOneChange_1 : decode cX0_behindOneChange 1 = .ok (.iload_n 1, 1) := by decide +kernel
theorem dX0_behindOneChange_2 : decode cX0_behindOneChange 2 = .ok (.iload_n 2, 1) := by decide +kernel
theorem dX0_behindOneChange_3 : decode cX0_behindOneChange 3 = .ok (.lload_n 3, 1) := by decide +kernel
theorem dX0_behindOneChange_4 : decode cX0_behindOneChange 4 = .ok (.invokevirtual 138, 3) := by decide +kernel
theorem dX0_behindOneChange_7 : decode cX0_behindOneChange 7 = .ok (.invokestatic 142, 3) := by decide +kernel
theorem dX0_behindOneChange_10 : decode cX0_behindOneChange 10 = .ok (.ldc2_w 211, 3) := by decide +kernel
theorem dX0_behindOneChange_13 : decode cX0_behindOneChange 13 = .ok (.invokestatic 187, 3) := by decide +kernel
theorem dX0_behindOneChange_16 : decode cX0_behindOneChange 16 = .ok (.lreturn, 1) := by decide +kernel
theorem dX0_mostAtGoal_0 : decode cX0_mostAtGoal 0 = .ok (.iload 6, 2) := by decide +kernel
theorem dX0_mostAtGoal_2 : decode cX0_mostAtGoal 2 = .ok (.iconst 1, 1) := by decide +kernel
theorem dX0_mostAtGoal_3 : decode cX0_mostAtGoal 3 = .ok (.if_icmp .ge 5, 3) := by decide +kernel
theorem dX0_mostAtGoal_6 : decode cX0_mostAtGoal 6 = .ok (.lconst 0, 1) := by decide +kernel
theorem dX0_mostAtGoal_7 : decode cX0_mostAtGoal 7 = .ok (.lreturn, 1) := by decide +kernel
theorem dX0_mostAtGoal_8 : decode cX0_mostAtGoal 8 = .ok (.aload_n 0, 1) := by decide +kernel
theorem dX0_mostAtGoal_9 : decode cX0_mostAtGoal 9 = .ok (.iload_n 1, 1) := by decide +kernel
theorem dX0_mostAtGoal_10 : decode cX0_mostAtGoal 10 = .ok (.iload_n 2, 1) := by decide +kernel
theorem dX0_mostAtGoal_11 : decode cX0_mostAtGoal 11 = .ok (.lload_n 3, 1) := by decide +kernel
theorem dX0_mostAtGoal_12 : decode cX0_mostAtGoal 12 = .ok (.invokevirtual 213, 3) := by decide +kernel
theorem dX0_mostAtGoal_15 : decode cX0_mostAtGoal 15 = .ok (.lstore 7, 2) := by decide +kernel
theorem dX0_mostAtGoal_17 : decode cX0_mostAtGoal 17 = .ok (.iconst 0, 1) := by decide +kernel
theorem dX0_mostAtGoal_18 : decode cX0_mostAtGoal 18 = .ok (.istore 9, 2) := by decide +kernel
theorem dX0_mostAtGoal_20 : decode cX0_mostAtGoal 20 = .ok (.iload 9, 2) := by decide +kernel
theorem dX0_mostAtGoal_22 : decode cX0_mostAtGoal 22 = .ok (.iconst 5, 1) := by decide +kernel
theorem dX0_mostAtGoal_23 : decode cX0_mostAtGoal 23 = .ok (.if_icmp .ge 40, 3) := by decide +kernel
theorem dX0_mostAtGoal_26 : decode cX0_mostAtGoal 26 = .ok (.iload 5, 2) := by decide +kernel
theorem dX0_mostAtGoal_28 : decode cX0_mostAtGoal 28 = .ok (.iload 9, 2) := by decide +kernel
theorem dX0_mostAtGoal_30 : decode cX0_mostAtGoal 30 = .ok (.invokestatic 148, 3) := by decide +kernel
theorem dX0_mostAtGoal_33 : decode cX0_mostAtGoal 33 = .ok (.iand, 1) := by decide +kernel
theorem dX0_mostAtGoal_34 : decode cX0_mostAtGoal 34 = .ok (.ifCond .ne 23, 3) := by decide +kernel
theorem dX0_mostAtGoal_37 : decode cX0_mostAtGoal 37 = .ok (.lload 7, 2) := by decide +kernel
theorem dX0_mostAtGoal_39 : decode cX0_mostAtGoal 39 = .ok (.aload_n 0, 1) := by decide +kernel
theorem dX0_mostAtGoal_40 : decode cX0_mostAtGoal 40 = .ok (.iload_n 1, 1) := by decide +kernel
theorem dX0_mostAtGoal_41 : decode cX0_mostAtGoal 41 = .ok (.iload 9, 2) := by decide +kernel
theorem dX0_mostAtGoal_43 : decode cX0_mostAtGoal 43 = .ok (.iload_n 2, 1) := by decide +kernel
theorem dX0_mostAtGoal_44 : decode cX0_mostAtGoal 44 = .ok (.lload_n 3, 1) := by decide +kernel
theorem dX0_mostAtGoal_45 : decode cX0_mostAtGoal 45 = .ok (.iload 5, 2) := by decide +kernel
theorem dX0_mostAtGoal_47 : decode cX0_mostAtGoal 47 = .ok (.iload 6, 2) := by decide +kernel
theorem dX0_mostAtGoal_49 : decode cX0_mostAtGoal 49 = .ok (.invokevirtual 216, 3) := by decide +kernel
theorem dX0_mostAtGoal_52 : decode cX0_mostAtGoal 52 = .ok (.invokestatic 220, 3) := by decide +kernel
theorem dX0_mostAtGoal_55 : decode cX0_mostAtGoal 55 = .ok (.lstore 7, 2) := by decide +kernel
theorem dX0_mostAtGoal_57 : decode cX0_mostAtGoal 57 = .ok (.iinc 9 1, 3) := by decide +kernel
theorem dX0_mostAtGoal_60 : decode cX0_mostAtGoal 60 = .ok (.goto (-40), 3) := by decide +kernel
theorem dX0_mostAtGoal_63 : decode cX0_mostAtGoal 63 = .ok (.lload 7, 2) := by decide +kernel
theorem dX0_mostAtGoal_65 : decode cX0_mostAtGoal 65 = .ok (.lreturn, 1) := by decide +kernel
theorem dX0_mostOver_0 : decode cX0_mostOver 0 = .ok (.aload_n 0, 1) := by decide +kernel
theorem dX0_mostOver_1 : decode cX0_mostOver 1 = .ok (.iload_n 1, 1) := by decide +kernel
theorem dX0_mostOver_2 : decode cX0_mostOver 2 = .ok (.iload_n 2, 1) := by decide +kernel
theorem dX0_mostOver_3 : decode cX0_mostOver 3 = .ok (.lload 4, 2) := by decide +kernel
theorem dX0_mostOver_5 : decode cX0_mostOver 5 = .ok (.invokevirtual 213, 3) := by decide +kernel
theorem dX0_mostOver_8 : decode cX0_mostOver 8 = .ok (.lstore 8, 2) := by decide +kernel
theorem dX0_mostOver_10 : decode cX0_mostOver 10 = .ok (.aload_n 0, 1) := by decide +kernel
theorem dX0_mostOver_11 : decode cX0_mostOver 11 = .ok (.iload_n 2, 1) := by decide +kernel
theorem dX0_mostOver_12 : decode cX0_mostOver 12 = .ok (.iload_n 3, 1) := by decide +kernel
theorem dX0_mostOver_13 : decode cX0_mostOver 13 = .ok (.lload 8, 2) := by decide +kernel
theorem dX0_mostOver_15 : decode cX0_mostOver 15 = .ok (.iload 6, 2) := by decide +kernel
theorem dX0_mostOver_17 : decode cX0_mostOver 17 = .ok (.iload_n 2, 1) := by decide +kernel
theorem dX0_mostOver_18 : decode cX0_mostOver 18 = .ok (.invokestatic 148, 3) := by decide +kernel
theorem dX0_mostOver_21 : decode cX0_mostOver 21 = .ok (.ior, 1) := by decide +kernel
theorem dX0_mostOver_22 : decode cX0_mostOver 22 = .ok (.iload 7, 2) := by decide +kernel
theorem dX0_mostOver_24 : decode cX0_mostOver 24 = .ok (.iconst 1, 1) := by decide +kernel
theorem dX0_mostOver_25 : decode cX0_mostOver 25 = .ok (.isub, 1) := by decide +kernel
theorem dX0_mostOver_26 : decode cX0_mostOver 26 = .ok (.invokevirtual 151, 3) := by decide +kernel
theorem dX0_mostOver_29 : decode cX0_mostOver 29 = .ok (.lreturn, 1) := by decide +kernel
theorem dX1_init_0 : decode cX1_init 0 = .ok (.aload_n 0, 1) := by decide +kernel
theorem dX1_init_1 : decode cX1_init 1 = .ok (.invokespecial 1, 3) := by decide +kernel
theorem dX1_init_4 : decode cX1_init 4 = .ok (.aload_n 0, 1) := by decide +kernel
theorem dX1_init_5 : decode cX1_init 5 = .ok (.bipush 25, 2) := by decide +kernel
theorem dX1_init_7 : decode cX1_init 7 = .ok (.newarray .int, 2) := by decide +kernel
theorem dX1_init_9 : decode cX1_init 9 = .ok (.putfield 9, 3) := by decide +kernel
theorem dX1_init_12 : decode cX1_init 12 = .ok (.aload_n 0, 1) := by decide +kernel
theorem dX1_init_13 : decode cX1_init 13 = .ok (.iconst 5, 1) := by decide +kernel
theorem dX1_init_14 : decode cX1_init 14 = .ok (.newarray .int, 2) := by decide +kernel
theorem dX1_init_16 : decode cX1_init 16 = .ok (.dup, 1) := by decide +kernel
theorem dX1_init_17 : decode cX1_init 17 = .ok (.iconst 0, 1) := by decide +kernel
theorem dX1_init_18 : decode cX1_init 18 = .ok (.sipush 1000, 3) := by decide +kernel
theorem dX1_init_21 : decode cX1_init 21 = .ok (.iastore, 1) := by decide +kernel
theorem dX1_init_22 : decode cX1_init 22 = .ok (.dup, 1) := by decide +kernel
theorem dX1_init_23 : decode cX1_init 23 = .ok (.iconst 1, 1) := by decide +kernel
theorem dX1_init_24 : decode cX1_init 24 = .ok (.sipush 1000, 3) := by decide +kernel
theorem dX1_init_27 : decode cX1_init 27 = .ok (.iastore, 1) := by decide +kernel
theorem dX1_init_28 : decode cX1_init 28 = .ok (.dup, 1) := by decide +kernel
theorem dX1_init_29 : decode cX1_init 29 = .ok (.iconst 2, 1) := by decide +kernel
theorem dX1_init_30 : decode cX1_init 30 = .ok (.sipush 1000, 3) := by decide +kernel
theorem dX1_init_33 : decode cX1_init 33 = .ok (.iastore, 1) := by decide +kernel
theorem dX1_init_34 : decode cX1_init 34 = .ok (.dup, 1) := by decide +kernel
theorem dX1_init_35 : decode cX1_init 35 = .ok (.iconst 3, 1) := by decide +kernel
theorem dX1_init_36 : decode cX1_init 36 = .ok (.sipush 1000, 3) := by decide +kernel
theorem dX1_init_39 : decode cX1_init 39 = .ok (.iastore, 1) := by decide +kernel
theorem dX1_init_40 : decode cX1_init 40 = .ok (.dup, 1) := by decide +kernel
theorem dX1_init_41 : decode cX1_init 41 = .ok (.iconst 4, 1) := by decide +kernel
theorem dX1_init_42 : decode cX1_init 42 = .ok (.sipush 1000, 3) := by decide +kernel
theorem dX1_init_45 : decode cX1_init 45 = .ok (.iastore, 1) := by decide +kernel
theorem dX1_init_46 : decode cX1_init 46 = .ok (.putfield 13, 3) := by decide +kernel
theorem dX1_init_49 : decode cX1_init 49 = .ok (.aload_n 0, 1) := by decide +kernel
theorem dX1_init_50 : decode cX1_init 50 = .ok (.iconst 5, 1) := by decide +kernel
theorem dX1_init_51 : decode cX1_init 51 = .ok (.newarray .int, 2) := by decide +kernel
theorem dX1_init_53 : decode cX1_init 53 = .ok (.putfield 16, 3) := by decide +kernel
theorem dX1_init_56 : decode cX1_init 56 = .ok (.aload_n 0, 1) := by decide +kernel
theorem dX1_init_57 : decode cX1_init 57 = .ok (.iconst 5, 1) := by decide +kernel
theorem dX1_init_58 : decode cX1_init 58 = .ok (.newarray .int, 2) := by decide +kernel
theorem dX1_init_60 : decode cX1_init 60 = .ok (.dup, 1) := by decide +kernel
theorem dX1_init_61 : decode cX1_init 61 = .ok (.iconst 0, 1) := by decide +kernel
theorem dX1_init_62 : decode cX1_init 62 = .ok (.sipush 9999, 3) := by decide +kernel
theorem dX1_init_65 : decode cX1_init 65 = .ok (.iastore, 1) := by decide +kernel
theorem dX1_init_66 : decode cX1_init 66 = .ok (.dup, 1) := by decide +kernel
theorem dX1_init_67 : decode cX1_init 67 = .ok (.iconst 1, 1) := by decide +kernel
theorem dX1_init_68 : decode cX1_init 68 = .ok (.sipush 9999, 3) := by decide +kernel
theorem dX1_init_71 : decode cX1_init 71 = .ok (.iastore, 1) := by decide +kernel
theorem dX1_init_72 : decode cX1_init 72 = .ok (.dup, 1) := by decide +kernel
theorem dX1_init_73 : decode cX1_init 73 = .ok (.iconst 2, 1) := by decide +kernel
theorem dX1_init_74 : decode cX1_init 74 = .ok (.sipush 9999, 3) := by decide +kernel
theorem dX1_init_77 : decode cX1_init 77 = .ok (.iastore, 1) := by decide +kernel
theorem dX1_init_78 : decode cX1_init 78 = .ok (.dup, 1) := by decide +kernel
theorem dX1_init_79 : decode cX1_init 79 = .ok (.iconst 3, 1) := by decide +kernel
theorem dX1_init_80 : decode cX1_init 80 = .ok (.sipush 9999, 3) := by decide +kernel
theorem dX1_init_83 : decode cX1_init 83 = .ok (.iastore, 1) := by decide +kernel
theorem dX1_init_84 : decode cX1_init 84 = .ok (.dup, 1) := by decide +kernel
theorem dX1_init_85 : decode cX1_init 85 = .ok (.iconst 4, 1) := by decide +kernel
theorem dX1_init_86 : decode cX1_init 86 = .ok (.sipush 9999, 3) := by decide +kernel
theorem dX1_init_89 : decode cX1_init 89 = .ok (.iastore, 1) := by decide +kernel
theorem dX1_init_90 : decode cX1_init 90 = .ok (.putfield 19, 3) := by decide +kernel
theorem dX1_init_93 : decode cX1_init 93 = .ok (.aload_n 0, 1) := by decide +kernel
theorem dX1_init_94 : decode cX1_init 94 = .ok (.iconst 5, 1) := by decide +kernel
theorem dX1_init_95 : decode cX1_init 95 = .ok (.newarray .int, 2) := by decide +kernel
theorem dX1_init_97 : decode cX1_init 97 = .ok (.putfield 22, 3) := by decide +kernel
theorem dX1_init_100 : decode cX1_init 100 = .ok (.aload_n 0, 1) := by decide +kernel
theorem dX1_init_101 : decode cX1_init 101 = .ok (.bipush 30, 2) := by decide +kernel
theorem dX1_init_103 : decode cX1_init 103 = .ok (.newarray .int, 2) := by decide +kernel
theorem dX1_init_105 : decode cX1_init 105 = .ok (.putfield 25, 3) := by decide +kernel
theorem dX1_init_108 : decode cX1_init 108 = .ok (.aload_n 0, 1) := by decide +kernel
theorem dX1_init_109 : decode cX1_init 109 = .ok (.bipush 50, 2) := by decide +kernel
theorem dX1_init_111 : decode cX1_init 111 = .ok (.newarray .int, 2) := by decide +kernel
theorem dX1_init_113 : decode cX1_init 113 = .ok (.putfield 28, 3) := by decide +kernel
theorem dX1_init_116 : decode cX1_init 116 = .ok (.return_, 1) := by decide +kernel
theorem dX1_thrown_0 : decode cX1_thrown 0 = .ok (.aload_n 0, 1) := by decide +kernel
theorem dX1_thrown_1 : decode cX1_thrown 1 = .ok (.getfield 31, 3) := by decide +kernel
theorem dX1_thrown_4 : decode cX1_thrown 4 = .ok (.ireturn, 1) := by decide +kernel
theorem dX1_fail_0 : decode cX1_fail 0 = .ok (.aload_n 0, 1) := by decide +kernel
theorem dX1_fail_1 : decode cX1_fail 1 = .ok (.iload_n 1, 1) := by decide +kernel
theorem dX1_fail_2 : decode cX1_fail 2 = .ok (.putfield 31, 3) := by decide +kernel
theorem dX1_fail_5 : decode cX1_fail 5 = .ok (.iconst 0, 1) := by decide +kernel
theorem dX1_fail_6 : decode cX1_fail 6 = .ok (.ireturn, 1) := by decide +kernel
theorem dX1_isIn_0 : decode cX1_isIn 0 = .ok (.iload_n 0, 1) := by decide +kernel
theorem dX1_isIn_1 : decode cX1_isIn 1 = .ok (.iload_n 1, 1) := by decide +kernel
theorem dX1_isIn_2 : decode cX1_isIn 2 = .ok (.if_icmp .lt 12, 3) := by decide +kernel
theorem dX1_isIn_5 : decode cX1_isIn 5 = .ok (.iload_n 0, 1) := by decide +kernel
theorem dX1_isIn_6 : decode cX1_isIn 6 = .ok (.iload_n 2, 1) := by decide +kernel
theorem dX1_isIn_7 : decode cX1_isIn 7 = .ok (.if_icmp .gt 7, 3) := by decide +kernel
theorem dX1_isIn_10 : decode cX1_isIn 10 = .ok (.iconst 1, 1) := by decide +kernel
theorem dX1_isIn_11 : decode cX1_isIn 11 = .ok (.goto 4, 3) := by decide +kernel
theorem dX1_isIn_14 : decode cX1_isIn 14 = .ok (.iconst 0, 1) := by decide +kernel
theorem dX1_isIn_15 : decode cX1_isIn 15 = .ok (.ireturn, 1) := by decide +kernel
theorem dX1_isMoney_0 : decode cX1_isMoney 0 = .ok (.iload_n 0, 1) := by decide +kernel
theorem dX1_isMoney_1 : decode cX1_isMoney 1 = .ok (.iconst 0, 1) := by decide +kernel
theorem dX1_isMoney_2 : decode cX1_isMoney 2 = .ok (.iconst 4, 1) := by decide +kernel
theorem dX1_isMoney_3 : decode cX1_isMoney 3 = .ok (.invokestatic 35, 3) := by decide +kernel
theorem dX1_isMoney_6 : decode cX1_isMoney 6 = .ok (.ireturn, 1) := by decide +kernel
theorem dX1_isCustomer_0 : decode cX1_isCustomer 0 = .ok (.iload_n 1, 1) := by decide +kernel
theorem dX1_isCustomer_1 : decode cX1_isCustomer 1 = .ok (.iconst 0, 1) := by decide +kernel
theorem dX1_isCustomer_2 : decode cX1_isCustomer 2 = .ok (.aload_n 0, 1) := by decide +kernel
theorem dX1_isCustomer_3 : decode cX1_isCustomer 3 = .ok (.getfield 39, 3) := by decide +kernel
theorem dX1_isCustomer_6 : decode cX1_isCustomer 6 = .ok (.iconst 1, 1) := by decide +kernel
theorem dX1_isCustomer_7 : decode cX1_isCustomer 7 = .ok (.isub, 1) := by decide +kernel
theorem dX1_isCustomer_8 : decode cX1_isCustomer 8 = .ok (.invokestatic 35, 3) := by decide +kernel
theorem dX1_isCustomer_11 : decode cX1_isCustomer 11 = .ok (.ireturn, 1) := by decide +kernel
theorem dX1_rate_0 : decode cX1_rate 0 = .ok (.iload_n 1, 1) := by decide +kernel
theorem dX1_rate_1 : decode cX1_rate 1 = .ok (.iload_n 2, 1) := by decide +kernel
theorem dX1_rate_2 : decode cX1_rate 2 = .ok (.if_icmp .ne 7, 3) := by decide +kernel
theorem dX1_rate_5 : decode cX1_rate 5 = .ok (.iconst 0, 1) := by decide +kernel
theorem dX1_rate_6 : decode cX1_rate 6 = .ok (.goto 13, 3) := by decide +kernel
theorem dX1_rate_9 : decode cX1_rate 9 = .ok (.aload_n 0, 1) := by decide +kernel
theorem dX1_rate_10 : decode cX1_rate 10 = .ok (.getfield 9, 3) := by decide +kernel
theorem dX1_rate_13 : decode cX1_rate 13 = .ok (.iconst 5, 1) := by decide +kernel
theorem dX1_rate_14 : decode cX1_rate 14 = .ok (.iload_n 1, 1) := by decide +kernel
theorem dX1_rate_15 : decode cX1_rate 15 = .ok (.imul, 1) := by decide +kernel
theorem dX1_rate_16 : decode cX1_rate 16 = .ok (.iload_n 2, 1) := by decide +kernel
theorem dX1_rate_17 : decode cX1_rate 17 = .ok (.iadd, 1) := by decide +kernel
theorem dX1_rate_18 : decode cX1_rate 18 = .ok (.iaload, 1) := by decide +kernel
theorem dX1_rate_19 : decode cX1_rate 19 = .ok (.ireturn, 1) := by decide +kernel
theorem dX1_purse_0 : decode cX1_purse 0 = .ok (.aload_n 0, 1) := by decide +kernel
theorem dX1_purse_1 : decode cX1_purse 1 = .ok (.getfield 25, 3) := by decide +kernel
theorem dX1_purse_4 : decode cX1_purse 4 = .ok (.iconst 5, 1) := by decide +kernel
theorem dX1_purse_5 : decode cX1_purse 5 = .ok (.iload_n 1, 1) := by decide +kernel
theorem dX1_purse_6 : decode cX1_purse 6 = .ok (.imul, 1) := by decide +kernel
theorem dX1_purse_7 : decode cX1_purse 7 = .ok (.iload_n 2, 1) := by decide +kernel
theorem dX1_purse_8 : decode cX1_purse 8 = .ok (.iadd, 1) := by decide +kernel
theorem dX1_purse_9 : decode cX1_purse 9 = .ok (.iaload, 1) := by decide +kernel
theorem dX1_purse_10 : decode cX1_purse 10 = .ok (.ireturn, 1) := by decide +kernel
theorem dX1_or_0 : decode cX1_or 0 = .ok (.aload_n 0, 1) := by decide +kernel
theorem dX1_or_1 : decode cX1_or 1 = .ok (.getfield 28, 3) := by decide +kernel
theorem dX1_or_4 : decode cX1_or 4 = .ok (.iconst 5, 1) := by decide +kernel
theorem dX1_or_5 : decode cX1_or 5 = .ok (.iload_n 1, 1) := by decide +kernel
theorem dX1_or_6 : decode cX1_or 6 = .ok (.imul, 1) := by decide +kernel
theorem dX1_or_7 : decode cX1_or 7 = .ok (.iload_n 2, 1) := by decide +kernel
theorem dX1_or_8 : decode cX1_or 8 = .ok (.iadd, 1) := by decide +kernel
theorem dX1_or_9 : decode cX1_or 9 = .ok (.iaload, 1) := by decide +kernel
theorem dX1_or_10 : decode cX1_or 10 = .ok (.ireturn, 1) := by decide +kernel
theorem dX1_parts_0 : decode cX1_parts 0 = .ok (.lload_n 1, 1) := by decide +kernel
theorem dX1_parts_1 : decode cX1_parts 1 = .ok (.iload_n 3, 1) := by decide +kernel
theorem dX1_parts_2 : decode cX1_parts 2 = .ok (.i2l, 1) := by decide +kernel
theorem dX1_parts_3 : decode cX1_parts 3 = .ok (.lmul, 1) := by decide +kernel
theorem dX1_parts_4 : decode cX1_parts 4 = .ok (.bipush 100, 2) := by decide +kernel
theorem dX1_parts_6 : decode cX1_parts 6 = .ok (.aload_n 0, 1) := by decide +kernel
theorem dX1_parts_7 : decode cX1_parts 7 = .ok (.getfield 42, 3) := by decide +kernel
theorem dX1_parts_10 : decode cX1_parts 10 = .ok (.isub, 1) := by decide +kernel
theorem dX1_parts_11 : decode cX1_parts 11 = .ok (.i2l, 1) := by decide +kernel
theorem dX1_parts_12 : decode cX1_parts 12 = .ok (.lmul, 1) := by decide +kernel
theorem dX1_parts_13 : decode cX1_parts 13 = .ok (.lreturn, 1) := by decide +kernel
theorem dX1_gives_0 : decode cX1_gives 0 = .ok (.aload_n 0, 1) := by decide +kernel
theorem dX1_gives_1 : decode cX1_gives 1 = .ok (.lload_n 1, 1) := by decide +kernel
theorem dX1_gives_2 : decode cX1_gives 2 = .ok (.iload_n 3, 1) := by decide +kernel
theorem dX1_gives_3 : decode cX1_gives 3 = .ok (.invokevirtual 45, 3) := by decide +kernel
theorem dX1_gives_6 : decode cX1_gives 6 = .ok (.ldc2_w 49, 3) := by decide +kernel
theorem dX1_gives_9 : decode cX1_gives 9 = .ok (.ldiv, 1) := by decide +kernel
theorem dX1_gives_10 : decode cX1_gives 10 = .ok (.lreturn, 1) := by decide +kernel
theorem dX1_can_0 : decode cX1_can 0 = .ok (.iload_n 2, 1) := by decide +kernel
theorem dX1_can_1 : decode cX1_can 1 = .ok (.iload_n 3, 1) := by decide +kernel
theorem dX1_can_2 : decode cX1_can 2 = .ok (.if_icmp .eq 25, 3) := by decide +kernel
theorem dX1_can_5 : decode cX1_can 5 = .ok (.iload 5, 2) := by decide +kernel
theorem dX1_can_7 : decode cX1_can 7 = .ok (.ifCond .eq 20, 3) := by decide +kernel
theorem dX1_can_10 : decode cX1_can 10 = .ok (.iload 4, 2) := by decide +kernel
theorem dX1_can_12 : decode cX1_can 12 = .ok (.iconst 1, 1) := by decide +kernel
theorem dX1_can_13 : decode cX1_can 13 = .ok (.if_icmp .lt 14, 3) := by decide +kernel
theorem dX1_can_16 : decode cX1_can 16 = .ok (.aload_n 0, 1) := by decide +kernel
theorem dX1_can_17 : decode cX1_can 17 = .ok (.iload_n 1, 1) := by decide +kernel
theorem dX1_can_18 : decode cX1_can 18 = .ok (.iload_n 2, 1) := by decide +kernel
theorem dX1_can_19 : decode cX1_can 19 = .ok (.invokevirtual 51, 3) := by decide +kernel
theorem dX1_can_22 : decode cX1_can 22 = .ok (.iload 4, 2) := by decide +kernel
theorem dX1_can_24 : decode cX1_can 24 = .ok (.if_icmp .ge 5, 3) := by decide +kernel
theorem dX1_can_27 : decode cX1_can 27 = .ok (.iconst 0, 1) := by decide +kernel
theorem dX1_can_28 : decode cX1_can 28 = .ok (.ireturn, 1) := by decide +kernel
theorem dX1_can_29 : decode cX1_can 29 = .ok (.aload_n 0, 1) := by decide +kernel
theorem dX1_can_30 : decode cX1_can 30 = .ok (.iload 4, 2) := by decide +kernel
theorem dX1_can_32 : decode cX1_can 32 = .ok (.i2l, 1) := by decide +kernel
theorem dX1_can_33 : decode cX1_can 33 = .ok (.iload 5, 2) := by decide +kernel
theorem dX1_can_35 : decode cX1_can 35 = .ok (.invokevirtual 55, 3) := by decide +kernel
theorem dX1_can_38 : decode cX1_can 38 = .ok (.lstore 6, 2) := by decide +kernel
theorem dX1_can_40 : decode cX1_can 40 = .ok (.lload 6, 2) := by decide +kernel
theorem dX1_can_42 : decode cX1_can 42 = .ok (.lconst 1, 1) := by decide +kernel
theorem dX1_can_43 : decode cX1_can 43 = .ok (.lcmp, 1) := by decide +kernel
theorem dX1_can_44 : decode cX1_can 44 = .ok (.ifCond .lt 41, 3) := by decide +kernel
theorem dX1_can_47 : decode cX1_can 47 = .ok (.lload 6, 2) := by decide +kernel
theorem dX1_can_49 : decode cX1_can 49 = .ok (.aload_n 0, 1) := by decide +kernel
theorem dX1_can_50 : decode cX1_can 50 = .ok (.getfield 13, 3) := by decide +kernel
theorem dX1_can_53 : decode cX1_can 53 = .ok (.iload_n 3, 1) := by decide +kernel
theorem dX1_can_54 : decode cX1_can 54 = .ok (.iaload, 1) := by decide +kernel
theorem dX1_can_55 : decode cX1_can 55 = .ok (.i2l, 1) := by decide +kernel
theorem dX1_can_56 : decode cX1_can 56 = .ok (.lcmp, 1) := by decide +kernel
theorem dX1_can_57 : decode cX1_can 57 = .ok (.ifCond .gt 28, 3) := by decide +kernel
theorem dX1_can_60 : decode cX1_can 60 = .ok (.aload_n 0, 1) := by decide +kernel
theorem dX1_can_61 : decode cX1_can 61 = .ok (.getfield 22, 3) := by decide +kernel
theorem dX1_can_64 : decode cX1_can 64 = .ok (.iload_n 3, 1) := by decide +kernel
theorem dX1_can_65 : decode cX1_can 65 = .ok (.iaload, 1) := by decide +kernel
theorem dX1_can_66 : decode cX1_can 66 = .ok (.i2l, 1) := by decide +kernel
theorem dX1_can_67 : decode cX1_can 67 = .ok (.lload 6, 2) := by decide +kernel
theorem dX1_can_69 : decode cX1_can 69 = .ok (.ladd, 1) := by decide +kernel
theorem dX1_can_70 : decode cX1_can 70 = .ok (.aload_n 0, 1) := by decide +kernel
theorem dX1_can_71 : decode cX1_can 71 = .ok (.getfield 19, 3) := by decide +kernel
theorem dX1_can_74 : decode cX1_can 74 = .ok (.iload_n 3, 1) := by decide +kernel
theorem dX1_can_75 : decode cX1_can 75 = .ok (.iaload, 1) := by decide +kernel
theorem dX1_can_76 : decode cX1_can 76 = .ok (.i2l, 1) := by decide +kernel
theorem dX1_can_77 : decode cX1_can 77 = .ok (.lcmp, 1) := by decide +kernel
theorem dX1_can_78 : decode cX1_can 78 = .ok (.ifCond .gt 7, 3) := by decide +kernel
theorem dX1_can_81 : decode cX1_can 81 = .ok (.iconst 1, 1) := by decide +kernel
theorem dX1_can_82 : decode cX1_can 82 = .ok (.goto 4, 3) := by decide +kernel
theorem dX1_can_85 : decode cX1_can 85 = .ok (.iconst 0, 1) := by decide +kernel
theorem dX1_can_86 : decode cX1_can 86 = .ok (.ireturn, 1) := by decide +kernel
theorem dX1_carryOut_0 : decode cX1_carryOut 0 = .ok (.aload_n 0, 1) := by decide +kernel
theorem dX1_carryOut_1 : decode cX1_carryOut 1 = .ok (.iload 4, 2) := by decide +kernel
theorem dX1_carryOut_3 : decode cX1_carryOut 3 = .ok (.i2l, 1) := by decide +kernel
theorem dX1_carryOut_4 : decode cX1_carryOut 4 = .ok (.aload_n 0, 1) := by decide +kernel
theorem dX1_carryOut_5 : decode cX1_carryOut 5 = .ok (.iload_n 2, 1) := by decide +kernel
theorem dX1_carryOut_6 : decode cX1_carryOut 6 = .ok (.iload_n 3, 1) := by decide +kernel
theorem dX1_carryOut_7 : decode cX1_carryOut 7 = .ok (.invokevirtual 58, 3) := by decide +kernel
theorem dX1_carryOut_10 : decode cX1_carryOut 10 = .ok (.invokevirtual 55, 3) := by decide +kernel
theorem dX1_carryOut_13 : decode cX1_carryOut 13 = .ok (.l2i, 1) := by decide +kernel
theorem dX1_carryOut_14 : decode cX1_carryOut 14 = .ok (.istore 5, 2) := by decide +kernel
theorem dX1_carryOut_16 : decode cX1_carryOut 16 = .ok (.aload_n 0, 1) := by decide +kernel
theorem dX1_carryOut_17 : decode cX1_carryOut 17 = .ok (.getfield 25, 3) := by decide +kernel
theorem dX1_carryOut_20 : decode cX1_carryOut 20 = .ok (.iconst 5, 1) := by decide +kernel
theorem dX1_carryOut_21 : decode cX1_carryOut 21 = .ok (.iload_n 1, 1) := by decide +kernel
theorem dX1_carryOut_22 : decode cX1_carryOut 22 = .ok (.imul, 1) := by decide +kernel
theorem dX1_carryOut_23 : decode cX1_carryOut 23 = .ok (.iload_n 2, 1) := by decide +kernel
theorem dX1_carryOut_24 : decode cX1_carryOut 24 = .ok (.iadd, 1) := by decide +kernel
theorem dX1_carryOut_25 : decode cX1_carryOut 25 = .ok (.dup2, 1) := by decide +kernel
theorem dX1_carryOut_26 : decode cX1_carryOut 26 = .ok (.iaload, 1) := by decide +kernel
theorem dX1_carryOut_27 : decode cX1_carryOut 27 = .ok (.iload 4, 2) := by decide +kernel
theorem dX1_carryOut_29 : decode cX1_carryOut 29 = .ok (.isub, 1) := by decide +kernel
theorem dX1_carryOut_30 : decode cX1_carryOut 30 = .ok (.iastore, 1) := by decide +kernel
theorem dX1_carryOut_31 : decode cX1_carryOut 31 = .ok (.aload_n 0, 1) := by decide +kernel
theorem dX1_carryOut_32 : decode cX1_carryOut 32 = .ok (.getfield 25, 3) := by decide +kernel
theorem dX1_carryOut_35 : decode cX1_carryOut 35 = .ok (.iconst 5, 1) := by decide +kernel
theorem dX1_carryOut_36 : decode cX1_carryOut 36 = .ok (.iload_n 1, 1) := by decide +kernel
theorem dX1_carryOut_37 : decode cX1_carryOut 37 = .ok (.imul, 1) := by decide +kernel
theorem dX1_carryOut_38 : decode cX1_carryOut 38 = .ok (.iload_n 3, 1) := by decide +kernel
theorem dX1_carryOut_39 : decode cX1_carryOut 39 = .ok (.iadd, 1) := by decide +kernel
theorem dX1_carryOut_40 : decode cX1_carryOut 40 = .ok (.ldc 61, 2) := by decide +kernel
theorem dX1_carryOut_42 : decode cX1_carryOut 42 = .ok (.aload_n 0, 1) := by decide +kernel
theorem dX1_carryOut_43 : decode cX1_carryOut 43 = .ok (.iload_n 1, 1) := by decide +kernel
theorem dX1_carryOut_44 : decode cX1_carryOut 44 = .ok (.iload_n 3, 1) := by decide +kernel
theorem dX1_carryOut_45 : decode cX1_carryOut 45 = .ok (.invokevirtual 51, 3) := by decide +kernel
theorem dX1_carryOut_48 : decode cX1_carryOut 48 = .ok (.iload 5, 2) := by decide +kernel
theorem dX1_carryOut_50 : decode cX1_carryOut 50 = .ok (.iadd, 1) := by decide +kernel
theorem dX1_carryOut_51 : decode cX1_carryOut 51 = .ok (.invokestatic 62, 3) := by decide +kernel
theorem dX1_carryOut_54 : decode cX1_carryOut 54 = .ok (.iastore, 1) := by decide +kernel
theorem dX1_carryOut_55 : decode cX1_carryOut 55 = .ok (.aload_n 0, 1) := by decide +kernel
theorem dX1_carryOut_56 : decode cX1_carryOut 56 = .ok (.getfield 13, 3) := by decide +kernel
theorem dX1_carryOut_59 : decode cX1_carryOut 59 = .ok (.iload_n 2, 1) := by decide +kernel
theorem dX1_carryOut_60 : decode cX1_carryOut 60 = .ok (.ldc 61, 2) := by decide +kernel
theorem dX1_carryOut_62 : decode cX1_carryOut 62 = .ok (.aload_n 0, 1) := by decide +kernel
theorem dX1_carryOut_63 : decode cX1_carryOut 63 = .ok (.getfield 13, 3) := by decide +kernel
theorem dX1_carryOut_66 : decode cX1_carryOut 66 = .ok (.iload_n 2, 1) := by decide +kernel
theorem dX1_carryOut_67 : decode cX1_carryOut 67 = .ok (.iaload, 1) := by decide +kernel
theorem dX1_carryOut_68 : decode cX1_carryOut 68 = .ok (.iload 4, 2) := by decide +kernel
theorem dX1_carryOut_70 : decode cX1_carryOut 70 = .ok (.iadd, 1) := by decide +kernel
theorem dX1_carryOut_71 : decode cX1_carryOut 71 = .ok (.invokestatic 62, 3) := by decide +kernel
theorem dX1_carryOut_74 : decode cX1_carryOut 74 = .ok (.iastore, 1) := by decide +kernel
theorem dX1_carryOut_75 : decode cX1_carryOut 75 = .ok (.aload_n 0, 1) := by decide +kernel
theorem dX1_carryOut_76 : decode cX1_carryOut 76 = .ok (.getfield 13, 3) := by decide +kernel
theorem dX1_carryOut_79 : decode cX1_carryOut 79 = .ok (.iload_n 3, 1) := by decide +kernel
theorem dX1_carryOut_80 : decode cX1_carryOut 80 = .ok (.dup2, 1) := by decide +kernel
theorem dX1_carryOut_81 : decode cX1_carryOut 81 = .ok (.iaload, 1) := by decide +kernel
theorem dX1_carryOut_82 : decode cX1_carryOut 82 = .ok (.iload 5, 2) := by decide +kernel
theorem dX1_carryOut_84 : decode cX1_carryOut 84 = .ok (.isub, 1) := by decide +kernel
theorem dX1_carryOut_85 : decode cX1_carryOut 85 = .ok (.iastore, 1) := by decide +kernel
theorem dX1_carryOut_86 : decode cX1_carryOut 86 = .ok (.aload_n 0, 1) := by decide +kernel
theorem dX1_carryOut_87 : decode cX1_carryOut 87 = .ok (.getfield 22, 3) := by decide +kernel
theorem dX1_carryOut_90 : decode cX1_carryOut 90 = .ok (.iload_n 3, 1) := by decide +kernel
theorem dX1_carryOut_91 : decode cX1_carryOut 91 = .ok (.dup2, 1) := by decide +kernel
theorem dX1_carryOut_92 : decode cX1_carryOut 92 = .ok (.iaload, 1) := by decide +kernel
theorem dX1_carryOut_93 : decode cX1_carryOut 93 = .ok (.iload 5, 2) := by decide +kernel
theorem dX1_carryOut_95 : decode cX1_carryOut 95 = .ok (.iadd, 1) := by decide +kernel
theorem dX1_carryOut_96 : decode cX1_carryOut 96 = .ok (.iastore, 1) := by decide +kernel
theorem dX1_carryOut_97 : decode cX1_carryOut 97 = .ok (.aload_n 0, 1) := by decide +kernel
theorem dX1_carryOut_98 : decode cX1_carryOut 98 = .ok (.getfield 16, 3) := by decide +kernel
theorem dX1_carryOut_101 : decode cX1_carryOut 101 = .ok (.iload_n 3, 1) := by decide +kernel
theorem dX1_carryOut_102 : decode cX1_carryOut 102 = .ok (.dup2, 1) := by decide +kernel
theorem dX1_carryOut_103 : decode cX1_carryOut 103 = .ok (.iaload, 1) := by decide +kernel
theorem dX1_carryOut_104 : decode cX1_carryOut 104 = .ok (.aload_n 0, 1) := by decide +kernel
theorem dX1_carryOut_105 : decode cX1_carryOut 105 = .ok (.iload 4, 2) := by decide +kernel
theorem dX1_carryOut_107 : decode cX1_carryOut 107 = .ok (.i2l, 1) := by decide +kernel
theorem dX1_carryOut_108 : decode cX1_carryOut 108 = .ok (.aload_n 0, 1) := by decide +kernel
theorem dX1_carryOut_109 : decode cX1_carryOut 109 = .ok (.iload_n 2, 1) := by decide +kernel
theorem dX1_carryOut_110 : decode cX1_carryOut 110 = .ok (.iload_n 3, 1) := by decide +kernel
theorem dX1_carryOut_111 : decode cX1_carryOut 111 = .ok (.invokevirtual 58, 3) := by decide +kernel
theorem dX1_carryOut_114 : decode cX1_carryOut 114 = .ok (.invokevirtual 45, 3) := by decide +kernel
theorem dX1_carryOut_117 : decode cX1_carryOut 117 = .ok (.ldc2_w 49, 3) := by decide +kernel
theorem dX1_carryOut_120 : decode cX1_carryOut 120 = .ok (.lrem, 1) := by decide +kernel
theorem dX1_carryOut_121 : decode cX1_carryOut 121 = .ok (.l2i, 1) := by decide +kernel
theorem dX1_carryOut_122 : decode cX1_carryOut 122 = .ok (.iadd, 1) := by decide +kernel
theorem dX1_carryOut_123 : decode cX1_carryOut 123 = .ok (.iastore, 1) := by decide +kernel
theorem dX1_carryOut_124 : decode cX1_carryOut 124 = .ok (.aload_n 0, 1) := by decide +kernel
theorem dX1_carryOut_125 : decode cX1_carryOut 125 = .ok (.getfield 16, 3) := by decide +kernel
theorem dX1_carryOut_128 : decode cX1_carryOut 128 = .ok (.iload_n 3, 1) := by decide +kernel
theorem dX1_carryOut_129 : decode cX1_carryOut 129 = .ok (.iaload, 1) := by decide +kernel
theorem dX1_carryOut_130 : decode cX1_carryOut 130 = .ok (.sipush 10000, 3) := by decide +kernel
theorem dX1_carryOut_133 : decode cX1_carryOut 133 = .ok (.if_icmp .lt 34, 3) := by decide +kernel
theorem dX1_carryOut_136 : decode cX1_carryOut 136 = .ok (.aload_n 0, 1) := by decide +kernel
theorem dX1_carryOut_137 : decode cX1_carryOut 137 = .ok (.getfield 16, 3) := by decide +kernel
theorem dX1_carryOut_140 : decode cX1_carryOut 140 = .ok (.iload_n 3, 1) := by decide +kernel
theorem dX1_carryOut_141 : decode cX1_carryOut 141 = .ok (.dup2, 1) := by decide +kernel
theorem dX1_carryOut_142 : decode cX1_carryOut 142 = .ok (.iaload, 1) := by decide +kernel
theorem dX1_carryOut_143 : decode cX1_carryOut 143 = .ok (.sipush 10000, 3) := by decide +kernel
theorem dX1_carryOut_146 : decode cX1_carryOut 146 = .ok (.isub, 1) := by decide +kernel
theorem dX1_carryOut_147 : decode cX1_carryOut 147 = .ok (.iastore, 1) := by decide +kernel
theorem dX1_carryOut_148 : decode cX1_carryOut 148 = .ok (.aload_n 0, 1) := by decide +kernel
theorem dX1_carryOut_149 : decode cX1_carryOut 149 = .ok (.getfield 13, 3) := by decide +kernel
theorem dX1_carryOut_152 : decode cX1_carryOut 152 = .ok (.iload_n 3, 1) := by decide +kernel
theorem dX1_carryOut_153 : decode cX1_carryOut 153 = .ok (.ldc 61, 2) := by decide +kernel
theorem dX1_carryOut_155 : decode cX1_carryOut 155 = .ok (.aload_n 0, 1) := by decide +kernel
theorem dX1_carryOut_156 : decode cX1_carryOut 156 = .ok (.getfield 13, 3) := by decide +kernel
theorem dX1_carryOut_159 : decode cX1_carryOut 159 = .ok (.iload_n 3, 1) := by decide +kernel
theorem dX1_carryOut_160 : decode cX1_carryOut 160 = .ok (.iaload, 1) := by decide +kernel
theorem dX1_carryOut_161 : decode cX1_carryOut 161 = .ok (.iconst 1, 1) := by decide +kernel
theorem dX1_carryOut_162 : decode cX1_carryOut 162 = .ok (.iadd, 1) := by decide +kernel
theorem dX1_carryOut_163 : decode cX1_carryOut 163 = .ok (.invokestatic 62, 3) := by decide +kernel
theorem dX1_carryOut_166 : decode cX1_carryOut 166 = .ok (.iastore, 1) := by decide +kernel
theorem dX1_carryOut_167 : decode cX1_carryOut 167 = .ok (.aload_n 0, 1) := by decide +kernel
theorem dX1_carryOut_168 : decode cX1_carryOut 168 = .ok (.dup, 1) := by decide +kernel
theorem dX1_carryOut_169 : decode cX1_carryOut 169 = .ok (.getfield 67, 3) := by decide +kernel
theorem dX1_carryOut_172 : decode cX1_carryOut 172 = .ok (.iconst 1, 1) := by decide +kernel
theorem dX1_carryOut_173 : decode cX1_carryOut 173 = .ok (.iadd, 1) := by decide +kernel
theorem dX1_carryOut_174 : decode cX1_carryOut 174 = .ok (.putfield 67, 3) := by decide +kernel
theorem dX1_carryOut_177 : decode cX1_carryOut 177 = .ok (.iload 5, 2) := by decide +kernel
theorem dX1_carryOut_179 : decode cX1_carryOut 179 = .ok (.ireturn, 1) := by decide +kernel
theorem dX1_takeOut_0 : decode cX1_takeOut 0 = .ok (.aload_n 0, 1) := by decide +kernel
theorem dX1_takeOut_1 : decode cX1_takeOut 1 = .ok (.dup, 1) := by decide +kernel
theorem dX1_takeOut_2 : decode cX1_takeOut 2 = .ok (.getfield 70, 3) := by decide +kernel
theorem dX1_takeOut_5 : decode cX1_takeOut 5 = .ok (.iconst 1, 1) := by decide +kernel
theorem dX1_takeOut_6 : decode cX1_takeOut 6 = .ok (.isub, 1) := by decide +kernel
theorem dX1_takeOut_7 : decode cX1_takeOut 7 = .ok (.putfield 70, 3) := by decide +kernel
theorem dX1_takeOut_10 : decode cX1_takeOut 10 = .ok (.aload_n 0, 1) := by decide +kernel
theorem dX1_takeOut_11 : decode cX1_takeOut 11 = .ok (.getfield 28, 3) := by decide +kernel
theorem dX1_takeOut_14 : decode cX1_takeOut 14 = .ok (.iconst 5, 1) := by decide +kernel
theorem dX1_takeOut_15 : decode cX1_takeOut 15 = .ok (.iload_n 1, 1) := by decide +kernel
theorem dX1_takeOut_16 : decode cX1_takeOut 16 = .ok (.iconst 1, 1) := by decide +kernel
theorem dX1_takeOut_17 : decode cX1_takeOut 17 = .ok (.iadd, 1) := by decide +kernel
theorem dX1_takeOut_18 : decode cX1_takeOut 18 = .ok (.imul, 1) := by decide +kernel
theorem dX1_takeOut_19 : decode cX1_takeOut 19 = .ok (.aload_n 0, 1) := by decide +kernel
theorem dX1_takeOut_20 : decode cX1_takeOut 20 = .ok (.getfield 28, 3) := by decide +kernel
theorem dX1_takeOut_23 : decode cX1_takeOut 23 = .ok (.iconst 5, 1) := by decide +kernel
theorem dX1_takeOut_24 : decode cX1_takeOut 24 = .ok (.iload_n 1, 1) := by decide +kernel
theorem dX1_takeOut_25 : decode cX1_takeOut 25 = .ok (.imul, 1) := by decide +kernel
theorem dX1_takeOut_26 : decode cX1_takeOut 26 = .ok (.iconst 5, 1) := by decide +kernel
theorem dX1_takeOut_27 : decode cX1_takeOut 27 = .ok (.aload_n 0, 1) := by decide +kernel
theorem dX1_takeOut_28 : decode cX1_takeOut 28 = .ok (.getfield 70, 3) := by decide +kernel
theorem dX1_takeOut_31 : decode cX1_takeOut 31 = .ok (.iload_n 1, 1) := by decide +kernel
theorem dX1_takeOut_32 : decode cX1_takeOut 32 = .ok (.isub, 1) := by decide +kernel
theorem dX1_takeOut_33 : decode cX1_takeOut 33 = .ok (.imul, 1) := by decide +kernel
theorem dX1_takeOut_34 : decode cX1_takeOut 34 = .ok (.invokestatic 73, 3) := by decide +kernel
theorem dX1_takeOut_37 : decode cX1_takeOut 37 = .ok (.return_, 1) := by decide +kernel
theorem dX1_isDue_0 : decode cX1_isDue 0 = .ok (.aload_n 0, 1) := by decide +kernel
theorem dX1_isDue_1 : decode cX1_isDue 1 = .ok (.aload_n 0, 1) := by decide +kernel
theorem dX1_isDue_2 : decode cX1_isDue 2 = .ok (.iload_n 1, 1) := by decide +kernel
theorem dX1_isDue_3 : decode cX1_isDue 3 = .ok (.iconst 0, 1) := by decide +kernel
theorem dX1_isDue_4 : decode cX1_isDue 4 = .ok (.invokevirtual 79, 3) := by decide +kernel
theorem dX1_isDue_7 : decode cX1_isDue 7 = .ok (.aload_n 0, 1) := by decide +kernel
theorem dX1_isDue_8 : decode cX1_isDue 8 = .ok (.iload_n 1, 1) := by decide +kernel
theorem dX1_isDue_9 : decode cX1_isDue 9 = .ok (.iconst 1, 1) := by decide +kernel
theorem dX1_isDue_10 : decode cX1_isDue 10 = .ok (.invokevirtual 79, 3) := by decide +kernel
theorem dX1_isDue_13 : decode cX1_isDue 13 = .ok (.aload_n 0, 1) := by decide +kernel
theorem dX1_isDue_14 : decode cX1_isDue 14 = .ok (.iload_n 1, 1) := by decide +kernel
theorem dX1_isDue_15 : decode cX1_isDue 15 = .ok (.iconst 2, 1) := by decide +kernel
theorem dX1_isDue_16 : decode cX1_isDue 16 = .ok (.invokevirtual 79, 3) := by decide +kernel
theorem dX1_isDue_19 : decode cX1_isDue 19 = .ok (.aload_n 0, 1) := by decide +kernel
theorem dX1_isDue_20 : decode cX1_isDue 20 = .ok (.iload_n 1, 1) := by decide +kernel
theorem dX1_isDue_21 : decode cX1_isDue 21 = .ok (.iconst 3, 1) := by decide +kernel
theorem dX1_isDue_22 : decode cX1_isDue 22 = .ok (.invokevirtual 79, 3) := by decide +kernel
theorem dX1_isDue_25 : decode cX1_isDue 25 = .ok (.iload_n 2, 1) := by decide +kernel
theorem dX1_isDue_26 : decode cX1_isDue 26 = .ok (.invokevirtual 82, 3) := by decide +kernel
theorem dX1_isDue_29 : decode cX1_isDue 29 = .ok (.ifCond .eq 30, 3) := by decide +kernel
theorem dX1_isDue_32 : decode cX1_isDue 32 = .ok (.aload_n 0, 1) := by decide +kernel
theorem dX1_isDue_33 : decode cX1_isDue 33 = .ok (.aload_n 0, 1) := by decide +kernel
theorem dX1_isDue_34 : decode cX1_isDue 34 = .ok (.iload_n 1, 1) := by decide +kernel
theorem dX1_isDue_35 : decode cX1_isDue 35 = .ok (.iconst 3, 1) := by decide +kernel
theorem dX1_isDue_36 : decode cX1_isDue 36 = .ok (.invokevirtual 79, 3) := by decide +kernel
theorem dX1_isDue_39 : decode cX1_isDue 39 = .ok (.i2l, 1) := by decide +kernel
theorem dX1_isDue_40 : decode cX1_isDue 40 = .ok (.iload_n 2, 1) := by decide +kernel
theorem dX1_isDue_41 : decode cX1_isDue 41 = .ok (.invokevirtual 55, 3) := by decide +kernel
theorem dX1_isDue_44 : decode cX1_isDue 44 = .ok (.aload_n 0, 1) := by decide +kernel
theorem dX1_isDue_45 : decode cX1_isDue 45 = .ok (.iload_n 1, 1) := by decide +kernel
theorem dX1_isDue_46 : decode cX1_isDue 46 = .ok (.iconst 4, 1) := by decide +kernel
theorem dX1_isDue_47 : decode cX1_isDue 47 = .ok (.invokevirtual 79, 3) := by decide +kernel
theorem dX1_isDue_50 : decode cX1_isDue 50 = .ok (.i2l, 1) := by decide +kernel
theorem dX1_isDue_51 : decode cX1_isDue 51 = .ok (.lcmp, 1) := by decide +kernel
theorem dX1_isDue_52 : decode cX1_isDue 52 = .ok (.ifCond .lt 7, 3) := by decide +kernel
theorem dX1_isDue_55 : decode cX1_isDue 55 = .ok (.iconst 1, 1) := by decide +kernel
theorem dX1_isDue_56 : decode cX1_isDue 56 = .ok (.goto 4, 3) := by decide +kernel
theorem dX1_isDue_59 : decode cX1_isDue 59 = .ok (.iconst 0, 1) := by decide +kernel
theorem dX1_isDue_60 : decode cX1_isDue 60 = .ok (.ireturn, 1) := by decide +kernel
theorem dX1_lookAt_0 : decode cX1_lookAt 0 = .ok (.aload_n 0, 1) := by decide +kernel
theorem dX1_lookAt_1 : decode cX1_lookAt 1 = .ok (.getfield 86, 3) := by decide +kernel
theorem dX1_lookAt_4 : decode cX1_lookAt 4 = .ok (.istore_n 1, 1) := by decide +kernel
theorem dX1_lookAt_5 : decode cX1_lookAt 5 = .ok (.iconst 0, 1) := by decide +kernel
theorem dX1_lookAt_6 : decode cX1_lookAt 6 = .ok (.istore_n 2, 1) := by decide +kernel
theorem dX1_lookAt_7 : decode cX1_lookAt 7 = .ok (.iload_n 2, 1) := by decide +kernel
theorem dX1_lookAt_8 : decode cX1_lookAt 8 = .ok (.aload_n 0, 1) := by decide +kernel
theorem dX1_lookAt_9 : decode cX1_lookAt 9 = .ok (.getfield 70, 3) := by decide +kernel
theorem dX1_lookAt_12 : decode cX1_lookAt 12 = .ok (.if_icmp .ge 80, 3) := by decide +kernel
theorem dX1_lookAt_15 : decode cX1_lookAt 15 = .ok (.aload_n 0, 1) := by decide +kernel
theorem dX1_lookAt_16 : decode cX1_lookAt 16 = .ok (.iload_n 2, 1) := by decide +kernel
theorem dX1_lookAt_17 : decode cX1_lookAt 17 = .ok (.aload_n 0, 1) := by decide +kernel
theorem dX1_lookAt_18 : decode cX1_lookAt 18 = .ok (.aload_n 0, 1) := by decide +kernel
theorem dX1_lookAt_19 : decode cX1_lookAt 19 = .ok (.iload_n 2, 1) := by decide +kernel
theorem dX1_lookAt_20 : decode cX1_lookAt 20 = .ok (.iconst 1, 1) := by decide +kernel
theorem dX1_lookAt_21 : decode cX1_lookAt 21 = .ok (.invokevirtual 79, 3) := by decide +kernel
theorem dX1_lookAt_24 : decode cX1_lookAt 24 = .ok (.aload_n 0, 1) := by decide +kernel
theorem dX1_lookAt_25 : decode cX1_lookAt 25 = .ok (.iload_n 2, 1) := by decide +kernel
theorem dX1_lookAt_26 : decode cX1_lookAt 26 = .ok (.iconst 2, 1) := by decide +kernel
theorem dX1_lookAt_27 : decode cX1_lookAt 27 = .ok (.invokevirtual 79, 3) := by decide +kernel
theorem dX1_lookAt_30 : decode cX1_lookAt 30 = .ok (.invokevirtual 58, 3) := by decide +kernel
theorem dX1_lookAt_33 : decode cX1_lookAt 33 = .ok (.invokevirtual 89, 3) := by decide +kernel
theorem dX1_lookAt_36 : decode cX1_lookAt 36 = .ok (.ifCond .eq 50, 3) := by decide +kernel
theorem dX1_lookAt_39 : decode cX1_lookAt 39 = .ok (.aload_n 0, 1) := by decide +kernel
theorem dX1_lookAt_40 : decode cX1_lookAt 40 = .ok (.aload_n 0, 1) := by decide +kernel
theorem dX1_lookAt_41 : decode cX1_lookAt 41 = .ok (.iload_n 2, 1) := by decide +kernel
theorem dX1_lookAt_42 : decode cX1_lookAt 42 = .ok (.iconst 0, 1) := by decide +kernel
theorem dX1_lookAt_43 : decode cX1_lookAt 43 = .ok (.invokevirtual 79, 3) := by decide +kernel
theorem dX1_lookAt_46 : decode cX1_lookAt 46 = .ok (.aload_n 0, 1) := by decide +kernel
theorem dX1_lookAt_47 : decode cX1_lookAt 47 = .ok (.iload_n 2, 1) := by decide +kernel
theorem dX1_lookAt_48 : decode cX1_lookAt 48 = .ok (.iconst 1, 1) := by decide +kernel
theorem dX1_lookAt_49 : decode cX1_lookAt 49 = .ok (.invokevirtual 79, 3) := by decide +kernel
theorem dX1_lookAt_52 : decode cX1_lookAt 52 = .ok (.aload_n 0, 1) := by decide +kernel
theorem dX1_lookAt_53 : decode cX1_lookAt 53 = .ok (.iload_n 2, 1) := by decide +kernel
theorem dX1_lookAt_54 : decode cX1_lookAt 54 = .ok (.iconst 2, 1) := by decide +kernel
theorem dX1_lookAt_55 : decode cX1_lookAt 55 = .ok (.invokevirtual 79, 3) := by decide +kernel
theorem dX1_lookAt_58 : decode cX1_lookAt 58 = .ok (.aload_n 0, 1) := by decide +kernel
theorem dX1_lookAt_59 : decode cX1_lookAt 59 = .ok (.iload_n 2, 1) := by decide +kernel
theorem dX1_lookAt_60 : decode cX1_lookAt 60 = .ok (.iconst 3, 1) := by decide +kernel
theorem dX1_lookAt_61 : decode cX1_lookAt 61 = .ok (.invokevirtual 79, 3) := by decide +kernel
theorem dX1_lookAt_64 : decode cX1_lookAt 64 = .ok (.invokevirtual 93, 3) := by decide +kernel
theorem dX1_lookAt_67 : decode cX1_lookAt 67 = .ok (.pop, 1) := by decide +kernel
theorem dX1_lookAt_68 : decode cX1_lookAt 68 = .ok (.aload_n 0, 1) := by decide +kernel
theorem dX1_lookAt_69 : decode cX1_lookAt 69 = .ok (.iload_n 2, 1) := by decide +kernel
theorem dX1_lookAt_70 : decode cX1_lookAt 70 = .ok (.invokevirtual 97, 3) := by decide +kernel
theorem dX1_lookAt_73 : decode cX1_lookAt 73 = .ok (.aload_n 0, 1) := by decide +kernel
theorem dX1_lookAt_74 : decode cX1_lookAt 74 = .ok (.dup, 1) := by decide +kernel
theorem dX1_lookAt_75 : decode cX1_lookAt 75 = .ok (.getfield 86, 3) := by decide +kernel
theorem dX1_lookAt_78 : decode cX1_lookAt 78 = .ok (.iconst 1, 1) := by decide +kernel
theorem dX1_lookAt_79 : decode cX1_lookAt 79 = .ok (.iadd, 1) := by decide +kernel
theorem dX1_lookAt_80 : decode cX1_lookAt 80 = .ok (.putfield 86, 3) := by decide +kernel
theorem dX1_lookAt_83 : decode cX1_lookAt 83 = .ok (.goto (-76), 3) := by decide +kernel
theorem dX1_lookAt_86 : decode cX1_lookAt 86 = .ok (.iinc 2 1, 3) := by decide +kernel
theorem dX1_lookAt_89 : decode cX1_lookAt 89 = .ok (.goto (-82), 3) := by decide +kernel
theorem dX1_lookAt_92 : decode cX1_lookAt 92 = .ok (.aload_n 0, 1) := by decide +kernel
theorem dX1_lookAt_93 : decode cX1_lookAt 93 = .ok (.getfield 86, 3) := by decide +kernel
theorem dX1_lookAt_96 : decode cX1_lookAt 96 = .ok (.iload_n 1, 1) := by decide +kernel
theorem dX1_lookAt_97 : decode cX1_lookAt 97 = .ok (.isub, 1) := by decide +kernel
theorem dX1_lookAt_98 : decode cX1_lookAt 98 = .ok (.ireturn, 1) := by decide +kernel
theorem dX1_setRate_0 : decode cX1_setRate 0 = .ok (.aload_n 0, 1) := by decide +kernel
theorem dX1_setRate_1 : decode cX1_setRate 1 = .ok (.iconst 0, 1) := by decide +kernel
theorem dX1_setRate_2 : decode cX1_setRate 2 = .ok (.putfield 31, 3) := by decide +kernel
theorem dX1_setRate_5 : decode cX1_setRate 5 = .ok (.iload_n 1, 1) := by decide +kernel
theorem dX1_setRate_6 : decode cX1_setRate 6 = .ok (.invokestatic 101, 3) := by decide +kernel
theorem dX1_setRate_9 : decode cX1_setRate 9 = .ok (.ifCond .eq 10, 3) := by decide +kernel
theorem dX1_setRate_12 : decode cX1_setRate 12 = .ok (.iload_n 2, 1) := by decide +kernel
theorem dX1_setRate_13 : decode cX1_setRate 13 = .ok (.invokestatic 101, 3) := by decide +kernel
theorem dX1_setRate_16 : decode cX1_setRate 16 = .ok (.ifCond .ne 9, 3) := by decide +kernel
theorem dX1_setRate_19 : decode cX1_setRate 19 = .ok (.aload_n 0, 1) := by decide +kernel
theorem dX1_setRate_20 : decode cX1_setRate 20 = .ok (.iconst 1, 1) := by decide +kernel
theorem dX1_setRate_21 : decode cX1_setRate 21 = .ok (.invokevirtual 105, 3) := by decide +kernel
theorem dX1_setRate_24 : decode cX1_setRate 24 = .ok (.ireturn, 1) := by decide +kernel
theorem dX1_setRate_25 : decode cX1_setRate 25 = .ok (.iload_n 1, 1) := by decide +kernel
theorem dX1_setRate_26 : decode cX1_setRate 26 = .ok (.iload_n 2, 1) := by decide +kernel
theorem dX1_setRate_27 : decode cX1_setRate 27 = .ok (.if_icmp .eq 14, 3) := by decide +kernel
theorem dX1_setRate_30 : decode cX1_setRate 30 = .ok (.iload_n 3, 1) := by decide +kernel
theorem dX1_setRate_31 : decode cX1_setRate 31 = .ok (.iconst 0, 1) := by decide +kernel
theorem dX1_setRate_32 : decode cX1_setRate 32 = .ok (.sipush 9999, 3) := by decide +kernel
theorem dX1_setRate_35 : decode cX1_setRate 35 = .ok (.invokestatic 35, 3) := by decide +kernel
theorem dX1_setRate_38 : decode cX1_setRate 38 = .ok (.ifCond .ne 9, 3) := by decide +kernel
theorem dX1_setRate_41 : decode cX1_setRate 41 = .ok (.aload_n 0, 1) := by decide +kernel
theorem dX1_setRate_42 : decode cX1_setRate 42 = .ok (.iconst 2, 1) := by decide +kernel
theorem dX1_setRate_43 : decode cX1_setRate 43 = .ok (.invokevirtual 105, 3) := by decide +kernel
theorem dX1_setRate_46 : decode cX1_setRate 46 = .ok (.ireturn, 1) := by decide +kernel
theorem dX1_setRate_47 : decode cX1_setRate 47 = .ok (.aload_n 0, 1) := by decide +kernel
theorem dX1_setRate_48 : decode cX1_setRate 48 = .ok (.getfield 9, 3) := by decide +kernel
theorem dX1_setRate_51 : decode cX1_setRate 51 = .ok (.iconst 5, 1) := by decide +kernel
theorem dX1_setRate_52 : decode cX1_setRate 52 = .ok (.iload_n 1, 1) := by decide +kernel
theorem dX1_setRate_53 : decode cX1_setRate 53 = .ok (.imul, 1) := by decide +kernel
theorem dX1_setRate_54 : decode cX1_setRate 54 = .ok (.iload_n 2, 1) := by decide +kernel
theorem dX1_setRate_55 : decode cX1_setRate 55 = .ok (.iadd, 1) := by decide +kernel
theorem dX1_setRate_56 : decode cX1_setRate 56 = .ok (.iload_n 3, 1) := by decide +kernel
theorem dX1_setRate_57 : decode cX1_setRate 57 = .ok (.iastore, 1) := by decide +kernel
theorem dX1_setRate_58 : decode cX1_setRate 58 = .ok (.aload_n 0, 1) := by decide +kernel
theorem dX1_setRate_59 : decode cX1_setRate 59 = .ok (.invokevirtual 109, 3) := by decide +kernel
theorem dX1_setRate_62 : decode cX1_setRate 62 = .ok (.ireturn, 1) := by decide +kernel
theorem dX1_setSpread_0 : decode cX1_setSpread 0 = .ok (.aload_n 0, 1) := by decide +kernel
theorem dX1_setSpread_1 : decode cX1_setSpread 1 = .ok (.iconst 0, 1) := by decide +kernel
theorem dX1_setSpread_2 : decode cX1_setSpread 2 = .ok (.putfield 31, 3) := by decide +kernel
theorem dX1_setSpread_5 : decode cX1_setSpread 5 = .ok (.iload_n 1, 1) := by decide +kernel
theorem dX1_setSpread_6 : decode cX1_setSpread 6 = .ok (.iconst 0, 1) := by decide +kernel
theorem dX1_setSpread_7 : decode cX1_setSpread 7 = .ok (.bipush 50, 2) := by decide +kernel
theorem dX1_setSpread_9 : decode cX1_setSpread 9 = .ok (.invokestatic 35, 3) := by decide +kernel
theorem dX1_setSpread_12 : decode cX1_setSpread 12 = .ok (.ifCond .ne 9, 3) := by decide +kernel
theorem dX1_setSpread_15 : decode cX1_setSpread 15 = .ok (.aload_n 0, 1) := by decide +kernel
theorem dX1_setSpread_16 : decode cX1_setSpread 16 = .ok (.iconst 1, 1) := by decide +kernel
theorem dX1_setSpread_17 : decode cX1_setSpread 17 = .ok (.invokevirtual 105, 3) := by decide +kernel
theorem dX1_setSpread_20 : decode cX1_setSpread 20 = .ok (.ireturn, 1) := by decide +kernel
theorem dX1_setSpread_21 : decode cX1_setSpread 21 = .ok (.aload_n 0, 1) := by decide +kernel
theorem dX1_setSpread_22 : decode cX1_setSpread 22 = .ok (.iload_n 1, 1) := by decide +kernel
theorem dX1_setSpread_23 : decode cX1_setSpread 23 = .ok (.putfield 42, 3) := by decide +kernel
theorem dX1_setSpread_26 : decode cX1_setSpread 26 = .ok (.aload_n 0, 1) := by decide +kernel
theorem dX1_setSpread_27 : decode cX1_setSpread 27 = .ok (.invokevirtual 109, 3) := by decide +kernel
theorem dX1_setSpread_30 : decode cX1_setSpread 30 = .ok (.ireturn, 1) := by decide +kernel
theorem dX1_setLimit_0 : decode cX1_setLimit 0 = .ok (.aload_n 0, 1) := by decide +kernel
theorem dX1_setLimit_1 : decode cX1_setLimit 1 = .ok (.iconst 0, 1) := by decide +kernel
theorem dX1_setLimit_2 : decode cX1_setLimit 2 = .ok (.putfield 31, 3) := by decide +kernel
theorem dX1_setLimit_5 : decode cX1_setLimit 5 = .ok (.iload_n 1, 1) := by decide +kernel
theorem dX1_setLimit_6 : decode cX1_setLimit 6 = .ok (.invokestatic 101, 3) := by decide +kernel
theorem dX1_setLimit_9 : decode cX1_setLimit 9 = .ok (.ifCond .ne 9, 3) := by decide +kernel
theorem dX1_setLimit_12 : decode cX1_setLimit 12 = .ok (.aload_n 0, 1) := by decide +kernel
theorem dX1_setLimit_13 : decode cX1_setLimit 13 = .ok (.iconst 1, 1) := by decide +kernel
theorem dX1_setLimit_14 : decode cX1_setLimit 14 = .ok (.invokevirtual 105, 3) := by decide +kernel
theorem dX1_setLimit_17 : decode cX1_setLimit 17 = .ok (.ireturn, 1) := by decide +kernel
theorem dX1_setLimit_18 : decode cX1_setLimit 18 = .ok (.iload_n 2, 1) := by decide +kernel
theorem dX1_setLimit_19 : decode cX1_setLimit 19 = .ok (.iconst 0, 1) := by decide +kernel
theorem dX1_setLimit_20 : decode cX1_setLimit 20 = .ok (.ldc 113, 2) := by decide +kernel
theorem dX1_setLimit_22 : decode cX1_setLimit 22 = .ok (.invokestatic 35, 3) := by decide +kernel
theorem dX1_setLimit_25 : decode cX1_setLimit 25 = .ok (.ifCond .ne 9, 3) := by decide +kernel
theorem dX1_setLimit_28 : decode cX1_setLimit 28 = .ok (.aload_n 0, 1) := by decide +kernel
theorem dX1_setLimit_29 : decode cX1_setLimit 29 = .ok (.iconst 2, 1) := by decide +kernel
theorem dX1_setLimit_30 : decode cX1_setLimit 30 = .ok (.invokevirtual 105, 3) := by decide +kernel
theorem dX1_setLimit_33 : decode cX1_setLimit 33 = .ok (.ireturn, 1) := by decide +kernel
theorem dX1_setLimit_34 : decode cX1_setLimit 34 = .ok (.aload_n 0, 1) := by decide +kernel
theorem dX1_setLimit_35 : decode cX1_setLimit 35 = .ok (.getfield 19, 3) := by decide +kernel
theorem dX1_setLimit_38 : decode cX1_setLimit 38 = .ok (.iload_n 1, 1) := by decide +kernel
theorem dX1_setLimit_39 : decode cX1_setLimit 39 = .ok (.iaload, 1) := by decide +kernel
theorem dX1_setLimit_40 : decode cX1_setLimit 40 = .ok (.istore_n 3, 1) := by decide +kernel
theorem dX1_setLimit_41 : decode cX1_setLimit 41 = .ok (.aload_n 0, 1) := by decide +kernel
theorem dX1_setLimit_42 : decode cX1_setLimit 42 = .ok (.getfield 19, 3) := by decide +kernel
theorem dX1_setLimit_45 : decode cX1_setLimit 45 = .ok (.iload_n 1, 1) := by decide +kernel
theorem dX1_setLimit_46 : decode cX1_setLimit 46 = .ok (.iload_n 2, 1) := by decide +kernel
theorem dX1_setLimit_47 : decode cX1_setLimit 47 = .ok (.iastore, 1) := by decide +kernel
theorem dX1_setLimit_48 : decode cX1_setLimit 48 = .ok (.iload_n 3, 1) := by decide +kernel
theorem dX1_setLimit_49 : decode cX1_setLimit 49 = .ok (.ireturn, 1) := by decide +kernel
theorem dX1_stock_0 : decode cX1_stock 0 = .ok (.aload_n 0, 1) := by decide +kernel
theorem dX1_stock_1 : decode cX1_stock 1 = .ok (.iconst 0, 1) := by decide +kernel
theorem dX1_stock_2 : decode cX1_stock 2 = .ok (.putfield 31, 3) := by decide +kernel
theorem dX1_stock_5 : decode cX1_stock 5 = .ok (.iload_n 1, 1) := by decide +kernel
theorem dX1_stock_6 : decode cX1_stock 6 = .ok (.invokestatic 101, 3) := by decide +kernel
theorem dX1_stock_9 : decode cX1_stock 9 = .ok (.ifCond .ne 9, 3) := by decide +kernel
theorem dX1_stock_12 : decode cX1_stock 12 = .ok (.aload_n 0, 1) := by decide +kernel
theorem dX1_stock_13 : decode cX1_stock 13 = .ok (.iconst 1, 1) := by decide +kernel
theorem dX1_stock_14 : decode cX1_stock 14 = .ok (.invokevirtual 105, 3) := by decide +kernel
theorem dX1_stock_17 : decode cX1_stock 17 = .ok (.ireturn, 1) := by decide +kernel
theorem dX1_stock_18 : decode cX1_stock 18 = .ok (.iload_n 2, 1) := by decide +kernel
theorem dX1_stock_19 : decode cX1_stock 19 = .ok (.iconst 1, 1) := by decide +kernel
theorem dX1_stock_20 : decode cX1_stock 20 = .ok (.ldc 113, 2) := by decide +kernel
theorem dX1_stock_22 : decode cX1_stock 22 = .ok (.invokestatic 35, 3) := by decide +kernel
theorem dX1_stock_25 : decode cX1_stock 25 = .ok (.ifCond .ne 9, 3) := by decide +kernel
theorem dX1_stock_28 : decode cX1_stock 28 = .ok (.aload_n 0, 1) := by decide +kernel
theorem dX1_stock_29 : decode cX1_stock 29 = .ok (.iconst 2, 1) := by decide +kernel
theorem dX1_stock_30 : decode cX1_stock 30 = .ok (.invokevirtual 105, 3) := by decide +kernel
theorem dX1_stock_33 : decode cX1_stock 33 = .ok (.ireturn, 1) := by decide +kernel
theorem dX1_stock_34 : decode cX1_stock 34 = .ok (.aload_n 0, 1) := by decide +kernel
theorem dX1_stock_35 : decode cX1_stock 35 = .ok (.getfield 13, 3) := by decide +kernel
theorem dX1_stock_38 : decode cX1_stock 38 = .ok (.iload_n 1, 1) := by decide +kernel
theorem dX1_stock_39 : decode cX1_stock 39 = .ok (.ldc 61, 2) := by decide +kernel
theorem dX1_stock_41 : decode cX1_stock 41 = .ok (.aload_n 0, 1) := by decide +kernel
theorem dX1_stock_42 : decode cX1_stock 42 = .ok (.getfield 13, 3) := by decide +kernel
theorem dX1_stock_45 : decode cX1_stock 45 = .ok (.iload_n 1, 1) := by decide +kernel
theorem dX1_stock_46 : decode cX1_stock 46 = .ok (.iaload, 1) := by decide +kernel
theorem dX1_stock_47 : decode cX1_stock 47 = .ok (.iload_n 2, 1) := by decide +kernel
theorem dX1_stock_48 : decode cX1_stock 48 = .ok (.iadd, 1) := by decide +kernel
theorem dX1_stock_49 : decode cX1_stock 49 = .ok (.invokestatic 62, 3) := by decide +kernel
theorem dX1_stock_52 : decode cX1_stock 52 = .ok (.iastore, 1) := by decide +kernel
theorem dX1_stock_53 : decode cX1_stock 53 = .ok (.aload_n 0, 1) := by decide +kernel
theorem dX1_stock_54 : decode cX1_stock 54 = .ok (.getfield 13, 3) := by decide +kernel
theorem dX1_stock_57 : decode cX1_stock 57 = .ok (.iload_n 1, 1) := by decide +kernel
theorem dX1_stock_58 : decode cX1_stock 58 = .ok (.iaload, 1) := by decide +kernel
theorem dX1_stock_59 : decode cX1_stock 59 = .ok (.ireturn, 1) := by decide +kernel
theorem dX1_next_0 : decode cX1_next 0 = .ok (.aload_n 0, 1) := by decide +kernel
theorem dX1_next_1 : decode cX1_next 1 = .ok (.iconst 0, 1) := by decide +kernel
theorem dX1_next_2 : decode cX1_next 2 = .ok (.putfield 31, 3) := by decide +kernel
theorem dX1_next_5 : decode cX1_next 5 = .ok (.aload_n 0, 1) := by decide +kernel
theorem dX1_next_6 : decode cX1_next 6 = .ok (.dup, 1) := by decide +kernel
theorem dX1_next_7 : decode cX1_next 7 = .ok (.getfield 114, 3) := by decide +kernel
theorem dX1_next_10 : decode cX1_next 10 = .ok (.iconst 1, 1) := by decide +kernel
theorem dX1_next_11 : decode cX1_next 11 = .ok (.iadd, 1) := by decide +kernel
theorem dX1_next_12 : decode cX1_next 12 = .ok (.putfield 114, 3) := by decide +kernel
theorem dX1_next_15 : decode cX1_next 15 = .ok (.iconst 0, 1) := by decide +kernel
theorem dX1_next_16 : decode cX1_next 16 = .ok (.istore_n 1, 1) := by decide +kernel
theorem dX1_next_17 : decode cX1_next 17 = .ok (.iload_n 1, 1) := by decide +kernel
theorem dX1_next_18 : decode cX1_next 18 = .ok (.iconst 5, 1) := by decide +kernel
theorem dX1_next_19 : decode cX1_next 19 = .ok (.if_icmp .ge 16, 3) := by decide +kernel
theorem dX1_next_22 : decode cX1_next 22 = .ok (.aload_n 0, 1) := by decide +kernel
theorem dX1_next_23 : decode cX1_next 23 = .ok (.getfield 22, 3) := by decide +kernel
theorem dX1_next_26 : decode cX1_next 26 = .ok (.iload_n 1, 1) := by decide +kernel
theorem dX1_next_27 : decode cX1_next 27 = .ok (.iconst 0, 1) := by decide +kernel
theorem dX1_next_28 : decode cX1_next 28 = .ok (.iastore, 1) := by decide +kernel
theorem dX1_next_29 : decode cX1_next 29 = .ok (.iinc 1 1, 3) := by decide +kernel
theorem dX1_next_32 : decode cX1_next 32 = .ok (.goto (-15), 3) := by decide +kernel
theorem dX1_next_35 : decode cX1_next 35 = .ok (.aload_n 0, 1) := by decide +kernel
theorem dX1_next_36 : decode cX1_next 36 = .ok (.invokevirtual 109, 3) := by decide +kernel
theorem dX1_next_39 : decode cX1_next 39 = .ok (.ireturn, 1) := by decide +kernel
theorem dX1_come_0 : decode cX1_come 0 = .ok (.aload_n 0, 1) := by decide +kernel
theorem dX1_come_1 : decode cX1_come 1 = .ok (.iconst 0, 1) := by decide +kernel
theorem dX1_come_2 : decode cX1_come 2 = .ok (.putfield 31, 3) := by decide +kernel
theorem dX1_come_5 : decode cX1_come 5 = .ok (.aload_n 0, 1) := by decide +kernel
theorem dX1_come_6 : decode cX1_come 6 = .ok (.getfield 39, 3) := by decide +kernel
theorem dX1_come_9 : decode cX1_come 9 = .ok (.bipush 6, 2) := by decide +kernel
theorem dX1_come_11 : decode cX1_come 11 = .ok (.if_icmp .ne 9, 3) := by decide +kernel
theorem dX1_come_14 : decode cX1_come 14 = .ok (.aload_n 0, 1) := by decide +kernel
theorem dX1_come_15 : decode cX1_come 15 = .ok (.iconst 1, 1) := by decide +kernel
theorem dX1_come_16 : decode cX1_come 16 = .ok (.invokevirtual 105, 3) := by decide +kernel
theorem dX1_come_19 : decode cX1_come 19 = .ok (.ireturn, 1) := by decide +kernel
theorem dX1_come_20 : decode cX1_come 20 = .ok (.aload_n 0, 1) := by decide +kernel
theorem dX1_come_21 : decode cX1_come 21 = .ok (.dup, 1) := by decide +kernel
theorem dX1_come_22 : decode cX1_come 22 = .ok (.getfield 39, 3) := by decide +kernel
theorem dX1_come_25 : decode cX1_come 25 = .ok (.iconst 1, 1) := by decide +kernel
theorem dX1_come_26 : decode cX1_come 26 = .ok (.iadd, 1) := by decide +kernel
theorem dX1_come_27 : decode cX1_come 27 = .ok (.putfield 39, 3) := by decide +kernel
theorem dX1_come_30 : decode cX1_come 30 = .ok (.aload_n 0, 1) := by decide +kernel
theorem dX1_come_31 : decode cX1_come 31 = .ok (.getfield 39, 3) := by decide +kernel
theorem dX1_come_34 : decode cX1_come 34 = .ok (.iconst 1, 1) := by decide +kernel
theorem dX1_come_35 : decode cX1_come 35 = .ok (.isub, 1) := by decide +kernel
theorem dX1_come_36 : decode cX1_come 36 = .ok (.ireturn, 1) := by decide +kernel
theorem dX1_earn_0 : decode cX1_earn 0 = .ok (.aload_n 0, 1) := by decide +kernel
theorem dX1_earn_1 : decode cX1_earn 1 = .ok (.iconst 0, 1) := by decide +kernel
theorem dX1_earn_2 : decode cX1_earn 2 = .ok (.putfield 31, 3) := by decide +kernel
theorem dX1_earn_5 : decode cX1_earn 5 = .ok (.aload_n 0, 1) := by decide +kernel
theorem dX1_earn_6 : decode cX1_earn 6 = .ok (.iload_n 1, 1) := by decide +kernel
theorem dX1_earn_7 : decode cX1_earn 7 = .ok (.invokevirtual 117, 3) := by decide +kernel
theorem dX1_earn_10 : decode cX1_earn 10 = .ok (.ifCond .eq 10, 3) := by decide +kernel
theorem dX1_earn_13 : decode cX1_earn 13 = .ok (.iload_n 2, 1) := by decide +kernel
theorem dX1_earn_14 : decode cX1_earn 14 = .ok (.invokestatic 101, 3) := by decide +kernel
theorem dX1_earn_17 : decode cX1_earn 17 = .ok (.ifCond .ne 9, 3) := by decide +kernel
theorem dX1_earn_20 : decode cX1_earn 20 = .ok (.aload_n 0, 1) := by decide +kernel
theorem dX1_earn_21 : decode cX1_earn 21 = .ok (.iconst 1, 1) := by decide +kernel
theorem dX1_earn_22 : decode cX1_earn 22 = .ok (.invokevirtual 105, 3) := by decide +kernel
theorem dX1_earn_25 : decode cX1_earn 25 = .ok (.ireturn, 1) := by decide +kernel
theorem dX1_earn_26 : decode cX1_earn 26 = .ok (.iload_n 3, 1) := by decide +kernel
theorem dX1_earn_27 : decode cX1_earn 27 = .ok (.iconst 1, 1) := by decide +kernel
theorem dX1_earn_28 : decode cX1_earn 28 = .ok (.ldc 113, 2) := by decide +kernel
theorem dX1_earn_30 : decode cX1_earn 30 = .ok (.invokestatic 35, 3) := by decide +kernel
theorem dX1_earn_33 : decode cX1_earn 33 = .ok (.ifCond .ne 9, 3) := by decide +kernel
theorem dX1_earn_36 : decode cX1_earn 36 = .ok (.aload_n 0, 1) := by decide +kernel
theorem dX1_earn_37 : decode cX1_earn 37 = .ok (.iconst 2, 1) := by decide +kernel
theorem dX1_earn_38 : decode cX1_earn 38 = .ok (.invokevirtual 105, 3) := by decide +kernel
theorem dX1_earn_41 : decode cX1_earn 41 = .ok (.ireturn, 1) := by decide +kernel
theorem dX1_earn_42 : decode cX1_earn 42 = .ok (.iconst 5, 1) := by decide +kernel
theorem dX1_earn_43 : decode cX1_earn 43 = .ok (.iload_n 1, 1) := by decide +kernel
theorem dX1_earn_44 : decode cX1_earn 44 = .ok (.imul, 1) := by decide +kernel
theorem dX1_earn_45 : decode cX1_earn 45 = .ok (.iload_n 2, 1) := by decide +kernel
theorem dX1_earn_46 : decode cX1_earn 46 = .ok (.iadd, 1) := by decide +kernel
theorem dX1_earn_47 : decode cX1_earn 47 = .ok (.istore 4, 2) := by decide +kernel
theorem dX1_earn_49 : decode cX1_earn 49 = .ok (.aload_n 0, 1) := by decide +kernel
theorem dX1_earn_50 : decode cX1_earn 50 = .ok (.getfield 25, 3) := by decide +kernel
theorem dX1_earn_53 : decode cX1_earn 53 = .ok (.iload 4, 2) := by decide +kernel
theorem dX1_earn_55 : decode cX1_earn 55 = .ok (.ldc 61, 2) := by decide +kernel
theorem dX1_earn_57 : decode cX1_earn 57 = .ok (.aload_n 0, 1) := by decide +kernel
theorem dX1_earn_58 : decode cX1_earn 58 = .ok (.getfield 25, 3) := by decide +kernel
theorem dX1_earn_61 : decode cX1_earn 61 = .ok (.iload 4, 2) := by decide +kernel
theorem dX1_earn_63 : decode cX1_earn 63 = .ok (.iaload, 1) := by decide +kernel
theorem dX1_earn_64 : decode cX1_earn 64 = .ok (.iload_n 3, 1) := by decide +kernel
theorem dX1_earn_65 : decode cX1_earn 65 = .ok (.iadd, 1) := by decide +kernel
theorem dX1_earn_66 : decode cX1_earn 66 = .ok (.invokestatic 62, 3) := by decide +kernel
theorem dX1_earn_69 : decode cX1_earn 69 = .ok (.iastore, 1) := by decide +kernel
theorem dX1_earn_70 : decode cX1_earn 70 = .ok (.aload_n 0, 1) := by decide +kernel
theorem dX1_earn_71 : decode cX1_earn 71 = .ok (.getfield 25, 3) := by decide +kernel
theorem dX1_earn_74 : decode cX1_earn 74 = .ok (.iload 4, 2) := by decide +kernel
theorem dX1_earn_76 : decode cX1_earn 76 = .ok (.iaload, 1) := by decide +kernel
theorem dX1_earn_77 : decode cX1_earn 77 = .ok (.ireturn, 1) := by decide +kernel
theorem dX1_change_0 : decode cX1_change 0 = .ok (.aload_n 0, 1) := by decide +kernel
theorem dX1_change_1 : decode cX1_change 1 = .ok (.iconst 0, 1) := by decide +kernel
theorem dX1_change_2 : decode cX1_change 2 = .ok (.putfield 31, 3) := by decide +kernel
theorem dX1_change_5 : decode cX1_change 5 = .ok (.aload_n 0, 1) := by decide +kernel
theorem dX1_change_6 : decode cX1_change 6 = .ok (.iload_n 1, 1) := by decide +kernel
theorem dX1_change_7 : decode cX1_change 7 = .ok (.invokevirtual 117, 3) := by decide +kernel
theorem dX1_change_10 : decode cX1_change 10 = .ok (.ifCond .eq 17, 3) := by decide +kernel
theorem dX1_change_13 : decode cX1_change 13 = .ok (.iload_n 2, 1) := by decide +kernel
theorem dX1_change_14 : decode cX1_change 14 = .ok (.invokestatic 101, 3) := by decide +kernel
theorem dX1_change_17 : decode cX1_change 17 = .ok (.ifCond .eq 10, 3) := by decide +kernel
theorem dX1_change_20 : decode cX1_change 20 = .ok (.iload_n 3, 1) := by decide +kernel
theorem dX1_change_21 : decode cX1_change 21 = .ok (.invokestatic 101, 3) := by decide +kernel
theorem dX1_change_24 : decode cX1_change 24 = .ok (.ifCond .ne 9, 3) := by decide +kernel
theorem dX1_change_27 : decode cX1_change 27 = .ok (.aload_n 0, 1) := by decide +kernel
theorem dX1_change_28 : decode cX1_change 28 = .ok (.iconst 1, 1) := by decide +kernel
theorem dX1_change_29 : decode cX1_change 29 = .ok (.invokevirtual 105, 3) := by decide +kernel
theorem dX1_change_32 : decode cX1_change 32 = .ok (.ireturn, 1) := by decide +kernel
theorem dX1_change_33 : decode cX1_change 33 = .ok (.aload_n 0, 1) := by decide +kernel
theorem dX1_change_34 : decode cX1_change 34 = .ok (.iload_n 1, 1) := by decide +kernel
theorem dX1_change_35 : decode cX1_change 35 = .ok (.iload_n 2, 1) := by decide +kernel
theorem dX1_change_36 : decode cX1_change 36 = .ok (.iload_n 3, 1) := by decide +kernel
theorem dX1_change_37 : decode cX1_change 37 = .ok (.iload 4, 2) := by decide +kernel
theorem dX1_change_39 : decode cX1_change 39 = .ok (.aload_n 0, 1) := by decide +kernel
theorem dX1_change_40 : decode cX1_change 40 = .ok (.iload_n 2, 1) := by decide +kernel
theorem dX1_change_41 : decode cX1_change 41 = .ok (.iload_n 3, 1) := by decide +kernel
theorem dX1_change_42 : decode cX1_change 42 = .ok (.invokevirtual 58, 3) := by decide +kernel
theorem dX1_change_45 : decode cX1_change 45 = .ok (.invokevirtual 82, 3) := by decide +kernel
theorem dX1_change_48 : decode cX1_change 48 = .ok (.ifCond .eq 15, 3) := by decide +kernel
theorem dX1_change_51 : decode cX1_change 51 = .ok (.aload_n 0, 1) := by decide +kernel
theorem dX1_change_52 : decode cX1_change 52 = .ok (.iload_n 1, 1) := by decide +kernel
theorem dX1_change_53 : decode cX1_change 53 = .ok (.iload_n 2, 1) := by decide +kernel
theorem dX1_change_54 : decode cX1_change 54 = .ok (.iload_n 3, 1) := by decide +kernel
theorem dX1_change_55 : decode cX1_change 55 = .ok (.iload 4, 2) := by decide +kernel
theorem dX1_change_57 : decode cX1_change 57 = .ok (.invokevirtual 93, 3) := by decide +kernel
theorem dX1_change_60 : decode cX1_change 60 = .ok (.goto 8, 3) := by decide +kernel
theorem dX1_change_63 : decode cX1_change 63 = .ok (.aload_n 0, 1) := by decide +kernel
theorem dX1_change_64 : decode cX1_change 64 = .ok (.iconst 2, 1) := by decide +kernel
theorem dX1_change_65 : decode cX1_change 65 = .ok (.invokevirtual 105, 3) := by decide +kernel
theorem dX1_change_68 : decode cX1_change 68 = .ok (.ireturn, 1) := by decide +kernel
theorem dX1_order_0 : decode cX1_order 0 = .ok (.aload_n 0, 1) := by decide +kernel
theorem dX1_order_1 : decode cX1_order 1 = .ok (.iconst 0, 1) := by decide +kernel
theorem dX1_order_2 : decode cX1_order 2 = .ok (.putfield 31, 3) := by decide +kernel
theorem dX1_order_5 : decode cX1_order 5 = .ok (.aload_n 0, 1) := by decide +kernel
theorem dX1_order_6 : decode cX1_order 6 = .ok (.iload_n 1, 1) := by decide +kernel
theorem dX1_order_7 : decode cX1_order 7 = .ok (.invokevirtual 117, 3) := by decide +kernel
theorem dX1_order_10 : decode cX1_order 10 = .ok (.ifCond .eq 17, 3) := by decide +kernel
theorem dX1_order_13 : decode cX1_order 13 = .ok (.iload_n 2, 1) := by decide +kernel
theorem dX1_order_14 : decode cX1_order 14 = .ok (.invokestatic 101, 3) := by decide +kernel
theorem dX1_order_17 : decode cX1_order 17 = .ok (.ifCond .eq 10, 3) := by decide +kernel
theorem dX1_order_20 : decode cX1_order 20 = .ok (.iload_n 3, 1) := by decide +kernel
theorem dX1_order_21 : decode cX1_order 21 = .ok (.invokestatic 101, 3) := by decide +kernel
theorem dX1_order_24 : decode cX1_order 24 = .ok (.ifCond .ne 9, 3) := by decide +kernel
theorem dX1_order_27 : decode cX1_order 27 = .ok (.aload_n 0, 1) := by decide +kernel
theorem dX1_order_28 : decode cX1_order 28 = .ok (.iconst 1, 1) := by decide +kernel
theorem dX1_order_29 : decode cX1_order 29 = .ok (.invokevirtual 105, 3) := by decide +kernel
theorem dX1_order_32 : decode cX1_order 32 = .ok (.ireturn, 1) := by decide +kernel
theorem dX1_order_33 : decode cX1_order 33 = .ok (.iload_n 2, 1) := by decide +kernel
theorem dX1_order_34 : decode cX1_order 34 = .ok (.iload_n 3, 1) := by decide +kernel
theorem dX1_order_35 : decode cX1_order 35 = .ok (.if_icmp .eq 25, 3) := by decide +kernel
theorem dX1_order_38 : decode cX1_order 38 = .ok (.iload 4, 2) := by decide +kernel
theorem dX1_order_40 : decode cX1_order 40 = .ok (.iconst 1, 1) := by decide +kernel
theorem dX1_order_41 : decode cX1_order 41 = .ok (.ldc 113, 2) := by decide +kernel
theorem dX1_order_43 : decode cX1_order 43 = .ok (.invokestatic 35, 3) := by decide +kernel
theorem dX1_order_46 : decode cX1_order 46 = .ok (.ifCond .eq 14, 3) := by decide +kernel
theorem dX1_order_49 : decode cX1_order 49 = .ok (.iload 5, 2) := by decide +kernel
theorem dX1_order_51 : decode cX1_order 51 = .ok (.iconst 1, 1) := by decide +kernel
theorem dX1_order_52 : decode cX1_order 52 = .ok (.ldc 113, 2) := by decide +kernel
theorem dX1_order_54 : decode cX1_order 54 = .ok (.invokestatic 35, 3) := by decide +kernel
theorem dX1_order_57 : decode cX1_order 57 = .ok (.ifCond .ne 9, 3) := by decide +kernel
theorem dX1_order_60 : decode cX1_order 60 = .ok (.aload_n 0, 1) := by decide +kernel
theorem dX1_order_61 : decode cX1_order 61 = .ok (.iconst 2, 1) := by decide +kernel
theorem dX1_order_62 : decode cX1_order 62 = .ok (.invokevirtual 105, 3) := by decide +kernel
theorem dX1_order_65 : decode cX1_order 65 = .ok (.ireturn, 1) := by decide +kernel
theorem dX1_order_66 : decode cX1_order 66 = .ok (.aload_n 0, 1) := by decide +kernel
theorem dX1_order_67 : decode cX1_order 67 = .ok (.getfield 70, 3) := by decide +kernel
theorem dX1_order_70 : decode cX1_order 70 = .ok (.bipush 10, 2) := by decide +kernel
theorem dX1_order_72 : decode cX1_order 72 = .ok (.if_icmp .ne 9, 3) := by decide +kernel
theorem dX1_order_75 : decode cX1_order 75 = .ok (.aload_n 0, 1) := by decide +kernel
theorem dX1_order_76 : decode cX1_order 76 = .ok (.iconst 3, 1) := by decide +kernel
theorem dX1_order_77 : decode cX1_order 77 = .ok (.invokevirtual 105, 3) := by decide +kernel
theorem dX1_order_80 : decode cX1_order 80 = .ok (.ireturn, 1) := by decide +kernel
theorem dX1_order_81 : decode cX1_order 81 = .ok (.iconst 5, 1) := by decide +kernel
theorem dX1_order_82 : decode cX1_order 82 = .ok (.newarray .int, 2) := by decide +kernel
theorem dX1_order_84 : decode cX1_order 84 = .ok (.dup, 1) := by decide +kernel
theorem dX1_order_85 : decode cX1_order 85 = .ok (.iconst 0, 1) := by decide +kernel
theorem dX1_order_86 : decode cX1_order 86 = .ok (.iload_n 1, 1) := by decide +kernel
theorem dX1_order_87 : decode cX1_order 87 = .ok (.iastore, 1) := by decide +kernel
theorem dX1_order_88 : decode cX1_order 88 = .ok (.dup, 1) := by decide +kernel
theorem dX1_order_89 : decode cX1_order 89 = .ok (.iconst 1, 1) := by decide +kernel
theorem dX1_order_90 : decode cX1_order 90 = .ok (.iload_n 2, 1) := by decide +kernel
theorem dX1_order_91 : decode cX1_order 91 = .ok (.iastore, 1) := by decide +kernel
theorem dX1_order_92 : decode cX1_order 92 = .ok (.dup, 1) := by decide +kernel
theorem dX1_order_93 : decode cX1_order 93 = .ok (.iconst 2, 1) := by decide +kernel
theorem dX1_order_94 : decode cX1_order 94 = .ok (.iload_n 3, 1) := by decide +kernel
theorem dX1_order_95 : decode cX1_order 95 = .ok (.iastore, 1) := by decide +kernel
theorem dX1_order_96 : decode cX1_order 96 = .ok (.dup, 1) := by decide +kernel
theorem dX1_order_97 : decode cX1_order 97 = .ok (.iconst 3, 1) := by decide +kernel
theorem dX1_order_98 : decode cX1_order 98 = .ok (.iload 4, 2) := by decide +kernel
theorem dX1_order_100 : decode cX1_order 100 = .ok (.iastore, 1) := by decide +kernel
theorem dX1_order_101 : decode cX1_order 101 = .ok (.dup, 1) := by decide +kernel
theorem dX1_order_102 : decode cX1_order 102 = .ok (.iconst 4, 1) := by decide +kernel
theorem dX1_order_103 : decode cX1_order 103 = .ok (.iload 5, 2) := by decide +kernel
theorem dX1_order_105 : decode cX1_order 105 = .ok (.iastore, 1) := by decide +kernel
theorem dX1_order_106 : decode cX1_order 106 = .ok (.astore 6, 2) := by decide +kernel
theorem dX1_order_108 : decode cX1_order 108 = .ok (.aload 6, 2) := by decide +kernel
theorem dX1_order_110 : decode cX1_order 110 = .ok (.iconst 0, 1) := by decide +kernel
theorem dX1_order_111 : decode cX1_order 111 = .ok (.aload_n 0, 1) := by decide +kernel
theorem dX1_order_112 : decode cX1_order 112 = .ok (.getfield 28, 3) := by decide +kernel
theorem dX1_order_115 : decode cX1_order 115 = .ok (.iconst 5, 1) := by decide +kernel
theorem dX1_order_116 : decode cX1_order 116 = .ok (.aload_n 0, 1) := by decide +kernel
theorem dX1_order_117 : decode cX1_order 117 = .ok (.getfield 70, 3) := by decide +kernel
theorem dX1_order_120 : decode cX1_order 120 = .ok (.imul, 1) := by decide +kernel
theorem dX1_order_121 : decode cX1_order 121 = .ok (.iconst 5, 1) := by decide +kernel
theorem dX1_order_122 : decode cX1_order 122 = .ok (.invokestatic 73, 3) := by decide +kernel
theorem dX1_order_125 : decode cX1_order 125 = .ok (.aload_n 0, 1) := by decide +kernel
theorem dX1_order_126 : decode cX1_order 126 = .ok (.dup, 1) := by decide +kernel
theorem dX1_order_127 : decode cX1_order 127 = .ok (.getfield 70, 3) := by decide +kernel
theorem dX1_order_130 : decode cX1_order 130 = .ok (.iconst 1, 1) := by decide +kernel
theorem dX1_order_131 : decode cX1_order 131 = .ok (.iadd, 1) := by decide +kernel
theorem dX1_order_132 : decode cX1_order 132 = .ok (.putfield 70, 3) := by decide +kernel
theorem dX1_order_135 : decode cX1_order 135 = .ok (.aload_n 0, 1) := by decide +kernel
theorem dX1_order_136 : decode cX1_order 136 = .ok (.getfield 70, 3) := by decide +kernel
theorem dX1_order_139 : decode cX1_order 139 = .ok (.ireturn, 1) := by decide +kernel
theorem dX1_cancel_0 : decode cX1_cancel 0 = .ok (.aload_n 0, 1) := by decide +kernel
theorem dX1_cancel_1 : decode cX1_cancel 1 = .ok (.iconst 0, 1) := by decide +kernel
theorem dX1_cancel_2 : decode cX1_cancel 2 = .ok (.putfield 31, 3) := by decide +kernel
theorem dX1_cancel_5 : decode cX1_cancel 5 = .ok (.iload_n 1, 1) := by decide +kernel
theorem dX1_cancel_6 : decode cX1_cancel 6 = .ok (.iconst 0, 1) := by decide +kernel
theorem dX1_cancel_7 : decode cX1_cancel 7 = .ok (.aload_n 0, 1) := by decide +kernel
theorem dX1_cancel_8 : decode cX1_cancel 8 = .ok (.getfield 70, 3) := by decide +kernel
theorem dX1_cancel_11 : decode cX1_cancel 11 = .ok (.iconst 1, 1) := by decide +kernel
theorem dX1_cancel_12 : decode cX1_cancel 12 = .ok (.isub, 1) := by decide +kernel
theorem dX1_cancel_13 : decode cX1_cancel 13 = .ok (.invokestatic 35, 3) := by decide +kernel
theorem dX1_cancel_16 : decode cX1_cancel 16 = .ok (.ifCond .ne 9, 3) := by decide +kernel
theorem dX1_cancel_19 : decode cX1_cancel 19 = .ok (.aload_n 0, 1) := by decide +kernel
theorem dX1_cancel_20 : decode cX1_cancel 20 = .ok (.iconst 1, 1) := by decide +kernel
theorem dX1_cancel_21 : decode cX1_cancel 21 = .ok (.invokevirtual 105, 3) := by decide +kernel
theorem dX1_cancel_24 : decode cX1_cancel 24 = .ok (.ireturn, 1) := by decide +kernel
theorem dX1_cancel_25 : decode cX1_cancel 25 = .ok (.aload_n 0, 1) := by decide +kernel
theorem dX1_cancel_26 : decode cX1_cancel 26 = .ok (.iload_n 1, 1) := by decide +kernel
theorem dX1_cancel_27 : decode cX1_cancel 27 = .ok (.iconst 0, 1) := by decide +kernel
theorem dX1_cancel_28 : decode cX1_cancel 28 = .ok (.invokevirtual 79, 3) := by decide +kernel
theorem dX1_cancel_31 : decode cX1_cancel 31 = .ok (.istore_n 2, 1) := by decide +kernel
theorem dX1_cancel_32 : decode cX1_cancel 32 = .ok (.aload_n 0, 1) := by decide +kernel
theorem dX1_cancel_33 : decode cX1_cancel 33 = .ok (.iload_n 1, 1) := by decide +kernel
theorem dX1_cancel_34 : decode cX1_cancel 34 = .ok (.invokevirtual 97, 3) := by decide +kernel
theorem dX1_cancel_37 : decode cX1_cancel 37 = .ok (.iload_n 2, 1) := by decide +kernel
theorem dX1_cancel_38 : decode cX1_cancel 38 = .ok (.ireturn, 1) := by decide +kernel
theorem dX1_has_0 : decode cX1_has 0 = .ok (.aload_n 0, 1) := by decide +kernel
theorem dX1_has_1 : decode cX1_has 1 = .ok (.iconst 0, 1) := by decide +kernel
theorem dX1_has_2 : decode cX1_has 2 = .ok (.putfield 31, 3) := by decide +kernel
theorem dX1_has_5 : decode cX1_has 5 = .ok (.aload_n 0, 1) := by decide +kernel
theorem dX1_has_6 : decode cX1_has 6 = .ok (.iload_n 1, 1) := by decide +kernel
theorem dX1_has_7 : decode cX1_has 7 = .ok (.invokevirtual 117, 3) := by decide +kernel
theorem dX1_has_10 : decode cX1_has 10 = .ok (.ifCond .eq 19, 3) := by decide +kernel
theorem dX1_has_13 : decode cX1_has 13 = .ok (.iload_n 2, 1) := by decide +kernel
theorem dX1_has_14 : decode cX1_has 14 = .ok (.invokestatic 101, 3) := by decide +kernel
theorem dX1_has_17 : decode cX1_has 17 = .ok (.ifCond .eq 12, 3) := by decide +kernel
theorem dX1_has_20 : decode cX1_has 20 = .ok (.aload_n 0, 1) := by decide +kernel
theorem dX1_has_21 : decode cX1_has 21 = .ok (.iload_n 1, 1) := by decide +kernel
theorem dX1_has_22 : decode cX1_has 22 = .ok (.iload_n 2, 1) := by decide +kernel
theorem dX1_has_23 : decode cX1_has 23 = .ok (.invokevirtual 51, 3) := by decide +kernel
theorem dX1_has_26 : decode cX1_has 26 = .ok (.goto 8, 3) := by decide +kernel
theorem dX1_has_29 : decode cX1_has 29 = .ok (.aload_n 0, 1) := by decide +kernel
theorem dX1_has_30 : decode cX1_has 30 = .ok (.iconst 1, 1) := by decide +kernel
theorem dX1_has_31 : decode cX1_has 31 = .ok (.invokevirtual 105, 3) := by decide +kernel
theorem dX1_has_34 : decode cX1_has 34 = .ok (.ireturn, 1) := by decide +kernel
theorem dX1_all_0 : decode cX1_all 0 = .ok (.iconst 0, 1) := by decide +kernel
theorem dX1_all_1 : decode cX1_all 1 = .ok (.istore_n 2, 1) := by decide +kernel
theorem dX1_all_2 : decode cX1_all 2 = .ok (.iconst 0, 1) := by decide +kernel
theorem dX1_all_3 : decode cX1_all 3 = .ok (.istore_n 3, 1) := by decide +kernel
theorem dX1_all_4 : decode cX1_all 4 = .ok (.iload_n 3, 1) := by decide +kernel
theorem dX1_all_5 : decode cX1_all 5 = .ok (.aload_n 0, 1) := by decide +kernel
theorem dX1_all_6 : decode cX1_all 6 = .ok (.getfield 39, 3) := by decide +kernel
theorem dX1_all_9 : decode cX1_all 9 = .ok (.if_icmp .ge 18, 3) := by decide +kernel
theorem dX1_all_12 : decode cX1_all 12 = .ok (.iload_n 2, 1) := by decide +kernel
theorem dX1_all_13 : decode cX1_all 13 = .ok (.aload_n 0, 1) := by decide +kernel
theorem dX1_all_14 : decode cX1_all 14 = .ok (.iload_n 3, 1) := by decide +kernel
theorem dX1_all_15 : decode cX1_all 15 = .ok (.iload_n 1, 1) := by decide +kernel
theorem dX1_all_16 : decode cX1_all 16 = .ok (.invokevirtual 51, 3) := by decide +kernel
theorem dX1_all_19 : decode cX1_all 19 = .ok (.iadd, 1) := by decide +kernel
theorem dX1_all_20 : decode cX1_all 20 = .ok (.istore_n 2, 1) := by decide +kernel
theorem dX1_all_21 : decode cX1_all 21 = .ok (.iinc 3 1, 3) := by decide +kernel
theorem dX1_all_24 : decode cX1_all 24 = .ok (.goto (-20), 3) := by decide +kernel
theorem dX1_all_27 : decode cX1_all 27 = .ok (.iload_n 2, 1) := by decide +kernel
theorem dX1_all_28 : decode cX1_all 28 = .ok (.ireturn, 1) := by decide +kernel
theorem dX1_moneyTold_0 : decode cX1_moneyTold 0 = .ok (.iload_n 2, 1) := by decide +kernel
theorem dX1_moneyTold_1 : decode cX1_moneyTold 1 = .ok (.ifCond .ne 12, 3) := by decide +kernel
theorem dX1_moneyTold_4 : decode cX1_moneyTold 4 = .ok (.aload_n 0, 1) := by decide +kernel
theorem dX1_moneyTold_5 : decode cX1_moneyTold 5 = .ok (.getfield 13, 3) := by decide +kernel
theorem dX1_moneyTold_8 : decode cX1_moneyTold 8 = .ok (.iload_n 1, 1) := by decide +kernel
theorem dX1_moneyTold_9 : decode cX1_moneyTold 9 = .ok (.iaload, 1) := by decide +kernel
theorem dX1_moneyTold_10 : decode cX1_moneyTold 10 = .ok (.goto 50, 3) := by decide +kernel
theorem dX1_moneyTold_13 : decode cX1_moneyTold 13 = .ok (.iload_n 2, 1) := by decide +kernel
theorem dX1_moneyTold_14 : decode cX1_moneyTold 14 = .ok (.iconst 1, 1) := by decide +kernel
theorem dX1_moneyTold_15 : decode cX1_moneyTold 15 = .ok (.if_icmp .ne 12, 3) := by decide +kernel
theorem dX1_moneyTold_18 : decode cX1_moneyTold 18 = .ok (.aload_n 0, 1) := by decide +kernel
theorem dX1_moneyTold_19 : decode cX1_moneyTold 19 = .ok (.getfield 16, 3) := by decide +kernel
theorem dX1_moneyTold_22 : decode cX1_moneyTold 22 = .ok (.iload_n 1, 1) := by decide +kernel
theorem dX1_moneyTold_23 : decode cX1_moneyTold 23 = .ok (.iaload, 1) := by decide +kernel
theorem dX1_moneyTold_24 : decode cX1_moneyTold 24 = .ok (.goto 36, 3) := by decide +kernel
theorem dX1_moneyTold_27 : decode cX1_moneyTold 27 = .ok (.iload_n 2, 1) := by decide +kernel
theorem dX1_moneyTold_28 : decode cX1_moneyTold 28 = .ok (.iconst 2, 1) := by decide +kernel
theorem dX1_moneyTold_29 : decode cX1_moneyTold 29 = .ok (.if_icmp .ne 12, 3) := by decide +kernel
theorem dX1_moneyTold_32 : decode cX1_moneyTold 32 = .ok (.aload_n 0, 1) := by decide +kernel
theorem dX1_moneyTold_33 : decode cX1_moneyTold 33 = .ok (.getfield 19, 3) := by decide +kernel
theorem dX1_moneyTold_36 : decode cX1_moneyTold 36 = .ok (.iload_n 1, 1) := by decide +kernel
theorem dX1_moneyTold_37 : decode cX1_moneyTold 37 = .ok (.iaload, 1) := by decide +kernel
theorem dX1_moneyTold_38 : decode cX1_moneyTold 38 = .ok (.goto 22, 3) := by decide +kernel
theorem dX1_moneyTold_41 : decode cX1_moneyTold 41 = .ok (.iload_n 2, 1) := by decide +kernel
theorem dX1_moneyTold_42 : decode cX1_moneyTold 42 = .ok (.iconst 3, 1) := by decide +kernel
theorem dX1_moneyTold_43 : decode cX1_moneyTold 43 = .ok (.if_icmp .ne 12, 3) := by decide +kernel
theorem dX1_moneyTold_46 : decode cX1_moneyTold 46 = .ok (.aload_n 0, 1) := by decide +kernel
theorem dX1_moneyTold_47 : decode cX1_moneyTold 47 = .ok (.getfield 22, 3) := by decide +kernel
theorem dX1_moneyTold_50 : decode cX1_moneyTold 50 = .ok (.iload_n 1, 1) := by decide +kernel
theorem dX1_moneyTold_51 : decode cX1_moneyTold 51 = .ok (.iaload, 1) := by decide +kernel
theorem dX1_moneyTold_52 : decode cX1_moneyTold 52 = .ok (.goto 8, 3) := by decide +kernel
theorem dX1_moneyTold_55 : decode cX1_moneyTold 55 = .ok (.aload_n 0, 1) := by decide +kernel
theorem dX1_moneyTold_56 : decode cX1_moneyTold 56 = .ok (.iload_n 1, 1) := by decide +kernel
theorem dX1_moneyTold_57 : decode cX1_moneyTold 57 = .ok (.invokevirtual 120, 3) := by decide +kernel
theorem dX1_moneyTold_60 : decode cX1_moneyTold 60 = .ok (.ireturn, 1) := by decide +kernel
theorem dX1_told_0 : decode cX1_told 0 = .ok (.aload_n 0, 1) := by decide +kernel
theorem dX1_told_1 : decode cX1_told 1 = .ok (.iconst 0, 1) := by decide +kernel
theorem dX1_told_2 : decode cX1_told 2 = .ok (.putfield 31, 3) := by decide +kernel
theorem dX1_told_5 : decode cX1_told 5 = .ok (.iload_n 1, 1) := by decide +kernel
theorem dX1_told_6 : decode cX1_told 6 = .ok (.invokestatic 101, 3) := by decide +kernel
theorem dX1_told_9 : decode cX1_told 9 = .ok (.ifCond .eq 21, 3) := by decide +kernel
theorem dX1_told_12 : decode cX1_told 12 = .ok (.iload_n 2, 1) := by decide +kernel
theorem dX1_told_13 : decode cX1_told 13 = .ok (.iconst 0, 1) := by decide +kernel
theorem dX1_told_14 : decode cX1_told 14 = .ok (.iconst 4, 1) := by decide +kernel
theorem dX1_told_15 : decode cX1_told 15 = .ok (.invokestatic 35, 3) := by decide +kernel
theorem dX1_told_18 : decode cX1_told 18 = .ok (.ifCond .eq 12, 3) := by decide +kernel
theorem dX1_told_21 : decode cX1_told 21 = .ok (.aload_n 0, 1) := by decide +kernel
theorem dX1_told_22 : decode cX1_told 22 = .ok (.iload_n 1, 1) := by decide +kernel
theorem dX1_told_23 : decode cX1_told 23 = .ok (.iload_n 2, 1) := by decide +kernel
theorem dX1_told_24 : decode cX1_told 24 = .ok (.invokevirtual 123, 3) := by decide +kernel
theorem dX1_told_27 : decode cX1_told 27 = .ok (.goto 8, 3) := by decide +kernel
theorem dX1_told_30 : decode cX1_told 30 = .ok (.aload_n 0, 1) := by decide +kernel
theorem dX1_told_31 : decode cX1_told 31 = .ok (.iconst 1, 1) := by decide +kernel
theorem dX1_told_32 : decode cX1_told 32 = .ok (.invokevirtual 105, 3) := by decide +kernel
theorem dX1_told_35 : decode cX1_told 35 = .ok (.ireturn, 1) := by decide +kernel
theorem dX1_about_0 : decode cX1_about 0 = .ok (.aload_n 0, 1) := by decide +kernel
theorem dX1_about_1 : decode cX1_about 1 = .ok (.iconst 0, 1) := by decide +kernel
theorem dX1_about_2 : decode cX1_about 2 = .ok (.putfield 31, 3) := by decide +kernel
theorem dX1_about_5 : decode cX1_about 5 = .ok (.iload_n 1, 1) := by decide +kernel
theorem dX1_about_6 : decode cX1_about 6 = .ok (.iconst 0, 1) := by decide +kernel
theorem dX1_about_7 : decode cX1_about 7 = .ok (.aload_n 0, 1) := by decide +kernel
theorem dX1_about_8 : decode cX1_about 8 = .ok (.getfield 70, 3) := by decide +kernel
theorem dX1_about_11 : decode cX1_about 11 = .ok (.iconst 1, 1) := by decide +kernel
theorem dX1_about_12 : decode cX1_about 12 = .ok (.isub, 1) := by decide +kernel
theorem dX1_about_13 : decode cX1_about 13 = .ok (.invokestatic 35, 3) := by decide +kernel
theorem dX1_about_16 : decode cX1_about 16 = .ok (.ifCond .eq 21, 3) := by decide +kernel
theorem dX1_about_19 : decode cX1_about 19 = .ok (.iload_n 2, 1) := by decide +kernel
theorem dX1_about_20 : decode cX1_about 20 = .ok (.iconst 0, 1) := by decide +kernel
theorem dX1_about_21 : decode cX1_about 21 = .ok (.iconst 4, 1) := by decide +kernel
theorem dX1_about_22 : decode cX1_about 22 = .ok (.invokestatic 35, 3) := by decide +kernel
theorem dX1_about_25 : decode cX1_about 25 = .ok (.ifCond .eq 12, 3) := by decide +kernel
theorem dX1_about_28 : decode cX1_about 28 = .ok (.aload_n 0, 1) := by decide +kernel
theorem dX1_about_29 : decode cX1_about 29 = .ok (.iload_n 1, 1) := by decide +kernel
theorem dX1_about_30 : decode cX1_about 30 = .ok (.iload_n 2, 1) := by decide +kernel
theorem dX1_about_31 : decode cX1_about 31 = .ok (.invokevirtual 79, 3) := by decide +kernel
theorem dX1_about_34 : decode cX1_about 34 = .ok (.goto 8, 3) := by decide +kernel
theorem dX1_about_37 : decode cX1_about 37 = .ok (.aload_n 0, 1) := by decide +kernel
theorem dX1_about_38 : decode cX1_about 38 = .ok (.iconst 1, 1) := by decide +kernel
theorem dX1_about_39 : decode cX1_about 39 = .ok (.invokevirtual 105, 3) := by decide +kernel
theorem dX1_about_42 : decode cX1_about 42 = .ok (.ireturn, 1) := by decide +kernel
theorem dX1_counted_0 : decode cX1_counted 0 = .ok (.iload_n 1, 1) := by decide +kernel
theorem dX1_counted_1 : decode cX1_counted 1 = .ok (.tableswitch 112 0 5 #[39, 44, 49, 54, 59, 107], 39) := by decide +kernel
theorem dX1_counted_40 : decode cX1_counted 40 = .ok (.aload_n 0, 1) := by decide +kernel
theorem dX1_counted_41 : decode cX1_counted 41 = .ok (.getfield 114, 3) := by decide +kernel
theorem dX1_counted_44 : decode cX1_counted 44 = .ok (.ireturn, 1) := by decide +kernel
theorem dX1_counted_45 : decode cX1_counted 45 = .ok (.aload_n 0, 1) := by decide +kernel
theorem dX1_counted_46 : decode cX1_counted 46 = .ok (.getfield 42, 3) := by decide +kernel
theorem dX1_counted_49 : decode cX1_counted 49 = .ok (.ireturn, 1) := by decide +kernel
theorem dX1_counted_50 : decode cX1_counted 50 = .ok (.aload_n 0, 1) := by decide +kernel
theorem dX1_counted_51 : decode cX1_counted 51 = .ok (.getfield 39, 3) := by decide +kernel
theorem dX1_counted_54 : decode cX1_counted 54 = .ok (.ireturn, 1) := by decide +kernel
theorem dX1_counted_55 : decode cX1_counted 55 = .ok (.aload_n 0, 1) := by decide +kernel
theorem dX1_counted_56 : decode cX1_counted 56 = .ok (.getfield 70, 3) := by decide +kernel
theorem dX1_counted_59 : decode cX1_counted 59 = .ok (.ireturn, 1) := by decide +kernel
theorem dX1_counted_60 : decode cX1_counted 60 = .ok (.iconst 0, 1) := by decide +kernel
theorem dX1_counted_61 : decode cX1_counted 61 = .ok (.istore_n 2, 1) := by decide +kernel
theorem dX1_counted_62 : decode cX1_counted 62 = .ok (.aload_n 0, 1) := by decide +kernel
theorem dX1_counted_63 : decode cX1_counted 63 = .ok (.getfield 9, 3) := by decide +kernel
theorem dX1_counted_66 : decode cX1_counted 66 = .ok (.astore_n 3, 1) := by decide +kernel
theorem dX1_counted_67 : decode cX1_counted 67 = .ok (.aload_n 3, 1) := by decide +kernel
theorem dX1_counted_68 : decode cX1_counted 68 = .ok (.arraylength, 1) := by decide +kernel
theorem dX1_counted_69 : decode cX1_counted 69 = .ok (.istore 4, 2) := by decide +kernel
theorem dX1_counted_71 : decode cX1_counted 71 = .ok (.iconst 0, 1) := by decide +kernel
theorem dX1_counted_72 : decode cX1_counted 72 = .ok (.istore 5, 2) := by decide +kernel
theorem dX1_counted_74 : decode cX1_counted 74 = .ok (.iload 5, 2) := by decide +kernel
theorem dX1_counted_76 : decode cX1_counted 76 = .ok (.iload 4, 2) := by decide +kernel
theorem dX1_counted_78 : decode cX1_counted 78 = .ok (.if_icmp .ge 28, 3) := by decide +kernel
theorem dX1_counted_81 : decode cX1_counted 81 = .ok (.aload_n 3, 1) := by decide +kernel
theorem dX1_counted_82 : decode cX1_counted 82 = .ok (.iload 5, 2) := by decide +kernel
theorem dX1_counted_84 : decode cX1_counted 84 = .ok (.iaload, 1) := by decide +kernel
theorem dX1_counted_85 : decode cX1_counted 85 = .ok (.istore 6, 2) := by decide +kernel
theorem dX1_counted_87 : decode cX1_counted 87 = .ok (.iload_n 2, 1) := by decide +kernel
theorem dX1_counted_88 : decode cX1_counted 88 = .ok (.iload 6, 2) := by decide +kernel
theorem dX1_counted_90 : decode cX1_counted 90 = .ok (.ifCond .ne 7, 3) := by decide +kernel
theorem dX1_counted_93 : decode cX1_counted 93 = .ok (.iconst 0, 1) := by decide +kernel
theorem dX1_counted_94 : decode cX1_counted 94 = .ok (.goto 4, 3) := by decide +kernel
theorem dX1_counted_97 : decode cX1_counted 97 = .ok (.iconst 1, 1) := by decide +kernel
theorem dX1_counted_98 : decode cX1_counted 98 = .ok (.iadd, 1) := by decide +kernel
theorem dX1_counted_99 : decode cX1_counted 99 = .ok (.istore_n 2, 1) := by decide +kernel
theorem dX1_counted_100 : decode cX1_counted 100 = .ok (.iinc 5 1, 3) := by decide +kernel
theorem dX1_counted_103 : decode cX1_counted 103 = .ok (.goto (-29), 3) := by decide +kernel
theorem dX1_counted_106 : decode cX1_counted 106 = .ok (.iload_n 2, 1) := by decide +kernel
theorem dX1_counted_107 : decode cX1_counted 107 = .ok (.ireturn, 1) := by decide +kernel
theorem dX1_counted_108 : decode cX1_counted 108 = .ok (.aload_n 0, 1) := by decide +kernel
theorem dX1_counted_109 : decode cX1_counted 109 = .ok (.getfield 67, 3) := by decide +kernel
theorem dX1_counted_112 : decode cX1_counted 112 = .ok (.ireturn, 1) := by decide +kernel
theorem dX1_counted_113 : decode cX1_counted 113 = .ok (.aload_n 0, 1) := by decide +kernel
theorem dX1_counted_114 : decode cX1_counted 114 = .ok (.getfield 86, 3) := by decide +kernel
theorem dX1_counted_117 : decode cX1_counted 117 = .ok (.ireturn, 1) := by decide +kernel
theorem dX1_count_0 : decode cX1_count 0 = .ok (.aload_n 0, 1) := by decide +kernel
theorem dX1_count_1 : decode cX1_count 1 = .ok (.iconst 0, 1) := by decide +kernel
theorem dX1_count_2 : decode cX1_count 2 = .ok (.putfield 31, 3) := by decide +kernel
theorem dX1_count_5 : decode cX1_count 5 = .ok (.iload_n 1, 1) := by decide +kernel
theorem dX1_count_6 : decode cX1_count 6 = .ok (.iconst 0, 1) := by decide +kernel
theorem dX1_count_7 : decode cX1_count 7 = .ok (.bipush 6, 2) := by decide +kernel
theorem dX1_count_9 : decode cX1_count 9 = .ok (.invokestatic 35, 3) := by decide +kernel
theorem dX1_count_12 : decode cX1_count 12 = .ok (.ifCond .eq 11, 3) := by decide +kernel
theorem dX1_count_15 : decode cX1_count 15 = .ok (.aload_n 0, 1) := by decide +kernel
theorem dX1_count_16 : decode cX1_count 16 = .ok (.iload_n 1, 1) := by decide +kernel
theorem dX1_count_17 : decode cX1_count 17 = .ok (.invokevirtual 126, 3) := by decide +kernel
theorem dX1_count_20 : decode cX1_count 20 = .ok (.goto 8, 3) := by decide +kernel
theorem dX1_count_23 : decode cX1_count 23 = .ok (.aload_n 0, 1) := by decide +kernel
theorem dX1_count_24 : decode cX1_count 24 = .ok (.iconst 1, 1) := by decide +kernel
theorem dX1_count_25 : decode cX1_count 25 = .ok (.invokevirtual 105, 3) := by decide +kernel
theorem dX1_count_28 : decode cX1_count 28 = .ok (.ireturn, 1) := by decide +kernel
theorem dX1_would_0 : decode cX1_would 0 = .ok (.aload_n 0, 1) := by decide +kernel
theorem dX1_would_1 : decode cX1_would 1 = .ok (.iconst 0, 1) := by decide +kernel
theorem dX1_would_2 : decode cX1_would 2 = .ok (.putfield 31, 3) := by decide +kernel
theorem dX1_would_5 : decode cX1_would 5 = .ok (.iload_n 1, 1) := by decide +kernel
theorem dX1_would_6 : decode cX1_would 6 = .ok (.invokestatic 101, 3) := by decide +kernel
theorem dX1_would_9 : decode cX1_would 9 = .ok (.ifCond .eq 10, 3) := by decide +kernel
theorem dX1_would_12 : decode cX1_would 12 = .ok (.iload_n 2, 1) := by decide +kernel
theorem dX1_would_13 : decode cX1_would 13 = .ok (.invokestatic 101, 3) := by decide +kernel
theorem dX1_would_16 : decode cX1_would 16 = .ok (.ifCond .ne 9, 3) := by decide +kernel
theorem dX1_would_19 : decode cX1_would 19 = .ok (.aload_n 0, 1) := by decide +kernel
theorem dX1_would_20 : decode cX1_would 20 = .ok (.iconst 1, 1) := by decide +kernel
theorem dX1_would_21 : decode cX1_would 21 = .ok (.invokevirtual 105, 3) := by decide +kernel
theorem dX1_would_24 : decode cX1_would 24 = .ok (.ireturn, 1) := by decide +kernel
theorem dX1_would_25 : decode cX1_would 25 = .ok (.iload_n 3, 1) := by decide +kernel
theorem dX1_would_26 : decode cX1_would 26 = .ok (.iconst 0, 1) := by decide +kernel
theorem dX1_would_27 : decode cX1_would 27 = .ok (.ldc 113, 2) := by decide +kernel
theorem dX1_would_29 : decode cX1_would 29 = .ok (.invokestatic 35, 3) := by decide +kernel
theorem dX1_would_32 : decode cX1_would 32 = .ok (.ifCond .ne 9, 3) := by decide +kernel
theorem dX1_would_35 : decode cX1_would 35 = .ok (.aload_n 0, 1) := by decide +kernel
theorem dX1_would_36 : decode cX1_would 36 = .ok (.iconst 2, 1) := by decide +kernel
theorem dX1_would_37 : decode cX1_would 37 = .ok (.invokevirtual 105, 3) := by decide +kernel
theorem dX1_would_40 : decode cX1_would 40 = .ok (.ireturn, 1) := by decide +kernel
theorem dX1_would_41 : decode cX1_would 41 = .ok (.iload_n 1, 1) := by decide +kernel
theorem dX1_would_42 : decode cX1_would 42 = .ok (.iload_n 2, 1) := by decide +kernel
theorem dX1_would_43 : decode cX1_would 43 = .ok (.if_icmp .ne 7, 3) := by decide +kernel
theorem dX1_would_46 : decode cX1_would 46 = .ok (.iload_n 3, 1) := by decide +kernel
theorem dX1_would_47 : decode cX1_would 47 = .ok (.goto 16, 3) := by decide +kernel
theorem dX1_would_50 : decode cX1_would 50 = .ok (.aload_n 0, 1) := by decide +kernel
theorem dX1_would_51 : decode cX1_would 51 = .ok (.iload_n 3, 1) := by decide +kernel
theorem dX1_would_52 : decode cX1_would 52 = .ok (.i2l, 1) := by decide +kernel
theorem dX1_would_53 : decode cX1_would 53 = .ok (.aload_n 0, 1) := by decide +kernel
theorem dX1_would_54 : decode cX1_would 54 = .ok (.iload_n 1, 1) := by decide +kernel
theorem dX1_would_55 : decode cX1_would 55 = .ok (.iload_n 2, 1) := by decide +kernel
theorem dX1_would_56 : decode cX1_would 56 = .ok (.invokevirtual 58, 3) := by decide +kernel
theorem dX1_would_59 : decode cX1_would 59 = .ok (.invokevirtual 55, 3) := by decide +kernel
theorem dX1_would_62 : decode cX1_would 62 = .ok (.l2i, 1) := by decide +kernel
theorem dX1_would_63 : decode cX1_would 63 = .ok (.ireturn, 1) := by decide +kernel
theorem dX1_most_0 : decode cX1_most 0 = .ok (.lconst 0, 1) := by decide +kernel
theorem dX1_most_1 : decode cX1_most 1 = .ok (.lstore 7, 2) := by decide +kernel
theorem dX1_most_3 : decode cX1_most 3 = .ok (.iconst 0, 1) := by decide +kernel
theorem dX1_most_4 : decode cX1_most 4 = .ok (.istore 9, 2) := by decide +kernel
theorem dX1_most_6 : decode cX1_most 6 = .ok (.iload 9, 2) := by decide +kernel
theorem dX1_most_8 : decode cX1_most 8 = .ok (.iconst 5, 1) := by decide +kernel
theorem dX1_most_9 : decode cX1_most 9 = .ok (.if_icmp .ge 113, 3) := by decide +kernel
theorem dX1_most_12 : decode cX1_most 12 = .ok (.iload 6, 2) := by decide +kernel
theorem dX1_most_14 : decode cX1_most 14 = .ok (.ifCond .le 108, 3) := by decide +kernel
theorem dX1_most_17 : decode cX1_most 17 = .ok (.iload 9, 2) := by decide +kernel
theorem dX1_most_19 : decode cX1_most 19 = .ok (.iload_n 2, 1) := by decide +kernel
theorem dX1_most_20 : decode cX1_most 20 = .ok (.if_icmp .ne 7, 3) := by decide +kernel
theorem dX1_most_23 : decode cX1_most 23 = .ok (.iconst 1, 1) := by decide +kernel
theorem dX1_most_24 : decode cX1_most 24 = .ok (.goto 4, 3) := by decide +kernel
theorem dX1_most_27 : decode cX1_most 27 = .ok (.iconst 0, 1) := by decide +kernel
theorem dX1_most_28 : decode cX1_most 28 = .ok (.istore 10, 2) := by decide +kernel
theorem dX1_most_30 : decode cX1_most 30 = .ok (.aload_n 0, 1) := by decide +kernel
theorem dX1_most_31 : decode cX1_most 31 = .ok (.iload_n 1, 1) := by decide +kernel
theorem dX1_most_32 : decode cX1_most 32 = .ok (.iload 9, 2) := by decide +kernel
theorem dX1_most_34 : decode cX1_most 34 = .ok (.invokevirtual 58, 3) := by decide +kernel
theorem dX1_most_37 : decode cX1_most 37 = .ok (.ifCond .eq 79, 3) := by decide +kernel
theorem dX1_most_40 : decode cX1_most 40 = .ok (.iload 10, 2) := by decide +kernel
theorem dX1_most_42 : decode cX1_most 42 = .ok (.ifCond .ne 17, 3) := by decide +kernel
theorem dX1_most_45 : decode cX1_most 45 = .ok (.iload 5, 2) := by decide +kernel
theorem dX1_most_47 : decode cX1_most 47 = .ok (.iload 9, 2) := by decide +kernel
theorem dX1_most_49 : decode cX1_most 49 = .ok (.ishr, 1) := by decide +kernel
theorem dX1_most_50 : decode cX1_most 50 = .ok (.iconst 1, 1) := by decide +kernel
theorem dX1_most_51 : decode cX1_most 51 = .ok (.iand, 1) := by decide +kernel
theorem dX1_most_52 : decode cX1_most 52 = .ok (.iconst 1, 1) := by decide +kernel
theorem dX1_most_53 : decode cX1_most 53 = .ok (.if_icmp .ne 6, 3) := by decide +kernel
theorem dX1_most_56 : decode cX1_most 56 = .ok (.goto 60, 3) := by decide +kernel
theorem dX1_most_59 : decode cX1_most 59 = .ok (.ldc2_w 131, 3) := by decide +kernel
theorem dX1_most_62 : decode cX1_most 62 = .ok (.aload_n 0, 1) := by decide +kernel
theorem dX1_most_63 : decode cX1_most 63 = .ok (.lload_n 3, 1) := by decide +kernel
theorem dX1_most_64 : decode cX1_most 64 = .ok (.aload_n 0, 1) := by decide +kernel
theorem dX1_most_65 : decode cX1_most 65 = .ok (.iload_n 1, 1) := by decide +kernel
theorem dX1_most_66 : decode cX1_most 66 = .ok (.iload 9, 2) := by decide +kernel
theorem dX1_most_68 : decode cX1_most 68 = .ok (.invokevirtual 58, 3) := by decide +kernel
theorem dX1_most_71 : decode cX1_most 71 = .ok (.invokevirtual 55, 3) := by decide +kernel
theorem dX1_most_74 : decode cX1_most 74 = .ok (.invokestatic 133, 3) := by decide +kernel
theorem dX1_most_77 : decode cX1_most 77 = .ok (.lstore 11, 2) := by decide +kernel
theorem dX1_most_79 : decode cX1_most 79 = .ok (.lload 7, 2) := by decide +kernel
theorem dX1_most_81 : decode cX1_most 81 = .ok (.iload 10, 2) := by decide +kernel
theorem dX1_most_83 : decode cX1_most 83 = .ok (.ifCond .eq 8, 3) := by decide +kernel
theorem dX1_most_86 : decode cX1_most 86 = .ok (.lload 11, 2) := by decide +kernel
theorem dX1_most_88 : decode cX1_most 88 = .ok (.goto 23, 3) := by decide +kernel
theorem dX1_most_91 : decode cX1_most 91 = .ok (.aload_n 0, 1) := by decide +kernel
theorem dX1_most_92 : decode cX1_most 92 = .ok (.iload 9, 2) := by decide +kernel
theorem dX1_most_94 : decode cX1_most 94 = .ok (.iload_n 2, 1) := by decide +kernel
theorem dX1_most_95 : decode cX1_most 95 = .ok (.lload 11, 2) := by decide +kernel
theorem dX1_most_97 : decode cX1_most 97 = .ok (.iload 5, 2) := by decide +kernel
theorem dX1_most_99 : decode cX1_most 99 = .ok (.iconst 1, 1) := by decide +kernel
theorem dX1_most_100 : decode cX1_most 100 = .ok (.iload 9, 2) := by decide +kernel
theorem dX1_most_102 : decode cX1_most 102 = .ok (.ishl, 1) := by decide +kernel
theorem dX1_most_103 : decode cX1_most 103 = .ok (.ior, 1) := by decide +kernel
theorem dX1_most_104 : decode cX1_most 104 = .ok (.iload 6, 2) := by decide +kernel
theorem dX1_most_106 : decode cX1_most 106 = .ok (.iconst 1, 1) := by decide +kernel
theorem dX1_most_107 : decode cX1_most 107 = .ok (.isub, 1) := by decide +kernel
theorem dX1_most_108 : decode cX1_most 108 = .ok (.invokevirtual 136, 3) := by decide +kernel
theorem dX1_most_111 : decode cX1_most 111 = .ok (.invokestatic 140, 3) := by decide +kernel
theorem dX1_most_114 : decode cX1_most 114 = .ok (.lstore 7, 2) := by decide +kernel
theorem dX1_most_116 : decode cX1_most 116 = .ok (.iinc 9 1, 3) := by decide +kernel
theorem dX1_most_119 : decode cX1_most 119 = .ok (.goto (-113), 3) := by decide +kernel
theorem dX1_most_122 : decode cX1_most 122 = .ok (.lload 7, 2) := by decide +kernel
theorem dX1_most_124 : decode cX1_most 124 = .ok (.lreturn, 1) := by decide +kernel
theorem dX1_way_0 : decode cX1_way 0 = .ok (.aload_n 0, 1) := by decide +kernel
theorem dX1_way_1 : decode cX1_way 1 = .ok (.iconst 0, 1) := by decide +kernel
theorem dX1_way_2 : decode cX1_way 2 = .ok (.putfield 31, 3) := by decide +kernel
theorem dX1_way_5 : decode cX1_way 5 = .ok (.iload_n 1, 1) := by decide +kernel
theorem dX1_way_6 : decode cX1_way 6 = .ok (.invokestatic 101, 3) := by decide +kernel
theorem dX1_way_9 : decode cX1_way 9 = .ok (.ifCond .eq 10, 3) := by decide +kernel
theorem dX1_way_12 : decode cX1_way 12 = .ok (.iload_n 2, 1) := by decide +kernel
theorem dX1_way_13 : decode cX1_way 13 = .ok (.invokestatic 101, 3) := by decide +kernel
theorem dX1_way_16 : decode cX1_way 16 = .ok (.ifCond .ne 9, 3) := by decide +kernel
theorem dX1_way_19 : decode cX1_way 19 = .ok (.aload_n 0, 1) := by decide +kernel
theorem dX1_way_20 : decode cX1_way 20 = .ok (.iconst 1, 1) := by decide +kernel
theorem dX1_way_21 : decode cX1_way 21 = .ok (.invokevirtual 105, 3) := by decide +kernel
theorem dX1_way_24 : decode cX1_way 24 = .ok (.ireturn, 1) := by decide +kernel
theorem dX1_way_25 : decode cX1_way 25 = .ok (.iload_n 1, 1) := by decide +kernel
theorem dX1_way_26 : decode cX1_way 26 = .ok (.iload_n 2, 1) := by decide +kernel
theorem dX1_way_27 : decode cX1_way 27 = .ok (.if_icmp .eq 13, 3) := by decide +kernel
theorem dX1_way_30 : decode cX1_way 30 = .ok (.iload_n 3, 1) := by decide +kernel
theorem dX1_way_31 : decode cX1_way 31 = .ok (.iconst 0, 1) := by decide +kernel
theorem dX1_way_32 : decode cX1_way 32 = .ok (.ldc 113, 2) := by decide +kernel
theorem dX1_way_34 : decode cX1_way 34 = .ok (.invokestatic 35, 3) := by decide +kernel
theorem dX1_way_37 : decode cX1_way 37 = .ok (.ifCond .ne 9, 3) := by decide +kernel
theorem dX1_way_40 : decode cX1_way 40 = .ok (.aload_n 0, 1) := by decide +kernel
theorem dX1_way_41 : decode cX1_way 41 = .ok (.iconst 2, 1) := by decide +kernel
theorem dX1_way_42 : decode cX1_way 42 = .ok (.invokevirtual 105, 3) := by decide +kernel
theorem dX1_way_45 : decode cX1_way 45 = .ok (.ireturn, 1) := by decide +kernel
theorem dX1_way_46 : decode cX1_way 46 = .ok (.aload_n 0, 1) := by decide +kernel
theorem dX1_way_47 : decode cX1_way 47 = .ok (.iload_n 1, 1) := by decide +kernel
theorem dX1_way_48 : decode cX1_way 48 = .ok (.iload_n 2, 1) := by decide +kernel
theorem dX1_way_49 : decode cX1_way 49 = .ok (.iload_n 3, 1) := by decide +kernel
theorem dX1_way_50 : decode cX1_way 50 = .ok (.i2l, 1) := by decide +kernel
theorem dX1_way_51 : decode cX1_way 51 = .ok (.iconst 1, 1) := by decide +kernel
theorem dX1_way_52 : decode cX1_way 52 = .ok (.iload_n 1, 1) := by decide +kernel
theorem dX1_way_53 : decode cX1_way 53 = .ok (.ishl, 1) := by decide +kernel
theorem dX1_way_54 : decode cX1_way 54 = .ok (.iconst 4, 1) := by decide +kernel
theorem dX1_way_55 : decode cX1_way 55 = .ok (.invokevirtual 136, 3) := by decide +kernel
theorem dX1_way_58 : decode cX1_way 58 = .ok (.l2i, 1) := by decide +kernel
theorem dX1_way_59 : decode cX1_way 59 = .ok (.ireturn, 1) := by decide +kernel
theorem dX1_ring_0 : decode cX1_ring 0 = .ok (.aload_n 0, 1) := by decide +kernel
theorem dX1_ring_1 : decode cX1_ring 1 = .ok (.iconst 0, 1) := by decide +kernel
theorem dX1_ring_2 : decode cX1_ring 2 = .ok (.putfield 31, 3) := by decide +kernel
theorem dX1_ring_5 : decode cX1_ring 5 = .ok (.iload_n 1, 1) := by decide +kernel
theorem dX1_ring_6 : decode cX1_ring 6 = .ok (.invokestatic 101, 3) := by decide +kernel
theorem dX1_ring_9 : decode cX1_ring 9 = .ok (.ifCond .ne 9, 3) := by decide +kernel
theorem dX1_ring_12 : decode cX1_ring 12 = .ok (.aload_n 0, 1) := by decide +kernel
theorem dX1_ring_13 : decode cX1_ring 13 = .ok (.iconst 1, 1) := by decide +kernel
theorem dX1_ring_14 : decode cX1_ring 14 = .ok (.invokevirtual 105, 3) := by decide +kernel
theorem dX1_ring_17 : decode cX1_ring 17 = .ok (.ireturn, 1) := by decide +kernel
theorem dX1_ring_18 : decode cX1_ring 18 = .ok (.iload_n 2, 1) := by decide +kernel
theorem dX1_ring_19 : decode cX1_ring 19 = .ok (.iconst 0, 1) := by decide +kernel
theorem dX1_ring_20 : decode cX1_ring 20 = .ok (.ldc 113, 2) := by decide +kernel
theorem dX1_ring_22 : decode cX1_ring 22 = .ok (.invokestatic 35, 3) := by decide +kernel
theorem dX1_ring_25 : decode cX1_ring 25 = .ok (.ifCond .ne 9, 3) := by decide +kernel
theorem dX1_ring_28 : decode cX1_ring 28 = .ok (.aload_n 0, 1) := by decide +kernel
theorem dX1_ring_29 : decode cX1_ring 29 = .ok (.iconst 2, 1) := by decide +kernel
theorem dX1_ring_30 : decode cX1_ring 30 = .ok (.invokevirtual 105, 3) := by decide +kernel
theorem dX1_ring_33 : decode cX1_ring 33 = .ok (.ireturn, 1) := by decide +kernel
theorem dX1_ring_34 : decode cX1_ring 34 = .ok (.lconst 0, 1) := by decide +kernel
theorem dX1_ring_35 : decode cX1_ring 35 = .ok (.aload_n 0, 1) := by decide +kernel
theorem dX1_ring_36 : decode cX1_ring 36 = .ok (.iload_n 1, 1) := by decide +kernel
theorem dX1_ring_37 : decode cX1_ring 37 = .ok (.iload_n 1, 1) := by decide +kernel
theorem dX1_ring_38 : decode cX1_ring 38 = .ok (.iload_n 2, 1) := by decide +kernel
theorem dX1_ring_39 : decode cX1_ring 39 = .ok (.i2l, 1) := by decide +kernel
theorem dX1_ring_40 : decode cX1_ring 40 = .ok (.iconst 1, 1) := by decide +kernel
theorem dX1_ring_41 : decode cX1_ring 41 = .ok (.iload_n 1, 1) := by decide +kernel
theorem dX1_ring_42 : decode cX1_ring 42 = .ok (.ishl, 1) := by decide +kernel
theorem dX1_ring_43 : decode cX1_ring 43 = .ok (.iconst 5, 1) := by decide +kernel
theorem dX1_ring_44 : decode cX1_ring 44 = .ok (.invokevirtual 136, 3) := by decide +kernel
theorem dX1_ring_47 : decode cX1_ring 47 = .ok (.iload_n 2, 1) := by decide +kernel
theorem dX1_ring_48 : decode cX1_ring 48 = .ok (.i2l, 1) := by decide +kernel
theorem dX1_ring_49 : decode cX1_ring 49 = .ok (.lsub, 1) := by decide +kernel
theorem dX1_ring_50 : decode cX1_ring 50 = .ok (.invokestatic 140, 3) := by decide +kernel
theorem dX1_ring_53 : decode cX1_ring 53 = .ok (.l2i, 1) := by decide +kernel
theorem dX1_ring_54 : decode cX1_ring 54 = .ok (.ireturn, 1) := by decide +kernel
theorem dX1_needs_0 : decode cX1_needs 0 = .ok (.aload_n 0, 1) := by decide +kernel
theorem dX1_needs_1 : decode cX1_needs 1 = .ok (.iconst 0, 1) := by decide +kernel
theorem dX1_needs_2 : decode cX1_needs 2 = .ok (.putfield 31, 3) := by decide +kernel
theorem dX1_needs_5 : decode cX1_needs 5 = .ok (.iload_n 1, 1) := by decide +kernel
theorem dX1_needs_6 : decode cX1_needs 6 = .ok (.invokestatic 101, 3) := by decide +kernel
theorem dX1_needs_9 : decode cX1_needs 9 = .ok (.ifCond .eq 10, 3) := by decide +kernel
theorem dX1_needs_12 : decode cX1_needs 12 = .ok (.iload_n 2, 1) := by decide +kernel
theorem dX1_needs_13 : decode cX1_needs 13 = .ok (.invokestatic 101, 3) := by decide +kernel
theorem dX1_needs_16 : decode cX1_needs 16 = .ok (.ifCond .ne 9, 3) := by decide +kernel
theorem dX1_needs_19 : decode cX1_needs 19 = .ok (.aload_n 0, 1) := by decide +kernel
theorem dX1_needs_20 : decode cX1_needs 20 = .ok (.iconst 1, 1) := by decide +kernel
theorem dX1_needs_21 : decode cX1_needs 21 = .ok (.invokevirtual 105, 3) := by decide +kernel
theorem dX1_needs_24 : decode cX1_needs 24 = .ok (.ireturn, 1) := by decide +kernel
theorem dX1_needs_25 : decode cX1_needs 25 = .ok (.iload_n 1, 1) := by decide +kernel
theorem dX1_needs_26 : decode cX1_needs 26 = .ok (.iload_n 2, 1) := by decide +kernel
theorem dX1_needs_27 : decode cX1_needs 27 = .ok (.if_icmp .ne 9, 3) := by decide +kernel
theorem dX1_needs_30 : decode cX1_needs 30 = .ok (.aload_n 0, 1) := by decide +kernel
theorem dX1_needs_31 : decode cX1_needs 31 = .ok (.iconst 2, 1) := by decide +kernel
theorem dX1_needs_32 : decode cX1_needs 32 = .ok (.invokevirtual 105, 3) := by decide +kernel
theorem dX1_needs_35 : decode cX1_needs 35 = .ok (.ireturn, 1) := by decide +kernel
theorem dX1_needs_36 : decode cX1_needs 36 = .ok (.iconst 0, 1) := by decide +kernel
theorem dX1_needs_37 : decode cX1_needs 37 = .ok (.istore_n 3, 1) := by decide +kernel
theorem dX1_needs_38 : decode cX1_needs 38 = .ok (.iload_n 3, 1) := by decide +kernel
theorem dX1_needs_39 : decode cX1_needs 39 = .ok (.aload_n 0, 1) := by decide +kernel
theorem dX1_needs_40 : decode cX1_needs 40 = .ok (.getfield 70, 3) := by decide +kernel
theorem dX1_needs_43 : decode cX1_needs 43 = .ok (.if_icmp .ge 64, 3) := by decide +kernel
theorem dX1_needs_46 : decode cX1_needs 46 = .ok (.aload_n 0, 1) := by decide +kernel
theorem dX1_needs_47 : decode cX1_needs 47 = .ok (.iload_n 3, 1) := by decide +kernel
theorem dX1_needs_48 : decode cX1_needs 48 = .ok (.iconst 1, 1) := by decide +kernel
theorem dX1_needs_49 : decode cX1_needs 49 = .ok (.invokevirtual 79, 3) := by decide +kernel
theorem dX1_needs_52 : decode cX1_needs 52 = .ok (.iload_n 1, 1) := by decide +kernel
theorem dX1_needs_53 : decode cX1_needs 53 = .ok (.if_icmp .ne 48, 3) := by decide +kernel
theorem dX1_needs_56 : decode cX1_needs 56 = .ok (.aload_n 0, 1) := by decide +kernel
theorem dX1_needs_57 : decode cX1_needs 57 = .ok (.iload_n 3, 1) := by decide +kernel
theorem dX1_needs_58 : decode cX1_needs 58 = .ok (.iconst 2, 1) := by decide +kernel
theorem dX1_needs_59 : decode cX1_needs 59 = .ok (.invokevirtual 79, 3) := by decide +kernel
theorem dX1_needs_62 : decode cX1_needs 62 = .ok (.iload_n 2, 1) := by decide +kernel
theorem dX1_needs_63 : decode cX1_needs 63 = .ok (.if_icmp .eq 6, 3) := by decide +kernel
theorem dX1_needs_66 : decode cX1_needs 66 = .ok (.goto 35, 3) := by decide +kernel
theorem dX1_needs_69 : decode cX1_needs 69 = .ok (.iconst 1, 1) := by decide +kernel
theorem dX1_needs_70 : decode cX1_needs 70 = .ok (.istore 4, 2) := by decide +kernel
theorem dX1_needs_72 : decode cX1_needs 72 = .ok (.iload 4, 2) := by decide +kernel
theorem dX1_needs_74 : decode cX1_needs 74 = .ok (.sipush 9999, 3) := by decide +kernel
theorem dX1_needs_77 : decode cX1_needs 77 = .ok (.if_icmp .gt 22, 3) := by decide +kernel
theorem dX1_needs_80 : decode cX1_needs 80 = .ok (.aload_n 0, 1) := by decide +kernel
theorem dX1_needs_81 : decode cX1_needs 81 = .ok (.iload_n 3, 1) := by decide +kernel
theorem dX1_needs_82 : decode cX1_needs 82 = .ok (.iload 4, 2) := by decide +kernel
theorem dX1_needs_84 : decode cX1_needs 84 = .ok (.invokevirtual 89, 3) := by decide +kernel
theorem dX1_needs_87 : decode cX1_needs 87 = .ok (.ifCond .eq 6, 3) := by decide +kernel
theorem dX1_needs_90 : decode cX1_needs 90 = .ok (.iload 4, 2) := by decide +kernel
theorem dX1_needs_92 : decode cX1_needs 92 = .ok (.ireturn, 1) := by decide +kernel
theorem dX1_needs_93 : decode cX1_needs 93 = .ok (.iinc 4 1, 3) := by decide +kernel
theorem dX1_needs_96 : decode cX1_needs 96 = .ok (.goto (-24), 3) := by decide +kernel
theorem dX1_needs_99 : decode cX1_needs 99 = .ok (.iconst (-1), 1) := by decide +kernel
theorem dX1_needs_100 : decode cX1_needs 100 = .ok (.ireturn, 1) := by decide +kernel
theorem dX1_needs_101 : decode cX1_needs 101 = .ok (.iinc 3 1, 3) := by decide +kernel
theorem dX1_needs_104 : decode cX1_needs 104 = .ok (.goto (-66), 3) := by decide +kernel
theorem dX1_needs_107 : decode cX1_needs 107 = .ok (.iconst (-1), 1) := by decide +kernel
theorem dX1_needs_108 : decode cX1_needs 108 = .ok (.ireturn, 1) := by decide +kernel
theorem dX1_mean_0 : decode cX1_mean 0 = .ok (.aload_n 0, 1) := by decide +kernel
theorem dX1_mean_1 : decode cX1_mean 1 = .ok (.iload_n 1, 1) := by decide +kernel
theorem dX1_mean_2 : decode cX1_mean 2 = .ok (.invokestatic 101, 3) := by decide +kernel
theorem dX1_mean_5 : decode cX1_mean 5 = .ok (.ifCond .eq 7, 3) := by decide +kernel
theorem dX1_mean_8 : decode cX1_mean 8 = .ok (.iconst 0, 1) := by decide +kernel
theorem dX1_mean_9 : decode cX1_mean 9 = .ok (.goto 4, 3) := by decide +kernel
theorem dX1_mean_12 : decode cX1_mean 12 = .ok (.iconst 1, 1) := by decide +kernel
theorem dX1_mean_13 : decode cX1_mean 13 = .ok (.putfield 31, 3) := by decide +kernel
theorem dX1_mean_16 : decode cX1_mean 16 = .ok (.aload_n 0, 1) := by decide +kernel
theorem dX1_mean_17 : decode cX1_mean 17 = .ok (.getfield 31, 3) := by decide +kernel
theorem dX1_mean_20 : decode cX1_mean 20 = .ok (.ifCond .ne 10, 3) := by decide +kernel
theorem dX1_mean_23 : decode cX1_mean 23 = .ok (.aload_n 0, 1) := by decide +kernel
theorem dX1_mean_24 : decode cX1_mean 24 = .ok (.getfield 39, 3) := by decide +kernel
theorem dX1_mean_27 : decode cX1_mean 27 = .ok (.ifCond .ne 7, 3) := by decide +kernel
theorem dX1_mean_30 : decode cX1_mean 30 = .ok (.dconst 0, 1) := by decide +kernel
theorem dX1_mean_31 : decode cX1_mean 31 = .ok (.goto 15, 3) := by decide +kernel
theorem dX1_mean_34 : decode cX1_mean 34 = .ok (.aload_n 0, 1) := by decide +kernel
theorem dX1_mean_35 : decode cX1_mean 35 = .ok (.iload_n 1, 1) := by decide +kernel
theorem dX1_mean_36 : decode cX1_mean 36 = .ok (.invokevirtual 120, 3) := by decide +kernel
theorem dX1_mean_39 : decode cX1_mean 39 = .ok (.i2d, 1) := by decide +kernel
theorem dX1_mean_40 : decode cX1_mean 40 = .ok (.aload_n 0, 1) := by decide +kernel
theorem dX1_mean_41 : decode cX1_mean 41 = .ok (.getfield 39, 3) := by decide +kernel
theorem dX1_mean_44 : decode cX1_mean 44 = .ok (.i2d, 1) := by decide +kernel
theorem dX1_mean_45 : decode cX1_mean 45 = .ok (.ddiv, 1) := by decide +kernel
theorem dX1_mean_46 : decode cX1_mean 46 = .ok (.dreturn, 1) := by decide +kernel
theorem dX1_digest_0 : decode cX1_digest 0 = .ok (.aload_n 0, 1) := by decide +kernel
theorem dX1_digest_1 : decode cX1_digest 1 = .ok (.iconst 0, 1) := by decide +kernel
theorem dX1_digest_2 : decode cX1_digest 2 = .ok (.putfield 31, 3) := by decide +kernel
theorem dX1_digest_5 : decode cX1_digest 5 = .ok (.ldc2_w 143, 3) := by decide +kernel
theorem dX1_digest_8 : decode cX1_digest 8 = .ok (.lstore_n 1, 1) := by decide +kernel
theorem dX1_digest_9 : decode cX1_digest 9 = .ok (.iconst 0, 1) := by decide +kernel
theorem dX1_digest_10 : decode cX1_digest 10 = .ok (.istore_n 3, 1) := by decide +kernel
theorem dX1_digest_11 : decode cX1_digest 11 = .ok (.iload_n 3, 1) := by decide +kernel
theorem dX1_digest_12 : decode cX1_digest 12 = .ok (.bipush 7, 2) := by decide +kernel
theorem dX1_digest_14 : decode cX1_digest 14 = .ok (.if_icmp .ge 22, 3) := by decide +kernel
theorem dX1_digest_17 : decode cX1_digest 17 = .ok (.lload_n 1, 1) := by decide +kernel
theorem dX1_digest_18 : decode cX1_digest 18 = .ok (.ldc2_w 145, 3) := by decide +kernel
theorem dX1_digest_21 : decode cX1_digest 21 = .ok (.lmul, 1) := by decide +kernel
theorem dX1_digest_22 : decode cX1_digest 22 = .ok (.aload_n 0, 1) := by decide +kernel
theorem dX1_digest_23 : decode cX1_digest 23 = .ok (.iload_n 3, 1) := by decide +kernel
theorem dX1_digest_24 : decode cX1_digest 24 = .ok (.invokevirtual 126, 3) := by decide +kernel
theorem dX1_digest_27 : decode cX1_digest 27 = .ok (.i2l, 1) := by decide +kernel
theorem dX1_digest_28 : decode cX1_digest 28 = .ok (.ladd, 1) := by decide +kernel
theorem dX1_digest_29 : decode cX1_digest 29 = .ok (.lstore_n 1, 1) := by decide +kernel
theorem dX1_digest_30 : decode cX1_digest 30 = .ok (.iinc 3 1, 3) := by decide +kernel
theorem dX1_digest_33 : decode cX1_digest 33 = .ok (.goto (-22), 3) := by decide +kernel
theorem dX1_digest_36 : decode cX1_digest 36 = .ok (.iconst 0, 1) := by decide +kernel
theorem dX1_digest_37 : decode cX1_digest 37 = .ok (.istore_n 3, 1) := by decide +kernel
theorem dX1_digest_38 : decode cX1_digest 38 = .ok (.iload_n 3, 1) := by decide +kernel
theorem dX1_digest_39 : decode cX1_digest 39 = .ok (.iconst 5, 1) := by decide +kernel
theorem dX1_digest_40 : decode cX1_digest 40 = .ok (.if_icmp .ge 69, 3) := by decide +kernel
theorem dX1_digest_43 : decode cX1_digest 43 = .ok (.iconst 0, 1) := by decide +kernel
theorem dX1_digest_44 : decode cX1_digest 44 = .ok (.istore 4, 2) := by decide +kernel
theorem dX1_digest_46 : decode cX1_digest 46 = .ok (.iload 4, 2) := by decide +kernel
theorem dX1_digest_48 : decode cX1_digest 48 = .ok (.iconst 5, 1) := by decide +kernel
theorem dX1_digest_49 : decode cX1_digest 49 = .ok (.if_icmp .ge 24, 3) := by decide +kernel
theorem dX1_digest_52 : decode cX1_digest 52 = .ok (.lload_n 1, 1) := by decide +kernel
theorem dX1_digest_53 : decode cX1_digest 53 = .ok (.ldc2_w 145, 3) := by decide +kernel
theorem dX1_digest_56 : decode cX1_digest 56 = .ok (.lmul, 1) := by decide +kernel
theorem dX1_digest_57 : decode cX1_digest 57 = .ok (.aload_n 0, 1) := by decide +kernel
theorem dX1_digest_58 : decode cX1_digest 58 = .ok (.iload_n 3, 1) := by decide +kernel
theorem dX1_digest_59 : decode cX1_digest 59 = .ok (.iload 4, 2) := by decide +kernel
theorem dX1_digest_61 : decode cX1_digest 61 = .ok (.invokevirtual 123, 3) := by decide +kernel
theorem dX1_digest_64 : decode cX1_digest 64 = .ok (.i2l, 1) := by decide +kernel
theorem dX1_digest_65 : decode cX1_digest 65 = .ok (.ladd, 1) := by decide +kernel
theorem dX1_digest_66 : decode cX1_digest 66 = .ok (.lstore_n 1, 1) := by decide +kernel
theorem dX1_digest_67 : decode cX1_digest 67 = .ok (.iinc 4 1, 3) := by decide +kernel
theorem dX1_digest_70 : decode cX1_digest 70 = .ok (.goto (-24), 3) := by decide +kernel
theorem dX1_digest_73 : decode cX1_digest 73 = .ok (.iconst 0, 1) := by decide +kernel
theorem dX1_digest_74 : decode cX1_digest 74 = .ok (.istore 4, 2) := by decide +kernel
theorem dX1_digest_76 : decode cX1_digest 76 = .ok (.iload 4, 2) := by decide +kernel
theorem dX1_digest_78 : decode cX1_digest 78 = .ok (.iconst 5, 1) := by decide +kernel
theorem dX1_digest_79 : decode cX1_digest 79 = .ok (.if_icmp .ge 24, 3) := by decide +kernel
theorem dX1_digest_82 : decode cX1_digest 82 = .ok (.lload_n 1, 1) := by decide +kernel
theorem dX1_digest_83 : decode cX1_digest 83 = .ok (.ldc2_w 145, 3) := by decide +kernel
theorem dX1_digest_86 : decode cX1_digest 86 = .ok (.lmul, 1) := by decide +kernel
theorem dX1_digest_87 : decode cX1_digest 87 = .ok (.aload_n 0, 1) := by decide +kernel
theorem dX1_digest_88 : decode cX1_digest 88 = .ok (.iload_n 3, 1) := by decide +kernel
theorem dX1_digest_89 : decode cX1_digest 89 = .ok (.iload 4, 2) := by decide +kernel
theorem dX1_digest_91 : decode cX1_digest 91 = .ok (.invokevirtual 58, 3) := by decide +kernel
theorem dX1_digest_94 : decode cX1_digest 94 = .ok (.i2l, 1) := by decide +kernel
theorem dX1_digest_95 : decode cX1_digest 95 = .ok (.ladd, 1) := by decide +kernel
theorem dX1_digest_96 : decode cX1_digest 96 = .ok (.lstore_n 1, 1) := by decide +kernel
theorem dX1_digest_97 : decode cX1_digest 97 = .ok (.iinc 4 1, 3) := by decide +kernel
theorem dX1_digest_100 : decode cX1_digest 100 = .ok (.goto (-24), 3) := by decide +kernel
theorem dX1_digest_103 : decode cX1_digest 103 = .ok (.iinc 3 1, 3) := by decide +kernel
theorem dX1_digest_106 : decode cX1_digest 106 = .ok (.goto (-68), 3) := by decide +kernel
theorem dX1_digest_109 : decode cX1_digest 109 = .ok (.iconst 0, 1) := by decide +kernel
theorem dX1_digest_110 : decode cX1_digest 110 = .ok (.istore_n 3, 1) := by decide +kernel
theorem dX1_digest_111 : decode cX1_digest 111 = .ok (.iload_n 3, 1) := by decide +kernel
theorem dX1_digest_112 : decode cX1_digest 112 = .ok (.iconst 5, 1) := by decide +kernel
theorem dX1_digest_113 : decode cX1_digest 113 = .ok (.aload_n 0, 1) := by decide +kernel
theorem dX1_digest_114 : decode cX1_digest 114 = .ok (.getfield 39, 3) := by decide +kernel
theorem dX1_digest_117 : decode cX1_digest 117 = .ok (.imul, 1) := by decide +kernel
theorem dX1_digest_118 : decode cX1_digest 118 = .ok (.if_icmp .ge 23, 3) := by decide +kernel
theorem dX1_digest_121 : decode cX1_digest 121 = .ok (.lload_n 1, 1) := by decide +kernel
theorem dX1_digest_122 : decode cX1_digest 122 = .ok (.ldc2_w 145, 3) := by decide +kernel
theorem dX1_digest_125 : decode cX1_digest 125 = .ok (.lmul, 1) := by decide +kernel
theorem dX1_digest_126 : decode cX1_digest 126 = .ok (.aload_n 0, 1) := by decide +kernel
theorem dX1_digest_127 : decode cX1_digest 127 = .ok (.getfield 25, 3) := by decide +kernel
theorem dX1_digest_130 : decode cX1_digest 130 = .ok (.iload_n 3, 1) := by decide +kernel
theorem dX1_digest_131 : decode cX1_digest 131 = .ok (.iaload, 1) := by decide +kernel
theorem dX1_digest_132 : decode cX1_digest 132 = .ok (.i2l, 1) := by decide +kernel
theorem dX1_digest_133 : decode cX1_digest 133 = .ok (.ladd, 1) := by decide +kernel
theorem dX1_digest_134 : decode cX1_digest 134 = .ok (.lstore_n 1, 1) := by decide +kernel
theorem dX1_digest_135 : decode cX1_digest 135 = .ok (.iinc 3 1, 3) := by decide +kernel
theorem dX1_digest_138 : decode cX1_digest 138 = .ok (.goto (-27), 3) := by decide +kernel
theorem dX1_digest_141 : decode cX1_digest 141 = .ok (.iconst 0, 1) := by decide +kernel
theorem dX1_digest_142 : decode cX1_digest 142 = .ok (.istore_n 3, 1) := by decide +kernel
theorem dX1_digest_143 : decode cX1_digest 143 = .ok (.iload_n 3, 1) := by decide +kernel
theorem dX1_digest_144 : decode cX1_digest 144 = .ok (.iconst 5, 1) := by decide +kernel
theorem dX1_digest_145 : decode cX1_digest 145 = .ok (.aload_n 0, 1) := by decide +kernel
theorem dX1_digest_146 : decode cX1_digest 146 = .ok (.getfield 70, 3) := by decide +kernel
theorem dX1_digest_149 : decode cX1_digest 149 = .ok (.imul, 1) := by decide +kernel
theorem dX1_digest_150 : decode cX1_digest 150 = .ok (.if_icmp .ge 23, 3) := by decide +kernel
theorem dX1_digest_153 : decode cX1_digest 153 = .ok (.lload_n 1, 1) := by decide +kernel
theorem dX1_digest_154 : decode cX1_digest 154 = .ok (.ldc2_w 145, 3) := by decide +kernel
theorem dX1_digest_157 : decode cX1_digest 157 = .ok (.lmul, 1) := by decide +kernel
theorem dX1_digest_158 : decode cX1_digest 158 = .ok (.aload_n 0, 1) := by decide +kernel
theorem dX1_digest_159 : decode cX1_digest 159 = .ok (.getfield 28, 3) := by decide +kernel
theorem dX1_digest_162 : decode cX1_digest 162 = .ok (.iload_n 3, 1) := by decide +kernel
theorem dX1_digest_163 : decode cX1_digest 163 = .ok (.iaload, 1) := by decide +kernel
theorem dX1_digest_164 : decode cX1_digest 164 = .ok (.i2l, 1) := by decide +kernel
theorem dX1_digest_165 : decode cX1_digest 165 = .ok (.ladd, 1) := by decide +kernel
theorem dX1_digest_166 : decode cX1_digest 166 = .ok (.lstore_n 1, 1) := by decide +kernel
theorem dX1_digest_167 : decode cX1_digest 167 = .ok (.iinc 3 1, 3) := by decide +kernel
theorem dX1_digest_170 : decode cX1_digest 170 = .ok (.goto (-27), 3) := by decide +kernel
theorem dX1_digest_173 : decode cX1_digest 173 = .ok (.lload_n 1, 1) := by decide +kernel
theorem dX1_digest_174 : decode cX1_digest 174 = .ok (.lreturn, 1) := by decide +kernel
theorem dJ9_max_f86c9_0 : decode cJ9_max_f86c9 0 = .ok (.lload_n 0, 1) := by decide +kernel
theorem dJ9_max_f86c9_1 : decode cJ9_max_f86c9 1 = .ok (.lload_n 2, 1) := by decide +kernel
theorem dJ9_max_f86c9_2 : decode cJ9_max_f86c9 2 = .ok (.lcmp, 1) := by decide +kernel
theorem dJ9_max_f86c9_3 : decode cJ9_max_f86c9 3 = .ok (.ifCond .lt 7, 3) := by decide +kernel
theorem dJ9_max_f86c9_6 : decode cJ9_max_f86c9 6 = .ok (.lload_n 0, 1) := by decide +kernel
theorem dJ9_max_f86c9_7 : decode cJ9_max_f86c9 7 = .ok (.goto 4, 3) := by decide +kernel
theorem dJ9_max_f86c9_10 : decode cJ9_max_f86c9 10 = .ok (.lload_n 2, 1) := by decide +kernel
theorem dJ9_max_f86c9_11 : decode cJ9_max_f86c9 11 = .ok (.lreturn, 1) := by decide +kernel
theorem dJ9_min_7cf53_0 : decode cJ9_min_7cf53 0 = .ok (.iload_n 0, 1) := by decide +kernel
theorem dJ9_min_7cf53_1 : decode cJ9_min_7cf53 1 = .ok (.iload_n 1, 1) := by decide +kernel
theorem dJ9_min_7cf53_2 : decode cJ9_min_7cf53 2 = .ok (.if_icmp .gt 7, 3) := by decide +kernel
theorem dJ9_min_7cf53_5 : decode cJ9_min_7cf53 5 = .ok (.iload_n 0, 1) := by decide +kernel
theorem dJ9_min_7cf53_6 : decode cJ9_min_7cf53 6 = .ok (.goto 4, 3) := by decide +kernel
theorem dJ9_min_7cf53_9 : decode cJ9_min_7cf53 9 = .ok (.iload_n 1, 1) := by decide +kernel
theorem dJ9_min_7cf53_10 : decode cJ9_min_7cf53 10 = .ok (.ireturn, 1) := by decide +kernel
theorem dJ9_min_f86c9_0 : decode cJ9_min_f86c9 0 = .ok (.lload_n 0, 1) := by decide +kernel
theorem dJ9_min_f86c9_1 : decode cJ9_min_f86c9 1 = .ok (.lload_n 2, 1) := by decide +kernel
theorem dJ9_min_f86c9_2 : decode cJ9_min_f86c9 2 = .ok (.lcmp, 1) := by decide +kernel
theorem dJ9_min_f86c9_3 : decode cJ9_min_f86c9 3 = .ok (.ifCond .gt 7, 3) := by decide +kernel
theorem dJ9_min_f86c9_6 : decode cJ9_min_f86c9 6 = .ok (.lload_n 0, 1) := by decide +kernel
theorem dJ9_min_f86c9_7 : decode cJ9_min_f86c9 7 = .ok (.goto 4, 3) := by decide +kernel
theorem dJ9_min_f86c9_10 : decode cJ9_min_f86c9 10 = .ok (.lload_n 2, 1) := by decide +kernel
theorem dJ9_min_f86c9_11 : decode cJ9_min_f86c9 11 = .ok (.lreturn, 1) := by decide +kernel
theorem dL_setRate_0 : decode cL_setRate 0 = .ok (.aload 4, 2) := by decide +kernel
theorem dL_setRate_2 : decode cL_setRate 2 = .ok (.iconst 0, 1) := by decide +kernel
theorem dL_setRate_3 : decode cL_setRate 3 = .ok (.aload_n 0, 1) := by decide +kernel
theorem dL_setRate_4 : decode cL_setRate 4 = .ok (.iload_n 1, 1) := by decide +kernel
theorem dL_setRate_5 : decode cL_setRate 5 = .ok (.iload_n 2, 1) := by decide +kernel
theorem dL_setRate_6 : decode cL_setRate 6 = .ok (.iload_n 3, 1) := by decide +kernel
theorem dL_setRate_7 : decode cL_setRate 7 = .ok (.invokevirtual 7, 3) := by decide +kernel
theorem dL_setRate_10 : decode cL_setRate 10 = .ok (.i2l, 1) := by decide +kernel
theorem dL_setRate_11 : decode cL_setRate 11 = .ok (.lastore, 1) := by decide +kernel
theorem dL_setRate_12 : decode cL_setRate 12 = .ok (.goto 11, 3) := by decide +kernel
theorem dL_setRate_15 : decode cL_setRate 15 = .ok (.astore 5, 2) := by decide +kernel
theorem dL_setRate_17 : decode cL_setRate 17 = .ok (.iconst 1, 1) := by decide +kernel
theorem dL_setRate_18 : decode cL_setRate 18 = .ok (.ireturn, 1) := by decide +kernel
theorem dL_setRate_19 : decode cL_setRate 19 = .ok (.astore 5, 2) := by decide +kernel
theorem dL_setRate_21 : decode cL_setRate 21 = .ok (.iconst 2, 1) := by decide +kernel
theorem dL_setRate_22 : decode cL_setRate 22 = .ok (.ireturn, 1) := by decide +kernel
theorem dL_setRate_23 : decode cL_setRate 23 = .ok (.iconst 0, 1) := by decide +kernel
theorem dL_setRate_24 : decode cL_setRate 24 = .ok (.ireturn, 1) := by decide +kernel
theorem dL_setSpread_0 : decode cL_setSpread 0 = .ok (.aload_n 2, 1) := by decide +kernel
theorem dL_setSpread_1 : decode cL_setSpread 1 = .ok (.iconst 0, 1) := by decide +kernel
theorem dL_setSpread_2 : decode cL_setSpread 2 = .ok (.aload_n 0, 1) := by decide +kernel
theorem dL_setSpread_3 : decode cL_setSpread 3 = .ok (.iload_n 1, 1) := by decide +kernel
theorem dL_setSpread_4 : decode cL_setSpread 4 = .ok (.invokevirtual 17, 3) := by decide +kernel
theorem dL_setSpread_7 : decode cL_setSpread 7 = .ok (.i2l, 1) := by decide +kernel
theorem dL_setSpread_8 : decode cL_setSpread 8 = .ok (.lastore, 1) := by decide +kernel
theorem dL_setSpread_9 : decode cL_setSpread 9 = .ok (.goto 6, 3) := by decide +kernel
theorem dL_setSpread_12 : decode cL_setSpread 12 = .ok (.astore_n 3, 1) := by decide +kernel
theorem dL_setSpread_13 : decode cL_setSpread 13 = .ok (.iconst 1, 1) := by decide +kernel
theorem dL_setSpread_14 : decode cL_setSpread 14 = .ok (.ireturn, 1) := by decide +kernel
theorem dL_setSpread_15 : decode cL_setSpread 15 = .ok (.iconst 0, 1) := by decide +kernel
theorem dL_setSpread_16 : decode cL_setSpread 16 = .ok (.ireturn, 1) := by decide +kernel
theorem dL_setLimit_0 : decode cL_setLimit 0 = .ok (.aload_n 3, 1) := by decide +kernel
theorem dL_setLimit_1 : decode cL_setLimit 1 = .ok (.iconst 0, 1) := by decide +kernel
theorem dL_setLimit_2 : decode cL_setLimit 2 = .ok (.aload_n 0, 1) := by decide +kernel
theorem dL_setLimit_3 : decode cL_setLimit 3 = .ok (.iload_n 1, 1) := by decide +kernel
theorem dL_setLimit_4 : decode cL_setLimit 4 = .ok (.iload_n 2, 1) := by decide +kernel
theorem dL_setLimit_5 : decode cL_setLimit 5 = .ok (.invokevirtual 21, 3) := by decide +kernel
theorem dL_setLimit_8 : decode cL_setLimit 8 = .ok (.i2l, 1) := by decide +kernel
theorem dL_setLimit_9 : decode cL_setLimit 9 = .ok (.lastore, 1) := by decide +kernel
theorem dL_setLimit_10 : decode cL_setLimit 10 = .ok (.goto 11, 3) := by decide +kernel
theorem dL_setLimit_13 : decode cL_setLimit 13 = .ok (.astore 4, 2) := by decide +kernel
theorem dL_setLimit_15 : decode cL_setLimit 15 = .ok (.iconst 1, 1) := by decide +kernel
theorem dL_setLimit_16 : decode cL_setLimit 16 = .ok (.ireturn, 1) := by decide +kernel
theorem dL_setLimit_17 : decode cL_setLimit 17 = .ok (.astore 4, 2) := by decide +kernel
theorem dL_setLimit_19 : decode cL_setLimit 19 = .ok (.iconst 2, 1) := by decide +kernel
theorem dL_setLimit_20 : decode cL_setLimit 20 = .ok (.ireturn, 1) := by decide +kernel
theorem dL_setLimit_21 : decode cL_setLimit 21 = .ok (.iconst 0, 1) := by decide +kernel
theorem dL_setLimit_22 : decode cL_setLimit 22 = .ok (.ireturn, 1) := by decide +kernel
theorem dL_stock_0 : decode cL_stock 0 = .ok (.aload_n 3, 1) := by decide +kernel
theorem dL_stock_1 : decode cL_stock 1 = .ok (.iconst 0, 1) := by decide +kernel
theorem dL_stock_2 : decode cL_stock 2 = .ok (.aload_n 0, 1) := by decide +kernel
theorem dL_stock_3 : decode cL_stock 3 = .ok (.iload_n 1, 1) := by decide +kernel
theorem dL_stock_4 : decode cL_stock 4 = .ok (.iload_n 2, 1) := by decide +kernel
theorem dL_stock_5 : decode cL_stock 5 = .ok (.invokevirtual 25, 3) := by decide +kernel
theorem dL_stock_8 : decode cL_stock 8 = .ok (.i2l, 1) := by decide +kernel
theorem dL_stock_9 : decode cL_stock 9 = .ok (.lastore, 1) := by decide +kernel
theorem dL_stock_10 : decode cL_stock 10 = .ok (.goto 11, 3) := by decide +kernel
theorem dL_stock_13 : decode cL_stock 13 = .ok (.astore 4, 2) := by decide +kernel
theorem dL_stock_15 : decode cL_stock 15 = .ok (.iconst 1, 1) := by decide +kernel
theorem dL_stock_16 : decode cL_stock 16 = .ok (.ireturn, 1) := by decide +kernel
theorem dL_stock_17 : decode cL_stock 17 = .ok (.astore 4, 2) := by decide +kernel
theorem dL_stock_19 : decode cL_stock 19 = .ok (.iconst 2, 1) := by decide +kernel
theorem dL_stock_20 : decode cL_stock 20 = .ok (.ireturn, 1) := by decide +kernel
theorem dL_stock_21 : decode cL_stock 21 = .ok (.iconst 0, 1) := by decide +kernel
theorem dL_stock_22 : decode cL_stock 22 = .ok (.ireturn, 1) := by decide +kernel
theorem dL_come_0 : decode cL_come 0 = .ok (.aload_n 1, 1) := by decide +kernel
theorem dL_come_1 : decode cL_come 1 = .ok (.iconst 0, 1) := by decide +kernel
theorem dL_come_2 : decode cL_come 2 = .ok (.aload_n 0, 1) := by decide +kernel
theorem dL_come_3 : decode cL_come 3 = .ok (.invokevirtual 28, 3) := by decide +kernel
theorem dL_come_6 : decode cL_come 6 = .ok (.i2l, 1) := by decide +kernel
theorem dL_come_7 : decode cL_come 7 = .ok (.lastore, 1) := by decide +kernel
theorem dL_come_8 : decode cL_come 8 = .ok (.goto 6, 3) := by decide +kernel
theorem dL_come_11 : decode cL_come 11 = .ok (.astore_n 2, 1) := by decide +kernel
theorem dL_come_12 : decode cL_come 12 = .ok (.iconst 1, 1) := by decide +kernel
theorem dL_come_13 : decode cL_come 13 = .ok (.ireturn, 1) := by decide +kernel
theorem dL_come_14 : decode cL_come 14 = .ok (.iconst 0, 1) := by decide +kernel
theorem dL_come_15 : decode cL_come 15 = .ok (.ireturn, 1) := by decide +kernel
theorem dL_earn_0 : decode cL_earn 0 = .ok (.aload 4, 2) := by decide +kernel
theorem dL_earn_2 : decode cL_earn 2 = .ok (.iconst 0, 1) := by decide +kernel
theorem dL_earn_3 : decode cL_earn 3 = .ok (.aload_n 0, 1) := by decide +kernel
theorem dL_earn_4 : decode cL_earn 4 = .ok (.iload_n 1, 1) := by decide +kernel
theorem dL_earn_5 : decode cL_earn 5 = .ok (.iload_n 2, 1) := by decide +kernel
theorem dL_earn_6 : decode cL_earn 6 = .ok (.iload_n 3, 1) := by decide +kernel
theorem dL_earn_7 : decode cL_earn 7 = .ok (.invokevirtual 34, 3) := by decide +kernel
theorem dL_earn_10 : decode cL_earn 10 = .ok (.i2l, 1) := by decide +kernel
theorem dL_earn_11 : decode cL_earn 11 = .ok (.lastore, 1) := by decide +kernel
theorem dL_earn_12 : decode cL_earn 12 = .ok (.goto 11, 3) := by decide +kernel
theorem dL_earn_15 : decode cL_earn 15 = .ok (.astore 5, 2) := by decide +kernel
theorem dL_earn_17 : decode cL_earn 17 = .ok (.iconst 1, 1) := by decide +kernel
theorem dL_earn_18 : decode cL_earn 18 = .ok (.ireturn, 1) := by decide +kernel
theorem dL_earn_19 : decode cL_earn 19 = .ok (.astore 5, 2) := by decide +kernel
theorem dL_earn_21 : decode cL_earn 21 = .ok (.iconst 2, 1) := by decide +kernel
theorem dL_earn_22 : decode cL_earn 22 = .ok (.ireturn, 1) := by decide +kernel
theorem dL_earn_23 : decode cL_earn 23 = .ok (.iconst 0, 1) := by decide +kernel
theorem dL_earn_24 : decode cL_earn 24 = .ok (.ireturn, 1) := by decide +kernel
theorem dL_change_0 : decode cL_change 0 = .ok (.aload 5, 2) := by decide +kernel
theorem dL_change_2 : decode cL_change 2 = .ok (.iconst 0, 1) := by decide +kernel
theorem dL_change_3 : decode cL_change 3 = .ok (.aload_n 0, 1) := by decide +kernel
theorem dL_change_4 : decode cL_change 4 = .ok (.iload_n 1, 1) := by decide +kernel
theorem dL_change_5 : decode cL_change 5 = .ok (.iload_n 2, 1) := by decide +kernel
theorem dL_change_6 : decode cL_change 6 = .ok (.iload_n 3, 1) := by decide +kernel
theorem dL_change_7 : decode cL_change 7 = .ok (.iload 4, 2) := by decide +kernel
theorem dL_change_9 : decode cL_change 9 = .ok (.invokevirtual 37, 3) := by decide +kernel
theorem dL_change_12 : decode cL_change 12 = .ok (.i2l, 1) := by decide +kernel
theorem dL_change_13 : decode cL_change 13 = .ok (.lastore, 1) := by decide +kernel
theorem dL_change_14 : decode cL_change 14 = .ok (.goto 11, 3) := by decide +kernel
theorem dL_change_17 : decode cL_change 17 = .ok (.astore 6, 2) := by decide +kernel
theorem dL_change_19 : decode cL_change 19 = .ok (.iconst 1, 1) := by decide +kernel
theorem dL_change_20 : decode cL_change 20 = .ok (.ireturn, 1) := by decide +kernel
theorem dL_change_21 : decode cL_change 21 = .ok (.astore 6, 2) := by decide +kernel
theorem dL_change_23 : decode cL_change 23 = .ok (.iconst 2, 1) := by decide +kernel
theorem dL_change_24 : decode cL_change 24 = .ok (.ireturn, 1) := by decide +kernel
theorem dL_change_25 : decode cL_change 25 = .ok (.iconst 0, 1) := by decide +kernel
theorem dL_change_26 : decode cL_change 26 = .ok (.ireturn, 1) := by decide +kernel
theorem dL_order_0 : decode cL_order 0 = .ok (.aload 6, 2) := by decide +kernel
theorem dL_order_2 : decode cL_order 2 = .ok (.iconst 0, 1) := by decide +kernel
theorem dL_order_3 : decode cL_order 3 = .ok (.aload_n 0, 1) := by decide +kernel
theorem dL_order_4 : decode cL_order 4 = .ok (.iload_n 1, 1) := by decide +kernel
theorem dL_order_5 : decode cL_order 5 = .ok (.iload_n 2, 1) := by decide +kernel
theorem dL_order_6 : decode cL_order 6 = .ok (.iload_n 3, 1) := by decide +kernel
theorem dL_order_7 : decode cL_order 7 = .ok (.iload 4, 2) := by decide +kernel
theorem dL_order_9 : decode cL_order 9 = .ok (.iload 5, 2) := by decide +kernel
theorem dL_order_11 : decode cL_order 11 = .ok (.invokevirtual 41, 3) := by decide +kernel
theorem dL_order_14 : decode cL_order 14 = .ok (.i2l, 1) := by decide +kernel
theorem dL_order_15 : decode cL_order 15 = .ok (.lastore, 1) := by decide +kernel
theorem dL_order_16 : decode cL_order 16 = .ok (.goto 15, 3) := by decide +kernel
theorem dL_order_19 : decode cL_order 19 = .ok (.astore 7, 2) := by decide +kernel
theorem dL_order_21 : decode cL_order 21 = .ok (.iconst 1, 1) := by decide +kernel
theorem dL_order_22 : decode cL_order 22 = .ok (.ireturn, 1) := by decide +kernel
theorem dL_order_23 : decode cL_order 23 = .ok (.astore 7, 2) := by decide +kernel
theorem dL_order_25 : decode cL_order 25 = .ok (.iconst 2, 1) := by decide +kernel
theorem dL_order_26 : decode cL_order 26 = .ok (.ireturn, 1) := by decide +kernel
theorem dL_order_27 : decode cL_order 27 = .ok (.astore 7, 2) := by decide +kernel
theorem dL_order_29 : decode cL_order 29 = .ok (.iconst 3, 1) := by decide +kernel
theorem dL_order_30 : decode cL_order 30 = .ok (.ireturn, 1) := by decide +kernel
theorem dL_order_31 : decode cL_order 31 = .ok (.iconst 0, 1) := by decide +kernel
theorem dL_order_32 : decode cL_order 32 = .ok (.ireturn, 1) := by decide +kernel
theorem dL_cancel_0 : decode cL_cancel 0 = .ok (.aload_n 2, 1) := by decide +kernel
theorem dL_cancel_1 : decode cL_cancel 1 = .ok (.iconst 0, 1) := by decide +kernel
theorem dL_cancel_2 : decode cL_cancel 2 = .ok (.aload_n 0, 1) := by decide +kernel
theorem dL_cancel_3 : decode cL_cancel 3 = .ok (.iload_n 1, 1) := by decide +kernel
theorem dL_cancel_4 : decode cL_cancel 4 = .ok (.invokevirtual 45, 3) := by decide +kernel
theorem dL_cancel_7 : decode cL_cancel 7 = .ok (.i2l, 1) := by decide +kernel
theorem dL_cancel_8 : decode cL_cancel 8 = .ok (.lastore, 1) := by decide +kernel
theorem dL_cancel_9 : decode cL_cancel 9 = .ok (.goto 6, 3) := by decide +kernel
theorem dL_cancel_12 : decode cL_cancel 12 = .ok (.astore_n 3, 1) := by decide +kernel
theorem dL_cancel_13 : decode cL_cancel 13 = .ok (.iconst 1, 1) := by decide +kernel
theorem dL_cancel_14 : decode cL_cancel 14 = .ok (.ireturn, 1) := by decide +kernel
theorem dL_cancel_15 : decode cL_cancel 15 = .ok (.iconst 0, 1) := by decide +kernel
theorem dL_cancel_16 : decode cL_cancel 16 = .ok (.ireturn, 1) := by decide +kernel
theorem dL_has_0 : decode cL_has 0 = .ok (.aload_n 3, 1) := by decide +kernel
theorem dL_has_1 : decode cL_has 1 = .ok (.iconst 0, 1) := by decide +kernel
theorem dL_has_2 : decode cL_has 2 = .ok (.aload_n 0, 1) := by decide +kernel
theorem dL_has_3 : decode cL_has 3 = .ok (.iload_n 1, 1) := by decide +kernel
theorem dL_has_4 : decode cL_has 4 = .ok (.iload_n 2, 1) := by decide +kernel
theorem dL_has_5 : decode cL_has 5 = .ok (.invokevirtual 48, 3) := by decide +kernel
theorem dL_has_8 : decode cL_has 8 = .ok (.i2l, 1) := by decide +kernel
theorem dL_has_9 : decode cL_has 9 = .ok (.lastore, 1) := by decide +kernel
theorem dL_has_10 : decode cL_has 10 = .ok (.goto 7, 3) := by decide +kernel
theorem dL_has_13 : decode cL_has 13 = .ok (.astore 4, 2) := by decide +kernel
theorem dL_has_15 : decode cL_has 15 = .ok (.iconst 1, 1) := by decide +kernel
theorem dL_has_16 : decode cL_has 16 = .ok (.ireturn, 1) := by decide +kernel
theorem dL_has_17 : decode cL_has 17 = .ok (.iconst 0, 1) := by decide +kernel
theorem dL_has_18 : decode cL_has 18 = .ok (.ireturn, 1) := by decide +kernel
theorem dL_told_0 : decode cL_told 0 = .ok (.aload_n 3, 1) := by decide +kernel
theorem dL_told_1 : decode cL_told 1 = .ok (.iconst 0, 1) := by decide +kernel
theorem dL_told_2 : decode cL_told 2 = .ok (.aload_n 0, 1) := by decide +kernel
theorem dL_told_3 : decode cL_told 3 = .ok (.iload_n 1, 1) := by decide +kernel
theorem dL_told_4 : decode cL_told 4 = .ok (.iload_n 2, 1) := by decide +kernel
theorem dL_told_5 : decode cL_told 5 = .ok (.invokevirtual 51, 3) := by decide +kernel
theorem dL_told_8 : decode cL_told 8 = .ok (.i2l, 1) := by decide +kernel
theorem dL_told_9 : decode cL_told 9 = .ok (.lastore, 1) := by decide +kernel
theorem dL_told_10 : decode cL_told 10 = .ok (.goto 7, 3) := by decide +kernel
theorem dL_told_13 : decode cL_told 13 = .ok (.astore 4, 2) := by decide +kernel
theorem dL_told_15 : decode cL_told 15 = .ok (.iconst 1, 1) := by decide +kernel
theorem dL_told_16 : decode cL_told 16 = .ok (.ireturn, 1) := by decide +kernel
theorem dL_told_17 : decode cL_told 17 = .ok (.iconst 0, 1) := by decide +kernel
theorem dL_told_18 : decode cL_told 18 = .ok (.ireturn, 1) := by decide +kernel
theorem dL_about_0 : decode cL_about 0 = .ok (.aload_n 3, 1) := by decide +kernel
theorem dL_about_1 : decode cL_about 1 = .ok (.iconst 0, 1) := by decide +kernel
theorem dL_about_2 : decode cL_about 2 = .ok (.aload_n 0, 1) := by decide +kernel
theorem dL_about_3 : decode cL_about 3 = .ok (.iload_n 1, 1) := by decide +kernel
theorem dL_about_4 : decode cL_about 4 = .ok (.iload_n 2, 1) := by decide +kernel
theorem dL_about_5 : decode cL_about 5 = .ok (.invokevirtual 54, 3) := by decide +kernel
theorem dL_about_8 : decode cL_about 8 = .ok (.i2l, 1) := by decide +kernel
theorem dL_about_9 : decode cL_about 9 = .ok (.lastore, 1) := by decide +kernel
theorem dL_about_10 : decode cL_about 10 = .ok (.goto 7, 3) := by decide +kernel
theorem dL_about_13 : decode cL_about 13 = .ok (.astore 4, 2) := by decide +kernel
theorem dL_about_15 : decode cL_about 15 = .ok (.iconst 1, 1) := by decide +kernel
theorem dL_about_16 : decode cL_about 16 = .ok (.ireturn, 1) := by decide +kernel
theorem dL_about_17 : decode cL_about 17 = .ok (.iconst 0, 1) := by decide +kernel
theorem dL_about_18 : decode cL_about 18 = .ok (.ireturn, 1) := by decide +kernel
theorem dL_count_0 : decode cL_count 0 = .ok (.aload_n 2, 1) := by decide +kernel
theorem dL_count_1 : decode cL_count 1 = .ok (.iconst 0, 1) := by decide +kernel
theorem dL_count_2 : decode cL_count 2 = .ok (.aload_n 0, 1) := by decide +kernel
theorem dL_count_3 : decode cL_count 3 = .ok (.iload_n 1, 1) := by decide +kernel
theorem dL_count_4 : decode cL_count 4 = .ok (.invokevirtual 57, 3) := by decide +kernel
theorem dL_count_7 : decode cL_count 7 = .ok (.i2l, 1) := by decide +kernel
theorem dL_count_8 : decode cL_count 8 = .ok (.lastore, 1) := by decide +kernel
theorem dL_count_9 : decode cL_count 9 = .ok (.goto 6, 3) := by decide +kernel
theorem dL_count_12 : decode cL_count 12 = .ok (.astore_n 3, 1) := by decide +kernel
theorem dL_count_13 : decode cL_count 13 = .ok (.iconst 1, 1) := by decide +kernel
theorem dL_count_14 : decode cL_count 14 = .ok (.ireturn, 1) := by decide +kernel
theorem dL_count_15 : decode cL_count 15 = .ok (.iconst 0, 1) := by decide +kernel
theorem dL_count_16 : decode cL_count 16 = .ok (.ireturn, 1) := by decide +kernel
theorem dL_would_0 : decode cL_would 0 = .ok (.aload 4, 2) := by decide +kernel
theorem dL_would_2 : decode cL_would 2 = .ok (.iconst 0, 1) := by decide +kernel
theorem dL_would_3 : decode cL_would 3 = .ok (.aload_n 0, 1) := by decide +kernel
theorem dL_would_4 : decode cL_would 4 = .ok (.iload_n 1, 1) := by decide +kernel
theorem dL_would_5 : decode cL_would 5 = .ok (.iload_n 2, 1) := by decide +kernel
theorem dL_would_6 : decode cL_would 6 = .ok (.iload_n 3, 1) := by decide +kernel
theorem dL_would_7 : decode cL_would 7 = .ok (.invokevirtual 60, 3) := by decide +kernel
theorem dL_would_10 : decode cL_would 10 = .ok (.i2l, 1) := by decide +kernel
theorem dL_would_11 : decode cL_would 11 = .ok (.lastore, 1) := by decide +kernel
theorem dL_would_12 : decode cL_would 12 = .ok (.goto 11, 3) := by decide +kernel
theorem dL_would_15 : decode cL_would 15 = .ok (.astore 5, 2) := by decide +kernel
theorem dL_would_17 : decode cL_would 17 = .ok (.iconst 1, 1) := by decide +kernel
theorem dL_would_18 : decode cL_would 18 = .ok (.ireturn, 1) := by decide +kernel
theorem dL_would_19 : decode cL_would 19 = .ok (.astore 5, 2) := by decide +kernel
theorem dL_would_21 : decode cL_would 21 = .ok (.iconst 2, 1) := by decide +kernel
theorem dL_would_22 : decode cL_would 22 = .ok (.ireturn, 1) := by decide +kernel
theorem dL_would_23 : decode cL_would 23 = .ok (.iconst 0, 1) := by decide +kernel
theorem dL_would_24 : decode cL_would 24 = .ok (.ireturn, 1) := by decide +kernel
theorem dL_way_0 : decode cL_way 0 = .ok (.aload 4, 2) := by decide +kernel
theorem dL_way_2 : decode cL_way 2 = .ok (.iconst 0, 1) := by decide +kernel
theorem dL_way_3 : decode cL_way 3 = .ok (.aload_n 0, 1) := by decide +kernel
theorem dL_way_4 : decode cL_way 4 = .ok (.iload_n 1, 1) := by decide +kernel
theorem dL_way_5 : decode cL_way 5 = .ok (.iload_n 2, 1) := by decide +kernel
theorem dL_way_6 : decode cL_way 6 = .ok (.iload_n 3, 1) := by decide +kernel
theorem dL_way_7 : decode cL_way 7 = .ok (.invokevirtual 63, 3) := by decide +kernel
theorem dL_way_10 : decode cL_way 10 = .ok (.i2l, 1) := by decide +kernel
theorem dL_way_11 : decode cL_way 11 = .ok (.lastore, 1) := by decide +kernel
theorem dL_way_12 : decode cL_way 12 = .ok (.goto 11, 3) := by decide +kernel
theorem dL_way_15 : decode cL_way 15 = .ok (.astore 5, 2) := by decide +kernel
theorem dL_way_17 : decode cL_way 17 = .ok (.iconst 1, 1) := by decide +kernel
theorem dL_way_18 : decode cL_way 18 = .ok (.ireturn, 1) := by decide +kernel
theorem dL_way_19 : decode cL_way 19 = .ok (.astore 5, 2) := by decide +kernel
theorem dL_way_21 : decode cL_way 21 = .ok (.iconst 2, 1) := by decide +kernel
theorem dL_way_22 : decode cL_way 22 = .ok (.ireturn, 1) := by decide +kernel
theorem dL_way_23 : decode cL_way 23 = .ok (.iconst 0, 1) := by decide +kernel
theorem dL_way_24 : decode cL_way 24 = .ok (.ireturn, 1) := by decide +kernel
theorem dL_ring_0 : decode cL_ring 0 = .ok (.aload_n 3, 1) := by decide +kernel
theorem dL_ring_1 : decode cL_ring 1 = .ok (.iconst 0, 1) := by decide +kernel
theorem dL_ring_2 : decode cL_ring 2 = .ok (.aload_n 0, 1) := by decide +kernel
theorem dL_ring_3 : decode cL_ring 3 = .ok (.iload_n 1, 1) := by decide +kernel
theorem dL_ring_4 : decode cL_ring 4 = .ok (.iload_n 2, 1) := by decide +kernel
theorem dL_ring_5 : decode cL_ring 5 = .ok (.invokevirtual 66, 3) := by decide +kernel
theorem dL_ring_8 : decode cL_ring 8 = .ok (.i2l, 1) := by decide +kernel
theorem dL_ring_9 : decode cL_ring 9 = .ok (.lastore, 1) := by decide +kernel
theorem dL_ring_10 : decode cL_ring 10 = .ok (.goto 11, 3) := by decide +kernel
theorem dL_ring_13 : decode cL_ring 13 = .ok (.astore 4, 2) := by decide +kernel
theorem dL_ring_15 : decode cL_ring 15 = .ok (.iconst 1, 1) := by decide +kernel
theorem dL_ring_16 : decode cL_ring 16 = .ok (.ireturn, 1) := by decide +kernel
theorem dL_ring_17 : decode cL_ring 17 = .ok (.astore 4, 2) := by decide +kernel
theorem dL_ring_19 : decode cL_ring 19 = .ok (.iconst 2, 1) := by decide +kernel
theorem dL_ring_20 : decode cL_ring 20 = .ok (.ireturn, 1) := by decide +kernel
theorem dL_ring_21 : decode cL_ring 21 = .ok (.iconst 0, 1) := by decide +kernel
theorem dL_ring_22 : decode cL_ring 22 = .ok (.ireturn, 1) := by decide +kernel
theorem dL_needs_0 : decode cL_needs 0 = .ok (.aload_n 3, 1) := by decide +kernel
theorem dL_needs_1 : decode cL_needs 1 = .ok (.iconst 0, 1) := by decide +kernel
theorem dL_needs_2 : decode cL_needs 2 = .ok (.aload_n 0, 1) := by decide +kernel
theorem dL_needs_3 : decode cL_needs 3 = .ok (.iload_n 1, 1) := by decide +kernel
theorem dL_needs_4 : decode cL_needs 4 = .ok (.iload_n 2, 1) := by decide +kernel
theorem dL_needs_5 : decode cL_needs 5 = .ok (.invokevirtual 69, 3) := by decide +kernel
theorem dL_needs_8 : decode cL_needs 8 = .ok (.i2l, 1) := by decide +kernel
theorem dL_needs_9 : decode cL_needs 9 = .ok (.lastore, 1) := by decide +kernel
theorem dL_needs_10 : decode cL_needs 10 = .ok (.goto 11, 3) := by decide +kernel
theorem dL_needs_13 : decode cL_needs 13 = .ok (.astore 4, 2) := by decide +kernel
theorem dL_needs_15 : decode cL_needs 15 = .ok (.iconst 1, 1) := by decide +kernel
theorem dL_needs_16 : decode cL_needs 16 = .ok (.ireturn, 1) := by decide +kernel
theorem dL_needs_17 : decode cL_needs 17 = .ok (.astore 4, 2) := by decide +kernel
theorem dL_needs_19 : decode cL_needs 19 = .ok (.iconst 2, 1) := by decide +kernel
theorem dL_needs_20 : decode cL_needs 20 = .ok (.ireturn, 1) := by decide +kernel
theorem dL_needs_21 : decode cL_needs 21 = .ok (.iconst 0, 1) := by decide +kernel
theorem dL_needs_22 : decode cL_needs 22 = .ok (.ireturn, 1) := by decide +kernel
theorem dL_mean_0 : decode cL_mean 0 = .ok (.aload_n 2, 1) := by decide +kernel
theorem dL_mean_1 : decode cL_mean 1 = .ok (.iconst 0, 1) := by decide +kernel
theorem dL_mean_2 : decode cL_mean 2 = .ok (.aload_n 0, 1) := by decide +kernel
theorem dL_mean_3 : decode cL_mean 3 = .ok (.iload_n 1, 1) := by decide +kernel
theorem dL_mean_4 : decode cL_mean 4 = .ok (.invokevirtual 72, 3) := by decide +kernel
theorem dL_mean_7 : decode cL_mean 7 = .ok (.dastore, 1) := by decide +kernel
theorem dL_mean_8 : decode cL_mean 8 = .ok (.goto 6, 3) := by decide +kernel
theorem dL_mean_11 : decode cL_mean 11 = .ok (.astore_n 3, 1) := by decide +kernel
theorem dL_mean_12 : decode cL_mean 12 = .ok (.iconst 1, 1) := by decide +kernel
theorem dL_mean_13 : decode cL_mean 13 = .ok (.ireturn, 1) := by decide +kernel
theorem dL_mean_14 : decode cL_mean 14 = .ok (.iconst 0, 1) := by decide +kernel
theorem dL_mean_15 : decode cL_mean 15 = .ok (.ireturn, 1) := by decide +kernel
theorem dL_law_0 : decode cL_law 0 = .ok (.new 8, 3) := by decide +kernel
theorem dL_law_3 : decode cL_law 3 = .ok (.dup, 1) := by decide +kernel
theorem dL_law_4 : decode cL_law 4 = .ok (.invokespecial 76, 3) := by decide +kernel
theorem dL_law_7 : decode cL_law 7 = .ok (.astore_n 1, 1) := by decide +kernel
theorem dL_law_8 : decode cL_law 8 = .ok (.new 77, 3) := by decide +kernel
theorem dL_law_11 : decode cL_law 11 = .ok (.dup, 1) := by decide +kernel
theorem dL_law_12 : decode cL_law 12 = .ok (.invokespecial 79, 3) := by decide +kernel
theorem dL_law_15 : decode cL_law 15 = .ok (.astore_n 2, 1) := by decide +kernel
theorem dL_law_16 : decode cL_law 16 = .ok (.iconst 1, 1) := by decide +kernel
theorem dL_law_17 : decode cL_law 17 = .ok (.newarray .long, 2) := by decide +kernel
theorem dL_law_19 : decode cL_law 19 = .ok (.astore_n 3, 1) := by decide +kernel
theorem dL_law_20 : decode cL_law 20 = .ok (.iconst 1, 1) := by decide +kernel
theorem dL_law_21 : decode cL_law 21 = .ok (.newarray .double, 2) := by decide +kernel
theorem dL_law_23 : decode cL_law 23 = .ok (.astore 4, 2) := by decide +kernel
theorem dL_law_25 : decode cL_law 25 = .ok (.iconst 0, 1) := by decide +kernel
theorem dL_law_26 : decode cL_law 26 = .ok (.istore 5, 2) := by decide +kernel
theorem dL_law_28 : decode cL_law 28 = .ok (.iload 5, 2) := by decide +kernel
theorem dL_law_30 : decode cL_law 30 = .ok (.aload_n 0, 1) := by decide +kernel
theorem dL_law_31 : decode cL_law 31 = .ok (.arraylength, 1) := by decide +kernel
theorem dL_law_32 : decode cL_law 32 = .ok (.bipush 6, 2) := by decide +kernel
theorem dL_law_34 : decode cL_law 34 = .ok (.isub, 1) := by decide +kernel
theorem dL_law_35 : decode cL_law 35 = .ok (.if_icmp .gt 1419, 3) := by decide +kernel
theorem dL_law_38 : decode cL_law 38 = .ok (.aload_n 0, 1) := by decide +kernel
theorem dL_law_39 : decode cL_law 39 = .ok (.iload 5, 2) := by decide +kernel
theorem dL_law_41 : decode cL_law 41 = .ok (.iaload, 1) := by decide +kernel
theorem dL_law_42 : decode cL_law 42 = .ok (.bipush 31, 2) := by decide +kernel
theorem dL_law_44 : decode cL_law 44 = .ok (.iand, 1) := by decide +kernel
theorem dL_law_45 : decode cL_law 45 = .ok (.tableswitch 1403 0 19 #[95, 175, 231, 299, 367, 380, 424, 504, 596, 700, 756, 824, 892, 960, 1016, 1096, 1176, 1244, 1312, 1389], 95) := by decide +kernel
theorem dL_law_140 : decode cL_law 140 = .ok (.aload_n 1, 1) := by decide +kernel
theorem dL_law_141 : decode cL_law 141 = .ok (.aload_n 0, 1) := by decide +kernel
theorem dL_law_142 : decode cL_law 142 = .ok (.iload 5, 2) := by decide +kernel
theorem dL_law_144 : decode cL_law 144 = .ok (.iconst 1, 1) := by decide +kernel
theorem dL_law_145 : decode cL_law 145 = .ok (.iadd, 1) := by decide +kernel
theorem dL_law_146 : decode cL_law 146 = .ok (.iaload, 1) := by decide +kernel
theorem dL_law_147 : decode cL_law 147 = .ok (.aload_n 0, 1) := by decide +kernel
theorem dL_law_148 : decode cL_law 148 = .ok (.iload 5, 2) := by decide +kernel
theorem dL_law_150 : decode cL_law 150 = .ok (.iconst 2, 1) := by decide +kernel
theorem dL_law_151 : decode cL_law 151 = .ok (.iadd, 1) := by decide +kernel
theorem dL_law_152 : decode cL_law 152 = .ok (.iaload, 1) := by decide +kernel
theorem dL_law_153 : decode cL_law 153 = .ok (.aload_n 0, 1) := by decide +kernel
theorem dL_law_154 : decode cL_law 154 = .ok (.iload 5, 2) := by decide +kernel
theorem dL_law_156 : decode cL_law 156 = .ok (.iconst 3, 1) := by decide +kernel
theorem dL_law_157 : decode cL_law 157 = .ok (.iadd, 1) := by decide +kernel
theorem dL_law_158 : decode cL_law 158 = .ok (.iaload, 1) := by decide +kernel
theorem dL_law_159 : decode cL_law 159 = .ok (.aload_n 3, 1) := by decide +kernel
theorem dL_law_160 : decode cL_law 160 = .ok (.invokestatic 80, 3) := by decide +kernel
theorem dL_law_163 : decode cL_law 163 = .ok (.istore 6, 2) := by decide +kernel
theorem dL_law_165 : decode cL_law 165 = .ok (.aload_n 2, 1) := by decide +kernel
theorem dL_law_166 : decode cL_law 166 = .ok (.aload_n 0, 1) := by decide +kernel
theorem dL_law_167 : decode cL_law 167 = .ok (.iload 5, 2) := by decide +kernel
theorem dL_law_169 : decode cL_law 169 = .ok (.iconst 1, 1) := by decide +kernel
theorem dL_law_170 : decode cL_law 170 = .ok (.iadd, 1) := by decide +kernel
theorem dL_law_171 : decode cL_law 171 = .ok (.iaload, 1) := by decide +kernel
theorem dL_law_172 : decode cL_law 172 = .ok (.aload_n 0, 1) := by decide +kernel
theorem dL_law_173 : decode cL_law 173 = .ok (.iload 5, 2) := by decide +kernel
theorem dL_law_175 : decode cL_law 175 = .ok (.iconst 2, 1) := by decide +kernel
theorem dL_law_176 : decode cL_law 176 = .ok (.iadd, 1) := by decide +kernel
theorem dL_law_177 : decode cL_law 177 = .ok (.iaload, 1) := by decide +kernel
theorem dL_law_178 : decode cL_law 178 = .ok (.aload_n 0, 1) := by decide +kernel
theorem dL_law_179 : decode cL_law 179 = .ok (.iload 5, 2) := by decide +kernel
theorem dL_law_181 : decode cL_law 181 = .ok (.iconst 3, 1) := by decide +kernel
theorem dL_law_182 : decode cL_law 182 = .ok (.iadd, 1) := by decide +kernel
theorem dL_law_183 : decode cL_law 183 = .ok (.iaload, 1) := by decide +kernel
theorem dL_law_184 : decode cL_law 184 = .ok (.invokevirtual 85, 3) := by decide +kernel
theorem dL_law_187 : decode cL_law 187 = .ok (.istore 7, 2) := by decide +kernel
theorem dL_law_189 : decode cL_law 189 = .ok (.aload_n 2, 1) := by decide +kernel
theorem dL_law_190 : decode cL_law 190 = .ok (.invokevirtual 86, 3) := by decide +kernel
theorem dL_law_193 : decode cL_law 193 = .ok (.iload 6, 2) := by decide +kernel
theorem dL_law_195 : decode cL_law 195 = .ok (.if_icmp .eq 5, 3) := by decide +kernel
theorem dL_law_198 : decode cL_law 198 = .ok (.iconst 0, 1) := by decide +kernel
theorem dL_law_199 : decode cL_law 199 = .ok (.ireturn, 1) := by decide +kernel
theorem dL_law_200 : decode cL_law 200 = .ok (.iload 6, 2) := by decide +kernel
theorem dL_law_202 : decode cL_law 202 = .ok (.ifCond .ne 15, 3) := by decide +kernel
theorem dL_law_205 : decode cL_law 205 = .ok (.aload_n 3, 1) := by decide +kernel
theorem dL_law_206 : decode cL_law 206 = .ok (.iconst 0, 1) := by decide +kernel
theorem dL_law_207 : decode cL_law 207 = .ok (.laload, 1) := by decide +kernel
theorem dL_law_208 : decode cL_law 208 = .ok (.iload 7, 2) := by decide +kernel
theorem dL_law_210 : decode cL_law 210 = .ok (.i2l, 1) := by decide +kernel
theorem dL_law_211 : decode cL_law 211 = .ok (.lcmp, 1) := by decide +kernel
theorem dL_law_212 : decode cL_law 212 = .ok (.ifCond .eq 5, 3) := by decide +kernel
theorem dL_law_215 : decode cL_law 215 = .ok (.iconst 0, 1) := by decide +kernel
theorem dL_law_216 : decode cL_law 216 = .ok (.ireturn, 1) := by decide +kernel
theorem dL_law_217 : decode cL_law 217 = .ok (.goto 1231, 3) := by decide +kernel
theorem dL_law_220 : decode cL_law 220 = .ok (.aload_n 1, 1) := by decide +kernel
theorem dL_law_221 : decode cL_law 221 = .ok (.aload_n 0, 1) := by decide +kernel
theorem dL_law_222 : decode cL_law 222 = .ok (.iload 5, 2) := by decide +kernel
theorem dL_law_224 : decode cL_law 224 = .ok (.iconst 1, 1) := by decide +kernel
theorem dL_law_225 : decode cL_law 225 = .ok (.iadd, 1) := by decide +kernel
theorem dL_law_226 : decode cL_law 226 = .ok (.iaload, 1) := by decide +kernel
theorem dL_law_227 : decode cL_law 227 = .ok (.aload_n 3, 1) := by decide +kernel
theorem dL_law_228 : decode cL_law 228 = .ok (.invokestatic 89, 3) := by decide +kernel
theorem dL_law_231 : decode cL_law 231 = .ok (.istore 6, 2) := by decide +kernel
theorem dL_law_233 : decode cL_law 233 = .ok (.aload_n 2, 1) := by decide +kernel
theorem dL_law_234 : decode cL_law 234 = .ok (.aload_n 0, 1) := by decide +kernel
theorem dL_law_235 : decode cL_law 235 = .ok (.iload 5, 2) := by decide +kernel
theorem dL_law_237 : decode cL_law 237 = .ok (.iconst 1, 1) := by decide +kernel
theorem dL_law_238 : decode cL_law 238 = .ok (.iadd, 1) := by decide +kernel
theorem dL_law_239 : decode cL_law 239 = .ok (.iaload, 1) := by decide +kernel
theorem dL_law_240 : decode cL_law 240 = .ok (.invokevirtual 92, 3) := by decide +kernel
theorem dL_law_243 : decode cL_law 243 = .ok (.istore 7, 2) := by decide +kernel
theorem dL_law_245 : decode cL_law 245 = .ok (.aload_n 2, 1) := by decide +kernel
theorem dL_law_246 : decode cL_law 246 = .ok (.invokevirtual 86, 3) := by decide +kernel
theorem dL_law_249 : decode cL_law 249 = .ok (.iload 6, 2) := by decide +kernel
theorem dL_law_251 : decode cL_law 251 = .ok (.if_icmp .eq 5, 3) := by decide +kernel
theorem dL_law_254 : decode cL_law 254 = .ok (.iconst 0, 1) := by decide +kernel
theorem dL_law_255 : decode cL_law 255 = .ok (.ireturn, 1) := by decide +kernel
theorem dL_law_256 : decode cL_law 256 = .ok (.iload 6, 2) := by decide +kernel
theorem dL_law_258 : decode cL_law 258 = .ok (.ifCond .ne 15, 3) := by decide +kernel
theorem dL_law_261 : decode cL_law 261 = .ok (.aload_n 3, 1) := by decide +kernel
theorem dL_law_262 : decode cL_law 262 = .ok (.iconst 0, 1) := by decide +kernel
theorem dL_law_263 : decode cL_law 263 = .ok (.laload, 1) := by decide +kernel
theorem dL_law_264 : decode cL_law 264 = .ok (.iload 7, 2) := by decide +kernel
theorem dL_law_266 : decode cL_law 266 = .ok (.i2l, 1) := by decide +kernel
theorem dL_law_267 : decode cL_law 267 = .ok (.lcmp, 1) := by decide +kernel
theorem dL_law_268 : decode cL_law 268 = .ok (.ifCond .eq 5, 3) := by decide +kernel
theorem dL_law_271 : decode cL_law 271 = .ok (.iconst 0, 1) := by decide +kernel
theorem dL_law_272 : decode cL_law 272 = .ok (.ireturn, 1) := by decide +kernel
theorem dL_law_273 : decode cL_law 273 = .ok (.goto 1175, 3) := by decide +kernel
theorem dL_law_276 : decode cL_law 276 = .ok (.aload_n 1, 1) := by decide +kernel
theorem dL_law_277 : decode cL_law 277 = .ok (.aload_n 0, 1) := by decide +kernel
theorem dL_law_278 : decode cL_law 278 = .ok (.iload 5, 2) := by decide +kernel
theorem dL_law_280 : decode cL_law 280 = .ok (.iconst 1, 1) := by decide +kernel
theorem dL_law_281 : decode cL_law 281 = .ok (.iadd, 1) := by decide +kernel
theorem dL_law_282 : decode cL_law 282 = .ok (.iaload, 1) := by decide +kernel
theorem dL_law_283 : decode cL_law 283 = .ok (.aload_n 0, 1) := by decide +kernel
theorem dL_law_284 : decode cL_law 284 = .ok (.iload 5, 2) := by decide +kernel
theorem dL_law_286 : decode cL_law 286 = .ok (.iconst 2, 1) := by decide +kernel
theorem dL_law_287 : decode cL_law 287 = .ok (.iadd, 1) := by decide +kernel
theorem dL_law_288 : decode cL_law 288 = .ok (.iaload, 1) := by decide +kernel
theorem dL_law_289 : decode cL_law 289 = .ok (.aload_n 3, 1) := by decide +kernel
theorem dL_law_290 : decode cL_law 290 = .ok (.invokestatic 93, 3) := by decide +kernel
theorem dL_law_293 : decode cL_law 293 = .ok (.istore 6, 2) := by decide +kernel
theorem dL_law_295 : decode cL_law 295 = .ok (.aload_n 2, 1) := by decide +kernel
theorem dL_law_296 : decode cL_law 296 = .ok (.aload_n 0, 1) := by decide +kernel
theorem dL_law_297 : decode cL_law 297 = .ok (.iload 5, 2) := by decide +kernel
theorem dL_law_299 : decode cL_law 299 = .ok (.iconst 1, 1) := by decide +kernel
theorem dL_law_300 : decode cL_law 300 = .ok (.iadd, 1) := by decide +kernel
theorem dL_law_301 : decode cL_law 301 = .ok (.iaload, 1) := by decide +kernel
theorem dL_law_302 : decode cL_law 302 = .ok (.aload_n 0, 1) := by decide +kernel
theorem dL_law_303 : decode cL_law 303 = .ok (.iload 5, 2) := by decide +kernel
theorem dL_law_305 : decode cL_law 305 = .ok (.iconst 2, 1) := by decide +kernel
theorem dL_law_306 : decode cL_law 306 = .ok (.iadd, 1) := by decide +kernel
theorem dL_law_307 : decode cL_law 307 = .ok (.iaload, 1) := by decide +kernel
theorem dL_law_308 : decode cL_law 308 = .ok (.invokevirtual 96, 3) := by decide +kernel
theorem dL_law_311 : decode cL_law 311 = .ok (.istore 7, 2) := by decide +kernel
theorem dL_law_313 : decode cL_law 313 = .ok (.aload_n 2, 1) := by decide +kernel
theorem dL_law_314 : decode cL_law 314 = .ok (.invokevirtual 86, 3) := by decide +kernel
theorem dL_law_317 : decode cL_law 317 = .ok (.iload 6, 2) := by decide +kernel
theorem dL_law_319 : decode cL_law 319 = .ok (.if_icmp .eq 5, 3) := by decide +kernel
theorem dL_law_322 : decode cL_law 322 = .ok (.iconst 0, 1) := by decide +kernel
theorem dL_law_323 : decode cL_law 323 = .ok (.ireturn, 1) := by decide +kernel
theorem dL_law_324 : decode cL_law 324 = .ok (.iload 6, 2) := by decide +kernel
theorem dL_law_326 : decode cL_law 326 = .ok (.ifCond .ne 15, 3) := by decide +kernel
theorem dL_law_329 : decode cL_law 329 = .ok (.aload_n 3, 1) := by decide +kernel
theorem dL_law_330 : decode cL_law 330 = .ok (.iconst 0, 1) := by decide +kernel
theorem dL_law_331 : decode cL_law 331 = .ok (.laload, 1) := by decide +kernel
theorem dL_law_332 : decode cL_law 332 = .ok (.iload 7, 2) := by decide +kernel
theorem dL_law_334 : decode cL_law 334 = .ok (.i2l, 1) := by decide +kernel
theorem dL_law_335 : decode cL_law 335 = .ok (.lcmp, 1) := by decide +kernel
theorem dL_law_336 : decode cL_law 336 = .ok (.ifCond .eq 5, 3) := by decide +kernel
theorem dL_law_339 : decode cL_law 339 = .ok (.iconst 0, 1) := by decide +kernel
theorem dL_law_340 : decode cL_law 340 = .ok (.ireturn, 1) := by decide +kernel
theorem dL_law_341 : decode cL_law 341 = .ok (.goto 1107, 3) := by decide +kernel
theorem dL_law_344 : decode cL_law 344 = .ok (.aload_n 1, 1) := by decide +kernel
theorem dL_law_345 : decode cL_law 345 = .ok (.aload_n 0, 1) := by decide +kernel
theorem dL_law_346 : decode cL_law 346 = .ok (.iload 5, 2) := by decide +kernel
theorem dL_law_348 : decode cL_law 348 = .ok (.iconst 1, 1) := by decide +kernel
theorem dL_law_349 : decode cL_law 349 = .ok (.iadd, 1) := by decide +kernel
theorem dL_law_350 : decode cL_law 350 = .ok (.iaload, 1) := by decide +kernel
theorem dL_law_351 : decode cL_law 351 = .ok (.aload_n 0, 1) := by decide +kernel
theorem dL_law_352 : decode cL_law 352 = .ok (.iload 5, 2) := by decide +kernel
theorem dL_law_354 : decode cL_law 354 = .ok (.iconst 2, 1) := by decide +kernel
theorem dL_law_355 : decode cL_law 355 = .ok (.iadd, 1) := by decide +kernel
theorem dL_law_356 : decode cL_law 356 = .ok (.iaload, 1) := by decide +kernel
theorem dL_law_357 : decode cL_law 357 = .ok (.aload_n 3, 1) := by decide +kernel
theorem dL_law_358 : decode cL_law 358 = .ok (.invokestatic 97, 3) := by decide +kernel
theorem dL_law_361 : decode cL_law 361 = .ok (.istore 6, 2) := by decide +kernel
theorem dL_law_363 : decode cL_law 363 = .ok (.aload_n 2, 1) := by decide +kernel
theorem dL_law_364 : decode cL_law 364 = .ok (.aload_n 0, 1) := by decide +kernel
theorem dL_law_365 : decode cL_law 365 = .ok (.iload 5, 2) := by decide +kernel
theorem dL_law_367 : decode cL_law 367 = .ok (.iconst 1, 1) := by decide +kernel
theorem dL_law_368 : decode cL_law 368 = .ok (.iadd, 1) := by decide +kernel
theorem dL_law_369 : decode cL_law 369 = .ok (.iaload, 1) := by decide +kernel
theorem dL_law_370 : decode cL_law 370 = .ok (.aload_n 0, 1) := by decide +kernel
theorem dL_law_371 : decode cL_law 371 = .ok (.iload 5, 2) := by decide +kernel
theorem dL_law_373 : decode cL_law 373 = .ok (.iconst 2, 1) := by decide +kernel
theorem dL_law_374 : decode cL_law 374 = .ok (.iadd, 1) := by decide +kernel
theorem dL_law_375 : decode cL_law 375 = .ok (.iaload, 1) := by decide +kernel
theorem dL_law_376 : decode cL_law 376 = .ok (.invokevirtual 99, 3) := by decide +kernel
theorem dL_law_379 : decode cL_law 379 = .ok (.istore 7, 2) := by decide +kernel
theorem dL_law_381 : decode cL_law 381 = .ok (.aload_n 2, 1) := by decide +kernel
theorem dL_law_382 : decode cL_law 382 = .ok (.invokevirtual 86, 3) := by decide +kernel
theorem dL_law_385 : decode cL_law 385 = .ok (.iload 6, 2) := by decide +kernel
theorem dL_law_387 : decode cL_law 387 = .ok (.if_icmp .eq 5, 3) := by decide +kernel
theorem dL_law_390 : decode cL_law 390 = .ok (.iconst 0, 1) := by decide +kernel
theorem dL_law_391 : decode cL_law 391 = .ok (.ireturn, 1) := by decide +kernel
theorem dL_law_392 : decode cL_law 392 = .ok (.iload 6, 2) := by decide +kernel
theorem dL_law_394 : decode cL_law 394 = .ok (.ifCond .ne 15, 3) := by decide +kernel
theorem dL_law_397 : decode cL_law 397 = .ok (.aload_n 3, 1) := by decide +kernel
theorem dL_law_398 : decode cL_law 398 = .ok (.iconst 0, 1) := by decide +kernel
theorem dL_law_399 : decode cL_law 399 = .ok (.laload, 1) := by decide +kernel
theorem dL_law_400 : decode cL_law 400 = .ok (.iload 7, 2) := by decide +kernel
theorem dL_law_402 : decode cL_law 402 = .ok (.i2l, 1) := by decide +kernel
theorem dL_law_403 : decode cL_law 403 = .ok (.lcmp, 1) := by decide +kernel
theorem dL_law_404 : decode cL_law 404 = .ok (.ifCond .eq 5, 3) := by decide +kernel
theorem dL_law_407 : decode cL_law 407 = .ok (.iconst 0, 1) := by decide +kernel
theorem dL_law_408 : decode cL_law 408 = .ok (.ireturn, 1) := by decide +kernel
theorem dL_law_409 : decode cL_law 409 = .ok (.goto 1039, 3) := by decide +kernel
theorem dL_law_412 : decode cL_law 412 = .ok (.aload_n 1, 1) := by decide +kernel
theorem dL_law_413 : decode cL_law 413 = .ok (.invokevirtual 100, 3) := by decide +kernel
theorem dL_law_416 : decode cL_law 416 = .ok (.aload_n 2, 1) := by decide +kernel
theorem dL_law_417 : decode cL_law 417 = .ok (.invokevirtual 103, 3) := by decide +kernel
theorem dL_law_420 : decode cL_law 420 = .ok (.if_icmp .eq 1028, 3) := by decide +kernel
theorem dL_law_423 : decode cL_law 423 = .ok (.iconst 0, 1) := by decide +kernel
theorem dL_law_424 : decode cL_law 424 = .ok (.ireturn, 1) := by decide +kernel
theorem dL_law_425 : decode cL_law 425 = .ok (.aload_n 1, 1) := by decide +kernel
theorem dL_law_426 : decode cL_law 426 = .ok (.aload_n 3, 1) := by decide +kernel
theorem dL_law_427 : decode cL_law 427 = .ok (.invokestatic 104, 3) := by decide +kernel
theorem dL_law_430 : decode cL_law 430 = .ok (.istore 6, 2) := by decide +kernel
theorem dL_law_432 : decode cL_law 432 = .ok (.aload_n 2, 1) := by decide +kernel
theorem dL_law_433 : decode cL_law 433 = .ok (.invokevirtual 107, 3) := by decide +kernel
theorem dL_law_436 : decode cL_law 436 = .ok (.istore 7, 2) := by decide +kernel
theorem dL_law_438 : decode cL_law 438 = .ok (.aload_n 2, 1) := by decide +kernel
theorem dL_law_439 : decode cL_law 439 = .ok (.invokevirtual 86, 3) := by decide +kernel
theorem dL_law_442 : decode cL_law 442 = .ok (.iload 6, 2) := by decide +kernel
theorem dL_law_444 : decode cL_law 444 = .ok (.if_icmp .eq 5, 3) := by decide +kernel
theorem dL_law_447 : decode cL_law 447 = .ok (.iconst 0, 1) := by decide +kernel
theorem dL_law_448 : decode cL_law 448 = .ok (.ireturn, 1) := by decide +kernel
theorem dL_law_449 : decode cL_law 449 = .ok (.iload 6, 2) := by decide +kernel
theorem dL_law_451 : decode cL_law 451 = .ok (.ifCond .ne 15, 3) := by decide +kernel
theorem dL_law_454 : decode cL_law 454 = .ok (.aload_n 3, 1) := by decide +kernel
theorem dL_law_455 : decode cL_law 455 = .ok (.iconst 0, 1) := by decide +kernel
theorem dL_law_456 : decode cL_law 456 = .ok (.laload, 1) := by decide +kernel
theorem dL_law_457 : decode cL_law 457 = .ok (.iload 7, 2) := by decide +kernel
theorem dL_law_459 : decode cL_law 459 = .ok (.i2l, 1) := by decide +kernel
theorem dL_law_460 : decode cL_law 460 = .ok (.lcmp, 1) := by decide +kernel
theorem dL_law_461 : decode cL_law 461 = .ok (.ifCond .eq 5, 3) := by decide +kernel
theorem dL_law_464 : decode cL_law 464 = .ok (.iconst 0, 1) := by decide +kernel
theorem dL_law_465 : decode cL_law 465 = .ok (.ireturn, 1) := by decide +kernel
theorem dL_law_466 : decode cL_law 466 = .ok (.goto 982, 3) := by decide +kernel
theorem dL_law_469 : decode cL_law 469 = .ok (.aload_n 1, 1) := by decide +kernel
theorem dL_law_470 : decode cL_law 470 = .ok (.aload_n 0, 1) := by decide +kernel
theorem dL_law_471 : decode cL_law 471 = .ok (.iload 5, 2) := by decide +kernel
theorem dL_law_473 : decode cL_law 473 = .ok (.iconst 1, 1) := by decide +kernel
theorem dL_law_474 : decode cL_law 474 = .ok (.iadd, 1) := by decide +kernel
theorem dL_law_475 : decode cL_law 475 = .ok (.iaload, 1) := by decide +kernel
theorem dL_law_476 : decode cL_law 476 = .ok (.aload_n 0, 1) := by decide +kernel
theorem dL_law_477 : decode cL_law 477 = .ok (.iload 5, 2) := by decide +kernel
theorem dL_law_479 : decode cL_law 479 = .ok (.iconst 2, 1) := by decide +kernel
theorem dL_law_480 : decode cL_law 480 = .ok (.iadd, 1) := by decide +kernel
theorem dL_law_481 : decode cL_law 481 = .ok (.iaload, 1) := by decide +kernel
theorem dL_law_482 : decode cL_law 482 = .ok (.aload_n 0, 1) := by decide +kernel
theorem dL_law_483 : decode cL_law 483 = .ok (.iload 5, 2) := by decide +kernel
theorem dL_law_485 : decode cL_law 485 = .ok (.iconst 3, 1) := by decide +kernel
theorem dL_law_486 : decode cL_law 486 = .ok (.iadd, 1) := by decide +kernel
theorem dL_law_487 : decode cL_law 487 = .ok (.iaload, 1) := by decide +kernel
theorem dL_law_488 : decode cL_law 488 = .ok (.aload_n 3, 1) := by decide +kernel
theorem dL_law_489 : decode cL_law 489 = .ok (.invokestatic 108, 3) := by decide +kernel
theorem dL_law_492 : decode cL_law 492 = .ok (.istore 6, 2) := by decide +kernel
theorem dL_law_494 : decode cL_law 494 = .ok (.aload_n 2, 1) := by decide +kernel
theorem dL_law_495 : decode cL_law 495 = .ok (.aload_n 0, 1) := by decide +kernel
theorem dL_law_496 : decode cL_law 496 = .ok (.iload 5, 2) := by decide +kernel
theorem dL_law_498 : decode cL_law 498 = .ok (.iconst 1, 1) := by decide +kernel
theorem dL_law_499 : decode cL_law 499 = .ok (.iadd, 1) := by decide +kernel
theorem dL_law_500 : decode cL_law 500 = .ok (.iaload, 1) := by decide +kernel
theorem dL_law_501 : decode cL_law 501 = .ok (.aload_n 0, 1) := by decide +kernel
theorem dL_law_502 : decode cL_law 502 = .ok (.iload 5, 2) := by decide +kernel
theorem dL_law_504 : decode cL_law 504 = .ok (.iconst 2, 1) := by decide +kernel
theorem dL_law_505 : decode cL_law 505 = .ok (.iadd, 1) := by decide +kernel
theorem dL_law_506 : decode cL_law 506 = .ok (.iaload, 1) := by decide +kernel
theorem dL_law_507 : decode cL_law 507 = .ok (.aload_n 0, 1) := by decide +kernel
theorem dL_law_508 : decode cL_law 508 = .ok (.iload 5, 2) := by decide +kernel
theorem dL_law_510 : decode cL_law 510 = .ok (.iconst 3, 1) := by decide +kernel
theorem dL_law_511 : decode cL_law 511 = .ok (.iadd, 1) := by decide +kernel
theorem dL_law_512 : decode cL_law 512 = .ok (.iaload, 1) := by decide +kernel
theorem dL_law_513 : decode cL_law 513 = .ok (.invokevirtual 110, 3) := by decide +kernel
theorem dL_law_516 : decode cL_law 516 = .ok (.istore 7, 2) := by decide +kernel
theorem dL_law_518 : decode cL_law 518 = .ok (.aload_n 2, 1) := by decide +kernel
theorem dL_law_519 : decode cL_law 519 = .ok (.invokevirtual 86, 3) := by decide +kernel
theorem dL_law_522 : decode cL_law 522 = .ok (.iload 6, 2) := by decide +kernel
theorem dL_law_524 : decode cL_law 524 = .ok (.if_icmp .eq 5, 3) := by decide +kernel
theorem dL_law_527 : decode cL_law 527 = .ok (.iconst 0, 1) := by decide +kernel
theorem dL_law_528 : decode cL_law 528 = .ok (.ireturn, 1) := by decide +kernel
theorem dL_law_529 : decode cL_law 529 = .ok (.iload 6, 2) := by decide +kernel
theorem dL_law_531 : decode cL_law 531 = .ok (.ifCond .ne 15, 3) := by decide +kernel
theorem dL_law_534 : decode cL_law 534 = .ok (.aload_n 3, 1) := by decide +kernel
theorem dL_law_535 : decode cL_law 535 = .ok (.iconst 0, 1) := by decide +kernel
theorem dL_law_536 : decode cL_law 536 = .ok (.laload, 1) := by decide +kernel
theorem dL_law_537 : decode cL_law 537 = .ok (.iload 7, 2) := by decide +kernel
theorem dL_law_539 : decode cL_law 539 = .ok (.i2l, 1) := by decide +kernel
theorem dL_law_540 : decode cL_law 540 = .ok (.lcmp, 1) := by decide +kernel
theorem dL_law_541 : decode cL_law 541 = .ok (.ifCond .eq 5, 3) := by decide +kernel
theorem dL_law_544 : decode cL_law 544 = .ok (.iconst 0, 1) := by decide +kernel
theorem dL_law_545 : decode cL_law 545 = .ok (.ireturn, 1) := by decide +kernel
theorem dL_law_546 : decode cL_law 546 = .ok (.goto 902, 3) := by decide +kernel
theorem dL_law_549 : decode cL_law 549 = .ok (.aload_n 1, 1) := by decide +kernel
theorem dL_law_550 : decode cL_law 550 = .ok (.aload_n 0, 1) := by decide +kernel
theorem dL_law_551 : decode cL_law 551 = .ok (.iload 5, 2) := by decide +kernel
theorem dL_law_553 : decode cL_law 553 = .ok (.iconst 1, 1) := by decide +kernel
theorem dL_law_554 : decode cL_law 554 = .ok (.iadd, 1) := by decide +kernel
theorem dL_law_555 : decode cL_law 555 = .ok (.iaload, 1) := by decide +kernel
theorem dL_law_556 : decode cL_law 556 = .ok (.aload_n 0, 1) := by decide +kernel
theorem dL_law_557 : decode cL_law 557 = .ok (.iload 5, 2) := by decide +kernel
theorem dL_law_559 : decode cL_law 559 = .ok (.iconst 2, 1) := by decide +kernel
theorem dL_law_560 : decode cL_law 560 = .ok (.iadd, 1) := by decide +kernel
theorem dL_law_561 : decode cL_law 561 = .ok (.iaload, 1) := by decide +kernel
theorem dL_law_562 : decode cL_law 562 = .ok (.aload_n 0, 1) := by decide +kernel
theorem dL_law_563 : decode cL_law 563 = .ok (.iload 5, 2) := by decide +kernel
theorem dL_law_565 : decode cL_law 565 = .ok (.iconst 3, 1) := by decide +kernel
theorem dL_law_566 : decode cL_law 566 = .ok (.iadd, 1) := by decide +kernel
theorem dL_law_567 : decode cL_law 567 = .ok (.iaload, 1) := by decide +kernel
theorem dL_law_568 : decode cL_law 568 = .ok (.aload_n 0, 1) := by decide +kernel
theorem dL_law_569 : decode cL_law 569 = .ok (.iload 5, 2) := by decide +kernel
theorem dL_law_571 : decode cL_law 571 = .ok (.iconst 4, 1) := by decide +kernel
theorem dL_law_572 : decode cL_law 572 = .ok (.iadd, 1) := by decide +kernel
theorem dL_law_573 : decode cL_law 573 = .ok (.iaload, 1) := by decide +kernel
theorem dL_law_574 : decode cL_law 574 = .ok (.aload_n 3, 1) := by decide +kernel
theorem dL_law_575 : decode cL_law 575 = .ok (.invokestatic 111, 3) := by decide +kernel
theorem dL_law_578 : decode cL_law 578 = .ok (.istore 6, 2) := by decide +kernel
theorem dL_law_580 : decode cL_law 580 = .ok (.aload_n 2, 1) := by decide +kernel
theorem dL_law_581 : decode cL_law 581 = .ok (.aload_n 0, 1) := by decide +kernel
theorem dL_law_582 : decode cL_law 582 = .ok (.iload 5, 2) := by decide +kernel
theorem dL_law_584 : decode cL_law 584 = .ok (.iconst 1, 1) := by decide +kernel
theorem dL_law_585 : decode cL_law 585 = .ok (.iadd, 1) := by decide +kernel
theorem dL_law_586 : decode cL_law 586 = .ok (.iaload, 1) := by decide +kernel
theorem dL_law_587 : decode cL_law 587 = .ok (.aload_n 0, 1) := by decide +kernel
theorem dL_law_588 : decode cL_law 588 = .ok (.iload 5, 2) := by decide +kernel
theorem dL_law_590 : decode cL_law 590 = .ok (.iconst 2, 1) := by decide +kernel
theorem dL_law_591 : decode cL_law 591 = .ok (.iadd, 1) := by decide +kernel
theorem dL_law_592 : decode cL_law 592 = .ok (.iaload, 1) := by decide +kernel
theorem dL_law_593 : decode cL_law 593 = .ok (.aload_n 0, 1) := by decide +kernel
theorem dL_law_594 : decode cL_law 594 = .ok (.iload 5, 2) := by decide +kernel
theorem dL_law_596 : decode cL_law 596 = .ok (.iconst 3, 1) := by decide +kernel
theorem dL_law_597 : decode cL_law 597 = .ok (.iadd, 1) := by decide +kernel
theorem dL_law_598 : decode cL_law 598 = .ok (.iaload, 1) := by decide +kernel
theorem dL_law_599 : decode cL_law 599 = .ok (.aload_n 0, 1) := by decide +kernel
theorem dL_law_600 : decode cL_law 600 = .ok (.iload 5, 2) := by decide +kernel
theorem dL_law_602 : decode cL_law 602 = .ok (.iconst 4, 1) := by decide +kernel
theorem dL_law_603 : decode cL_law 603 = .ok (.iadd, 1) := by decide +kernel
theorem dL_law_604 : decode cL_law 604 = .ok (.iaload, 1) := by decide +kernel
theorem dL_law_605 : decode cL_law 605 = .ok (.invokevirtual 114, 3) := by decide +kernel
theorem dL_law_608 : decode cL_law 608 = .ok (.istore 7, 2) := by decide +kernel
theorem dL_law_610 : decode cL_law 610 = .ok (.aload_n 2, 1) := by decide +kernel
theorem dL_law_611 : decode cL_law 611 = .ok (.invokevirtual 86, 3) := by decide +kernel
theorem dL_law_614 : decode cL_law 614 = .ok (.iload 6, 2) := by decide +kernel
theorem dL_law_616 : decode cL_law 616 = .ok (.if_icmp .eq 5, 3) := by decide +kernel
theorem dL_law_619 : decode cL_law 619 = .ok (.iconst 0, 1) := by decide +kernel
theorem dL_law_620 : decode cL_law 620 = .ok (.ireturn, 1) := by decide +kernel
theorem dL_law_621 : decode cL_law 621 = .ok (.iload 6, 2) := by decide +kernel
theorem dL_law_623 : decode cL_law 623 = .ok (.ifCond .ne 15, 3) := by decide +kernel
theorem dL_law_626 : decode cL_law 626 = .ok (.aload_n 3, 1) := by decide +kernel
theorem dL_law_627 : decode cL_law 627 = .ok (.iconst 0, 1) := by decide +kernel
theorem dL_law_628 : decode cL_law 628 = .ok (.laload, 1) := by decide +kernel
theorem dL_law_629 : decode cL_law 629 = .ok (.iload 7, 2) := by decide +kernel
theorem dL_law_631 : decode cL_law 631 = .ok (.i2l, 1) := by decide +kernel
theorem dL_law_632 : decode cL_law 632 = .ok (.lcmp, 1) := by decide +kernel
theorem dL_law_633 : decode cL_law 633 = .ok (.ifCond .eq 5, 3) := by decide +kernel
theorem dL_law_636 : decode cL_law 636 = .ok (.iconst 0, 1) := by decide +kernel
theorem dL_law_637 : decode cL_law 637 = .ok (.ireturn, 1) := by decide +kernel
theorem dL_law_638 : decode cL_law 638 = .ok (.goto 810, 3) := by decide +kernel
theorem dL_law_641 : decode cL_law 641 = .ok (.aload_n 1, 1) := by decide +kernel
theorem dL_law_642 : decode cL_law 642 = .ok (.aload_n 0, 1) := by decide +kernel
theorem dL_law_643 : decode cL_law 643 = .ok (.iload 5, 2) := by decide +kernel
theorem dL_law_645 : decode cL_law 645 = .ok (.iconst 1, 1) := by decide +kernel
theorem dL_law_646 : decode cL_law 646 = .ok (.iadd, 1) := by decide +kernel
theorem dL_law_647 : decode cL_law 647 = .ok (.iaload, 1) := by decide +kernel
theorem dL_law_648 : decode cL_law 648 = .ok (.aload_n 0, 1) := by decide +kernel
theorem dL_law_649 : decode cL_law 649 = .ok (.iload 5, 2) := by decide +kernel
theorem dL_law_651 : decode cL_law 651 = .ok (.iconst 2, 1) := by decide +kernel
theorem dL_law_652 : decode cL_law 652 = .ok (.iadd, 1) := by decide +kernel
theorem dL_law_653 : decode cL_law 653 = .ok (.iaload, 1) := by decide +kernel
theorem dL_law_654 : decode cL_law 654 = .ok (.aload_n 0, 1) := by decide +kernel
theorem dL_law_655 : decode cL_law 655 = .ok (.iload 5, 2) := by decide +kernel
theorem dL_law_657 : decode cL_law 657 = .ok (.iconst 3, 1) := by decide +kernel
theorem dL_law_658 : decode cL_law 658 = .ok (.iadd, 1) := by decide +kernel
theorem dL_law_659 : decode cL_law 659 = .ok (.iaload, 1) := by decide +kernel
theorem dL_law_660 : decode cL_law 660 = .ok (.aload_n 0, 1) := by decide +kernel
theorem dL_law_661 : decode cL_law 661 = .ok (.iload 5, 2) := by decide +kernel
theorem dL_law_663 : decode cL_law 663 = .ok (.iconst 4, 1) := by decide +kernel
theorem dL_law_664 : decode cL_law 664 = .ok (.iadd, 1) := by decide +kernel
theorem dL_law_665 : decode cL_law 665 = .ok (.iaload, 1) := by decide +kernel
theorem dL_law_666 : decode cL_law 666 = .ok (.aload_n 0, 1) := by decide +kernel
theorem dL_law_667 : decode cL_law 667 = .ok (.iload 5, 2) := by decide +kernel
theorem dL_law_669 : decode cL_law 669 = .ok (.iconst 5, 1) := by decide +kernel
theorem dL_law_670 : decode cL_law 670 = .ok (.iadd, 1) := by decide +kernel
theorem dL_law_671 : decode cL_law 671 = .ok (.iaload, 1) := by decide +kernel
theorem dL_law_672 : decode cL_law 672 = .ok (.aload_n 3, 1) := by decide +kernel
theorem dL_law_673 : decode cL_law 673 = .ok (.invokestatic 115, 3) := by decide +kernel
theorem dL_law_676 : decode cL_law 676 = .ok (.istore 6, 2) := by decide +kernel
theorem dL_law_678 : decode cL_law 678 = .ok (.aload_n 2, 1) := by decide +kernel
theorem dL_law_679 : decode cL_law 679 = .ok (.aload_n 0, 1) := by decide +kernel
theorem dL_law_680 : decode cL_law 680 = .ok (.iload 5, 2) := by decide +kernel
theorem dL_law_682 : decode cL_law 682 = .ok (.iconst 1, 1) := by decide +kernel
theorem dL_law_683 : decode cL_law 683 = .ok (.iadd, 1) := by decide +kernel
theorem dL_law_684 : decode cL_law 684 = .ok (.iaload, 1) := by decide +kernel
theorem dL_law_685 : decode cL_law 685 = .ok (.aload_n 0, 1) := by decide +kernel
theorem dL_law_686 : decode cL_law 686 = .ok (.iload 5, 2) := by decide +kernel
theorem dL_law_688 : decode cL_law 688 = .ok (.iconst 2, 1) := by decide +kernel
theorem dL_law_689 : decode cL_law 689 = .ok (.iadd, 1) := by decide +kernel
theorem dL_law_690 : decode cL_law 690 = .ok (.iaload, 1) := by decide +kernel
theorem dL_law_691 : decode cL_law 691 = .ok (.aload_n 0, 1) := by decide +kernel
theorem dL_law_692 : decode cL_law 692 = .ok (.iload 5, 2) := by decide +kernel
theorem dL_law_694 : decode cL_law 694 = .ok (.iconst 3, 1) := by decide +kernel
theorem dL_law_695 : decode cL_law 695 = .ok (.iadd, 1) := by decide +kernel
theorem dL_law_696 : decode cL_law 696 = .ok (.iaload, 1) := by decide +kernel
theorem dL_law_697 : decode cL_law 697 = .ok (.aload_n 0, 1) := by decide +kernel
theorem dL_law_698 : decode cL_law 698 = .ok (.iload 5, 2) := by decide +kernel
theorem dL_law_700 : decode cL_law 700 = .ok (.iconst 4, 1) := by decide +kernel
theorem dL_law_701 : decode cL_law 701 = .ok (.iadd, 1) := by decide +kernel
theorem dL_law_702 : decode cL_law 702 = .ok (.iaload, 1) := by decide +kernel
theorem dL_law_703 : decode cL_law 703 = .ok (.aload_n 0, 1) := by decide +kernel
theorem dL_law_704 : decode cL_law 704 = .ok (.iload 5, 2) := by decide +kernel
theorem dL_law_706 : decode cL_law 706 = .ok (.iconst 5, 1) := by decide +kernel
theorem dL_law_707 : decode cL_law 707 = .ok (.iadd, 1) := by decide +kernel
theorem dL_law_708 : decode cL_law 708 = .ok (.iaload, 1) := by decide +kernel
theorem dL_law_709 : decode cL_law 709 = .ok (.invokevirtual 118, 3) := by decide +kernel
theorem dL_law_712 : decode cL_law 712 = .ok (.istore 7, 2) := by decide +kernel
theorem dL_law_714 : decode cL_law 714 = .ok (.aload_n 2, 1) := by decide +kernel
theorem dL_law_715 : decode cL_law 715 = .ok (.invokevirtual 86, 3) := by decide +kernel
theorem dL_law_718 : decode cL_law 718 = .ok (.iload 6, 2) := by decide +kernel
theorem dL_law_720 : decode cL_law 720 = .ok (.if_icmp .eq 5, 3) := by decide +kernel
theorem dL_law_723 : decode cL_law 723 = .ok (.iconst 0, 1) := by decide +kernel
theorem dL_law_724 : decode cL_law 724 = .ok (.ireturn, 1) := by decide +kernel
theorem dL_law_725 : decode cL_law 725 = .ok (.iload 6, 2) := by decide +kernel
theorem dL_law_727 : decode cL_law 727 = .ok (.ifCond .ne 15, 3) := by decide +kernel
theorem dL_law_730 : decode cL_law 730 = .ok (.aload_n 3, 1) := by decide +kernel
theorem dL_law_731 : decode cL_law 731 = .ok (.iconst 0, 1) := by decide +kernel
theorem dL_law_732 : decode cL_law 732 = .ok (.laload, 1) := by decide +kernel
theorem dL_law_733 : decode cL_law 733 = .ok (.iload 7, 2) := by decide +kernel
theorem dL_law_735 : decode cL_law 735 = .ok (.i2l, 1) := by decide +kernel
theorem dL_law_736 : decode cL_law 736 = .ok (.lcmp, 1) := by decide +kernel
theorem dL_law_737 : decode cL_law 737 = .ok (.ifCond .eq 5, 3) := by decide +kernel
theorem dL_law_740 : decode cL_law 740 = .ok (.iconst 0, 1) := by decide +kernel
theorem dL_law_741 : decode cL_law 741 = .ok (.ireturn, 1) := by decide +kernel
theorem dL_law_742 : decode cL_law 742 = .ok (.goto 706, 3) := by decide +kernel
theorem dL_law_745 : decode cL_law 745 = .ok (.aload_n 1, 1) := by decide +kernel
theorem dL_law_746 : decode cL_law 746 = .ok (.aload_n 0, 1) := by decide +kernel
theorem dL_law_747 : decode cL_law 747 = .ok (.iload 5, 2) := by decide +kernel
theorem dL_law_749 : decode cL_law 749 = .ok (.iconst 1, 1) := by decide +kernel
theorem dL_law_750 : decode cL_law 750 = .ok (.iadd, 1) := by decide +kernel
theorem dL_law_751 : decode cL_law 751 = .ok (.iaload, 1) := by decide +kernel
theorem dL_law_752 : decode cL_law 752 = .ok (.aload_n 3, 1) := by decide +kernel
theorem dL_law_753 : decode cL_law 753 = .ok (.invokestatic 119, 3) := by decide +kernel
theorem dL_law_756 : decode cL_law 756 = .ok (.istore 6, 2) := by decide +kernel
theorem dL_law_758 : decode cL_law 758 = .ok (.aload_n 2, 1) := by decide +kernel
theorem dL_law_759 : decode cL_law 759 = .ok (.aload_n 0, 1) := by decide +kernel
theorem dL_law_760 : decode cL_law 760 = .ok (.iload 5, 2) := by decide +kernel
theorem dL_law_762 : decode cL_law 762 = .ok (.iconst 1, 1) := by decide +kernel
theorem dL_law_763 : decode cL_law 763 = .ok (.iadd, 1) := by decide +kernel
theorem dL_law_764 : decode cL_law 764 = .ok (.iaload, 1) := by decide +kernel
theorem dL_law_765 : decode cL_law 765 = .ok (.invokevirtual 121, 3) := by decide +kernel
theorem dL_law_768 : decode cL_law 768 = .ok (.istore 7, 2) := by decide +kernel
theorem dL_law_770 : decode cL_law 770 = .ok (.aload_n 2, 1) := by decide +kernel
theorem dL_law_771 : decode cL_law 771 = .ok (.invokevirtual 86, 3) := by decide +kernel
theorem dL_law_774 : decode cL_law 774 = .ok (.iload 6, 2) := by decide +kernel
theorem dL_law_776 : decode cL_law 776 = .ok (.if_icmp .eq 5, 3) := by decide +kernel
theorem dL_law_779 : decode cL_law 779 = .ok (.iconst 0, 1) := by decide +kernel
theorem dL_law_780 : decode cL_law 780 = .ok (.ireturn, 1) := by decide +kernel
theorem dL_law_781 : decode cL_law 781 = .ok (.iload 6, 2) := by decide +kernel
theorem dL_law_783 : decode cL_law 783 = .ok (.ifCond .ne 15, 3) := by decide +kernel
theorem dL_law_786 : decode cL_law 786 = .ok (.aload_n 3, 1) := by decide +kernel
theorem dL_law_787 : decode cL_law 787 = .ok (.iconst 0, 1) := by decide +kernel
theorem dL_law_788 : decode cL_law 788 = .ok (.laload, 1) := by decide +kernel
theorem dL_law_789 : decode cL_law 789 = .ok (.iload 7, 2) := by decide +kernel
theorem dL_law_791 : decode cL_law 791 = .ok (.i2l, 1) := by decide +kernel
theorem dL_law_792 : decode cL_law 792 = .ok (.lcmp, 1) := by decide +kernel
theorem dL_law_793 : decode cL_law 793 = .ok (.ifCond .eq 5, 3) := by decide +kernel
theorem dL_law_796 : decode cL_law 796 = .ok (.iconst 0, 1) := by decide +kernel
theorem dL_law_797 : decode cL_law 797 = .ok (.ireturn, 1) := by decide +kernel
theorem dL_law_798 : decode cL_law 798 = .ok (.goto 650, 3) := by decide +kernel
theorem dL_law_801 : decode cL_law 801 = .ok (.aload_n 1, 1) := by decide +kernel
theorem dL_law_802 : decode cL_law 802 = .ok (.aload_n 0, 1) := by decide +kernel
theorem dL_law_803 : decode cL_law 803 = .ok (.iload 5, 2) := by decide +kernel
theorem dL_law_805 : decode cL_law 805 = .ok (.iconst 1, 1) := by decide +kernel
theorem dL_law_806 : decode cL_law 806 = .ok (.iadd, 1) := by decide +kernel
theorem dL_law_807 : decode cL_law 807 = .ok (.iaload, 1) := by decide +kernel
theorem dL_law_808 : decode cL_law 808 = .ok (.aload_n 0, 1) := by decide +kernel
theorem dL_law_809 : decode cL_law 809 = .ok (.iload 5, 2) := by decide +kernel
theorem dL_law_811 : decode cL_law 811 = .ok (.iconst 2, 1) := by decide +kernel
theorem dL_law_812 : decode cL_law 812 = .ok (.iadd, 1) := by decide +kernel
theorem dL_law_813 : decode cL_law 813 = .ok (.iaload, 1) := by decide +kernel
theorem dL_law_814 : decode cL_law 814 = .ok (.aload_n 3, 1) := by decide +kernel
theorem dL_law_815 : decode cL_law 815 = .ok (.invokestatic 122, 3) := by decide +kernel
theorem dL_law_818 : decode cL_law 818 = .ok (.istore 6, 2) := by decide +kernel
theorem dL_law_820 : decode cL_law 820 = .ok (.aload_n 2, 1) := by decide +kernel
theorem dL_law_821 : decode cL_law 821 = .ok (.aload_n 0, 1) := by decide +kernel
theorem dL_law_822 : decode cL_law 822 = .ok (.iload 5, 2) := by decide +kernel
theorem dL_law_824 : decode cL_law 824 = .ok (.iconst 1, 1) := by decide +kernel
theorem dL_law_825 : decode cL_law 825 = .ok (.iadd, 1) := by decide +kernel
theorem dL_law_826 : decode cL_law 826 = .ok (.iaload, 1) := by decide +kernel
theorem dL_law_827 : decode cL_law 827 = .ok (.aload_n 0, 1) := by decide +kernel
theorem dL_law_828 : decode cL_law 828 = .ok (.iload 5, 2) := by decide +kernel
theorem dL_law_830 : decode cL_law 830 = .ok (.iconst 2, 1) := by decide +kernel
theorem dL_law_831 : decode cL_law 831 = .ok (.iadd, 1) := by decide +kernel
theorem dL_law_832 : decode cL_law 832 = .ok (.iaload, 1) := by decide +kernel
theorem dL_law_833 : decode cL_law 833 = .ok (.invokevirtual 124, 3) := by decide +kernel
theorem dL_law_836 : decode cL_law 836 = .ok (.istore 7, 2) := by decide +kernel
theorem dL_law_838 : decode cL_law 838 = .ok (.aload_n 2, 1) := by decide +kernel
theorem dL_law_839 : decode cL_law 839 = .ok (.invokevirtual 86, 3) := by decide +kernel
theorem dL_law_842 : decode cL_law 842 = .ok (.iload 6, 2) := by decide +kernel
theorem dL_law_844 : decode cL_law 844 = .ok (.if_icmp .eq 5, 3) := by decide +kernel
theorem dL_law_847 : decode cL_law 847 = .ok (.iconst 0, 1) := by decide +kernel
theorem dL_law_848 : decode cL_law 848 = .ok (.ireturn, 1) := by decide +kernel
theorem dL_law_849 : decode cL_law 849 = .ok (.iload 6, 2) := by decide +kernel
theorem dL_law_851 : decode cL_law 851 = .ok (.ifCond .ne 15, 3) := by decide +kernel
theorem dL_law_854 : decode cL_law 854 = .ok (.aload_n 3, 1) := by decide +kernel
theorem dL_law_855 : decode cL_law 855 = .ok (.iconst 0, 1) := by decide +kernel
theorem dL_law_856 : decode cL_law 856 = .ok (.laload, 1) := by decide +kernel
theorem dL_law_857 : decode cL_law 857 = .ok (.iload 7, 2) := by decide +kernel
theorem dL_law_859 : decode cL_law 859 = .ok (.i2l, 1) := by decide +kernel
theorem dL_law_860 : decode cL_law 860 = .ok (.lcmp, 1) := by decide +kernel
theorem dL_law_861 : decode cL_law 861 = .ok (.ifCond .eq 5, 3) := by decide +kernel
theorem dL_law_864 : decode cL_law 864 = .ok (.iconst 0, 1) := by decide +kernel
theorem dL_law_865 : decode cL_law 865 = .ok (.ireturn, 1) := by decide +kernel
theorem dL_law_866 : decode cL_law 866 = .ok (.goto 582, 3) := by decide +kernel
theorem dL_law_869 : decode cL_law 869 = .ok (.aload_n 1, 1) := by decide +kernel
theorem dL_law_870 : decode cL_law 870 = .ok (.aload_n 0, 1) := by decide +kernel
theorem dL_law_871 : decode cL_law 871 = .ok (.iload 5, 2) := by decide +kernel
theorem dL_law_873 : decode cL_law 873 = .ok (.iconst 1, 1) := by decide +kernel
theorem dL_law_874 : decode cL_law 874 = .ok (.iadd, 1) := by decide +kernel
theorem dL_law_875 : decode cL_law 875 = .ok (.iaload, 1) := by decide +kernel
theorem dL_law_876 : decode cL_law 876 = .ok (.aload_n 0, 1) := by decide +kernel
theorem dL_law_877 : decode cL_law 877 = .ok (.iload 5, 2) := by decide +kernel
theorem dL_law_879 : decode cL_law 879 = .ok (.iconst 2, 1) := by decide +kernel
theorem dL_law_880 : decode cL_law 880 = .ok (.iadd, 1) := by decide +kernel
theorem dL_law_881 : decode cL_law 881 = .ok (.iaload, 1) := by decide +kernel
theorem dL_law_882 : decode cL_law 882 = .ok (.aload_n 3, 1) := by decide +kernel
theorem dL_law_883 : decode cL_law 883 = .ok (.invokestatic 125, 3) := by decide +kernel
theorem dL_law_886 : decode cL_law 886 = .ok (.istore 6, 2) := by decide +kernel
theorem dL_law_888 : decode cL_law 888 = .ok (.aload_n 2, 1) := by decide +kernel
theorem dL_law_889 : decode cL_law 889 = .ok (.aload_n 0, 1) := by decide +kernel
theorem dL_law_890 : decode cL_law 890 = .ok (.iload 5, 2) := by decide +kernel
theorem dL_law_892 : decode cL_law 892 = .ok (.iconst 1, 1) := by decide +kernel
theorem dL_law_893 : decode cL_law 893 = .ok (.iadd, 1) := by decide +kernel
theorem dL_law_894 : decode cL_law 894 = .ok (.iaload, 1) := by decide +kernel
theorem dL_law_895 : decode cL_law 895 = .ok (.aload_n 0, 1) := by decide +kernel
theorem dL_law_896 : decode cL_law 896 = .ok (.iload 5, 2) := by decide +kernel
theorem dL_law_898 : decode cL_law 898 = .ok (.iconst 2, 1) := by decide +kernel
theorem dL_law_899 : decode cL_law 899 = .ok (.iadd, 1) := by decide +kernel
theorem dL_law_900 : decode cL_law 900 = .ok (.iaload, 1) := by decide +kernel
theorem dL_law_901 : decode cL_law 901 = .ok (.invokevirtual 127, 3) := by decide +kernel
theorem dL_law_904 : decode cL_law 904 = .ok (.istore 7, 2) := by decide +kernel
theorem dL_law_906 : decode cL_law 906 = .ok (.aload_n 2, 1) := by decide +kernel
theorem dL_law_907 : decode cL_law 907 = .ok (.invokevirtual 86, 3) := by decide +kernel
theorem dL_law_910 : decode cL_law 910 = .ok (.iload 6, 2) := by decide +kernel
theorem dL_law_912 : decode cL_law 912 = .ok (.if_icmp .eq 5, 3) := by decide +kernel
theorem dL_law_915 : decode cL_law 915 = .ok (.iconst 0, 1) := by decide +kernel
theorem dL_law_916 : decode cL_law 916 = .ok (.ireturn, 1) := by decide +kernel
theorem dL_law_917 : decode cL_law 917 = .ok (.iload 6, 2) := by decide +kernel
theorem dL_law_919 : decode cL_law 919 = .ok (.ifCond .ne 15, 3) := by decide +kernel
theorem dL_law_922 : decode cL_law 922 = .ok (.aload_n 3, 1) := by decide +kernel
theorem dL_law_923 : decode cL_law 923 = .ok (.iconst 0, 1) := by decide +kernel
theorem dL_law_924 : decode cL_law 924 = .ok (.laload, 1) := by decide +kernel
theorem dL_law_925 : decode cL_law 925 = .ok (.iload 7, 2) := by decide +kernel
theorem dL_law_927 : decode cL_law 927 = .ok (.i2l, 1) := by decide +kernel
theorem dL_law_928 : decode cL_law 928 = .ok (.lcmp, 1) := by decide +kernel
theorem dL_law_929 : decode cL_law 929 = .ok (.ifCond .eq 5, 3) := by decide +kernel
theorem dL_law_932 : decode cL_law 932 = .ok (.iconst 0, 1) := by decide +kernel
theorem dL_law_933 : decode cL_law 933 = .ok (.ireturn, 1) := by decide +kernel
theorem dL_law_934 : decode cL_law 934 = .ok (.goto 514, 3) := by decide +kernel
theorem dL_law_937 : decode cL_law 937 = .ok (.aload_n 1, 1) := by decide +kernel
theorem dL_law_938 : decode cL_law 938 = .ok (.aload_n 0, 1) := by decide +kernel
theorem dL_law_939 : decode cL_law 939 = .ok (.iload 5, 2) := by decide +kernel
theorem dL_law_941 : decode cL_law 941 = .ok (.iconst 1, 1) := by decide +kernel
theorem dL_law_942 : decode cL_law 942 = .ok (.iadd, 1) := by decide +kernel
theorem dL_law_943 : decode cL_law 943 = .ok (.iaload, 1) := by decide +kernel
theorem dL_law_944 : decode cL_law 944 = .ok (.aload_n 0, 1) := by decide +kernel
theorem dL_law_945 : decode cL_law 945 = .ok (.iload 5, 2) := by decide +kernel
theorem dL_law_947 : decode cL_law 947 = .ok (.iconst 2, 1) := by decide +kernel
theorem dL_law_948 : decode cL_law 948 = .ok (.iadd, 1) := by decide +kernel
theorem dL_law_949 : decode cL_law 949 = .ok (.iaload, 1) := by decide +kernel
theorem dL_law_950 : decode cL_law 950 = .ok (.aload_n 3, 1) := by decide +kernel
theorem dL_law_951 : decode cL_law 951 = .ok (.invokestatic 128, 3) := by decide +kernel
theorem dL_law_954 : decode cL_law 954 = .ok (.istore 6, 2) := by decide +kernel
theorem dL_law_956 : decode cL_law 956 = .ok (.aload_n 2, 1) := by decide +kernel
theorem dL_law_957 : decode cL_law 957 = .ok (.aload_n 0, 1) := by decide +kernel
theorem dL_law_958 : decode cL_law 958 = .ok (.iload 5, 2) := by decide +kernel
theorem dL_law_960 : decode cL_law 960 = .ok (.iconst 1, 1) := by decide +kernel
theorem dL_law_961 : decode cL_law 961 = .ok (.iadd, 1) := by decide +kernel
theorem dL_law_962 : decode cL_law 962 = .ok (.iaload, 1) := by decide +kernel
theorem dL_law_963 : decode cL_law 963 = .ok (.aload_n 0, 1) := by decide +kernel
theorem dL_law_964 : decode cL_law 964 = .ok (.iload 5, 2) := by decide +kernel
theorem dL_law_966 : decode cL_law 966 = .ok (.iconst 2, 1) := by decide +kernel
theorem dL_law_967 : decode cL_law 967 = .ok (.iadd, 1) := by decide +kernel
theorem dL_law_968 : decode cL_law 968 = .ok (.iaload, 1) := by decide +kernel
theorem dL_law_969 : decode cL_law 969 = .ok (.invokevirtual 130, 3) := by decide +kernel
theorem dL_law_972 : decode cL_law 972 = .ok (.istore 7, 2) := by decide +kernel
theorem dL_law_974 : decode cL_law 974 = .ok (.aload_n 2, 1) := by decide +kernel
theorem dL_law_975 : decode cL_law 975 = .ok (.invokevirtual 86, 3) := by decide +kernel
theorem dL_law_978 : decode cL_law 978 = .ok (.iload 6, 2) := by decide +kernel
theorem dL_law_980 : decode cL_law 980 = .ok (.if_icmp .eq 5, 3) := by decide +kernel
theorem dL_law_983 : decode cL_law 983 = .ok (.iconst 0, 1) := by decide +kernel
theorem dL_law_984 : decode cL_law 984 = .ok (.ireturn, 1) := by decide +kernel
theorem dL_law_985 : decode cL_law 985 = .ok (.iload 6, 2) := by decide +kernel
theorem dL_law_987 : decode cL_law 987 = .ok (.ifCond .ne 15, 3) := by decide +kernel
theorem dL_law_990 : decode cL_law 990 = .ok (.aload_n 3, 1) := by decide +kernel
theorem dL_law_991 : decode cL_law 991 = .ok (.iconst 0, 1) := by decide +kernel
theorem dL_law_992 : decode cL_law 992 = .ok (.laload, 1) := by decide +kernel
theorem dL_law_993 : decode cL_law 993 = .ok (.iload 7, 2) := by decide +kernel
theorem dL_law_995 : decode cL_law 995 = .ok (.i2l, 1) := by decide +kernel
theorem dL_law_996 : decode cL_law 996 = .ok (.lcmp, 1) := by decide +kernel
theorem dL_law_997 : decode cL_law 997 = .ok (.ifCond .eq 5, 3) := by decide +kernel
theorem dL_law_1000 : decode cL_law 1000 = .ok (.iconst 0, 1) := by decide +kernel
theorem dL_law_1001 : decode cL_law 1001 = .ok (.ireturn, 1) := by decide +kernel
theorem dL_law_1002 : decode cL_law 1002 = .ok (.goto 446, 3) := by decide +kernel
theorem dL_law_1005 : decode cL_law 1005 = .ok (.aload_n 1, 1) := by decide +kernel
theorem dL_law_1006 : decode cL_law 1006 = .ok (.aload_n 0, 1) := by decide +kernel
theorem dL_law_1007 : decode cL_law 1007 = .ok (.iload 5, 2) := by decide +kernel
theorem dL_law_1009 : decode cL_law 1009 = .ok (.iconst 1, 1) := by decide +kernel
theorem dL_law_1010 : decode cL_law 1010 = .ok (.iadd, 1) := by decide +kernel
theorem dL_law_1011 : decode cL_law 1011 = .ok (.iaload, 1) := by decide +kernel
theorem dL_law_1012 : decode cL_law 1012 = .ok (.aload_n 3, 1) := by decide +kernel
theorem dL_law_1013 : decode cL_law 1013 = .ok (.invokestatic 131, 3) := by decide +kernel
theorem dL_law_1016 : decode cL_law 1016 = .ok (.istore 6, 2) := by decide +kernel
theorem dL_law_1018 : decode cL_law 1018 = .ok (.aload_n 2, 1) := by decide +kernel
theorem dL_law_1019 : decode cL_law 1019 = .ok (.aload_n 0, 1) := by decide +kernel
theorem dL_law_1020 : decode cL_law 1020 = .ok (.iload 5, 2) := by decide +kernel
theorem dL_law_1022 : decode cL_law 1022 = .ok (.iconst 1, 1) := by decide +kernel
theorem dL_law_1023 : decode cL_law 1023 = .ok (.iadd, 1) := by decide +kernel
theorem dL_law_1024 : decode cL_law 1024 = .ok (.iaload, 1) := by decide +kernel
theorem dL_law_1025 : decode cL_law 1025 = .ok (.invokevirtual 133, 3) := by decide +kernel
theorem dL_law_1028 : decode cL_law 1028 = .ok (.istore 7, 2) := by decide +kernel
theorem dL_law_1030 : decode cL_law 1030 = .ok (.aload_n 2, 1) := by decide +kernel
theorem dL_law_1031 : decode cL_law 1031 = .ok (.invokevirtual 86, 3) := by decide +kernel
theorem dL_law_1034 : decode cL_law 1034 = .ok (.iload 6, 2) := by decide +kernel
theorem dL_law_1036 : decode cL_law 1036 = .ok (.if_icmp .eq 5, 3) := by decide +kernel
theorem dL_law_1039 : decode cL_law 1039 = .ok (.iconst 0, 1) := by decide +kernel
theorem dL_law_1040 : decode cL_law 1040 = .ok (.ireturn, 1) := by decide +kernel
theorem dL_law_1041 : decode cL_law 1041 = .ok (.iload 6, 2) := by decide +kernel
theorem dL_law_1043 : decode cL_law 1043 = .ok (.ifCond .ne 15, 3) := by decide +kernel
theorem dL_law_1046 : decode cL_law 1046 = .ok (.aload_n 3, 1) := by decide +kernel
theorem dL_law_1047 : decode cL_law 1047 = .ok (.iconst 0, 1) := by decide +kernel
theorem dL_law_1048 : decode cL_law 1048 = .ok (.laload, 1) := by decide +kernel
theorem dL_law_1049 : decode cL_law 1049 = .ok (.iload 7, 2) := by decide +kernel
theorem dL_law_1051 : decode cL_law 1051 = .ok (.i2l, 1) := by decide +kernel
theorem dL_law_1052 : decode cL_law 1052 = .ok (.lcmp, 1) := by decide +kernel
theorem dL_law_1053 : decode cL_law 1053 = .ok (.ifCond .eq 5, 3) := by decide +kernel
theorem dL_law_1056 : decode cL_law 1056 = .ok (.iconst 0, 1) := by decide +kernel
theorem dL_law_1057 : decode cL_law 1057 = .ok (.ireturn, 1) := by decide +kernel
theorem dL_law_1058 : decode cL_law 1058 = .ok (.goto 390, 3) := by decide +kernel
theorem dL_law_1061 : decode cL_law 1061 = .ok (.aload_n 1, 1) := by decide +kernel
theorem dL_law_1062 : decode cL_law 1062 = .ok (.aload_n 0, 1) := by decide +kernel
theorem dL_law_1063 : decode cL_law 1063 = .ok (.iload 5, 2) := by decide +kernel
theorem dL_law_1065 : decode cL_law 1065 = .ok (.iconst 1, 1) := by decide +kernel
theorem dL_law_1066 : decode cL_law 1066 = .ok (.iadd, 1) := by decide +kernel
theorem dL_law_1067 : decode cL_law 1067 = .ok (.iaload, 1) := by decide +kernel
theorem dL_law_1068 : decode cL_law 1068 = .ok (.aload_n 0, 1) := by decide +kernel
theorem dL_law_1069 : decode cL_law 1069 = .ok (.iload 5, 2) := by decide +kernel
theorem dL_law_1071 : decode cL_law 1071 = .ok (.iconst 2, 1) := by decide +kernel
theorem dL_law_1072 : decode cL_law 1072 = .ok (.iadd, 1) := by decide +kernel
theorem dL_law_1073 : decode cL_law 1073 = .ok (.iaload, 1) := by decide +kernel
theorem dL_law_1074 : decode cL_law 1074 = .ok (.aload_n 0, 1) := by decide +kernel
theorem dL_law_1075 : decode cL_law 1075 = .ok (.iload 5, 2) := by decide +kernel
theorem dL_law_1077 : decode cL_law 1077 = .ok (.iconst 3, 1) := by decide +kernel
theorem dL_law_1078 : decode cL_law 1078 = .ok (.iadd, 1) := by decide +kernel
theorem dL_law_1079 : decode cL_law 1079 = .ok (.iaload, 1) := by decide +kernel
theorem dL_law_1080 : decode cL_law 1080 = .ok (.aload_n 3, 1) := by decide +kernel
theorem dL_law_1081 : decode cL_law 1081 = .ok (.invokestatic 134, 3) := by decide +kernel
theorem dL_law_1084 : decode cL_law 1084 = .ok (.istore 6, 2) := by decide +kernel
theorem dL_law_1086 : decode cL_law 1086 = .ok (.aload_n 2, 1) := by decide +kernel
theorem dL_law_1087 : decode cL_law 1087 = .ok (.aload_n 0, 1) := by decide +kernel
theorem dL_law_1088 : decode cL_law 1088 = .ok (.iload 5, 2) := by decide +kernel
theorem dL_law_1090 : decode cL_law 1090 = .ok (.iconst 1, 1) := by decide +kernel
theorem dL_law_1091 : decode cL_law 1091 = .ok (.iadd, 1) := by decide +kernel
theorem dL_law_1092 : decode cL_law 1092 = .ok (.iaload, 1) := by decide +kernel
theorem dL_law_1093 : decode cL_law 1093 = .ok (.aload_n 0, 1) := by decide +kernel
theorem dL_law_1094 : decode cL_law 1094 = .ok (.iload 5, 2) := by decide +kernel
theorem dL_law_1096 : decode cL_law 1096 = .ok (.iconst 2, 1) := by decide +kernel
theorem dL_law_1097 : decode cL_law 1097 = .ok (.iadd, 1) := by decide +kernel
theorem dL_law_1098 : decode cL_law 1098 = .ok (.iaload, 1) := by decide +kernel
theorem dL_law_1099 : decode cL_law 1099 = .ok (.aload_n 0, 1) := by decide +kernel
theorem dL_law_1100 : decode cL_law 1100 = .ok (.iload 5, 2) := by decide +kernel
theorem dL_law_1102 : decode cL_law 1102 = .ok (.iconst 3, 1) := by decide +kernel
theorem dL_law_1103 : decode cL_law 1103 = .ok (.iadd, 1) := by decide +kernel
theorem dL_law_1104 : decode cL_law 1104 = .ok (.iaload, 1) := by decide +kernel
theorem dL_law_1105 : decode cL_law 1105 = .ok (.invokevirtual 136, 3) := by decide +kernel
theorem dL_law_1108 : decode cL_law 1108 = .ok (.istore 7, 2) := by decide +kernel
theorem dL_law_1110 : decode cL_law 1110 = .ok (.aload_n 2, 1) := by decide +kernel
theorem dL_law_1111 : decode cL_law 1111 = .ok (.invokevirtual 86, 3) := by decide +kernel
theorem dL_law_1114 : decode cL_law 1114 = .ok (.iload 6, 2) := by decide +kernel
theorem dL_law_1116 : decode cL_law 1116 = .ok (.if_icmp .eq 5, 3) := by decide +kernel
theorem dL_law_1119 : decode cL_law 1119 = .ok (.iconst 0, 1) := by decide +kernel
theorem dL_law_1120 : decode cL_law 1120 = .ok (.ireturn, 1) := by decide +kernel
theorem dL_law_1121 : decode cL_law 1121 = .ok (.iload 6, 2) := by decide +kernel
theorem dL_law_1123 : decode cL_law 1123 = .ok (.ifCond .ne 15, 3) := by decide +kernel
theorem dL_law_1126 : decode cL_law 1126 = .ok (.aload_n 3, 1) := by decide +kernel
theorem dL_law_1127 : decode cL_law 1127 = .ok (.iconst 0, 1) := by decide +kernel
theorem dL_law_1128 : decode cL_law 1128 = .ok (.laload, 1) := by decide +kernel
theorem dL_law_1129 : decode cL_law 1129 = .ok (.iload 7, 2) := by decide +kernel
theorem dL_law_1131 : decode cL_law 1131 = .ok (.i2l, 1) := by decide +kernel
theorem dL_law_1132 : decode cL_law 1132 = .ok (.lcmp, 1) := by decide +kernel
theorem dL_law_1133 : decode cL_law 1133 = .ok (.ifCond .eq 5, 3) := by decide +kernel
theorem dL_law_1136 : decode cL_law 1136 = .ok (.iconst 0, 1) := by decide +kernel
theorem dL_law_1137 : decode cL_law 1137 = .ok (.ireturn, 1) := by decide +kernel
theorem dL_law_1138 : decode cL_law 1138 = .ok (.goto 310, 3) := by decide +kernel
theorem dL_law_1141 : decode cL_law 1141 = .ok (.aload_n 1, 1) := by decide +kernel
theorem dL_law_1142 : decode cL_law 1142 = .ok (.aload_n 0, 1) := by decide +kernel
theorem dL_law_1143 : decode cL_law 1143 = .ok (.iload 5, 2) := by decide +kernel
theorem dL_law_1145 : decode cL_law 1145 = .ok (.iconst 1, 1) := by decide +kernel
theorem dL_law_1146 : decode cL_law 1146 = .ok (.iadd, 1) := by decide +kernel
theorem dL_law_1147 : decode cL_law 1147 = .ok (.iaload, 1) := by decide +kernel
theorem dL_law_1148 : decode cL_law 1148 = .ok (.aload_n 0, 1) := by decide +kernel
theorem dL_law_1149 : decode cL_law 1149 = .ok (.iload 5, 2) := by decide +kernel
theorem dL_law_1151 : decode cL_law 1151 = .ok (.iconst 2, 1) := by decide +kernel
theorem dL_law_1152 : decode cL_law 1152 = .ok (.iadd, 1) := by decide +kernel
theorem dL_law_1153 : decode cL_law 1153 = .ok (.iaload, 1) := by decide +kernel
theorem dL_law_1154 : decode cL_law 1154 = .ok (.aload_n 0, 1) := by decide +kernel
theorem dL_law_1155 : decode cL_law 1155 = .ok (.iload 5, 2) := by decide +kernel
theorem dL_law_1157 : decode cL_law 1157 = .ok (.iconst 3, 1) := by decide +kernel
theorem dL_law_1158 : decode cL_law 1158 = .ok (.iadd, 1) := by decide +kernel
theorem dL_law_1159 : decode cL_law 1159 = .ok (.iaload, 1) := by decide +kernel
theorem dL_law_1160 : decode cL_law 1160 = .ok (.aload_n 3, 1) := by decide +kernel
theorem dL_law_1161 : decode cL_law 1161 = .ok (.invokestatic 137, 3) := by decide +kernel
theorem dL_law_1164 : decode cL_law 1164 = .ok (.istore 6, 2) := by decide +kernel
theorem dL_law_1166 : decode cL_law 1166 = .ok (.aload_n 2, 1) := by decide +kernel
theorem dL_law_1167 : decode cL_law 1167 = .ok (.aload_n 0, 1) := by decide +kernel
theorem dL_law_1168 : decode cL_law 1168 = .ok (.iload 5, 2) := by decide +kernel
theorem dL_law_1170 : decode cL_law 1170 = .ok (.iconst 1, 1) := by decide +kernel
theorem dL_law_1171 : decode cL_law 1171 = .ok (.iadd, 1) := by decide +kernel
theorem dL_law_1172 : decode cL_law 1172 = .ok (.iaload, 1) := by decide +kernel
theorem dL_law_1173 : decode cL_law 1173 = .ok (.aload_n 0, 1) := by decide +kernel
theorem dL_law_1174 : decode cL_law 1174 = .ok (.iload 5, 2) := by decide +kernel
theorem dL_law_1176 : decode cL_law 1176 = .ok (.iconst 2, 1) := by decide +kernel
theorem dL_law_1177 : decode cL_law 1177 = .ok (.iadd, 1) := by decide +kernel
theorem dL_law_1178 : decode cL_law 1178 = .ok (.iaload, 1) := by decide +kernel
theorem dL_law_1179 : decode cL_law 1179 = .ok (.aload_n 0, 1) := by decide +kernel
theorem dL_law_1180 : decode cL_law 1180 = .ok (.iload 5, 2) := by decide +kernel
theorem dL_law_1182 : decode cL_law 1182 = .ok (.iconst 3, 1) := by decide +kernel
theorem dL_law_1183 : decode cL_law 1183 = .ok (.iadd, 1) := by decide +kernel
theorem dL_law_1184 : decode cL_law 1184 = .ok (.iaload, 1) := by decide +kernel
theorem dL_law_1185 : decode cL_law 1185 = .ok (.invokevirtual 139, 3) := by decide +kernel
theorem dL_law_1188 : decode cL_law 1188 = .ok (.istore 7, 2) := by decide +kernel
theorem dL_law_1190 : decode cL_law 1190 = .ok (.aload_n 2, 1) := by decide +kernel
theorem dL_law_1191 : decode cL_law 1191 = .ok (.invokevirtual 86, 3) := by decide +kernel
theorem dL_law_1194 : decode cL_law 1194 = .ok (.iload 6, 2) := by decide +kernel
theorem dL_law_1196 : decode cL_law 1196 = .ok (.if_icmp .eq 5, 3) := by decide +kernel
theorem dL_law_1199 : decode cL_law 1199 = .ok (.iconst 0, 1) := by decide +kernel
theorem dL_law_1200 : decode cL_law 1200 = .ok (.ireturn, 1) := by decide +kernel
theorem dL_law_1201 : decode cL_law 1201 = .ok (.iload 6, 2) := by decide +kernel
theorem dL_law_1203 : decode cL_law 1203 = .ok (.ifCond .ne 15, 3) := by decide +kernel
theorem dL_law_1206 : decode cL_law 1206 = .ok (.aload_n 3, 1) := by decide +kernel
theorem dL_law_1207 : decode cL_law 1207 = .ok (.iconst 0, 1) := by decide +kernel
theorem dL_law_1208 : decode cL_law 1208 = .ok (.laload, 1) := by decide +kernel
theorem dL_law_1209 : decode cL_law 1209 = .ok (.iload 7, 2) := by decide +kernel
theorem dL_law_1211 : decode cL_law 1211 = .ok (.i2l, 1) := by decide +kernel
theorem dL_law_1212 : decode cL_law 1212 = .ok (.lcmp, 1) := by decide +kernel
theorem dL_law_1213 : decode cL_law 1213 = .ok (.ifCond .eq 5, 3) := by decide +kernel
theorem dL_law_1216 : decode cL_law 1216 = .ok (.iconst 0, 1) := by decide +kernel
theorem dL_law_1217 : decode cL_law 1217 = .ok (.ireturn, 1) := by decide +kernel
theorem dL_law_1218 : decode cL_law 1218 = .ok (.goto 230, 3) := by decide +kernel
theorem dL_law_1221 : decode cL_law 1221 = .ok (.aload_n 1, 1) := by decide +kernel
theorem dL_law_1222 : decode cL_law 1222 = .ok (.aload_n 0, 1) := by decide +kernel
theorem dL_law_1223 : decode cL_law 1223 = .ok (.iload 5, 2) := by decide +kernel
theorem dL_law_1225 : decode cL_law 1225 = .ok (.iconst 1, 1) := by decide +kernel
theorem dL_law_1226 : decode cL_law 1226 = .ok (.iadd, 1) := by decide +kernel
theorem dL_law_1227 : decode cL_law 1227 = .ok (.iaload, 1) := by decide +kernel
theorem dL_law_1228 : decode cL_law 1228 = .ok (.aload_n 0, 1) := by decide +kernel
theorem dL_law_1229 : decode cL_law 1229 = .ok (.iload 5, 2) := by decide +kernel
theorem dL_law_1231 : decode cL_law 1231 = .ok (.iconst 2, 1) := by decide +kernel
theorem dL_law_1232 : decode cL_law 1232 = .ok (.iadd, 1) := by decide +kernel
theorem dL_law_1233 : decode cL_law 1233 = .ok (.iaload, 1) := by decide +kernel
theorem dL_law_1234 : decode cL_law 1234 = .ok (.aload_n 3, 1) := by decide +kernel
theorem dL_law_1235 : decode cL_law 1235 = .ok (.invokestatic 140, 3) := by decide +kernel
theorem dL_law_1238 : decode cL_law 1238 = .ok (.istore 6, 2) := by decide +kernel
theorem dL_law_1240 : decode cL_law 1240 = .ok (.aload_n 2, 1) := by decide +kernel
theorem dL_law_1241 : decode cL_law 1241 = .ok (.aload_n 0, 1) := by decide +kernel
theorem dL_law_1242 : decode cL_law 1242 = .ok (.iload 5, 2) := by decide +kernel
theorem dL_law_1244 : decode cL_law 1244 = .ok (.iconst 1, 1) := by decide +kernel
theorem dL_law_1245 : decode cL_law 1245 = .ok (.iadd, 1) := by decide +kernel
theorem dL_law_1246 : decode cL_law 1246 = .ok (.iaload, 1) := by decide +kernel
theorem dL_law_1247 : decode cL_law 1247 = .ok (.aload_n 0, 1) := by decide +kernel
theorem dL_law_1248 : decode cL_law 1248 = .ok (.iload 5, 2) := by decide +kernel
theorem dL_law_1250 : decode cL_law 1250 = .ok (.iconst 2, 1) := by decide +kernel
theorem dL_law_1251 : decode cL_law 1251 = .ok (.iadd, 1) := by decide +kernel
theorem dL_law_1252 : decode cL_law 1252 = .ok (.iaload, 1) := by decide +kernel
theorem dL_law_1253 : decode cL_law 1253 = .ok (.invokevirtual 142, 3) := by decide +kernel
theorem dL_law_1256 : decode cL_law 1256 = .ok (.istore 7, 2) := by decide +kernel
theorem dL_law_1258 : decode cL_law 1258 = .ok (.aload_n 2, 1) := by decide +kernel
theorem dL_law_1259 : decode cL_law 1259 = .ok (.invokevirtual 86, 3) := by decide +kernel
theorem dL_law_1262 : decode cL_law 1262 = .ok (.iload 6, 2) := by decide +kernel
theorem dL_law_1264 : decode cL_law 1264 = .ok (.if_icmp .eq 5, 3) := by decide +kernel
theorem dL_law_1267 : decode cL_law 1267 = .ok (.iconst 0, 1) := by decide +kernel
theorem dL_law_1268 : decode cL_law 1268 = .ok (.ireturn, 1) := by decide +kernel
theorem dL_law_1269 : decode cL_law 1269 = .ok (.iload 6, 2) := by decide +kernel
theorem dL_law_1271 : decode cL_law 1271 = .ok (.ifCond .ne 15, 3) := by decide +kernel
theorem dL_law_1274 : decode cL_law 1274 = .ok (.aload_n 3, 1) := by decide +kernel
theorem dL_law_1275 : decode cL_law 1275 = .ok (.iconst 0, 1) := by decide +kernel
theorem dL_law_1276 : decode cL_law 1276 = .ok (.laload, 1) := by decide +kernel
theorem dL_law_1277 : decode cL_law 1277 = .ok (.iload 7, 2) := by decide +kernel
theorem dL_law_1279 : decode cL_law 1279 = .ok (.i2l, 1) := by decide +kernel
theorem dL_law_1280 : decode cL_law 1280 = .ok (.lcmp, 1) := by decide +kernel
theorem dL_law_1281 : decode cL_law 1281 = .ok (.ifCond .eq 5, 3) := by decide +kernel
theorem dL_law_1284 : decode cL_law 1284 = .ok (.iconst 0, 1) := by decide +kernel
theorem dL_law_1285 : decode cL_law 1285 = .ok (.ireturn, 1) := by decide +kernel
theorem dL_law_1286 : decode cL_law 1286 = .ok (.goto 162, 3) := by decide +kernel
theorem dL_law_1289 : decode cL_law 1289 = .ok (.aload_n 1, 1) := by decide +kernel
theorem dL_law_1290 : decode cL_law 1290 = .ok (.aload_n 0, 1) := by decide +kernel
theorem dL_law_1291 : decode cL_law 1291 = .ok (.iload 5, 2) := by decide +kernel
theorem dL_law_1293 : decode cL_law 1293 = .ok (.iconst 1, 1) := by decide +kernel
theorem dL_law_1294 : decode cL_law 1294 = .ok (.iadd, 1) := by decide +kernel
theorem dL_law_1295 : decode cL_law 1295 = .ok (.iaload, 1) := by decide +kernel
theorem dL_law_1296 : decode cL_law 1296 = .ok (.aload_n 0, 1) := by decide +kernel
theorem dL_law_1297 : decode cL_law 1297 = .ok (.iload 5, 2) := by decide +kernel
theorem dL_law_1299 : decode cL_law 1299 = .ok (.iconst 2, 1) := by decide +kernel
theorem dL_law_1300 : decode cL_law 1300 = .ok (.iadd, 1) := by decide +kernel
theorem dL_law_1301 : decode cL_law 1301 = .ok (.iaload, 1) := by decide +kernel
theorem dL_law_1302 : decode cL_law 1302 = .ok (.aload_n 3, 1) := by decide +kernel
theorem dL_law_1303 : decode cL_law 1303 = .ok (.invokestatic 143, 3) := by decide +kernel
theorem dL_law_1306 : decode cL_law 1306 = .ok (.istore 6, 2) := by decide +kernel
theorem dL_law_1308 : decode cL_law 1308 = .ok (.aload_n 2, 1) := by decide +kernel
theorem dL_law_1309 : decode cL_law 1309 = .ok (.aload_n 0, 1) := by decide +kernel
theorem dL_law_1310 : decode cL_law 1310 = .ok (.iload 5, 2) := by decide +kernel
theorem dL_law_1312 : decode cL_law 1312 = .ok (.iconst 1, 1) := by decide +kernel
theorem dL_law_1313 : decode cL_law 1313 = .ok (.iadd, 1) := by decide +kernel
theorem dL_law_1314 : decode cL_law 1314 = .ok (.iaload, 1) := by decide +kernel
theorem dL_law_1315 : decode cL_law 1315 = .ok (.aload_n 0, 1) := by decide +kernel
theorem dL_law_1316 : decode cL_law 1316 = .ok (.iload 5, 2) := by decide +kernel
theorem dL_law_1318 : decode cL_law 1318 = .ok (.iconst 2, 1) := by decide +kernel
theorem dL_law_1319 : decode cL_law 1319 = .ok (.iadd, 1) := by decide +kernel
theorem dL_law_1320 : decode cL_law 1320 = .ok (.iaload, 1) := by decide +kernel
theorem dL_law_1321 : decode cL_law 1321 = .ok (.invokevirtual 145, 3) := by decide +kernel
theorem dL_law_1324 : decode cL_law 1324 = .ok (.istore 7, 2) := by decide +kernel
theorem dL_law_1326 : decode cL_law 1326 = .ok (.aload_n 2, 1) := by decide +kernel
theorem dL_law_1327 : decode cL_law 1327 = .ok (.invokevirtual 86, 3) := by decide +kernel
theorem dL_law_1330 : decode cL_law 1330 = .ok (.iload 6, 2) := by decide +kernel
theorem dL_law_1332 : decode cL_law 1332 = .ok (.if_icmp .eq 5, 3) := by decide +kernel
theorem dL_law_1335 : decode cL_law 1335 = .ok (.iconst 0, 1) := by decide +kernel
theorem dL_law_1336 : decode cL_law 1336 = .ok (.ireturn, 1) := by decide +kernel
theorem dL_law_1337 : decode cL_law 1337 = .ok (.iload 6, 2) := by decide +kernel
theorem dL_law_1339 : decode cL_law 1339 = .ok (.ifCond .ne 15, 3) := by decide +kernel
theorem dL_law_1342 : decode cL_law 1342 = .ok (.aload_n 3, 1) := by decide +kernel
theorem dL_law_1343 : decode cL_law 1343 = .ok (.iconst 0, 1) := by decide +kernel
theorem dL_law_1344 : decode cL_law 1344 = .ok (.laload, 1) := by decide +kernel
theorem dL_law_1345 : decode cL_law 1345 = .ok (.iload 7, 2) := by decide +kernel
theorem dL_law_1347 : decode cL_law 1347 = .ok (.i2l, 1) := by decide +kernel
theorem dL_law_1348 : decode cL_law 1348 = .ok (.lcmp, 1) := by decide +kernel
theorem dL_law_1349 : decode cL_law 1349 = .ok (.ifCond .eq 5, 3) := by decide +kernel
theorem dL_law_1352 : decode cL_law 1352 = .ok (.iconst 0, 1) := by decide +kernel
theorem dL_law_1353 : decode cL_law 1353 = .ok (.ireturn, 1) := by decide +kernel
theorem dL_law_1354 : decode cL_law 1354 = .ok (.goto 94, 3) := by decide +kernel
theorem dL_law_1357 : decode cL_law 1357 = .ok (.aload_n 1, 1) := by decide +kernel
theorem dL_law_1358 : decode cL_law 1358 = .ok (.aload_n 0, 1) := by decide +kernel
theorem dL_law_1359 : decode cL_law 1359 = .ok (.iload 5, 2) := by decide +kernel
theorem dL_law_1361 : decode cL_law 1361 = .ok (.iconst 1, 1) := by decide +kernel
theorem dL_law_1362 : decode cL_law 1362 = .ok (.iadd, 1) := by decide +kernel
theorem dL_law_1363 : decode cL_law 1363 = .ok (.iaload, 1) := by decide +kernel
theorem dL_law_1364 : decode cL_law 1364 = .ok (.aload 4, 2) := by decide +kernel
theorem dL_law_1366 : decode cL_law 1366 = .ok (.invokestatic 146, 3) := by decide +kernel
theorem dL_law_1369 : decode cL_law 1369 = .ok (.istore 6, 2) := by decide +kernel
theorem dL_law_1371 : decode cL_law 1371 = .ok (.aload_n 2, 1) := by decide +kernel
theorem dL_law_1372 : decode cL_law 1372 = .ok (.aload_n 0, 1) := by decide +kernel
theorem dL_law_1373 : decode cL_law 1373 = .ok (.iload 5, 2) := by decide +kernel
theorem dL_law_1375 : decode cL_law 1375 = .ok (.iconst 1, 1) := by decide +kernel
theorem dL_law_1376 : decode cL_law 1376 = .ok (.iadd, 1) := by decide +kernel
theorem dL_law_1377 : decode cL_law 1377 = .ok (.iaload, 1) := by decide +kernel
theorem dL_law_1378 : decode cL_law 1378 = .ok (.invokevirtual 149, 3) := by decide +kernel
theorem dL_law_1381 : decode cL_law 1381 = .ok (.dstore 7, 2) := by decide +kernel
theorem dL_law_1383 : decode cL_law 1383 = .ok (.aload_n 2, 1) := by decide +kernel
theorem dL_law_1384 : decode cL_law 1384 = .ok (.invokevirtual 86, 3) := by decide +kernel
theorem dL_law_1387 : decode cL_law 1387 = .ok (.iload 6, 2) := by decide +kernel
theorem dL_law_1389 : decode cL_law 1389 = .ok (.if_icmp .eq 5, 3) := by decide +kernel
theorem dL_law_1392 : decode cL_law 1392 = .ok (.iconst 0, 1) := by decide +kernel
theorem dL_law_1393 : decode cL_law 1393 = .ok (.ireturn, 1) := by decide +kernel
theorem dL_law_1394 : decode cL_law 1394 = .ok (.iload 6, 2) := by decide +kernel
theorem dL_law_1396 : decode cL_law 1396 = .ok (.ifCond .ne 35, 3) := by decide +kernel
theorem dL_law_1399 : decode cL_law 1399 = .ok (.aload 4, 2) := by decide +kernel
theorem dL_law_1401 : decode cL_law 1401 = .ok (.iconst 0, 1) := by decide +kernel
theorem dL_law_1402 : decode cL_law 1402 = .ok (.daload, 1) := by decide +kernel
theorem dL_law_1403 : decode cL_law 1403 = .ok (.dload 7, 2) := by decide +kernel
theorem dL_law_1405 : decode cL_law 1405 = .ok (.dcmp .l, 1) := by decide +kernel
theorem dL_law_1406 : decode cL_law 1406 = .ok (.ifCond .eq 25, 3) := by decide +kernel
theorem dL_law_1409 : decode cL_law 1409 = .ok (.aload 4, 2) := by decide +kernel
theorem dL_law_1411 : decode cL_law 1411 = .ok (.iconst 0, 1) := by decide +kernel
theorem dL_law_1412 : decode cL_law 1412 = .ok (.daload, 1) := by decide +kernel
theorem dL_law_1413 : decode cL_law 1413 = .ok (.aload 4, 2) := by decide +kernel
theorem dL_law_1415 : decode cL_law 1415 = .ok (.iconst 0, 1) := by decide +kernel
theorem dL_law_1416 : decode cL_law 1416 = .ok (.daload, 1) := by decide +kernel
theorem dL_law_1417 : decode cL_law 1417 = .ok (.dcmp .l, 1) := by decide +kernel
theorem dL_law_1418 : decode cL_law 1418 = .ok (.ifCond .eq 11, 3) := by decide +kernel
theorem dL_law_1421 : decode cL_law 1421 = .ok (.dload 7, 2) := by decide +kernel
theorem dL_law_1423 : decode cL_law 1423 = .ok (.dload 7, 2) := by decide +kernel
theorem dL_law_1425 : decode cL_law 1425 = .ok (.dcmp .l, 1) := by decide +kernel
theorem dL_law_1426 : decode cL_law 1426 = .ok (.ifCond .ne 5, 3) := by decide +kernel
theorem dL_law_1429 : decode cL_law 1429 = .ok (.iconst 0, 1) := by decide +kernel
theorem dL_law_1430 : decode cL_law 1430 = .ok (.ireturn, 1) := by decide +kernel
theorem dL_law_1431 : decode cL_law 1431 = .ok (.goto 17, 3) := by decide +kernel
theorem dL_law_1434 : decode cL_law 1434 = .ok (.aload_n 1, 1) := by decide +kernel
theorem dL_law_1435 : decode cL_law 1435 = .ok (.invokevirtual 150, 3) := by decide +kernel
theorem dL_law_1438 : decode cL_law 1438 = .ok (.aload_n 2, 1) := by decide +kernel
theorem dL_law_1439 : decode cL_law 1439 = .ok (.invokevirtual 154, 3) := by decide +kernel
theorem dL_law_1442 : decode cL_law 1442 = .ok (.lcmp, 1) := by decide +kernel
theorem dL_law_1443 : decode cL_law 1443 = .ok (.ifCond .eq 5, 3) := by decide +kernel
theorem dL_law_1446 : decode cL_law 1446 = .ok (.iconst 0, 1) := by decide +kernel
theorem dL_law_1447 : decode cL_law 1447 = .ok (.ireturn, 1) := by decide +kernel
theorem dL_law_1448 : decode cL_law 1448 = .ok (.iinc 5 6, 3) := by decide +kernel
theorem dL_law_1451 : decode cL_law 1451 = .ok (.goto (-1423), 3) := by decide +kernel
theorem dL_law_1454 : decode cL_law 1454 = .ok (.iconst 1, 1) := by decide +kernel
theorem dL_law_1455 : decode cL_law 1455 = .ok (.ireturn, 1) := by decide +kernel
abbrev vwCl : List vw_C := [(RX0, TX0, 13), (RX1, TX1, 14)]
/-! ===== END printed: names ===== -/
end
section
/-! own rows: one list of words for all methods (AW); worlds of the class (w0) and of the model (w1) over one kind of raw state; short rows -/
def AW : List Cond := wsL_law
theorem aw_0 {w : Cond} (h : w ∈ wsL_law0) : w ∈ AW := List.mem_append_left _ (List.mem_append_left _ (List.mem_append_left _ h))
theorem aw_1 {w : Cond} (h : w ∈ (wsL_law0_r1 ++ (wsL_law0_r2 ++ (wsL_law0_r3 ++ (wsL_law0_r4 ++ (wsL_law0_r5 ++ (wsL_law0_r6 ++ (wsL_law0_r7 ++ (wsL_law0_r8 ++ (wsL_law0_r9 ++ (wsL_law0_r10 ++ (wsL_law0_r11 ++ (wsL_law0_r12 ++ (wsL_law0_r13 ++ (wsL_law0_r14 ++ (wsL_law0_r15 ++ (wsL_law0_r16 ++ (wsL_law0_r17 ++ (wsL_law0_r18 ++ (wsL_law0_r19 ++ (wsL_law0_r20 ++ (wsL_law0_r21)))))))))))))))))))))) : w ∈ AW := aw_0 (List.mem_append_left _ (List.mem_append_left _ (List.mem_append_left _ h)))
theorem inr_1 (w : Cond) (h : w ∈ wsL_law0_r1) : w ∈ AW := aw_1 (List.mem_append_left _ h)
theorem inr_2 (w : Cond) (h : w ∈ wsL_law0_r2) : w ∈ AW := aw_1 (List.mem_append_right _ (List.mem_append_left _ h))
theorem inr_3 (w : Cond) (h : w ∈ wsL_law0_r3) : w ∈ AW := aw_1 (List.mem_append_right _ (List.mem_append_right _ (List.mem_append_left _ h)))
theorem inr_4 (w : Cond) (h : w ∈ wsL_law0_r4) : w ∈ AW := aw_1 (List.mem_append_right _ (List.mem_append_right _ (List.mem_append_right _ (List.mem_append_left _ h))))
theorem inr_5 (w : Cond) (h : w ∈ wsL_law0_r5) : w ∈ AW := aw_1 (List.mem_append_right _ (List.mem_append_right _ (List.mem_append_right _ (List.mem_append_right _ (List.mem_append_left _ h)))))
theorem inr_6 (w : Cond) (h : w ∈ wsL_law0_r6) : w ∈ AW := aw_1 (List.mem_append_right _ (List.mem_append_right _ (List.mem_append_right _ (List.mem_append_right _ (List.mem_append_right _ (List.mem_append_left _ h))))))
theorem inr_7 (w : Cond) (h : w ∈ wsL_law0_r7) : w ∈ AW := aw_1 (List.mem_append_right _ (List.mem_append_right _ (List.mem_append_right _ (List.mem_append_right _ (List.mem_append_right _ (List.mem_append_right _ (List.mem_append_left _ h)))))))
theorem inr_8 (w : Cond) (h : w ∈ wsL_law0_r8) : w ∈ AW := aw_1 (List.mem_append_right _ (List.mem_append_right _ (List.mem_append_right _ (List.mem_append_right _ (List.mem_append_right _ (List.mem_append_right _ (List.mem_append_right _ (List.mem_append_left _ h))))))))
theorem inr_9 (w : Cond) (h : w ∈ wsL_law0_r9) : w ∈ AW := aw_1 (List.mem_append_right _ (List.mem_append_right _ (List.mem_append_right _ (List.mem_append_right _ (List.mem_append_right _ (List.mem_append_right _ (List.mem_append_right _ (List.mem_append_right _ (List.mem_append_left _ h)))))))))
theorem inr_10 (w : Cond) (h : w ∈ wsL_law0_r10) : w ∈ AW := aw_1 (List.mem_append_right _ (List.mem_append_right _ (List.mem_append_right _ (List.mem_append_right _ (List.mem_append_right _ (List.mem_append_right _ (List.mem_append_right _ (List.mem_append_right _ (List.mem_append_right _ (List.mem_append_left _ h))))))))))
theorem inr_11 (w : Cond) (h : w ∈ wsL_law0_r11) : w ∈ AW := aw_1 (List.mem_append_right _ (List.mem_append_right _ (List.mem_append_right _ (List.mem_append_right _ (List.mem_append_right _ (List.mem_append_right _ (List.mem_append_right _ (List.mem_append_right _ (List.mem_append_right _ (List.mem_append_right _ (List.mem_append_left _ h)))))))))))
theorem inr_12 (w : Cond) (h : w ∈ wsL_law0_r12) : w ∈ AW := aw_1 (List.mem_append_right _ (List.mem_append_right _ (List.mem_append_right _ (List.mem_append_right _ (List.mem_append_right _ (List.mem_append_right _ (List.mem_append_right _ (List.mem_append_right _ (List.mem_append_right _ (List.mem_append_right _ (List.mem_append_right _ (List.mem_append_left _ h))))))))))))
theorem inr_13 (w : Cond) (h : w ∈ wsL_law0_r13) : w ∈ AW := aw_1 (List.mem_append_right _ (List.mem_append_right _ (List.mem_append_right _ (List.mem_append_right _ (List.mem_append_right _ (List.mem_append_right _ (List.mem_append_right _ (List.mem_append_right _ (List.mem_append_right _ (List.mem_append_right _ (List.mem_append_right _ (List.mem_append_right _ (List.mem_append_left _ h)))))))))))))
theorem inr_14 (w : Cond) (h : w ∈ wsL_law0_r14) : w ∈ AW := aw_1 (List.mem_append_right _ (List.mem_append_right _ (List.mem_append_right _ (List.mem_append_right _ (List.mem_append_right _ (List.mem_append_right _ (List.mem_append_right _ (List.mem_append_right _ (List.mem_append_right _ (List.mem_append_right _ (List.mem_append_right _ (List.mem_append_right _ (List.mem_append_right _ (List.mem_append_left _ h))))))))))))))
theorem inr_15 (w : Cond) (h : w ∈ wsL_law0_r15) : w ∈ AW := aw_1 (List.mem_append_right _ (List.mem_append_right _ (List.mem_append_right _ (List.mem_append_right _ (List.mem_append_right _ (List.mem_append_right _ (List.mem_append_right _ (List.mem_append_right _ (List.mem_append_right _ (List.mem_append_right _ (List.mem_append_right _ (List.mem_append_right _ (List.mem_append_right _ (List.mem_append_right _ (List.mem_append_left _ h)))))))))))))))
theorem inr_16 (w : Cond) (h : w ∈ wsL_law0_r16) : w ∈ AW := aw_1 (List.mem_append_right _ (List.mem_append_right _ (List.mem_append_right _ (List.mem_append_right _ (List.mem_append_right _ (List.mem_append_right _ (List.mem_append_right _ (List.mem_append_right _ (List.mem_append_right _ (List.mem_append_right _ (List.mem_append_right _ (List.mem_append_right _ (List.mem_append_right _ (List.mem_append_right _ (List.mem_append_right _ (List.mem_append_left _ h))))))))))))))))
theorem inr_17 (w : Cond) (h : w ∈ wsL_law0_r17) : w ∈ AW := aw_1 (List.mem_append_right _ (List.mem_append_right _ (List.mem_append_right _ (List.mem_append_right _ (List.mem_append_right _ (List.mem_append_right _ (List.mem_append_right _ (List.mem_append_right _ (List.mem_append_right _ (List.mem_append_right _ (List.mem_append_right _ (List.mem_append_right _ (List.mem_append_right _ (List.mem_append_right _ (List.mem_append_right _ (List.mem_append_right _ (List.mem_append_left _ h)))))))))))))))))
theorem inr_18 (w : Cond) (h : w ∈ wsL_law0_r18) : w ∈ AW := aw_1 (List.mem_append_right _ (List.mem_append_right _ (List.mem_append_right _ (List.mem_append_right _ (List.mem_append_right _ (List.mem_append_right _ (List.mem_append_right _ (List.mem_append_right _ (List.mem_append_right _ (List.mem_append_right _ (List.mem_append_right _ (List.mem_append_right _ (List.mem_append_right _ (List.mem_append_right _ (List.mem_append_right _ (List.mem_append_right _ (List.mem_append_right _ (List.mem_append_left _ h))))))))))))))))))
theorem inr_19 (w : Cond) (h : w ∈ wsL_law0_r19) : w ∈ AW := aw_1 (List.mem_append_right _ (List.mem_append_right _ (List.mem_append_right _ (List.mem_append_right _ (List.mem_append_right _ (List.mem_append_right _ (List.mem_append_right _ (List.mem_append_right _ (List.mem_append_right _ (List.mem_append_right _ (List.mem_append_right _ (List.mem_append_right _ (List.mem_append_right _ (List.mem_append_right _ (List.mem_append_right _ (List.mem_append_right _ (List.mem_append_right _ (List.mem_append_right _ (List.mem_append_left _ h)))))))))))))))))))
theorem inr_20 (w : Cond) (h : w ∈ wsL_law0_r20) : w ∈ AW := aw_1 (List.mem_append_right _ (List.mem_append_right _ (List.mem_append_right _ (List.mem_append_right _ (List.mem_append_right _ (List.mem_append_right _ (List.mem_append_right _ (List.mem_append_right _ (List.mem_append_right _ (List.mem_append_right _ (List.mem_append_right _ (List.mem_append_right _ (List.mem_append_right _ (List.mem_append_right _ (List.mem_append_right _ (List.mem_append_right _ (List.mem_append_right _ (List.mem_append_right _ (List.mem_append_right _ (List.mem_append_left _ h))))))))))))))))))))
theorem inr_21 (w : Cond) (h : w ∈ wsL_law0_r21) : w ∈ AW := aw_1 (List.mem_append_right _ (List.mem_append_right _ (List.mem_append_right _ (List.mem_append_right _ (List.mem_append_right _ (List.mem_append_right _ (List.mem_append_right _ (List.mem_append_right _ (List.mem_append_right _ (List.mem_append_right _ (List.mem_append_right _ (List.mem_append_right _ (List.mem_append_right _ (List.mem_append_right _ (List.mem_append_right _ (List.mem_append_right _ (List.mem_append_right _ (List.mem_append_right _ (List.mem_append_right _ (List.mem_append_right _ h))))))))))))))))))))
theorem AW_good : AW.all goodWord = true := by decide +kernel
theorem aw_in {w : Cond} (h : w ∈ AW) : w ∈ AW ∧ ((w.onTables && w.keeps) = true ∨ ∃ ty, w = .arrayClass ty) := ⟨h, good_of_word (List.all_eq_true.mp AW_good w h)⟩
def ws_ (y : MethodName) (b : ByteArray) (n : Nat) (ret : Option FieldType) : List Cond := .code y b n ret :: AW
def wsW (y : MethodName) (b : ByteArray) (n : Nat) (ret : Option FieldType) (hh : List (Nat × Nat × Nat × Nat)) : List Cond := .codeWith y b n ret hh :: AW
def rmk (k mc ms : Nat) : Room := { frames := k, cells := mc, slots := ms, locals := 40 * k }
def LkV (own : String) (idx : Nat) (y : MethodName) (b : ByteArray) (maxL : Nat) (ret : Option FieldType) (n : Nat) : Prop :=
  Cond.methodLink own idx y ∈ AW ∧ Cond.instanceMethod y ∈ AW ∧ Cond.selects y.cls y y ∈ AW ∧ Cond.initialized y.cls ∈ AW ∧ Cond.code y b maxL ret ∈ AW ∧ y.cls ≠ "java/lang/invoke/MethodHandle" ∧ y.cls ≠ "java/lang/invoke/VarHandle" ∧ (parseMethodDescriptor y.desc).map (fun d => d.parameters.length) = some n
def LkS (own : String) (idx : Nat) (y : MethodName) (b : ByteArray) (maxL : Nat) (ret : Option FieldType) (n : Nat) : Prop :=
  Cond.methodLink own idx y ∈ AW ∧ Cond.static y ∈ AW ∧ Cond.initialized y.cls ∈ AW ∧ Cond.code y b maxL ret ∈ AW ∧ y.cls ≠ "java/lang/invoke/MethodHandle" ∧ y.cls ≠ "java/lang/invoke/VarHandle" ∧ (parseMethodDescriptor y.desc).map (fun d => d.parameters.length) = some n
def LkSW (own : String) (idx : Nat) (y : MethodName) (b : ByteArray) (maxL : Nat) (ret : Option FieldType) (hh : List (Nat × Nat × Nat × Nat)) (n : Nat) : Prop :=
  Cond.methodLink own idx y ∈ AW ∧ Cond.static y ∈ AW ∧ Cond.initialized y.cls ∈ AW ∧ Cond.codeWith y b maxL ret hh ∈ AW ∧ y.cls ≠ "java/lang/invoke/MethodHandle" ∧ y.cls ≠ "java/lang/invoke/VarHandle" ∧ (parseMethodDescriptor y.desc).map (fun d => d.parameters.length) = some n
theorem LkV.good {own : String} {idx n maxL : Nat} {y : MethodName} {b : ByteArray} {ret : Option FieldType} (h : LkV own idx y b maxL ret n) : GoodIn AW (wsV own idx y.cls y (ws_ y b maxL ret)) := by
  obtain ⟨h1, h2, h3, h4, h5, -⟩ := h
  intro w hw
  apply aw_in
  simp only [wsV, ws_, List.mem_append, List.mem_cons, List.not_mem_nil, or_false] at hw
  rcases hw with (h | h | h | h) | h | h <;> first | (rw [h]; assumption) | exact h
theorem LkS.good {own : String} {idx n maxL : Nat} {y : MethodName} {b : ByteArray} {ret : Option FieldType} (h : LkS own idx y b maxL ret n) : GoodIn AW (va_wsS own idx y (ws_ y b maxL ret)) := by
  obtain ⟨h1, h2, h3, h4, -⟩ := h
  intro w hw
  apply aw_in
  simp only [va_wsS, ws_, List.mem_append, List.mem_cons, List.not_mem_nil, or_false] at hw
  rcases hw with (h | h | h) | h | h <;> first | (rw [h]; assumption) | exact h
theorem LkSW.good {own : String} {idx n maxL : Nat} {y : MethodName} {b : ByteArray} {ret : Option FieldType} {hh : List (Nat × Nat × Nat × Nat)} (h : LkSW own idx y b maxL ret hh n) : GoodIn AW (va_wsS own idx y (wsW y b maxL ret hh)) := by
  obtain ⟨h1, h2, h3, h4, -⟩ := h
  intro w hw
  apply aw_in
  simp only [va_wsS, wsW, List.mem_append, List.mem_cons, List.not_mem_nil, or_false] at hw
  rcases hw with (h | h | h) | h | h <;> first | (rw [h]; assumption) | exact h
theorem lk_RL_X0_setRate : LkV RL 7 yX0_setRate cX0_setRate 4 (some .int) 3 := ⟨(inr_2 _ (List.mem_of_getElem? (i := 15) rfl)), (inr_2 _ (List.mem_of_getElem? (i := 16) rfl)), (inr_2 _ (List.mem_of_getElem? (i := 17) rfl)), (inr_1 _ (List.mem_of_getElem? (i := 2) rfl)), (inr_2 _ (List.mem_of_getElem? (i := 18) rfl)), by decide +kernel, by decide +kernel, by decide +kernel⟩
theorem lk_RL_X0_setSpread : LkV RL 17 yX0_setSpread cX0_setSpread 2 (some .int) 1 := ⟨(inr_9 _ (List.mem_of_getElem? (i := 1) rfl)), (inr_9 _ (List.mem_of_getElem? (i := 2) rfl)), (inr_9 _ (List.mem_of_getElem? (i := 3) rfl)), (inr_1 _ (List.mem_of_getElem? (i := 2) rfl)), (inr_9 _ (List.mem_of_getElem? (i := 4) rfl)), by decide +kernel, by decide +kernel, by decide +kernel⟩
theorem lk_RL_X0_setLimit : LkV RL 21 yX0_setLimit cX0_setLimit 4 (some .int) 2 := ⟨(inr_9 _ (List.mem_of_getElem? (i := 12) rfl)), (inr_9 _ (List.mem_of_getElem? (i := 13) rfl)), (inr_9 _ (List.mem_of_getElem? (i := 14) rfl)), (inr_1 _ (List.mem_of_getElem? (i := 2) rfl)), (inr_9 _ (List.mem_of_getElem? (i := 15) rfl)), by decide +kernel, by decide +kernel, by decide +kernel⟩
theorem lk_RL_X0_stock : LkV RL 25 yX0_stock cX0_stock 3 (some .int) 2 := ⟨(inr_10 _ (List.mem_of_getElem? (i := 1) rfl)), (inr_10 _ (List.mem_of_getElem? (i := 2) rfl)), (inr_10 _ (List.mem_of_getElem? (i := 3) rfl)), (inr_1 _ (List.mem_of_getElem? (i := 2) rfl)), (inr_10 _ (List.mem_of_getElem? (i := 4) rfl)), by decide +kernel, by decide +kernel, by decide +kernel⟩
theorem lk_RL_X0_come : LkV RL 28 yX0_come cX0_come 1 (some .int) 0 := ⟨(inr_11 _ (List.mem_of_getElem? (i := 2) rfl)), (inr_11 _ (List.mem_of_getElem? (i := 3) rfl)), (inr_11 _ (List.mem_of_getElem? (i := 4) rfl)), (inr_1 _ (List.mem_of_getElem? (i := 2) rfl)), (inr_11 _ (List.mem_of_getElem? (i := 5) rfl)), by decide +kernel, by decide +kernel, by decide +kernel⟩
theorem lk_RL_X0_earn : LkV RL 34 yX0_earn cX0_earn 5 (some .int) 3 := ⟨(inr_11 _ (List.mem_of_getElem? (i := 16) rfl)), (inr_11 _ (List.mem_of_getElem? (i := 17) rfl)), (inr_11 _ (List.mem_of_getElem? (i := 18) rfl)), (inr_1 _ (List.mem_of_getElem? (i := 2) rfl)), (inr_11 _ (List.mem_of_getElem? (i := 19) rfl)), by decide +kernel, by decide +kernel, by decide +kernel⟩
theorem lk_RL_X0_change : LkV RL 37 yX0_change cX0_change 6 (some .int) 4 := ⟨(inr_12 _ (List.mem_of_getElem? (i := 7) rfl)), (inr_12 _ (List.mem_of_getElem? (i := 8) rfl)), (inr_12 _ (List.mem_of_getElem? (i := 9) rfl)), (inr_1 _ (List.mem_of_getElem? (i := 2) rfl)), (inr_12 _ (List.mem_of_getElem? (i := 10) rfl)), by decide +kernel, by decide +kernel, by decide +kernel⟩
theorem lk_RL_X0_order : LkV RL 41 yX0_order cX0_order 6 (some .int) 5 := ⟨(inr_12 _ (List.mem_of_getElem? (i := 18) rfl)), (inr_12 _ (List.mem_of_getElem? (i := 19) rfl)), (inr_12 _ (List.mem_of_getElem? (i := 20) rfl)), (inr_1 _ (List.mem_of_getElem? (i := 2) rfl)), (inr_12 _ (List.mem_of_getElem? (i := 21) rfl)), by decide +kernel, by decide +kernel, by decide +kernel⟩
theorem lk_RL_X0_cancel : LkV RL 45 yX0_cancel cX0_cancel 4 (some .int) 1 := ⟨(inr_13 _ (List.mem_of_getElem? (i := 5) rfl)), (inr_13 _ (List.mem_of_getElem? (i := 6) rfl)), (inr_13 _ (List.mem_of_getElem? (i := 7) rfl)), (inr_1 _ (List.mem_of_getElem? (i := 2) rfl)), (inr_13 _ (List.mem_of_getElem? (i := 8) rfl)), by decide +kernel, by decide +kernel, by decide +kernel⟩
theorem lk_RL_X0_has : LkV RL 48 yX0_has cX0_has 3 (some .int) 2 := ⟨(inr_13 _ (List.mem_of_getElem? (i := 20) rfl)), (inr_13 _ (List.mem_of_getElem? (i := 21) rfl)), (inr_13 _ (List.mem_of_getElem? (i := 22) rfl)), (inr_1 _ (List.mem_of_getElem? (i := 2) rfl)), (inr_13 _ (List.mem_of_getElem? (i := 23) rfl)), by decide +kernel, by decide +kernel, by decide +kernel⟩
theorem lk_RL_X0_told : LkV RL 51 yX0_told cX0_told 3 (some .int) 2 := ⟨(inr_14 _ (List.mem_of_getElem? (i := 7) rfl)), (inr_14 _ (List.mem_of_getElem? (i := 8) rfl)), (inr_14 _ (List.mem_of_getElem? (i := 9) rfl)), (inr_1 _ (List.mem_of_getElem? (i := 2) rfl)), (inr_14 _ (List.mem_of_getElem? (i := 10) rfl)), by decide +kernel, by decide +kernel, by decide +kernel⟩
theorem lk_RL_X0_about : LkV RL 54 yX0_about cX0_about 3 (some .int) 2 := ⟨(inr_15 _ (List.mem_of_getElem? (i := 10) rfl)), (inr_15 _ (List.mem_of_getElem? (i := 11) rfl)), (inr_15 _ (List.mem_of_getElem? (i := 12) rfl)), (inr_1 _ (List.mem_of_getElem? (i := 2) rfl)), (inr_15 _ (List.mem_of_getElem? (i := 13) rfl)), by decide +kernel, by decide +kernel, by decide +kernel⟩
theorem lk_RL_X0_count : LkV RL 57 yX0_count cX0_count 2 (some .int) 1 := ⟨(inr_15 _ (List.mem_of_getElem? (i := 21) rfl)), (inr_15 _ (List.mem_of_getElem? (i := 22) rfl)), (inr_15 _ (List.mem_of_getElem? (i := 23) rfl)), (inr_1 _ (List.mem_of_getElem? (i := 2) rfl)), (inr_16 _ (List.mem_of_getElem? (i := 0) rfl)), by decide +kernel, by decide +kernel, by decide +kernel⟩
theorem lk_RL_X0_would : LkV RL 60 yX0_would cX0_would 4 (some .int) 3 := ⟨(inr_16 _ (List.mem_of_getElem? (i := 20) rfl)), (inr_16 _ (List.mem_of_getElem? (i := 21) rfl)), (inr_16 _ (List.mem_of_getElem? (i := 22) rfl)), (inr_1 _ (List.mem_of_getElem? (i := 2) rfl)), (inr_16 _ (List.mem_of_getElem? (i := 23) rfl)), by decide +kernel, by decide +kernel, by decide +kernel⟩
theorem lk_RL_X0_way : LkV RL 63 yX0_way cX0_way 4 (some .int) 3 := ⟨(inr_17 _ (List.mem_of_getElem? (i := 10) rfl)), (inr_17 _ (List.mem_of_getElem? (i := 11) rfl)), (inr_17 _ (List.mem_of_getElem? (i := 12) rfl)), (inr_1 _ (List.mem_of_getElem? (i := 2) rfl)), (inr_17 _ (List.mem_of_getElem? (i := 13) rfl)), by decide +kernel, by decide +kernel, by decide +kernel⟩
theorem lk_RL_X0_ring : LkV RL 66 yX0_ring cX0_ring 5 (some .int) 2 := ⟨(inr_18 _ (List.mem_of_getElem? (i := 23) rfl)), (inr_19 _ (List.mem_of_getElem? (i := 0) rfl)), (inr_19 _ (List.mem_of_getElem? (i := 1) rfl)), (inr_1 _ (List.mem_of_getElem? (i := 2) rfl)), (inr_19 _ (List.mem_of_getElem? (i := 2) rfl)), by decide +kernel, by decide +kernel, by decide +kernel⟩
theorem lk_RL_X0_needs : LkV RL 69 yX0_needs cX0_needs 4 (some .int) 2 := ⟨(inr_19 _ (List.mem_of_getElem? (i := 10) rfl)), (inr_19 _ (List.mem_of_getElem? (i := 11) rfl)), (inr_19 _ (List.mem_of_getElem? (i := 12) rfl)), (inr_1 _ (List.mem_of_getElem? (i := 2) rfl)), (inr_19 _ (List.mem_of_getElem? (i := 13) rfl)), by decide +kernel, by decide +kernel, by decide +kernel⟩
theorem lk_RL_X0_mean : LkV RL 72 yX0_mean cX0_mean 2 (some .double) 1 := ⟨(inr_20 _ (List.mem_of_getElem? (i := 6) rfl)), (inr_20 _ (List.mem_of_getElem? (i := 7) rfl)), (inr_20 _ (List.mem_of_getElem? (i := 8) rfl)), (inr_1 _ (List.mem_of_getElem? (i := 2) rfl)), (inr_20 _ (List.mem_of_getElem? (i := 9) rfl)), by decide +kernel, by decide +kernel, by decide +kernel⟩
theorem lk_RL_L_setRate : LkSW RL 80 yL_setRate cL_setRate 6 (some .int) [(0, 12, 15, 13), (0, 12, 19, 15)] 5 := ⟨(inr_2 _ (List.mem_of_getElem? (i := 9) rfl)), (inr_2 _ (List.mem_of_getElem? (i := 10) rfl)), (inr_2 _ (List.mem_of_getElem? (i := 11) rfl)), (inr_2 _ (List.mem_of_getElem? (i := 12) rfl)), by decide +kernel, by decide +kernel, by decide +kernel⟩
theorem lk_RL_X1_setRate : LkV RL 85 yX1_setRate cX1_setRate 4 (some .int) 3 := ⟨(inr_5 _ (List.mem_of_getElem? (i := 22) rfl)), (inr_5 _ (List.mem_of_getElem? (i := 23) rfl)), (inr_6 _ (List.mem_of_getElem? (i := 0) rfl)), (inr_1 _ (List.mem_of_getElem? (i := 5) rfl)), (inr_6 _ (List.mem_of_getElem? (i := 1) rfl)), by decide +kernel, by decide +kernel, by decide +kernel⟩
theorem lk_RL_X1_thrown : LkV RL 86 yX1_thrown cX1_thrown 1 (some .int) 0 := ⟨(inr_8 _ (List.mem_of_getElem? (i := 18) rfl)), (inr_8 _ (List.mem_of_getElem? (i := 19) rfl)), (inr_8 _ (List.mem_of_getElem? (i := 20) rfl)), (inr_1 _ (List.mem_of_getElem? (i := 5) rfl)), (inr_8 _ (List.mem_of_getElem? (i := 21) rfl)), by decide +kernel, by decide +kernel, by decide +kernel⟩
theorem lk_RL_L_setSpread : LkSW RL 89 yL_setSpread cL_setSpread 4 (some .int) [(0, 9, 12, 15)] 3 := ⟨(inr_8 _ (List.mem_of_getElem? (i := 22) rfl)), (inr_8 _ (List.mem_of_getElem? (i := 23) rfl)), (inr_2 _ (List.mem_of_getElem? (i := 11) rfl)), (inr_9 _ (List.mem_of_getElem? (i := 0) rfl)), by decide +kernel, by decide +kernel, by decide +kernel⟩
theorem lk_RL_X1_setSpread : LkV RL 92 yX1_setSpread cX1_setSpread 2 (some .int) 1 := ⟨(inr_9 _ (List.mem_of_getElem? (i := 5) rfl)), (inr_9 _ (List.mem_of_getElem? (i := 6) rfl)), (inr_9 _ (List.mem_of_getElem? (i := 7) rfl)), (inr_1 _ (List.mem_of_getElem? (i := 5) rfl)), (inr_9 _ (List.mem_of_getElem? (i := 8) rfl)), by decide +kernel, by decide +kernel, by decide +kernel⟩
theorem lk_RL_L_setLimit : LkSW RL 93 yL_setLimit cL_setLimit 5 (some .int) [(0, 10, 13, 13), (0, 10, 17, 15)] 4 := ⟨(inr_9 _ (List.mem_of_getElem? (i := 9) rfl)), (inr_9 _ (List.mem_of_getElem? (i := 10) rfl)), (inr_2 _ (List.mem_of_getElem? (i := 11) rfl)), (inr_9 _ (List.mem_of_getElem? (i := 11) rfl)), by decide +kernel, by decide +kernel, by decide +kernel⟩
theorem lk_RL_X1_setLimit : LkV RL 96 yX1_setLimit cX1_setLimit 4 (some .int) 2 := ⟨(inr_9 _ (List.mem_of_getElem? (i := 17) rfl)), (inr_9 _ (List.mem_of_getElem? (i := 18) rfl)), (inr_9 _ (List.mem_of_getElem? (i := 19) rfl)), (inr_1 _ (List.mem_of_getElem? (i := 5) rfl)), (inr_9 _ (List.mem_of_getElem? (i := 20) rfl)), by decide +kernel, by decide +kernel, by decide +kernel⟩
theorem lk_RL_L_stock : LkSW RL 97 yL_stock cL_stock 5 (some .int) [(0, 10, 13, 13), (0, 10, 17, 15)] 4 := ⟨(inr_9 _ (List.mem_of_getElem? (i := 22) rfl)), (inr_9 _ (List.mem_of_getElem? (i := 23) rfl)), (inr_2 _ (List.mem_of_getElem? (i := 11) rfl)), (inr_10 _ (List.mem_of_getElem? (i := 0) rfl)), by decide +kernel, by decide +kernel, by decide +kernel⟩
theorem lk_RL_X1_stock : LkV RL 99 yX1_stock cX1_stock 3 (some .int) 2 := ⟨(inr_10 _ (List.mem_of_getElem? (i := 8) rfl)), (inr_10 _ (List.mem_of_getElem? (i := 9) rfl)), (inr_10 _ (List.mem_of_getElem? (i := 10) rfl)), (inr_1 _ (List.mem_of_getElem? (i := 5) rfl)), (inr_10 _ (List.mem_of_getElem? (i := 11) rfl)), by decide +kernel, by decide +kernel, by decide +kernel⟩
theorem lk_RL_X0_next : LkV RL 100 yX0_next cX0_next 2 (some .int) 0 := ⟨(inr_10 _ (List.mem_of_getElem? (i := 12) rfl)), (inr_10 _ (List.mem_of_getElem? (i := 13) rfl)), (inr_10 _ (List.mem_of_getElem? (i := 14) rfl)), (inr_1 _ (List.mem_of_getElem? (i := 2) rfl)), (inr_10 _ (List.mem_of_getElem? (i := 15) rfl)), by decide +kernel, by decide +kernel, by decide +kernel⟩
theorem lk_RL_X1_next : LkV RL 103 yX1_next cX1_next 2 (some .int) 0 := ⟨(inr_10 _ (List.mem_of_getElem? (i := 17) rfl)), (inr_10 _ (List.mem_of_getElem? (i := 18) rfl)), (inr_10 _ (List.mem_of_getElem? (i := 19) rfl)), (inr_1 _ (List.mem_of_getElem? (i := 5) rfl)), (inr_10 _ (List.mem_of_getElem? (i := 20) rfl)), by decide +kernel, by decide +kernel, by decide +kernel⟩
theorem lk_RL_L_come : LkSW RL 104 yL_come cL_come 3 (some .int) [(0, 8, 11, 32)] 2 := ⟨(inr_10 _ (List.mem_of_getElem? (i := 22) rfl)), (inr_10 _ (List.mem_of_getElem? (i := 23) rfl)), (inr_2 _ (List.mem_of_getElem? (i := 11) rfl)), (inr_11 _ (List.mem_of_getElem? (i := 0) rfl)), by decide +kernel, by decide +kernel, by decide +kernel⟩
theorem lk_RL_X1_come : LkV RL 107 yX1_come cX1_come 1 (some .int) 0 := ⟨(inr_11 _ (List.mem_of_getElem? (i := 8) rfl)), (inr_11 _ (List.mem_of_getElem? (i := 9) rfl)), (inr_11 _ (List.mem_of_getElem? (i := 10) rfl)), (inr_1 _ (List.mem_of_getElem? (i := 5) rfl)), (inr_11 _ (List.mem_of_getElem? (i := 11) rfl)), by decide +kernel, by decide +kernel, by decide +kernel⟩
theorem lk_RL_L_earn : LkSW RL 108 yL_earn cL_earn 6 (some .int) [(0, 12, 15, 13), (0, 12, 19, 15)] 5 := ⟨(inr_11 _ (List.mem_of_getElem? (i := 13) rfl)), (inr_11 _ (List.mem_of_getElem? (i := 14) rfl)), (inr_2 _ (List.mem_of_getElem? (i := 11) rfl)), (inr_11 _ (List.mem_of_getElem? (i := 15) rfl)), by decide +kernel, by decide +kernel, by decide +kernel⟩
theorem lk_RL_X1_earn : LkV RL 110 yX1_earn cX1_earn 5 (some .int) 3 := ⟨(inr_11 _ (List.mem_of_getElem? (i := 20) rfl)), (inr_11 _ (List.mem_of_getElem? (i := 21) rfl)), (inr_11 _ (List.mem_of_getElem? (i := 22) rfl)), (inr_1 _ (List.mem_of_getElem? (i := 5) rfl)), (inr_11 _ (List.mem_of_getElem? (i := 23) rfl)), by decide +kernel, by decide +kernel, by decide +kernel⟩
theorem lk_RL_L_change : LkSW RL 111 yL_change cL_change 7 (some .int) [(0, 14, 17, 13), (0, 14, 21, 32)] 6 := ⟨(inr_12 _ (List.mem_of_getElem? (i := 4) rfl)), (inr_12 _ (List.mem_of_getElem? (i := 5) rfl)), (inr_2 _ (List.mem_of_getElem? (i := 11) rfl)), (inr_12 _ (List.mem_of_getElem? (i := 6) rfl)), by decide +kernel, by decide +kernel, by decide +kernel⟩
theorem lk_RL_X1_change : LkV RL 114 yX1_change cX1_change 5 (some .int) 4 := ⟨(inr_12 _ (List.mem_of_getElem? (i := 11) rfl)), (inr_12 _ (List.mem_of_getElem? (i := 12) rfl)), (inr_12 _ (List.mem_of_getElem? (i := 13) rfl)), (inr_1 _ (List.mem_of_getElem? (i := 5) rfl)), (inr_12 _ (List.mem_of_getElem? (i := 14) rfl)), by decide +kernel, by decide +kernel, by decide +kernel⟩
theorem lk_RL_L_order : LkSW RL 115 yL_order cL_order 8 (some .int) [(0, 16, 19, 13), (0, 16, 23, 15), (0, 16, 27, 32)] 7 := ⟨(inr_12 _ (List.mem_of_getElem? (i := 15) rfl)), (inr_12 _ (List.mem_of_getElem? (i := 16) rfl)), (inr_2 _ (List.mem_of_getElem? (i := 11) rfl)), (inr_12 _ (List.mem_of_getElem? (i := 17) rfl)), by decide +kernel, by decide +kernel, by decide +kernel⟩
theorem lk_RL_X1_order : LkV RL 118 yX1_order cX1_order 7 (some .int) 5 := ⟨(inr_12 _ (List.mem_of_getElem? (i := 22) rfl)), (inr_12 _ (List.mem_of_getElem? (i := 23) rfl)), (inr_13 _ (List.mem_of_getElem? (i := 0) rfl)), (inr_1 _ (List.mem_of_getElem? (i := 5) rfl)), (inr_13 _ (List.mem_of_getElem? (i := 1) rfl)), by decide +kernel, by decide +kernel, by decide +kernel⟩
theorem lk_RL_L_cancel : LkSW RL 119 yL_cancel cL_cancel 4 (some .int) [(0, 9, 12, 13)] 3 := ⟨(inr_13 _ (List.mem_of_getElem? (i := 2) rfl)), (inr_13 _ (List.mem_of_getElem? (i := 3) rfl)), (inr_2 _ (List.mem_of_getElem? (i := 11) rfl)), (inr_13 _ (List.mem_of_getElem? (i := 4) rfl)), by decide +kernel, by decide +kernel, by decide +kernel⟩
theorem lk_RL_X1_cancel : LkV RL 121 yX1_cancel cX1_cancel 3 (some .int) 1 := ⟨(inr_13 _ (List.mem_of_getElem? (i := 13) rfl)), (inr_13 _ (List.mem_of_getElem? (i := 14) rfl)), (inr_13 _ (List.mem_of_getElem? (i := 15) rfl)), (inr_1 _ (List.mem_of_getElem? (i := 5) rfl)), (inr_13 _ (List.mem_of_getElem? (i := 16) rfl)), by decide +kernel, by decide +kernel, by decide +kernel⟩
theorem lk_RL_L_has : LkSW RL 122 yL_has cL_has 5 (some .int) [(0, 10, 13, 13)] 4 := ⟨(inr_13 _ (List.mem_of_getElem? (i := 17) rfl)), (inr_13 _ (List.mem_of_getElem? (i := 18) rfl)), (inr_2 _ (List.mem_of_getElem? (i := 11) rfl)), (inr_13 _ (List.mem_of_getElem? (i := 19) rfl)), by decide +kernel, by decide +kernel, by decide +kernel⟩
theorem lk_RL_X1_has : LkV RL 124 yX1_has cX1_has 3 (some .int) 2 := ⟨(inr_14 _ (List.mem_of_getElem? (i := 0) rfl)), (inr_14 _ (List.mem_of_getElem? (i := 1) rfl)), (inr_14 _ (List.mem_of_getElem? (i := 2) rfl)), (inr_1 _ (List.mem_of_getElem? (i := 5) rfl)), (inr_14 _ (List.mem_of_getElem? (i := 3) rfl)), by decide +kernel, by decide +kernel, by decide +kernel⟩
theorem lk_RL_L_told : LkSW RL 125 yL_told cL_told 5 (some .int) [(0, 10, 13, 13)] 4 := ⟨(inr_14 _ (List.mem_of_getElem? (i := 4) rfl)), (inr_14 _ (List.mem_of_getElem? (i := 5) rfl)), (inr_2 _ (List.mem_of_getElem? (i := 11) rfl)), (inr_14 _ (List.mem_of_getElem? (i := 6) rfl)), by decide +kernel, by decide +kernel, by decide +kernel⟩
theorem lk_RL_X1_told : LkV RL 127 yX1_told cX1_told 3 (some .int) 2 := ⟨(inr_14 _ (List.mem_of_getElem? (i := 19) rfl)), (inr_14 _ (List.mem_of_getElem? (i := 20) rfl)), (inr_14 _ (List.mem_of_getElem? (i := 21) rfl)), (inr_1 _ (List.mem_of_getElem? (i := 5) rfl)), (inr_14 _ (List.mem_of_getElem? (i := 22) rfl)), by decide +kernel, by decide +kernel, by decide +kernel⟩
theorem lk_RL_L_about : LkSW RL 128 yL_about cL_about 5 (some .int) [(0, 10, 13, 13)] 4 := ⟨(inr_15 _ (List.mem_of_getElem? (i := 7) rfl)), (inr_15 _ (List.mem_of_getElem? (i := 8) rfl)), (inr_2 _ (List.mem_of_getElem? (i := 11) rfl)), (inr_15 _ (List.mem_of_getElem? (i := 9) rfl)), by decide +kernel, by decide +kernel, by decide +kernel⟩
theorem lk_RL_X1_about : LkV RL 130 yX1_about cX1_about 3 (some .int) 2 := ⟨(inr_15 _ (List.mem_of_getElem? (i := 14) rfl)), (inr_15 _ (List.mem_of_getElem? (i := 15) rfl)), (inr_15 _ (List.mem_of_getElem? (i := 16) rfl)), (inr_1 _ (List.mem_of_getElem? (i := 5) rfl)), (inr_15 _ (List.mem_of_getElem? (i := 17) rfl)), by decide +kernel, by decide +kernel, by decide +kernel⟩
theorem lk_RL_L_count : LkSW RL 131 yL_count cL_count 4 (some .int) [(0, 9, 12, 13)] 3 := ⟨(inr_15 _ (List.mem_of_getElem? (i := 18) rfl)), (inr_15 _ (List.mem_of_getElem? (i := 19) rfl)), (inr_2 _ (List.mem_of_getElem? (i := 11) rfl)), (inr_15 _ (List.mem_of_getElem? (i := 20) rfl)), by decide +kernel, by decide +kernel, by decide +kernel⟩
theorem lk_RL_X1_count : LkV RL 133 yX1_count cX1_count 2 (some .int) 1 := ⟨(inr_16 _ (List.mem_of_getElem? (i := 9) rfl)), (inr_16 _ (List.mem_of_getElem? (i := 10) rfl)), (inr_16 _ (List.mem_of_getElem? (i := 11) rfl)), (inr_1 _ (List.mem_of_getElem? (i := 5) rfl)), (inr_16 _ (List.mem_of_getElem? (i := 12) rfl)), by decide +kernel, by decide +kernel, by decide +kernel⟩
theorem lk_RL_L_would : LkSW RL 134 yL_would cL_would 6 (some .int) [(0, 12, 15, 13), (0, 12, 19, 15)] 5 := ⟨(inr_16 _ (List.mem_of_getElem? (i := 17) rfl)), (inr_16 _ (List.mem_of_getElem? (i := 18) rfl)), (inr_2 _ (List.mem_of_getElem? (i := 11) rfl)), (inr_16 _ (List.mem_of_getElem? (i := 19) rfl)), by decide +kernel, by decide +kernel, by decide +kernel⟩
theorem lk_RL_X1_would : LkV RL 136 yX1_would cX1_would 4 (some .int) 3 := ⟨(inr_17 _ (List.mem_of_getElem? (i := 3) rfl)), (inr_17 _ (List.mem_of_getElem? (i := 4) rfl)), (inr_17 _ (List.mem_of_getElem? (i := 5) rfl)), (inr_1 _ (List.mem_of_getElem? (i := 5) rfl)), (inr_17 _ (List.mem_of_getElem? (i := 6) rfl)), by decide +kernel, by decide +kernel, by decide +kernel⟩
theorem lk_RL_L_way : LkSW RL 137 yL_way cL_way 6 (some .int) [(0, 12, 15, 13), (0, 12, 19, 15)] 5 := ⟨(inr_17 _ (List.mem_of_getElem? (i := 7) rfl)), (inr_17 _ (List.mem_of_getElem? (i := 8) rfl)), (inr_2 _ (List.mem_of_getElem? (i := 11) rfl)), (inr_17 _ (List.mem_of_getElem? (i := 9) rfl)), by decide +kernel, by decide +kernel, by decide +kernel⟩
theorem lk_RL_X1_way : LkV RL 139 yX1_way cX1_way 4 (some .int) 3 := ⟨(inr_18 _ (List.mem_of_getElem? (i := 9) rfl)), (inr_18 _ (List.mem_of_getElem? (i := 10) rfl)), (inr_18 _ (List.mem_of_getElem? (i := 11) rfl)), (inr_1 _ (List.mem_of_getElem? (i := 5) rfl)), (inr_18 _ (List.mem_of_getElem? (i := 12) rfl)), by decide +kernel, by decide +kernel, by decide +kernel⟩
theorem lk_RL_L_ring : LkSW RL 140 yL_ring cL_ring 5 (some .int) [(0, 10, 13, 13), (0, 10, 17, 15)] 4 := ⟨(inr_18 _ (List.mem_of_getElem? (i := 20) rfl)), (inr_18 _ (List.mem_of_getElem? (i := 21) rfl)), (inr_2 _ (List.mem_of_getElem? (i := 11) rfl)), (inr_18 _ (List.mem_of_getElem? (i := 22) rfl)), by decide +kernel, by decide +kernel, by decide +kernel⟩
theorem lk_RL_X1_ring : LkV RL 142 yX1_ring cX1_ring 3 (some .int) 2 := ⟨(inr_19 _ (List.mem_of_getElem? (i := 3) rfl)), (inr_19 _ (List.mem_of_getElem? (i := 4) rfl)), (inr_19 _ (List.mem_of_getElem? (i := 5) rfl)), (inr_1 _ (List.mem_of_getElem? (i := 5) rfl)), (inr_19 _ (List.mem_of_getElem? (i := 6) rfl)), by decide +kernel, by decide +kernel, by decide +kernel⟩
theorem lk_RL_L_needs : LkSW RL 143 yL_needs cL_needs 5 (some .int) [(0, 10, 13, 13), (0, 10, 17, 15)] 4 := ⟨(inr_19 _ (List.mem_of_getElem? (i := 7) rfl)), (inr_19 _ (List.mem_of_getElem? (i := 8) rfl)), (inr_2 _ (List.mem_of_getElem? (i := 11) rfl)), (inr_19 _ (List.mem_of_getElem? (i := 9) rfl)), by decide +kernel, by decide +kernel, by decide +kernel⟩
theorem lk_RL_X1_needs : LkV RL 145 yX1_needs cX1_needs 5 (some .int) 2 := ⟨(inr_19 _ (List.mem_of_getElem? (i := 23) rfl)), (inr_20 _ (List.mem_of_getElem? (i := 0) rfl)), (inr_20 _ (List.mem_of_getElem? (i := 1) rfl)), (inr_1 _ (List.mem_of_getElem? (i := 5) rfl)), (inr_20 _ (List.mem_of_getElem? (i := 2) rfl)), by decide +kernel, by decide +kernel, by decide +kernel⟩
theorem lk_RL_L_mean : LkSW RL 146 yL_mean cL_mean 4 (some .int) [(0, 8, 11, 13)] 3 := ⟨(inr_20 _ (List.mem_of_getElem? (i := 3) rfl)), (inr_20 _ (List.mem_of_getElem? (i := 4) rfl)), (inr_2 _ (List.mem_of_getElem? (i := 11) rfl)), (inr_20 _ (List.mem_of_getElem? (i := 5) rfl)), by decide +kernel, by decide +kernel, by decide +kernel⟩
theorem lk_RL_X1_mean : LkV RL 149 yX1_mean cX1_mean 2 (some .double) 1 := ⟨(inr_20 _ (List.mem_of_getElem? (i := 10) rfl)), (inr_20 _ (List.mem_of_getElem? (i := 11) rfl)), (inr_20 _ (List.mem_of_getElem? (i := 12) rfl)), (inr_1 _ (List.mem_of_getElem? (i := 5) rfl)), (inr_20 _ (List.mem_of_getElem? (i := 13) rfl)), by decide +kernel, by decide +kernel, by decide +kernel⟩
theorem lk_RL_X0_digest : LkV RL 150 yX0_digest cX0_digest 5 (some .long) 0 := ⟨(inr_20 _ (List.mem_of_getElem? (i := 14) rfl)), (inr_20 _ (List.mem_of_getElem? (i := 15) rfl)), (inr_20 _ (List.mem_of_getElem? (i := 16) rfl)), (inr_1 _ (List.mem_of_getElem? (i := 2) rfl)), (inr_20 _ (List.mem_of_getElem? (i := 17) rfl)), by decide +kernel, by decide +kernel, by decide +kernel⟩
theorem lk_RL_X1_digest : LkV RL 154 yX1_digest cX1_digest 5 (some .long) 0 := ⟨(inr_21 _ (List.mem_of_getElem? (i := 0) rfl)), (inr_21 _ (List.mem_of_getElem? (i := 1) rfl)), (inr_21 _ (List.mem_of_getElem? (i := 2) rfl)), (inr_1 _ (List.mem_of_getElem? (i := 5) rfl)), (inr_21 _ (List.mem_of_getElem? (i := 3) rfl)), by decide +kernel, by decide +kernel, by decide +kernel⟩
theorem lk_RX0_X0_isMoney : LkS RX0 31 yX0_isMoney cX0_isMoney 1 (some .boolean) 1 := ⟨(inr_2 _ (List.mem_of_getElem? (i := 23) rfl)), (inr_3 _ (List.mem_of_getElem? (i := 0) rfl)), (inr_1 _ (List.mem_of_getElem? (i := 2) rfl)), (inr_3 _ (List.mem_of_getElem? (i := 1) rfl)), by decide +kernel, by decide +kernel, by decide +kernel⟩
theorem lk_RX0_X0_lookAtOrders : LkV RX0 47 yX0_lookAtOrders cX0_lookAtOrders 3 (some .int) 0 := ⟨(inr_3 _ (List.mem_of_getElem? (i := 2) rfl)), (inr_3 _ (List.mem_of_getElem? (i := 3) rfl)), (inr_3 _ (List.mem_of_getElem? (i := 4) rfl)), (inr_1 _ (List.mem_of_getElem? (i := 2) rfl)), (inr_3 _ (List.mem_of_getElem? (i := 5) rfl)), by decide +kernel, by decide +kernel, by decide +kernel⟩
theorem lk_RX0_X0_isNamedAmount : LkS RX0 60 yX0_isNamedAmount cX0_isNamedAmount 1 (some .boolean) 1 := ⟨(inr_10 _ (List.mem_of_getElem? (i := 5) rfl)), (inr_10 _ (List.mem_of_getElem? (i := 6) rfl)), (inr_1 _ (List.mem_of_getElem? (i := 2) rfl)), (inr_10 _ (List.mem_of_getElem? (i := 7) rfl)), by decide +kernel, by decide +kernel, by decide +kernel⟩
theorem lk_RX0_X0_heldAtMost : LkS RX0 65 yX0_heldAtMost cX0_heldAtMost 2 (some .int) 1 := ⟨(inr_5 _ (List.mem_of_getElem? (i := 2) rfl)), (inr_5 _ (List.mem_of_getElem? (i := 3) rfl)), (inr_1 _ (List.mem_of_getElem? (i := 2) rfl)), (inr_5 _ (List.mem_of_getElem? (i := 4) rfl)), by decide +kernel, by decide +kernel, by decide +kernel⟩
theorem lk_RX0_X0_isCustomer : LkV RX0 80 yX0_isCustomer cX0_isCustomer 2 (some .boolean) 1 := ⟨(inr_4 _ (List.mem_of_getElem? (i := 1) rfl)), (inr_4 _ (List.mem_of_getElem? (i := 2) rfl)), (inr_4 _ (List.mem_of_getElem? (i := 3) rfl)), (inr_1 _ (List.mem_of_getElem? (i := 2) rfl)), (inr_4 _ (List.mem_of_getElem? (i := 4) rfl)), by decide +kernel, by decide +kernel, by decide +kernel⟩
theorem lk_RX0_X0_changeIfPossible : LkV RX0 87 yX0_changeIfPossible cX0_changeIfPossible 12 (some .int) 5 := ⟨(inr_3 _ (List.mem_of_getElem? (i := 19) rfl)), (inr_3 _ (List.mem_of_getElem? (i := 20) rfl)), (inr_3 _ (List.mem_of_getElem? (i := 21) rfl)), (inr_1 _ (List.mem_of_getElem? (i := 2) rfl)), (inr_3 _ (List.mem_of_getElem? (i := 22) rfl)), by decide +kernel, by decide +kernel, by decide +kernel⟩
theorem lk_RX0_X0_setOrderPart : LkV RX0 100 yX0_setOrderPart cX0_setOrderPart 4 none 3 := ⟨(inr_5 _ (List.mem_of_getElem? (i := 18) rfl)), (inr_5 _ (List.mem_of_getElem? (i := 19) rfl)), (inr_5 _ (List.mem_of_getElem? (i := 20) rfl)), (inr_1 _ (List.mem_of_getElem? (i := 2) rfl)), (inr_5 _ (List.mem_of_getElem? (i := 21) rfl)), by decide +kernel, by decide +kernel, by decide +kernel⟩
theorem lk_RX0_X0_isPlace : LkV RX0 104 yX0_isPlace cX0_isPlace 2 (some .boolean) 1 := ⟨(inr_13 _ (List.mem_of_getElem? (i := 9) rfl)), (inr_13 _ (List.mem_of_getElem? (i := 10) rfl)), (inr_13 _ (List.mem_of_getElem? (i := 11) rfl)), (inr_1 _ (List.mem_of_getElem? (i := 2) rfl)), (inr_13 _ (List.mem_of_getElem? (i := 12) rfl)), by decide +kernel, by decide +kernel, by decide +kernel⟩
theorem lk_RX0_X0_orderPart : LkV RX0 109 yX0_orderPart cX0_orderPart 3 (some .int) 2 := ⟨(inr_3 _ (List.mem_of_getElem? (i := 12) rfl)), (inr_3 _ (List.mem_of_getElem? (i := 13) rfl)), (inr_3 _ (List.mem_of_getElem? (i := 14) rfl)), (inr_1 _ (List.mem_of_getElem? (i := 2) rfl)), (inr_3 _ (List.mem_of_getElem? (i := 15) rfl)), by decide +kernel, by decide +kernel, by decide +kernel⟩
theorem lk_RX0_X0_moveOrder : LkV RX0 113 yX0_moveOrder cX0_moveOrder 4 none 2 := ⟨(inr_5 _ (List.mem_of_getElem? (i := 14) rfl)), (inr_5 _ (List.mem_of_getElem? (i := 15) rfl)), (inr_5 _ (List.mem_of_getElem? (i := 16) rfl)), (inr_1 _ (List.mem_of_getElem? (i := 2) rfl)), (inr_5 _ (List.mem_of_getElem? (i := 17) rfl)), by decide +kernel, by decide +kernel, by decide +kernel⟩
theorem lk_RX0_X0_inPurse : LkV RX0 117 yX0_inPurse cX0_inPurse 3 (some .int) 2 := ⟨(inr_4 _ (List.mem_of_getElem? (i := 18) rfl)), (inr_4 _ (List.mem_of_getElem? (i := 19) rfl)), (inr_4 _ (List.mem_of_getElem? (i := 20) rfl)), (inr_1 _ (List.mem_of_getElem? (i := 2) rfl)), (inr_4 _ (List.mem_of_getElem? (i := 21) rfl)), by decide +kernel, by decide +kernel, by decide +kernel⟩
theorem lk_RX0_X0_factOfMoney : LkV RX0 122 yX0_factOfMoney cX0_factOfMoney 3 (some .int) 2 := ⟨(inr_14 _ (List.mem_of_getElem? (i := 11) rfl)), (inr_14 _ (List.mem_of_getElem? (i := 12) rfl)), (inr_14 _ (List.mem_of_getElem? (i := 13) rfl)), (inr_1 _ (List.mem_of_getElem? (i := 2) rfl)), (inr_14 _ (List.mem_of_getElem? (i := 14) rfl)), by decide +kernel, by decide +kernel, by decide +kernel⟩
theorem lk_RX0_X0_factOfBooth : LkV RX0 129 yX0_factOfBooth cX0_factOfBooth 2 (some .int) 1 := ⟨(inr_16 _ (List.mem_of_getElem? (i := 1) rfl)), (inr_16 _ (List.mem_of_getElem? (i := 2) rfl)), (inr_16 _ (List.mem_of_getElem? (i := 3) rfl)), (inr_1 _ (List.mem_of_getElem? (i := 2) rfl)), (inr_16 _ (List.mem_of_getElem? (i := 4) rfl)), by decide +kernel, by decide +kernel, by decide +kernel⟩
theorem lk_RX0_X0_isAmountOrNone : LkS RX0 133 yX0_isAmountOrNone cX0_isAmountOrNone 1 (some .boolean) 1 := ⟨(inr_17 _ (List.mem_of_getElem? (i := 0) rfl)), (inr_17 _ (List.mem_of_getElem? (i := 1) rfl)), (inr_1 _ (List.mem_of_getElem? (i := 2) rfl)), (inr_17 _ (List.mem_of_getElem? (i := 2) rfl)), by decide +kernel, by decide +kernel, by decide +kernel⟩
theorem lk_RX0_X0_tenthousandths : LkV RX0 138 yX0_tenthousandths cX0_tenthousandths 5 (some .long) 3 := ⟨(inr_4 _ (List.mem_of_getElem? (i := 6) rfl)), (inr_4 _ (List.mem_of_getElem? (i := 7) rfl)), (inr_4 _ (List.mem_of_getElem? (i := 8) rfl)), (inr_1 _ (List.mem_of_getElem? (i := 2) rfl)), (inr_4 _ (List.mem_of_getElem? (i := 9) rfl)), by decide +kernel, by decide +kernel, by decide +kernel⟩
theorem lk_RX0_X0_wholeOnes : LkS RX0 142 yX0_wholeOnes cX0_wholeOnes 2 (some .long) 1 := ⟨(inr_4 _ (List.mem_of_getElem? (i := 15) rfl)), (inr_4 _ (List.mem_of_getElem? (i := 16) rfl)), (inr_1 _ (List.mem_of_getElem? (i := 2) rfl)), (inr_4 _ (List.mem_of_getElem? (i := 17) rfl)), by decide +kernel, by decide +kernel, by decide +kernel⟩
theorem lk_RX0_X0_bit : LkS RX0 148 yX0_bit cX0_bit 1 (some .int) 1 := ⟨(inr_17 _ (List.mem_of_getElem? (i := 14) rfl)), (inr_17 _ (List.mem_of_getElem? (i := 15) rfl)), (inr_1 _ (List.mem_of_getElem? (i := 2) rfl)), (inr_17 _ (List.mem_of_getElem? (i := 16) rfl)), by decide +kernel, by decide +kernel, by decide +kernel⟩
theorem lk_RX0_X0_mostAtGoal : LkV RX0 151 yX0_mostAtGoal cX0_mostAtGoal 10 (some .long) 5 := ⟨(inr_17 _ (List.mem_of_getElem? (i := 17) rfl)), (inr_17 _ (List.mem_of_getElem? (i := 18) rfl)), (inr_17 _ (List.mem_of_getElem? (i := 19) rfl)), (inr_1 _ (List.mem_of_getElem? (i := 2) rfl)), (inr_17 _ (List.mem_of_getElem? (i := 20) rfl)), by decide +kernel, by decide +kernel, by decide +kernel⟩
theorem lk_RX0_X0_firstOrderPlace : LkV RX0 157 yX0_firstOrderPlace cX0_firstOrderPlace 4 (some .int) 2 := ⟨(inr_19 _ (List.mem_of_getElem? (i := 14) rfl)), (inr_19 _ (List.mem_of_getElem? (i := 15) rfl)), (inr_19 _ (List.mem_of_getElem? (i := 16) rfl)), (inr_1 _ (List.mem_of_getElem? (i := 2) rfl)), (inr_19 _ (List.mem_of_getElem? (i := 17) rfl)), by decide +kernel, by decide +kernel, by decide +kernel⟩
theorem lk_RX0_X0_leastRateFor : LkV RX0 160 yX0_leastRateFor cX0_leastRateFor 12 (some .int) 1 := ⟨(inr_19 _ (List.mem_of_getElem? (i := 18) rfl)), (inr_19 _ (List.mem_of_getElem? (i := 19) rfl)), (inr_19 _ (List.mem_of_getElem? (i := 20) rfl)), (inr_1 _ (List.mem_of_getElem? (i := 2) rfl)), (inr_19 _ (List.mem_of_getElem? (i := 21) rfl)), by decide +kernel, by decide +kernel, by decide +kernel⟩
theorem lk_RX0_X0_inAllPurses : LkV RX0 163 yX0_inAllPurses cX0_inAllPurses 4 (some .int) 1 := ⟨(inr_14 _ (List.mem_of_getElem? (i := 15) rfl)), (inr_14 _ (List.mem_of_getElem? (i := 16) rfl)), (inr_14 _ (List.mem_of_getElem? (i := 17) rfl)), (inr_1 _ (List.mem_of_getElem? (i := 2) rfl)), (inr_14 _ (List.mem_of_getElem? (i := 18) rfl)), by decide +kernel, by decide +kernel, by decide +kernel⟩
theorem lk_RX0_X0_digestOfMoneys : LkV RX0 170 yX0_digestOfMoneys cX0_digestOfMoneys 7 (some .long) 1 := ⟨(inr_20 _ (List.mem_of_getElem? (i := 20) rfl)), (inr_20 _ (List.mem_of_getElem? (i := 21) rfl)), (inr_20 _ (List.mem_of_getElem? (i := 22) rfl)), (inr_1 _ (List.mem_of_getElem? (i := 2) rfl)), (inr_20 _ (List.mem_of_getElem? (i := 23) rfl)), by decide +kernel, by decide +kernel, by decide +kernel⟩
theorem lk_RX0_X0_rateOf : LkV RX0 173 yX0_rateOf cX0_rateOf 3 (some .int) 2 := ⟨(inr_4 _ (List.mem_of_getElem? (i := 11) rfl)), (inr_4 _ (List.mem_of_getElem? (i := 12) rfl)), (inr_4 _ (List.mem_of_getElem? (i := 13) rfl)), (inr_1 _ (List.mem_of_getElem? (i := 2) rfl)), (inr_4 _ (List.mem_of_getElem? (i := 14) rfl)), by decide +kernel, by decide +kernel, by decide +kernel⟩
theorem lk_RX0_X0_ratesThatAreNotZero : LkV RX0 176 yX0_ratesThatAreNotZero cX0_ratesThatAreNotZero 3 (some .int) 0 := ⟨(inr_16 _ (List.mem_of_getElem? (i := 5) rfl)), (inr_16 _ (List.mem_of_getElem? (i := 6) rfl)), (inr_16 _ (List.mem_of_getElem? (i := 7) rfl)), (inr_1 _ (List.mem_of_getElem? (i := 2) rfl)), (inr_16 _ (List.mem_of_getElem? (i := 8) rfl)), by decide +kernel, by decide +kernel, by decide +kernel⟩
theorem lk_RX0_X0_isOrderCell : LkS RX0 193 yX0_isOrderCell cX0_isOrderCell 2 (some .boolean) 2 := ⟨(inr_3 _ (List.mem_of_getElem? (i := 16) rfl)), (inr_3 _ (List.mem_of_getElem? (i := 17) rfl)), (inr_1 _ (List.mem_of_getElem? (i := 2) rfl)), (inr_3 _ (List.mem_of_getElem? (i := 18) rfl)), by decide +kernel, by decide +kernel, by decide +kernel⟩
theorem lk_RX0_X0_doneIfPossible : LkV RX0 197 yX0_doneIfPossible cX0_doneIfPossible 3 (some .boolean) 1 := ⟨(inr_3 _ (List.mem_of_getElem? (i := 8) rfl)), (inr_3 _ (List.mem_of_getElem? (i := 9) rfl)), (inr_3 _ (List.mem_of_getElem? (i := 10) rfl)), (inr_1 _ (List.mem_of_getElem? (i := 2) rfl)), (inr_3 _ (List.mem_of_getElem? (i := 11) rfl)), by decide +kernel, by decide +kernel, by decide +kernel⟩
theorem lk_RX0_X0_isAllowed : LkV RX0 202 yX0_isAllowed cX0_isAllowed 6 (some .boolean) 4 := ⟨(inr_4 _ (List.mem_of_getElem? (i := 22) rfl)), (inr_4 _ (List.mem_of_getElem? (i := 23) rfl)), (inr_5 _ (List.mem_of_getElem? (i := 0) rfl)), (inr_1 _ (List.mem_of_getElem? (i := 2) rfl)), (inr_5 _ (List.mem_of_getElem? (i := 1) rfl)), by decide +kernel, by decide +kernel, by decide +kernel⟩
theorem lk_RX0_X0_keepDust : LkV RX0 206 yX0_keepDust cX0_keepDust 4 none 2 := ⟨(inr_5 _ (List.mem_of_getElem? (i := 10) rfl)), (inr_5 _ (List.mem_of_getElem? (i := 11) rfl)), (inr_5 _ (List.mem_of_getElem? (i := 12) rfl)), (inr_1 _ (List.mem_of_getElem? (i := 2) rfl)), (inr_5 _ (List.mem_of_getElem? (i := 13) rfl)), by decide +kernel, by decide +kernel, by decide +kernel⟩
theorem lk_RX0_X0_behindOneChange : LkV RX0 213 yX0_behindOneChange cX0_behindOneChange 5 (some .long) 3 := ⟨(inr_18 _ (List.mem_of_getElem? (i := 0) rfl)), (inr_18 _ (List.mem_of_getElem? (i := 1) rfl)), (inr_18 _ (List.mem_of_getElem? (i := 2) rfl)), (inr_1 _ (List.mem_of_getElem? (i := 2) rfl)), (inr_18 _ (List.mem_of_getElem? (i := 3) rfl)), by decide +kernel, by decide +kernel, by decide +kernel⟩
theorem lk_RX0_X0_mostOver : LkV RX0 216 yX0_mostOver cX0_mostOver 10 (some .long) 6 := ⟨(inr_18 _ (List.mem_of_getElem? (i := 5) rfl)), (inr_18 _ (List.mem_of_getElem? (i := 6) rfl)), (inr_18 _ (List.mem_of_getElem? (i := 7) rfl)), (inr_1 _ (List.mem_of_getElem? (i := 2) rfl)), (inr_18 _ (List.mem_of_getElem? (i := 8) rfl)), by decide +kernel, by decide +kernel, by decide +kernel⟩
theorem lk_RX1_X1_isIn : LkS RX1 35 yX1_isIn cX1_isIn 3 (some .boolean) 3 := ⟨(inr_6 _ (List.mem_of_getElem? (i := 6) rfl)), (inr_6 _ (List.mem_of_getElem? (i := 7) rfl)), (inr_1 _ (List.mem_of_getElem? (i := 5) rfl)), (inr_6 _ (List.mem_of_getElem? (i := 8) rfl)), by decide +kernel, by decide +kernel, by decide +kernel⟩
theorem lk_RX1_X1_parts : LkV RX1 45 yX1_parts cX1_parts 4 (some .long) 2 := ⟨(inr_7 _ (List.mem_of_getElem? (i := 20) rfl)), (inr_7 _ (List.mem_of_getElem? (i := 21) rfl)), (inr_7 _ (List.mem_of_getElem? (i := 22) rfl)), (inr_1 _ (List.mem_of_getElem? (i := 5) rfl)), (inr_7 _ (List.mem_of_getElem? (i := 23) rfl)), by decide +kernel, by decide +kernel, by decide +kernel⟩
theorem lk_RX1_X1_purse : LkV RX1 51 yX1_purse cX1_purse 3 (some .int) 2 := ⟨(inr_7 _ (List.mem_of_getElem? (i := 11) rfl)), (inr_7 _ (List.mem_of_getElem? (i := 12) rfl)), (inr_7 _ (List.mem_of_getElem? (i := 13) rfl)), (inr_1 _ (List.mem_of_getElem? (i := 5) rfl)), (inr_7 _ (List.mem_of_getElem? (i := 14) rfl)), by decide +kernel, by decide +kernel, by decide +kernel⟩
theorem lk_RX1_X1_gives : LkV RX1 55 yX1_gives cX1_gives 4 (some .long) 2 := ⟨(inr_7 _ (List.mem_of_getElem? (i := 15) rfl)), (inr_7 _ (List.mem_of_getElem? (i := 16) rfl)), (inr_7 _ (List.mem_of_getElem? (i := 17) rfl)), (inr_1 _ (List.mem_of_getElem? (i := 5) rfl)), (inr_7 _ (List.mem_of_getElem? (i := 18) rfl)), by decide +kernel, by decide +kernel, by decide +kernel⟩
theorem lk_RX1_X1_rate : LkV RX1 58 yX1_rate cX1_rate 3 (some .int) 2 := ⟨(inr_6 _ (List.mem_of_getElem? (i := 23) rfl)), (inr_7 _ (List.mem_of_getElem? (i := 0) rfl)), (inr_7 _ (List.mem_of_getElem? (i := 1) rfl)), (inr_1 _ (List.mem_of_getElem? (i := 5) rfl)), (inr_7 _ (List.mem_of_getElem? (i := 2) rfl)), by decide +kernel, by decide +kernel, by decide +kernel⟩
theorem lk_RX1_X1_or : LkV RX1 79 yX1_or cX1_or 3 (some .int) 2 := ⟨(inr_6 _ (List.mem_of_getElem? (i := 19) rfl)), (inr_6 _ (List.mem_of_getElem? (i := 20) rfl)), (inr_6 _ (List.mem_of_getElem? (i := 21) rfl)), (inr_1 _ (List.mem_of_getElem? (i := 5) rfl)), (inr_6 _ (List.mem_of_getElem? (i := 22) rfl)), by decide +kernel, by decide +kernel, by decide +kernel⟩
theorem lk_RX1_X1_can : LkV RX1 82 yX1_can cX1_can 8 (some .boolean) 5 := ⟨(inr_7 _ (List.mem_of_getElem? (i := 7) rfl)), (inr_7 _ (List.mem_of_getElem? (i := 8) rfl)), (inr_7 _ (List.mem_of_getElem? (i := 9) rfl)), (inr_1 _ (List.mem_of_getElem? (i := 5) rfl)), (inr_7 _ (List.mem_of_getElem? (i := 10) rfl)), by decide +kernel, by decide +kernel, by decide +kernel⟩
theorem lk_RX1_X1_isDue : LkV RX1 89 yX1_isDue cX1_isDue 3 (some .boolean) 2 := ⟨(inr_7 _ (List.mem_of_getElem? (i := 3) rfl)), (inr_7 _ (List.mem_of_getElem? (i := 4) rfl)), (inr_7 _ (List.mem_of_getElem? (i := 5) rfl)), (inr_1 _ (List.mem_of_getElem? (i := 5) rfl)), (inr_7 _ (List.mem_of_getElem? (i := 6) rfl)), by decide +kernel, by decide +kernel, by decide +kernel⟩
theorem lk_RX1_X1_carryOut : LkV RX1 93 yX1_carryOut cX1_carryOut 6 (some .int) 4 := ⟨(inr_8 _ (List.mem_of_getElem? (i := 1) rfl)), (inr_8 _ (List.mem_of_getElem? (i := 2) rfl)), (inr_8 _ (List.mem_of_getElem? (i := 3) rfl)), (inr_1 _ (List.mem_of_getElem? (i := 5) rfl)), (inr_8 _ (List.mem_of_getElem? (i := 4) rfl)), by decide +kernel, by decide +kernel, by decide +kernel⟩
theorem lk_RX1_X1_takeOut : LkV RX1 97 yX1_takeOut cX1_takeOut 2 none 1 := ⟨(inr_8 _ (List.mem_of_getElem? (i := 10) rfl)), (inr_8 _ (List.mem_of_getElem? (i := 11) rfl)), (inr_8 _ (List.mem_of_getElem? (i := 12) rfl)), (inr_1 _ (List.mem_of_getElem? (i := 5) rfl)), (inr_8 _ (List.mem_of_getElem? (i := 13) rfl)), by decide +kernel, by decide +kernel, by decide +kernel⟩
theorem lk_RX1_X1_isMoney : LkS RX1 101 yX1_isMoney cX1_isMoney 1 (some .boolean) 1 := ⟨(inr_6 _ (List.mem_of_getElem? (i := 3) rfl)), (inr_6 _ (List.mem_of_getElem? (i := 4) rfl)), (inr_1 _ (List.mem_of_getElem? (i := 5) rfl)), (inr_6 _ (List.mem_of_getElem? (i := 5) rfl)), by decide +kernel, by decide +kernel, by decide +kernel⟩
theorem lk_RX1_X1_fail : LkV RX1 105 yX1_fail cX1_fail 2 (some .int) 1 := ⟨(inr_6 _ (List.mem_of_getElem? (i := 9) rfl)), (inr_6 _ (List.mem_of_getElem? (i := 10) rfl)), (inr_6 _ (List.mem_of_getElem? (i := 11) rfl)), (inr_1 _ (List.mem_of_getElem? (i := 5) rfl)), (inr_6 _ (List.mem_of_getElem? (i := 12) rfl)), by decide +kernel, by decide +kernel, by decide +kernel⟩
theorem lk_RX1_X1_lookAt : LkV RX1 109 yX1_lookAt cX1_lookAt 3 (some .int) 0 := ⟨(inr_6 _ (List.mem_of_getElem? (i := 13) rfl)), (inr_6 _ (List.mem_of_getElem? (i := 14) rfl)), (inr_6 _ (List.mem_of_getElem? (i := 15) rfl)), (inr_1 _ (List.mem_of_getElem? (i := 5) rfl)), (inr_6 _ (List.mem_of_getElem? (i := 16) rfl)), by decide +kernel, by decide +kernel, by decide +kernel⟩
theorem lk_RX1_X1_isCustomer : LkV RX1 117 yX1_isCustomer cX1_isCustomer 2 (some .boolean) 1 := ⟨(inr_12 _ (List.mem_of_getElem? (i := 0) rfl)), (inr_12 _ (List.mem_of_getElem? (i := 1) rfl)), (inr_12 _ (List.mem_of_getElem? (i := 2) rfl)), (inr_1 _ (List.mem_of_getElem? (i := 5) rfl)), (inr_12 _ (List.mem_of_getElem? (i := 3) rfl)), by decide +kernel, by decide +kernel, by decide +kernel⟩
theorem lk_RX1_X1_all : LkV RX1 120 yX1_all cX1_all 4 (some .int) 1 := ⟨(inr_15 _ (List.mem_of_getElem? (i := 3) rfl)), (inr_15 _ (List.mem_of_getElem? (i := 4) rfl)), (inr_15 _ (List.mem_of_getElem? (i := 5) rfl)), (inr_1 _ (List.mem_of_getElem? (i := 5) rfl)), (inr_15 _ (List.mem_of_getElem? (i := 6) rfl)), by decide +kernel, by decide +kernel, by decide +kernel⟩
theorem lk_RX1_X1_moneyTold : LkV RX1 123 yX1_moneyTold cX1_moneyTold 3 (some .int) 2 := ⟨(inr_14 _ (List.mem_of_getElem? (i := 23) rfl)), (inr_15 _ (List.mem_of_getElem? (i := 0) rfl)), (inr_15 _ (List.mem_of_getElem? (i := 1) rfl)), (inr_1 _ (List.mem_of_getElem? (i := 5) rfl)), (inr_15 _ (List.mem_of_getElem? (i := 2) rfl)), by decide +kernel, by decide +kernel, by decide +kernel⟩
theorem lk_RX1_X1_counted : LkV RX1 126 yX1_counted cX1_counted 7 (some .int) 1 := ⟨(inr_16 _ (List.mem_of_getElem? (i := 13) rfl)), (inr_16 _ (List.mem_of_getElem? (i := 14) rfl)), (inr_16 _ (List.mem_of_getElem? (i := 15) rfl)), (inr_1 _ (List.mem_of_getElem? (i := 5) rfl)), (inr_16 _ (List.mem_of_getElem? (i := 16) rfl)), by decide +kernel, by decide +kernel, by decide +kernel⟩
theorem lk_RX1_X1_most : LkV RX1 136 yX1_most cX1_most 13 (some .long) 5 := ⟨(inr_18 _ (List.mem_of_getElem? (i := 13) rfl)), (inr_18 _ (List.mem_of_getElem? (i := 14) rfl)), (inr_18 _ (List.mem_of_getElem? (i := 15) rfl)), (inr_1 _ (List.mem_of_getElem? (i := 5) rfl)), (inr_18 _ (List.mem_of_getElem? (i := 16) rfl)), by decide +kernel, by decide +kernel, by decide +kernel⟩
/-- raw state: row 0 the numbers (day, spread, customers, waiting, changes, done, thrown), rows 1 to 7 the arrays (rates, stocks, dust, limits, given, purses, orders) -/
abbrev RS : Type := Nat → Nat → Int32
def up (σ : RS) (k i : Nat) (x : Int32) : RS := fun a => if a = k then upd (σ k) i x else σ a
def w0 (ad : Nat → Nat) (cA : ClassId) (σ : RS) : va_W := [(ad 0, .inr (0, [.ref (ad 1), .ref (ad 2), .ref (ad 3), .ref (ad 4), .ref (ad 5), .ref (ad 6), .ref (ad 7), .int (σ 0 0), .int (σ 0 1), .int (σ 0 2), .int (σ 0 3), .int (σ 0 4), .int (σ 0 5)])), (ad 1, .inl (cA, 25, .inl (σ 1))), (ad 2, .inl (cA, 5, .inl (σ 2))), (ad 3, .inl (cA, 5, .inl (σ 3))), (ad 4, .inl (cA, 5, .inl (σ 4))), (ad 5, .inl (cA, 5, .inl (σ 5))), (ad 6, .inl (cA, 30, .inl (σ 6))), (ad 7, .inl (cA, 50, .inl (σ 7)))]
def w1 (ad : Nat → Nat) (cA : ClassId) (σ : RS) : va_W := [(ad 0, .inr (1, [.int (σ 0 6), .int (σ 0 0), .int (σ 0 1), .int (σ 0 2), .int (σ 0 3), .int (σ 0 4), .int (σ 0 5), .ref (ad 1), .ref (ad 2), .ref (ad 3), .ref (ad 4), .ref (ad 5), .ref (ad 6), .ref (ad 7)])), (ad 1, .inl (cA, 25, .inl (σ 1))), (ad 2, .inl (cA, 5, .inl (σ 2))), (ad 3, .inl (cA, 5, .inl (σ 3))), (ad 4, .inl (cA, 5, .inl (σ 4))), (ad 5, .inl (cA, 5, .inl (σ 5))), (ad 6, .inl (cA, 30, .inl (σ 6))), (ad 7, .inl (cA, 50, .inl (σ 7)))]
def own8 (ad : Nat → Nat) : Nat → Prop := fun q => ∃ i, i < 8 ∧ q = ad i
def inj8 (ad : Nat → Nat) : Prop := ∀ i j, i < 8 → j < 8 → ad i = ad j → i = j
abbrev KK (G : va_G) (cA : ClassId) (s : State) : Prop := va_K G vwCl [(cA, .int)] s
def pc0 (G : va_G) (cA : ClassId) (ad : Nat → Nat) (σ : RS) (av : List Value) : Array Value → State → Prop := va_Pc av (fun U => va_P G vwCl (w0 ad cA σ) U.heap ∧ KK G cA U)
def pc1 (G : va_G) (cA : ClassId) (ad : Nat → Nat) (σ : RS) (av : List Value) : Array Value → State → Prop := va_Pc av (fun U => va_P G vwCl (w1 ad cA σ) U.heap ∧ KK G cA U)
def pcS (av : List Value) : Array Value → State → Prop := va_Pc av (fun _ => True)
theorem pc0_blind {G : va_G} {cA : ClassId} {ad : Nat → Nat} {σ : RS} {av : List Value} : FrameBlind (pc0 G cA ad σ av) := fun a U g mk q => ⟨q.1, q.2.1, va_K.moved (u := U) (U := U.calling g mk a) (Vm.Alike.refl U.vm) q.2.2⟩
theorem pc1_blind {G : va_G} {cA : ClassId} {ad : Nat → Nat} {σ : RS} {av : List Value} : FrameBlind (pc1 G cA ad σ av) := fun a U g mk q => ⟨q.1, q.2.1, va_K.moved (u := U) (U := U.calling g mk a) (Vm.Alike.refl U.vm) q.2.2⟩
theorem pcS_blind {av : List Value} : FrameBlind (pcS av) := fun a U g mk q => q
/-- answers of methods that change nothing -/
def rqi (post : Int32 → Prop) : Array Value → State → Outcome → State → Prop := fun _ st o t => ∃ r, o = .returned (some (.int r)) ∧ post r ∧ t.heap = st.heap
def rql (post : Int64 → Prop) : Array Value → State → Outcome → State → Prop := fun _ st o t => ∃ r, o = .returned (some (.long r)) ∧ post r ∧ t.heap = st.heap
theorem nf {A : Nat → Prop} {locs : List Loc} (h : locs = []) : ∀ q ∈ locs, A q.base := by
  intro q hq
  rw [h] at hq
  cases hq
theorem w0_len {ad : Nat → Nat} {cA : ClassId} {σ : RS} {k : Nat} {q : Nat × va_E} (h : (w0 ad cA σ)[k]? = some q) : k < 8 ∧ q.1 = ad k := by
  have hl : k < 8 := (List.getElem?_eq_some_iff.mp h).1
  refine ⟨hl, ?_⟩
  rcases (show k = 0 ∨ k = 1 ∨ k = 2 ∨ k = 3 ∨ k = 4 ∨ k = 5 ∨ k = 6 ∨ k = 7 by omega) with rfl | rfl | rfl | rfl | rfl | rfl | rfl | rfl <;> (cases h; rfl)
theorem w1_len {ad : Nat → Nat} {cA : ClassId} {σ : RS} {k : Nat} {q : Nat × va_E} (h : (w1 ad cA σ)[k]? = some q) : k < 8 ∧ q.1 = ad k := by
  have hl : k < 8 := (List.getElem?_eq_some_iff.mp h).1
  refine ⟨hl, ?_⟩
  rcases (show k = 0 ∨ k = 1 ∨ k = 2 ∨ k = 3 ∨ k = 4 ∨ k = 5 ∨ k = 6 ∨ k = 7 by omega) with rfl | rfl | rfl | rfl | rfl | rfl | rfl | rfl <;> (cases h; rfl)
theorem w0_D {A : Nat → Prop} {ad : Nat → Nat} {cA : ClassId} {σ : RS} (hj : inj8 ad) (hA : ∀ q, own8 ad q → A q) : va_D A (w0 ad cA σ) := by
  refine ⟨fun i j x y hi hj2 hxy => ?_, fun k q hk => ?_⟩
  · obtain ⟨a1, a2⟩ := w0_len hi
    obtain ⟨b1, b2⟩ := w0_len hj2
    exact hj i j a1 b1 (a2.symm.trans (hxy.trans b2))
  · obtain ⟨a1, a2⟩ := w0_len hk
    exact hA _ ⟨k, a1, a2⟩
theorem w1_D {A : Nat → Prop} {ad : Nat → Nat} {cA : ClassId} {σ : RS} (hj : inj8 ad) (hA : ∀ q, own8 ad q → A q) : va_D A (w1 ad cA σ) := by
  refine ⟨fun i j x y hi hj2 hxy => ?_, fun k q hk => ?_⟩
  · obtain ⟨a1, a2⟩ := w1_len hi
    obtain ⟨b1, b2⟩ := w1_len hj2
    exact hj i j a1 b1 (a2.symm.trans (hxy.trans b2))
  · obtain ⟨a1, a2⟩ := w1_len hk
    exact hA _ ⟨k, a1, a2⟩
theorem nIz {n : Nat} (h : n < 2147483648) : (nI n).toInt = (n : Int) := nI_toInt h
theorem lNz {n : Nat} (h : n < 9223372036854775808) : (lN n).toInt = (n : Int) := pk_lT h
section OW
variable {p : Program} {l : Launch} {e : Env} {R : Room} {s : State} {m : MethodId} {args : Array Value} {below : List Frame} {meth : Method} {c : Code} {H : Heap} {locs : List Loc} {cells slots : Nat} {Q : State → Prop}
variable {cc : ByteArray} {pc nL : Nat} {ls : Array Slot} {rest st : List Value} {G : va_G} {cA : ClassId} {ad : Nat → Nat} {σ : RS} {A : Nat → Prop} {H0 : Heap} {own : String}
theorem x0_g_rates (CF : CallFix p m c cc nL s args AW RX0) (hK : KK G cA s) (hP : va_P G vwCl (w0 ad cA σ) H) (hdg : decode cc pc = .ok (.getfield 9, 3)) (kk : W p l e R s m args below meth c H locs cells slots Q (F0 m (pc + 3) ls (.ref (ad 1) :: rest))) : W p l e R s m args below meth c H locs cells slots Q (F0 m pc ls (.ref (ad 0) :: rest)) :=
  va_get (ci := 0) (C := RX0) (T := TX0) (N := 13) CF.1 CF.2.1 CF.2.2.2.2 inlX0 CF.2.2.2.1 hK hP 0 rfl rfl 0 (by decide) (CF.2.2.2.2 _ (inr_1 _ (List.mem_of_getElem? (i := 15) rfl))) (fun _ h9 => h9) rfl hdg kk
theorem x0_g_stocks (CF : CallFix p m c cc nL s args AW RX0) (hK : KK G cA s) (hP : va_P G vwCl (w0 ad cA σ) H) (hdg : decode cc pc = .ok (.getfield 13, 3)) (kk : W p l e R s m args below meth c H locs cells slots Q (F0 m (pc + 3) ls (.ref (ad 2) :: rest))) : W p l e R s m args below meth c H locs cells slots Q (F0 m pc ls (.ref (ad 0) :: rest)) :=
  va_get (ci := 0) (C := RX0) (T := TX0) (N := 13) CF.1 CF.2.1 CF.2.2.2.2 inlX0 CF.2.2.2.1 hK hP 0 rfl rfl 1 (by decide) (CF.2.2.2.2 _ (inr_1 _ (List.mem_of_getElem? (i := 16) rfl))) (fun _ h9 => h9) rfl hdg kk
theorem x0_g_dusts (CF : CallFix p m c cc nL s args AW RX0) (hK : KK G cA s) (hP : va_P G vwCl (w0 ad cA σ) H) (hdg : decode cc pc = .ok (.getfield 16, 3)) (kk : W p l e R s m args below meth c H locs cells slots Q (F0 m (pc + 3) ls (.ref (ad 3) :: rest))) : W p l e R s m args below meth c H locs cells slots Q (F0 m pc ls (.ref (ad 0) :: rest)) :=
  va_get (ci := 0) (C := RX0) (T := TX0) (N := 13) CF.1 CF.2.1 CF.2.2.2.2 inlX0 CF.2.2.2.1 hK hP 0 rfl rfl 2 (by decide) (CF.2.2.2.2 _ (inr_1 _ (List.mem_of_getElem? (i := 17) rfl))) (fun _ h9 => h9) rfl hdg kk
theorem x0_g_limits (CF : CallFix p m c cc nL s args AW RX0) (hK : KK G cA s) (hP : va_P G vwCl (w0 ad cA σ) H) (hdg : decode cc pc = .ok (.getfield 19, 3)) (kk : W p l e R s m args below meth c H locs cells slots Q (F0 m (pc + 3) ls (.ref (ad 4) :: rest))) : W p l e R s m args below meth c H locs cells slots Q (F0 m pc ls (.ref (ad 0) :: rest)) :=
  va_get (ci := 0) (C := RX0) (T := TX0) (N := 13) CF.1 CF.2.1 CF.2.2.2.2 inlX0 CF.2.2.2.1 hK hP 0 rfl rfl 3 (by decide) (CF.2.2.2.2 _ (inr_1 _ (List.mem_of_getElem? (i := 18) rfl))) (fun _ h9 => h9) rfl hdg kk
theorem x0_g_givenToday (CF : CallFix p m c cc nL s args AW RX0) (hK : KK G cA s) (hP : va_P G vwCl (w0 ad cA σ) H) (hdg : decode cc pc = .ok (.getfield 22, 3)) (kk : W p l e R s m args below meth c H locs cells slots Q (F0 m (pc + 3) ls (.ref (ad 5) :: rest))) : W p l e R s m args below meth c H locs cells slots Q (F0 m pc ls (.ref (ad 0) :: rest)) :=
  va_get (ci := 0) (C := RX0) (T := TX0) (N := 13) CF.1 CF.2.1 CF.2.2.2.2 inlX0 CF.2.2.2.1 hK hP 0 rfl rfl 4 (by decide) (CF.2.2.2.2 _ (inr_1 _ (List.mem_of_getElem? (i := 19) rfl))) (fun _ h9 => h9) rfl hdg kk
theorem x0_g_purses (CF : CallFix p m c cc nL s args AW RX0) (hK : KK G cA s) (hP : va_P G vwCl (w0 ad cA σ) H) (hdg : decode cc pc = .ok (.getfield 25, 3)) (kk : W p l e R s m args below meth c H locs cells slots Q (F0 m (pc + 3) ls (.ref (ad 6) :: rest))) : W p l e R s m args below meth c H locs cells slots Q (F0 m pc ls (.ref (ad 0) :: rest)) :=
  va_get (ci := 0) (C := RX0) (T := TX0) (N := 13) CF.1 CF.2.1 CF.2.2.2.2 inlX0 CF.2.2.2.1 hK hP 0 rfl rfl 5 (by decide) (CF.2.2.2.2 _ (inr_1 _ (List.mem_of_getElem? (i := 20) rfl))) (fun _ h9 => h9) rfl hdg kk
theorem x0_g_orders (CF : CallFix p m c cc nL s args AW RX0) (hK : KK G cA s) (hP : va_P G vwCl (w0 ad cA σ) H) (hdg : decode cc pc = .ok (.getfield 28, 3)) (kk : W p l e R s m args below meth c H locs cells slots Q (F0 m (pc + 3) ls (.ref (ad 7) :: rest))) : W p l e R s m args below meth c H locs cells slots Q (F0 m pc ls (.ref (ad 0) :: rest)) :=
  va_get (ci := 0) (C := RX0) (T := TX0) (N := 13) CF.1 CF.2.1 CF.2.2.2.2 inlX0 CF.2.2.2.1 hK hP 0 rfl rfl 6 (by decide) (CF.2.2.2.2 _ (inr_1 _ (List.mem_of_getElem? (i := 21) rfl))) (fun _ h9 => h9) rfl hdg kk
theorem x0_g_spread (CF : CallFix p m c cc nL s args AW RX0) (hK : KK G cA s) (hP : va_P G vwCl (w0 ad cA σ) H) {v : Int32} (hv : σ 0 1 = v) (hdg : decode cc pc = .ok (.getfield 53, 3)) (kk : W p l e R s m args below meth c H locs cells slots Q (F0 m (pc + 3) ls (.int v :: rest))) : W p l e R s m args below meth c H locs cells slots Q (F0 m pc ls (.ref (ad 0) :: rest)) :=
  va_get (ci := 0) (C := RX0) (T := TX0) (N := 13) CF.1 CF.2.1 CF.2.2.2.2 inlX0 CF.2.2.2.1 hK hP 0 rfl rfl 8 (by decide) (CF.2.2.2.2 _ (inr_4 _ (List.mem_of_getElem? (i := 10) rfl))) (fun _ h9 => h9) rfl hdg (by rw [hv]; exact kk)
theorem x0_p_spread (CF : CallFix p m c cc nL s args AW RX0) (hK : KK G cA s) (hP : va_P G vwCl (w0 ad cA σ) H) (hD : va_D A (w0 ad cA σ)) (hS : va_S A H0 H locs) {v : Int32} (hdg : decode cc pc = .ok (.putfield 53, 3)) (kk : ∀ (σ' : RS) (H1 : Heap) (locs1 : List Loc), σ' = up σ 0 1 v → va_P G vwCl (w0 ad cA σ') H1 → va_D A (w0 ad cA σ') → va_S A H0 H1 locs1 → W p l e R s m args below meth c H1 locs1 cells slots Q (F0 m (pc + 3) ls (rest))) : W p l e R s m args below meth c H locs cells slots Q (F0 m pc ls (.int v :: .ref (ad 0) :: rest)) := by
  refine va_put (D := G) (ci := 0) (v := .int v) (ty := .int) (C := RX0) (T := TX0) (N := 13) CF.1 CF.2.1 CF.2.2.2.2 inlX0 tyX0 tyX0_ok nmX0 CF.2.2.2.1 hK hP hD hS 0 rfl rfl 8 (by decide) (CF.2.2.2.2 _ (inr_4 _ (List.mem_of_getElem? (i := 10) rfl))) (fun _ h9 => h9) rfl (by decide +kernel) rfl rfl (Nat.le_of_ble_eq_true rfl) hdg (fun H1 locs1 hP hD hS => ?_)
  exact kk (up σ 0 1 v) H1 locs1 rfl hP hD hS
theorem x0_g_day (CF : CallFix p m c cc nL s args AW RX0) (hK : KK G cA s) (hP : va_P G vwCl (w0 ad cA σ) H) {v : Int32} (hv : σ 0 0 = v) (hdg : decode cc pc = .ok (.getfield 69, 3)) (kk : W p l e R s m args below meth c H locs cells slots Q (F0 m (pc + 3) ls (.int v :: rest))) : W p l e R s m args below meth c H locs cells slots Q (F0 m pc ls (.ref (ad 0) :: rest)) :=
  va_get (ci := 0) (C := RX0) (T := TX0) (N := 13) CF.1 CF.2.1 CF.2.2.2.2 inlX0 CF.2.2.2.1 hK hP 0 rfl rfl 7 (by decide) (CF.2.2.2.2 _ (inr_10 _ (List.mem_of_getElem? (i := 16) rfl))) (fun _ h9 => h9) rfl hdg (by rw [hv]; exact kk)
theorem x0_p_day (CF : CallFix p m c cc nL s args AW RX0) (hK : KK G cA s) (hP : va_P G vwCl (w0 ad cA σ) H) (hD : va_D A (w0 ad cA σ)) (hS : va_S A H0 H locs) {v : Int32} (hdg : decode cc pc = .ok (.putfield 69, 3)) (kk : ∀ (σ' : RS) (H1 : Heap) (locs1 : List Loc), σ' = up σ 0 0 v → va_P G vwCl (w0 ad cA σ') H1 → va_D A (w0 ad cA σ') → va_S A H0 H1 locs1 → W p l e R s m args below meth c H1 locs1 cells slots Q (F0 m (pc + 3) ls (rest))) : W p l e R s m args below meth c H locs cells slots Q (F0 m pc ls (.int v :: .ref (ad 0) :: rest)) := by
  refine va_put (D := G) (ci := 0) (v := .int v) (ty := .int) (C := RX0) (T := TX0) (N := 13) CF.1 CF.2.1 CF.2.2.2.2 inlX0 tyX0 tyX0_ok nmX0 CF.2.2.2.1 hK hP hD hS 0 rfl rfl 7 (by decide) (CF.2.2.2.2 _ (inr_10 _ (List.mem_of_getElem? (i := 16) rfl))) (fun _ h9 => h9) rfl (by decide +kernel) rfl rfl (Nat.le_of_ble_eq_true rfl) hdg (fun H1 locs1 hP hD hS => ?_)
  exact kk (up σ 0 0 v) H1 locs1 rfl hP hD hS
theorem x0_g_customers (CF : CallFix p m c cc nL s args AW RX0) (hK : KK G cA s) (hP : va_P G vwCl (w0 ad cA σ) H) {v : Int32} (hv : σ 0 2 = v) (hdg : decode cc pc = .ok (.getfield 72, 3)) (kk : W p l e R s m args below meth c H locs cells slots Q (F0 m (pc + 3) ls (.int v :: rest))) : W p l e R s m args below meth c H locs cells slots Q (F0 m pc ls (.ref (ad 0) :: rest)) :=
  va_get (ci := 0) (C := RX0) (T := TX0) (N := 13) CF.1 CF.2.1 CF.2.2.2.2 inlX0 CF.2.2.2.1 hK hP 0 rfl rfl 9 (by decide) (CF.2.2.2.2 _ (inr_4 _ (List.mem_of_getElem? (i := 5) rfl))) (fun _ h9 => h9) rfl hdg (by rw [hv]; exact kk)
theorem x0_p_customers (CF : CallFix p m c cc nL s args AW RX0) (hK : KK G cA s) (hP : va_P G vwCl (w0 ad cA σ) H) (hD : va_D A (w0 ad cA σ)) (hS : va_S A H0 H locs) {v : Int32} (hdg : decode cc pc = .ok (.putfield 72, 3)) (kk : ∀ (σ' : RS) (H1 : Heap) (locs1 : List Loc), σ' = up σ 0 2 v → va_P G vwCl (w0 ad cA σ') H1 → va_D A (w0 ad cA σ') → va_S A H0 H1 locs1 → W p l e R s m args below meth c H1 locs1 cells slots Q (F0 m (pc + 3) ls (rest))) : W p l e R s m args below meth c H locs cells slots Q (F0 m pc ls (.int v :: .ref (ad 0) :: rest)) := by
  refine va_put (D := G) (ci := 0) (v := .int v) (ty := .int) (C := RX0) (T := TX0) (N := 13) CF.1 CF.2.1 CF.2.2.2.2 inlX0 tyX0 tyX0_ok nmX0 CF.2.2.2.1 hK hP hD hS 0 rfl rfl 9 (by decide) (CF.2.2.2.2 _ (inr_4 _ (List.mem_of_getElem? (i := 5) rfl))) (fun _ h9 => h9) rfl (by decide +kernel) rfl rfl (Nat.le_of_ble_eq_true rfl) hdg (fun H1 locs1 hP hD hS => ?_)
  exact kk (up σ 0 2 v) H1 locs1 rfl hP hD hS
theorem x0_g_waiting (CF : CallFix p m c cc nL s args AW RX0) (hK : KK G cA s) (hP : va_P G vwCl (w0 ad cA σ) H) {v : Int32} (hv : σ 0 3 = v) (hdg : decode cc pc = .ok (.getfield 95, 3)) (kk : W p l e R s m args below meth c H locs cells slots Q (F0 m (pc + 3) ls (.int v :: rest))) : W p l e R s m args below meth c H locs cells slots Q (F0 m pc ls (.ref (ad 0) :: rest)) :=
  va_get (ci := 0) (C := RX0) (T := TX0) (N := 13) CF.1 CF.2.1 CF.2.2.2.2 inlX0 CF.2.2.2.1 hK hP 0 rfl rfl 10 (by decide) (CF.2.2.2.2 _ (inr_3 _ (List.mem_of_getElem? (i := 6) rfl))) (fun _ h9 => h9) rfl hdg (by rw [hv]; exact kk)
theorem x0_p_waiting (CF : CallFix p m c cc nL s args AW RX0) (hK : KK G cA s) (hP : va_P G vwCl (w0 ad cA σ) H) (hD : va_D A (w0 ad cA σ)) (hS : va_S A H0 H locs) {v : Int32} (hdg : decode cc pc = .ok (.putfield 95, 3)) (kk : ∀ (σ' : RS) (H1 : Heap) (locs1 : List Loc), σ' = up σ 0 3 v → va_P G vwCl (w0 ad cA σ') H1 → va_D A (w0 ad cA σ') → va_S A H0 H1 locs1 → W p l e R s m args below meth c H1 locs1 cells slots Q (F0 m (pc + 3) ls (rest))) : W p l e R s m args below meth c H locs cells slots Q (F0 m pc ls (.int v :: .ref (ad 0) :: rest)) := by
  refine va_put (D := G) (ci := 0) (v := .int v) (ty := .int) (C := RX0) (T := TX0) (N := 13) CF.1 CF.2.1 CF.2.2.2.2 inlX0 tyX0 tyX0_ok nmX0 CF.2.2.2.1 hK hP hD hS 0 rfl rfl 10 (by decide) (CF.2.2.2.2 _ (inr_3 _ (List.mem_of_getElem? (i := 6) rfl))) (fun _ h9 => h9) rfl (by decide +kernel) rfl rfl (Nat.le_of_ble_eq_true rfl) hdg (fun H1 locs1 hP hD hS => ?_)
  exact kk (up σ 0 3 v) H1 locs1 rfl hP hD hS
theorem x0_g_changesMade (CF : CallFix p m c cc nL s args AW RX0) (hK : KK G cA s) (hP : va_P G vwCl (w0 ad cA σ) H) {v : Int32} (hv : σ 0 4 = v) (hdg : decode cc pc = .ok (.getfield 179, 3)) (kk : W p l e R s m args below meth c H locs cells slots Q (F0 m (pc + 3) ls (.int v :: rest))) : W p l e R s m args below meth c H locs cells slots Q (F0 m pc ls (.ref (ad 0) :: rest)) :=
  va_get (ci := 0) (C := RX0) (T := TX0) (N := 13) CF.1 CF.2.1 CF.2.2.2.2 inlX0 CF.2.2.2.1 hK hP 0 rfl rfl 11 (by decide) (CF.2.2.2.2 _ (inr_3 _ (List.mem_of_getElem? (i := 23) rfl))) (fun _ h9 => h9) rfl hdg (by rw [hv]; exact kk)
theorem x0_p_changesMade (CF : CallFix p m c cc nL s args AW RX0) (hK : KK G cA s) (hP : va_P G vwCl (w0 ad cA σ) H) (hD : va_D A (w0 ad cA σ)) (hS : va_S A H0 H locs) {v : Int32} (hdg : decode cc pc = .ok (.putfield 179, 3)) (kk : ∀ (σ' : RS) (H1 : Heap) (locs1 : List Loc), σ' = up σ 0 4 v → va_P G vwCl (w0 ad cA σ') H1 → va_D A (w0 ad cA σ') → va_S A H0 H1 locs1 → W p l e R s m args below meth c H1 locs1 cells slots Q (F0 m (pc + 3) ls (rest))) : W p l e R s m args below meth c H locs cells slots Q (F0 m pc ls (.int v :: .ref (ad 0) :: rest)) := by
  refine va_put (D := G) (ci := 0) (v := .int v) (ty := .int) (C := RX0) (T := TX0) (N := 13) CF.1 CF.2.1 CF.2.2.2.2 inlX0 tyX0 tyX0_ok nmX0 CF.2.2.2.1 hK hP hD hS 0 rfl rfl 11 (by decide) (CF.2.2.2.2 _ (inr_3 _ (List.mem_of_getElem? (i := 23) rfl))) (fun _ h9 => h9) rfl (by decide +kernel) rfl rfl (Nat.le_of_ble_eq_true rfl) hdg (fun H1 locs1 hP hD hS => ?_)
  exact kk (up σ 0 4 v) H1 locs1 rfl hP hD hS
theorem x0_g_ordersDone (CF : CallFix p m c cc nL s args AW RX0) (hK : KK G cA s) (hP : va_P G vwCl (w0 ad cA σ) H) {v : Int32} (hv : σ 0 5 = v) (hdg : decode cc pc = .ok (.getfield 182, 3)) (kk : W p l e R s m args below meth c H locs cells slots Q (F0 m (pc + 3) ls (.int v :: rest))) : W p l e R s m args below meth c H locs cells slots Q (F0 m pc ls (.ref (ad 0) :: rest)) :=
  va_get (ci := 0) (C := RX0) (T := TX0) (N := 13) CF.1 CF.2.1 CF.2.2.2.2 inlX0 CF.2.2.2.1 hK hP 0 rfl rfl 12 (by decide) (CF.2.2.2.2 _ (inr_3 _ (List.mem_of_getElem? (i := 7) rfl))) (fun _ h9 => h9) rfl hdg (by rw [hv]; exact kk)
theorem x0_p_ordersDone (CF : CallFix p m c cc nL s args AW RX0) (hK : KK G cA s) (hP : va_P G vwCl (w0 ad cA σ) H) (hD : va_D A (w0 ad cA σ)) (hS : va_S A H0 H locs) {v : Int32} (hdg : decode cc pc = .ok (.putfield 182, 3)) (kk : ∀ (σ' : RS) (H1 : Heap) (locs1 : List Loc), σ' = up σ 0 5 v → va_P G vwCl (w0 ad cA σ') H1 → va_D A (w0 ad cA σ') → va_S A H0 H1 locs1 → W p l e R s m args below meth c H1 locs1 cells slots Q (F0 m (pc + 3) ls (rest))) : W p l e R s m args below meth c H locs cells slots Q (F0 m pc ls (.int v :: .ref (ad 0) :: rest)) := by
  refine va_put (D := G) (ci := 0) (v := .int v) (ty := .int) (C := RX0) (T := TX0) (N := 13) CF.1 CF.2.1 CF.2.2.2.2 inlX0 tyX0 tyX0_ok nmX0 CF.2.2.2.1 hK hP hD hS 0 rfl rfl 12 (by decide) (CF.2.2.2.2 _ (inr_3 _ (List.mem_of_getElem? (i := 7) rfl))) (fun _ h9 => h9) rfl (by decide +kernel) rfl rfl (Nat.le_of_ble_eq_true rfl) hdg (fun H1 locs1 hP hD hS => ?_)
  exact kk (up σ 0 5 v) H1 locs1 rfl hP hD hS
theorem x0_ald1 (CF : CallFix p m c cc nL s args AW own) (hK : KK G cA s) (hP : va_P G vwCl (w0 ad cA σ) H) {i : Nat} (hi : i < 25) {v : Int32} (hv : σ 1 i = v) (hdg : decode cc pc = .ok (.iaload, 1)) (kk : W p l e R s m args below meth c H locs cells slots Q (F0 m (pc + 1) ls (.int v :: rest))) : W p l e R s m args below meth c H locs cells slots Q (F0 m pc ls (.int (nI i) :: .ref (ad 1) :: rest)) := by
  refine va_iald (D := G) CF.1 CF.2.1 hK hP 1 0 rfl rfl (vp_in_nI hi (by omega)) hdg ?_
  rw [nI_clamp (show i < 2 ^ 31 by omega), hv]
  exact kk
theorem x0_ast1 (CF : CallFix p m c cc nL s args AW own) (hK : KK G cA s) (hP : va_P G vwCl (w0 ad cA σ) H) (hD : va_D A (w0 ad cA σ)) (hS : va_S A H0 H locs) {i : Nat} (hi : i < 25) {v : Int32} (hdg : decode cc pc = .ok (.iastore, 1)) (kk : ∀ (σ' : RS) (H1 : Heap) (locs1 : List Loc), σ' = up σ 1 i v → va_P G vwCl (w0 ad cA σ') H1 → va_D A (w0 ad cA σ') → va_S A H0 H1 locs1 → W p l e R s m args below meth c H1 locs1 cells slots Q (F0 m (pc + 1) ls (rest))) : W p l e R s m args below meth c H locs cells slots Q (F0 m pc ls (.int v :: .int (nI i) :: .ref (ad 1) :: rest)) := by
  refine va_iast (D := G) CF.1 CF.2.1 hK hP hD hS 1 0 rfl rfl (vp_in_nI hi (by omega)) hdg (fun H1 locs1 hP hD hS => ?_)
  rw [nI_clamp (show i < 2 ^ 31 by omega)] at hP hD
  exact kk (up σ 1 i v) H1 locs1 rfl hP hD hS
theorem x0_ald2 (CF : CallFix p m c cc nL s args AW own) (hK : KK G cA s) (hP : va_P G vwCl (w0 ad cA σ) H) {i : Nat} (hi : i < 5) {v : Int32} (hv : σ 2 i = v) (hdg : decode cc pc = .ok (.iaload, 1)) (kk : W p l e R s m args below meth c H locs cells slots Q (F0 m (pc + 1) ls (.int v :: rest))) : W p l e R s m args below meth c H locs cells slots Q (F0 m pc ls (.int (nI i) :: .ref (ad 2) :: rest)) := by
  refine va_iald (D := G) CF.1 CF.2.1 hK hP 2 0 rfl rfl (vp_in_nI hi (by omega)) hdg ?_
  rw [nI_clamp (show i < 2 ^ 31 by omega), hv]
  exact kk
theorem x0_ast2 (CF : CallFix p m c cc nL s args AW own) (hK : KK G cA s) (hP : va_P G vwCl (w0 ad cA σ) H) (hD : va_D A (w0 ad cA σ)) (hS : va_S A H0 H locs) {i : Nat} (hi : i < 5) {v : Int32} (hdg : decode cc pc = .ok (.iastore, 1)) (kk : ∀ (σ' : RS) (H1 : Heap) (locs1 : List Loc), σ' = up σ 2 i v → va_P G vwCl (w0 ad cA σ') H1 → va_D A (w0 ad cA σ') → va_S A H0 H1 locs1 → W p l e R s m args below meth c H1 locs1 cells slots Q (F0 m (pc + 1) ls (rest))) : W p l e R s m args below meth c H locs cells slots Q (F0 m pc ls (.int v :: .int (nI i) :: .ref (ad 2) :: rest)) := by
  refine va_iast (D := G) CF.1 CF.2.1 hK hP hD hS 2 0 rfl rfl (vp_in_nI hi (by omega)) hdg (fun H1 locs1 hP hD hS => ?_)
  rw [nI_clamp (show i < 2 ^ 31 by omega)] at hP hD
  exact kk (up σ 2 i v) H1 locs1 rfl hP hD hS
theorem x0_ald3 (CF : CallFix p m c cc nL s args AW own) (hK : KK G cA s) (hP : va_P G vwCl (w0 ad cA σ) H) {i : Nat} (hi : i < 5) {v : Int32} (hv : σ 3 i = v) (hdg : decode cc pc = .ok (.iaload, 1)) (kk : W p l e R s m args below meth c H locs cells slots Q (F0 m (pc + 1) ls (.int v :: rest))) : W p l e R s m args below meth c H locs cells slots Q (F0 m pc ls (.int (nI i) :: .ref (ad 3) :: rest)) := by
  refine va_iald (D := G) CF.1 CF.2.1 hK hP 3 0 rfl rfl (vp_in_nI hi (by omega)) hdg ?_
  rw [nI_clamp (show i < 2 ^ 31 by omega), hv]
  exact kk
theorem x0_ast3 (CF : CallFix p m c cc nL s args AW own) (hK : KK G cA s) (hP : va_P G vwCl (w0 ad cA σ) H) (hD : va_D A (w0 ad cA σ)) (hS : va_S A H0 H locs) {i : Nat} (hi : i < 5) {v : Int32} (hdg : decode cc pc = .ok (.iastore, 1)) (kk : ∀ (σ' : RS) (H1 : Heap) (locs1 : List Loc), σ' = up σ 3 i v → va_P G vwCl (w0 ad cA σ') H1 → va_D A (w0 ad cA σ') → va_S A H0 H1 locs1 → W p l e R s m args below meth c H1 locs1 cells slots Q (F0 m (pc + 1) ls (rest))) : W p l e R s m args below meth c H locs cells slots Q (F0 m pc ls (.int v :: .int (nI i) :: .ref (ad 3) :: rest)) := by
  refine va_iast (D := G) CF.1 CF.2.1 hK hP hD hS 3 0 rfl rfl (vp_in_nI hi (by omega)) hdg (fun H1 locs1 hP hD hS => ?_)
  rw [nI_clamp (show i < 2 ^ 31 by omega)] at hP hD
  exact kk (up σ 3 i v) H1 locs1 rfl hP hD hS
theorem x0_ald4 (CF : CallFix p m c cc nL s args AW own) (hK : KK G cA s) (hP : va_P G vwCl (w0 ad cA σ) H) {i : Nat} (hi : i < 5) {v : Int32} (hv : σ 4 i = v) (hdg : decode cc pc = .ok (.iaload, 1)) (kk : W p l e R s m args below meth c H locs cells slots Q (F0 m (pc + 1) ls (.int v :: rest))) : W p l e R s m args below meth c H locs cells slots Q (F0 m pc ls (.int (nI i) :: .ref (ad 4) :: rest)) := by
  refine va_iald (D := G) CF.1 CF.2.1 hK hP 4 0 rfl rfl (vp_in_nI hi (by omega)) hdg ?_
  rw [nI_clamp (show i < 2 ^ 31 by omega), hv]
  exact kk
theorem x0_ast4 (CF : CallFix p m c cc nL s args AW own) (hK : KK G cA s) (hP : va_P G vwCl (w0 ad cA σ) H) (hD : va_D A (w0 ad cA σ)) (hS : va_S A H0 H locs) {i : Nat} (hi : i < 5) {v : Int32} (hdg : decode cc pc = .ok (.iastore, 1)) (kk : ∀ (σ' : RS) (H1 : Heap) (locs1 : List Loc), σ' = up σ 4 i v → va_P G vwCl (w0 ad cA σ') H1 → va_D A (w0 ad cA σ') → va_S A H0 H1 locs1 → W p l e R s m args below meth c H1 locs1 cells slots Q (F0 m (pc + 1) ls (rest))) : W p l e R s m args below meth c H locs cells slots Q (F0 m pc ls (.int v :: .int (nI i) :: .ref (ad 4) :: rest)) := by
  refine va_iast (D := G) CF.1 CF.2.1 hK hP hD hS 4 0 rfl rfl (vp_in_nI hi (by omega)) hdg (fun H1 locs1 hP hD hS => ?_)
  rw [nI_clamp (show i < 2 ^ 31 by omega)] at hP hD
  exact kk (up σ 4 i v) H1 locs1 rfl hP hD hS
theorem x0_ald5 (CF : CallFix p m c cc nL s args AW own) (hK : KK G cA s) (hP : va_P G vwCl (w0 ad cA σ) H) {i : Nat} (hi : i < 5) {v : Int32} (hv : σ 5 i = v) (hdg : decode cc pc = .ok (.iaload, 1)) (kk : W p l e R s m args below meth c H locs cells slots Q (F0 m (pc + 1) ls (.int v :: rest))) : W p l e R s m args below meth c H locs cells slots Q (F0 m pc ls (.int (nI i) :: .ref (ad 5) :: rest)) := by
  refine va_iald (D := G) CF.1 CF.2.1 hK hP 5 0 rfl rfl (vp_in_nI hi (by omega)) hdg ?_
  rw [nI_clamp (show i < 2 ^ 31 by omega), hv]
  exact kk
theorem x0_ast5 (CF : CallFix p m c cc nL s args AW own) (hK : KK G cA s) (hP : va_P G vwCl (w0 ad cA σ) H) (hD : va_D A (w0 ad cA σ)) (hS : va_S A H0 H locs) {i : Nat} (hi : i < 5) {v : Int32} (hdg : decode cc pc = .ok (.iastore, 1)) (kk : ∀ (σ' : RS) (H1 : Heap) (locs1 : List Loc), σ' = up σ 5 i v → va_P G vwCl (w0 ad cA σ') H1 → va_D A (w0 ad cA σ') → va_S A H0 H1 locs1 → W p l e R s m args below meth c H1 locs1 cells slots Q (F0 m (pc + 1) ls (rest))) : W p l e R s m args below meth c H locs cells slots Q (F0 m pc ls (.int v :: .int (nI i) :: .ref (ad 5) :: rest)) := by
  refine va_iast (D := G) CF.1 CF.2.1 hK hP hD hS 5 0 rfl rfl (vp_in_nI hi (by omega)) hdg (fun H1 locs1 hP hD hS => ?_)
  rw [nI_clamp (show i < 2 ^ 31 by omega)] at hP hD
  exact kk (up σ 5 i v) H1 locs1 rfl hP hD hS
theorem x0_ald6 (CF : CallFix p m c cc nL s args AW own) (hK : KK G cA s) (hP : va_P G vwCl (w0 ad cA σ) H) {i : Nat} (hi : i < 30) {v : Int32} (hv : σ 6 i = v) (hdg : decode cc pc = .ok (.iaload, 1)) (kk : W p l e R s m args below meth c H locs cells slots Q (F0 m (pc + 1) ls (.int v :: rest))) : W p l e R s m args below meth c H locs cells slots Q (F0 m pc ls (.int (nI i) :: .ref (ad 6) :: rest)) := by
  refine va_iald (D := G) CF.1 CF.2.1 hK hP 6 0 rfl rfl (vp_in_nI hi (by omega)) hdg ?_
  rw [nI_clamp (show i < 2 ^ 31 by omega), hv]
  exact kk
theorem x0_ast6 (CF : CallFix p m c cc nL s args AW own) (hK : KK G cA s) (hP : va_P G vwCl (w0 ad cA σ) H) (hD : va_D A (w0 ad cA σ)) (hS : va_S A H0 H locs) {i : Nat} (hi : i < 30) {v : Int32} (hdg : decode cc pc = .ok (.iastore, 1)) (kk : ∀ (σ' : RS) (H1 : Heap) (locs1 : List Loc), σ' = up σ 6 i v → va_P G vwCl (w0 ad cA σ') H1 → va_D A (w0 ad cA σ') → va_S A H0 H1 locs1 → W p l e R s m args below meth c H1 locs1 cells slots Q (F0 m (pc + 1) ls (rest))) : W p l e R s m args below meth c H locs cells slots Q (F0 m pc ls (.int v :: .int (nI i) :: .ref (ad 6) :: rest)) := by
  refine va_iast (D := G) CF.1 CF.2.1 hK hP hD hS 6 0 rfl rfl (vp_in_nI hi (by omega)) hdg (fun H1 locs1 hP hD hS => ?_)
  rw [nI_clamp (show i < 2 ^ 31 by omega)] at hP hD
  exact kk (up σ 6 i v) H1 locs1 rfl hP hD hS
theorem x0_ald7 (CF : CallFix p m c cc nL s args AW own) (hK : KK G cA s) (hP : va_P G vwCl (w0 ad cA σ) H) {i : Nat} (hi : i < 50) {v : Int32} (hv : σ 7 i = v) (hdg : decode cc pc = .ok (.iaload, 1)) (kk : W p l e R s m args below meth c H locs cells slots Q (F0 m (pc + 1) ls (.int v :: rest))) : W p l e R s m args below meth c H locs cells slots Q (F0 m pc ls (.int (nI i) :: .ref (ad 7) :: rest)) := by
  refine va_iald (D := G) CF.1 CF.2.1 hK hP 7 0 rfl rfl (vp_in_nI hi (by omega)) hdg ?_
  rw [nI_clamp (show i < 2 ^ 31 by omega), hv]
  exact kk
theorem x0_ast7 (CF : CallFix p m c cc nL s args AW own) (hK : KK G cA s) (hP : va_P G vwCl (w0 ad cA σ) H) (hD : va_D A (w0 ad cA σ)) (hS : va_S A H0 H locs) {i : Nat} (hi : i < 50) {v : Int32} (hdg : decode cc pc = .ok (.iastore, 1)) (kk : ∀ (σ' : RS) (H1 : Heap) (locs1 : List Loc), σ' = up σ 7 i v → va_P G vwCl (w0 ad cA σ') H1 → va_D A (w0 ad cA σ') → va_S A H0 H1 locs1 → W p l e R s m args below meth c H1 locs1 cells slots Q (F0 m (pc + 1) ls (rest))) : W p l e R s m args below meth c H locs cells slots Q (F0 m pc ls (.int v :: .int (nI i) :: .ref (ad 7) :: rest)) := by
  refine va_iast (D := G) CF.1 CF.2.1 hK hP hD hS 7 0 rfl rfl (vp_in_nI hi (by omega)) hdg (fun H1 locs1 hP hD hS => ?_)
  rw [nI_clamp (show i < 2 ^ 31 by omega)] at hP hD
  exact kk (up σ 7 i v) H1 locs1 rfl hP hD hS
theorem x0_alen1 (CF : CallFix p m c cc nL s args AW own) (hK : KK G cA s) (hP : va_P G vwCl (w0 ad cA σ) H) (hdg : decode cc pc = .ok (.arraylength, 1)) (kk : W p l e R s m args below meth c H locs cells slots Q (F0 m (pc + 1) ls (.int (nI 25) :: rest))) : W p l e R s m args below meth c H locs cells slots Q (F0 m pc ls (.ref (ad 1) :: rest)) := va_alen (D := G) CF.1 CF.2.1 hK hP 1 0 rfl rfl (v := nI 25) rfl hdg kk
theorem x1_g_rates (CF : CallFix p m c cc nL s args AW RX1) (hK : KK G cA s) (hP : va_P G vwCl (w1 ad cA σ) H) (hdg : decode cc pc = .ok (.getfield 9, 3)) (kk : W p l e R s m args below meth c H locs cells slots Q (F0 m (pc + 3) ls (.ref (ad 1) :: rest))) : W p l e R s m args below meth c H locs cells slots Q (F0 m pc ls (.ref (ad 0) :: rest)) :=
  va_get (ci := 1) (C := RX1) (T := TX1) (N := 14) CF.1 CF.2.1 CF.2.2.2.2 inlX1 CF.2.2.2.1 hK hP 0 rfl rfl 7 (by decide) (CF.2.2.2.2 _ (inr_2 _ (List.mem_of_getElem? (i := 2) rfl))) (fun _ h9 => h9) rfl hdg kk
theorem x1_g_stocks (CF : CallFix p m c cc nL s args AW RX1) (hK : KK G cA s) (hP : va_P G vwCl (w1 ad cA σ) H) (hdg : decode cc pc = .ok (.getfield 13, 3)) (kk : W p l e R s m args below meth c H locs cells slots Q (F0 m (pc + 3) ls (.ref (ad 2) :: rest))) : W p l e R s m args below meth c H locs cells slots Q (F0 m pc ls (.ref (ad 0) :: rest)) :=
  va_get (ci := 1) (C := RX1) (T := TX1) (N := 14) CF.1 CF.2.1 CF.2.2.2.2 inlX1 CF.2.2.2.1 hK hP 0 rfl rfl 8 (by decide) (CF.2.2.2.2 _ (inr_2 _ (List.mem_of_getElem? (i := 3) rfl))) (fun _ h9 => h9) rfl hdg kk
theorem x1_g_dust (CF : CallFix p m c cc nL s args AW RX1) (hK : KK G cA s) (hP : va_P G vwCl (w1 ad cA σ) H) (hdg : decode cc pc = .ok (.getfield 16, 3)) (kk : W p l e R s m args below meth c H locs cells slots Q (F0 m (pc + 3) ls (.ref (ad 3) :: rest))) : W p l e R s m args below meth c H locs cells slots Q (F0 m pc ls (.ref (ad 0) :: rest)) :=
  va_get (ci := 1) (C := RX1) (T := TX1) (N := 14) CF.1 CF.2.1 CF.2.2.2.2 inlX1 CF.2.2.2.1 hK hP 0 rfl rfl 9 (by decide) (CF.2.2.2.2 _ (inr_2 _ (List.mem_of_getElem? (i := 4) rfl))) (fun _ h9 => h9) rfl hdg kk
theorem x1_g_limits (CF : CallFix p m c cc nL s args AW RX1) (hK : KK G cA s) (hP : va_P G vwCl (w1 ad cA σ) H) (hdg : decode cc pc = .ok (.getfield 19, 3)) (kk : W p l e R s m args below meth c H locs cells slots Q (F0 m (pc + 3) ls (.ref (ad 4) :: rest))) : W p l e R s m args below meth c H locs cells slots Q (F0 m pc ls (.ref (ad 0) :: rest)) :=
  va_get (ci := 1) (C := RX1) (T := TX1) (N := 14) CF.1 CF.2.1 CF.2.2.2.2 inlX1 CF.2.2.2.1 hK hP 0 rfl rfl 10 (by decide) (CF.2.2.2.2 _ (inr_2 _ (List.mem_of_getElem? (i := 5) rfl))) (fun _ h9 => h9) rfl hdg kk
theorem x1_g_given (CF : CallFix p m c cc nL s args AW RX1) (hK : KK G cA s) (hP : va_P G vwCl (w1 ad cA σ) H) (hdg : decode cc pc = .ok (.getfield 22, 3)) (kk : W p l e R s m args below meth c H locs cells slots Q (F0 m (pc + 3) ls (.ref (ad 5) :: rest))) : W p l e R s m args below meth c H locs cells slots Q (F0 m pc ls (.ref (ad 0) :: rest)) :=
  va_get (ci := 1) (C := RX1) (T := TX1) (N := 14) CF.1 CF.2.1 CF.2.2.2.2 inlX1 CF.2.2.2.1 hK hP 0 rfl rfl 11 (by decide) (CF.2.2.2.2 _ (inr_2 _ (List.mem_of_getElem? (i := 6) rfl))) (fun _ h9 => h9) rfl hdg kk
theorem x1_g_purses (CF : CallFix p m c cc nL s args AW RX1) (hK : KK G cA s) (hP : va_P G vwCl (w1 ad cA σ) H) (hdg : decode cc pc = .ok (.getfield 25, 3)) (kk : W p l e R s m args below meth c H locs cells slots Q (F0 m (pc + 3) ls (.ref (ad 6) :: rest))) : W p l e R s m args below meth c H locs cells slots Q (F0 m pc ls (.ref (ad 0) :: rest)) :=
  va_get (ci := 1) (C := RX1) (T := TX1) (N := 14) CF.1 CF.2.1 CF.2.2.2.2 inlX1 CF.2.2.2.1 hK hP 0 rfl rfl 12 (by decide) (CF.2.2.2.2 _ (inr_2 _ (List.mem_of_getElem? (i := 7) rfl))) (fun _ h9 => h9) rfl hdg kk
theorem x1_g_orders (CF : CallFix p m c cc nL s args AW RX1) (hK : KK G cA s) (hP : va_P G vwCl (w1 ad cA σ) H) (hdg : decode cc pc = .ok (.getfield 28, 3)) (kk : W p l e R s m args below meth c H locs cells slots Q (F0 m (pc + 3) ls (.ref (ad 7) :: rest))) : W p l e R s m args below meth c H locs cells slots Q (F0 m pc ls (.ref (ad 0) :: rest)) :=
  va_get (ci := 1) (C := RX1) (T := TX1) (N := 14) CF.1 CF.2.1 CF.2.2.2.2 inlX1 CF.2.2.2.1 hK hP 0 rfl rfl 13 (by decide) (CF.2.2.2.2 _ (inr_2 _ (List.mem_of_getElem? (i := 8) rfl))) (fun _ h9 => h9) rfl hdg kk
theorem x1_g_thrown (CF : CallFix p m c cc nL s args AW RX1) (hK : KK G cA s) (hP : va_P G vwCl (w1 ad cA σ) H) {v : Int32} (hv : σ 0 6 = v) (hdg : decode cc pc = .ok (.getfield 31, 3)) (kk : W p l e R s m args below meth c H locs cells slots Q (F0 m (pc + 3) ls (.int v :: rest))) : W p l e R s m args below meth c H locs cells slots Q (F0 m pc ls (.ref (ad 0) :: rest)) :=
  va_get (ci := 1) (C := RX1) (T := TX1) (N := 14) CF.1 CF.2.1 CF.2.2.2.2 inlX1 CF.2.2.2.1 hK hP 0 rfl rfl 0 (by decide) (CF.2.2.2.2 _ (inr_6 _ (List.mem_of_getElem? (i := 2) rfl))) (fun _ h9 => h9) rfl hdg (by rw [hv]; exact kk)
theorem x1_p_thrown (CF : CallFix p m c cc nL s args AW RX1) (hK : KK G cA s) (hP : va_P G vwCl (w1 ad cA σ) H) (hD : va_D A (w1 ad cA σ)) (hS : va_S A H0 H locs) {v : Int32} (hdg : decode cc pc = .ok (.putfield 31, 3)) (kk : ∀ (σ' : RS) (H1 : Heap) (locs1 : List Loc), σ' = up σ 0 6 v → va_P G vwCl (w1 ad cA σ') H1 → va_D A (w1 ad cA σ') → va_S A H0 H1 locs1 → W p l e R s m args below meth c H1 locs1 cells slots Q (F0 m (pc + 3) ls (rest))) : W p l e R s m args below meth c H locs cells slots Q (F0 m pc ls (.int v :: .ref (ad 0) :: rest)) := by
  refine va_put (D := G) (ci := 1) (v := .int v) (ty := .int) (C := RX1) (T := TX1) (N := 14) CF.1 CF.2.1 CF.2.2.2.2 inlX1 tyX1 tyX1_ok nmX1 CF.2.2.2.1 hK hP hD hS 0 rfl rfl 0 (by decide) (CF.2.2.2.2 _ (inr_6 _ (List.mem_of_getElem? (i := 2) rfl))) (fun _ h9 => h9) rfl (by decide +kernel) rfl rfl (Nat.le_of_ble_eq_true rfl) hdg (fun H1 locs1 hP hD hS => ?_)
  exact kk (up σ 0 6 v) H1 locs1 rfl hP hD hS
theorem x1_g_customers (CF : CallFix p m c cc nL s args AW RX1) (hK : KK G cA s) (hP : va_P G vwCl (w1 ad cA σ) H) {v : Int32} (hv : σ 0 2 = v) (hdg : decode cc pc = .ok (.getfield 39, 3)) (kk : W p l e R s m args below meth c H locs cells slots Q (F0 m (pc + 3) ls (.int v :: rest))) : W p l e R s m args below meth c H locs cells slots Q (F0 m pc ls (.ref (ad 0) :: rest)) :=
  va_get (ci := 1) (C := RX1) (T := TX1) (N := 14) CF.1 CF.2.1 CF.2.2.2.2 inlX1 CF.2.2.2.1 hK hP 0 rfl rfl 3 (by decide) (CF.2.2.2.2 _ (inr_11 _ (List.mem_of_getElem? (i := 12) rfl))) (fun _ h9 => h9) rfl hdg (by rw [hv]; exact kk)
theorem x1_p_customers (CF : CallFix p m c cc nL s args AW RX1) (hK : KK G cA s) (hP : va_P G vwCl (w1 ad cA σ) H) (hD : va_D A (w1 ad cA σ)) (hS : va_S A H0 H locs) {v : Int32} (hdg : decode cc pc = .ok (.putfield 39, 3)) (kk : ∀ (σ' : RS) (H1 : Heap) (locs1 : List Loc), σ' = up σ 0 2 v → va_P G vwCl (w1 ad cA σ') H1 → va_D A (w1 ad cA σ') → va_S A H0 H1 locs1 → W p l e R s m args below meth c H1 locs1 cells slots Q (F0 m (pc + 3) ls (rest))) : W p l e R s m args below meth c H locs cells slots Q (F0 m pc ls (.int v :: .ref (ad 0) :: rest)) := by
  refine va_put (D := G) (ci := 1) (v := .int v) (ty := .int) (C := RX1) (T := TX1) (N := 14) CF.1 CF.2.1 CF.2.2.2.2 inlX1 tyX1 tyX1_ok nmX1 CF.2.2.2.1 hK hP hD hS 0 rfl rfl 3 (by decide) (CF.2.2.2.2 _ (inr_11 _ (List.mem_of_getElem? (i := 12) rfl))) (fun _ h9 => h9) rfl (by decide +kernel) rfl rfl (Nat.le_of_ble_eq_true rfl) hdg (fun H1 locs1 hP hD hS => ?_)
  exact kk (up σ 0 2 v) H1 locs1 rfl hP hD hS
theorem x1_g_spread (CF : CallFix p m c cc nL s args AW RX1) (hK : KK G cA s) (hP : va_P G vwCl (w1 ad cA σ) H) {v : Int32} (hv : σ 0 1 = v) (hdg : decode cc pc = .ok (.getfield 42, 3)) (kk : W p l e R s m args below meth c H locs cells slots Q (F0 m (pc + 3) ls (.int v :: rest))) : W p l e R s m args below meth c H locs cells slots Q (F0 m pc ls (.ref (ad 0) :: rest)) :=
  va_get (ci := 1) (C := RX1) (T := TX1) (N := 14) CF.1 CF.2.1 CF.2.2.2.2 inlX1 CF.2.2.2.1 hK hP 0 rfl rfl 2 (by decide) (CF.2.2.2.2 _ (inr_8 _ (List.mem_of_getElem? (i := 0) rfl))) (fun _ h9 => h9) rfl hdg (by rw [hv]; exact kk)
theorem x1_p_spread (CF : CallFix p m c cc nL s args AW RX1) (hK : KK G cA s) (hP : va_P G vwCl (w1 ad cA σ) H) (hD : va_D A (w1 ad cA σ)) (hS : va_S A H0 H locs) {v : Int32} (hdg : decode cc pc = .ok (.putfield 42, 3)) (kk : ∀ (σ' : RS) (H1 : Heap) (locs1 : List Loc), σ' = up σ 0 1 v → va_P G vwCl (w1 ad cA σ') H1 → va_D A (w1 ad cA σ') → va_S A H0 H1 locs1 → W p l e R s m args below meth c H1 locs1 cells slots Q (F0 m (pc + 3) ls (rest))) : W p l e R s m args below meth c H locs cells slots Q (F0 m pc ls (.int v :: .ref (ad 0) :: rest)) := by
  refine va_put (D := G) (ci := 1) (v := .int v) (ty := .int) (C := RX1) (T := TX1) (N := 14) CF.1 CF.2.1 CF.2.2.2.2 inlX1 tyX1 tyX1_ok nmX1 CF.2.2.2.1 hK hP hD hS 0 rfl rfl 2 (by decide) (CF.2.2.2.2 _ (inr_8 _ (List.mem_of_getElem? (i := 0) rfl))) (fun _ h9 => h9) rfl (by decide +kernel) rfl rfl (Nat.le_of_ble_eq_true rfl) hdg (fun H1 locs1 hP hD hS => ?_)
  exact kk (up σ 0 1 v) H1 locs1 rfl hP hD hS
theorem x1_g_changes (CF : CallFix p m c cc nL s args AW RX1) (hK : KK G cA s) (hP : va_P G vwCl (w1 ad cA σ) H) {v : Int32} (hv : σ 0 4 = v) (hdg : decode cc pc = .ok (.getfield 67, 3)) (kk : W p l e R s m args below meth c H locs cells slots Q (F0 m (pc + 3) ls (.int v :: rest))) : W p l e R s m args below meth c H locs cells slots Q (F0 m pc ls (.ref (ad 0) :: rest)) :=
  va_get (ci := 1) (C := RX1) (T := TX1) (N := 14) CF.1 CF.2.1 CF.2.2.2.2 inlX1 CF.2.2.2.1 hK hP 0 rfl rfl 5 (by decide) (CF.2.2.2.2 _ (inr_8 _ (List.mem_of_getElem? (i := 9) rfl))) (fun _ h9 => h9) rfl hdg (by rw [hv]; exact kk)
theorem x1_p_changes (CF : CallFix p m c cc nL s args AW RX1) (hK : KK G cA s) (hP : va_P G vwCl (w1 ad cA σ) H) (hD : va_D A (w1 ad cA σ)) (hS : va_S A H0 H locs) {v : Int32} (hdg : decode cc pc = .ok (.putfield 67, 3)) (kk : ∀ (σ' : RS) (H1 : Heap) (locs1 : List Loc), σ' = up σ 0 4 v → va_P G vwCl (w1 ad cA σ') H1 → va_D A (w1 ad cA σ') → va_S A H0 H1 locs1 → W p l e R s m args below meth c H1 locs1 cells slots Q (F0 m (pc + 3) ls (rest))) : W p l e R s m args below meth c H locs cells slots Q (F0 m pc ls (.int v :: .ref (ad 0) :: rest)) := by
  refine va_put (D := G) (ci := 1) (v := .int v) (ty := .int) (C := RX1) (T := TX1) (N := 14) CF.1 CF.2.1 CF.2.2.2.2 inlX1 tyX1 tyX1_ok nmX1 CF.2.2.2.1 hK hP hD hS 0 rfl rfl 5 (by decide) (CF.2.2.2.2 _ (inr_8 _ (List.mem_of_getElem? (i := 9) rfl))) (fun _ h9 => h9) rfl (by decide +kernel) rfl rfl (Nat.le_of_ble_eq_true rfl) hdg (fun H1 locs1 hP hD hS => ?_)
  exact kk (up σ 0 4 v) H1 locs1 rfl hP hD hS
theorem x1_g_waiting (CF : CallFix p m c cc nL s args AW RX1) (hK : KK G cA s) (hP : va_P G vwCl (w1 ad cA σ) H) {v : Int32} (hv : σ 0 3 = v) (hdg : decode cc pc = .ok (.getfield 70, 3)) (kk : W p l e R s m args below meth c H locs cells slots Q (F0 m (pc + 3) ls (.int v :: rest))) : W p l e R s m args below meth c H locs cells slots Q (F0 m pc ls (.ref (ad 0) :: rest)) :=
  va_get (ci := 1) (C := RX1) (T := TX1) (N := 14) CF.1 CF.2.1 CF.2.2.2.2 inlX1 CF.2.2.2.1 hK hP 0 rfl rfl 4 (by decide) (CF.2.2.2.2 _ (inr_6 _ (List.mem_of_getElem? (i := 18) rfl))) (fun _ h9 => h9) rfl hdg (by rw [hv]; exact kk)
theorem x1_p_waiting (CF : CallFix p m c cc nL s args AW RX1) (hK : KK G cA s) (hP : va_P G vwCl (w1 ad cA σ) H) (hD : va_D A (w1 ad cA σ)) (hS : va_S A H0 H locs) {v : Int32} (hdg : decode cc pc = .ok (.putfield 70, 3)) (kk : ∀ (σ' : RS) (H1 : Heap) (locs1 : List Loc), σ' = up σ 0 3 v → va_P G vwCl (w1 ad cA σ') H1 → va_D A (w1 ad cA σ') → va_S A H0 H1 locs1 → W p l e R s m args below meth c H1 locs1 cells slots Q (F0 m (pc + 3) ls (rest))) : W p l e R s m args below meth c H locs cells slots Q (F0 m pc ls (.int v :: .ref (ad 0) :: rest)) := by
  refine va_put (D := G) (ci := 1) (v := .int v) (ty := .int) (C := RX1) (T := TX1) (N := 14) CF.1 CF.2.1 CF.2.2.2.2 inlX1 tyX1 tyX1_ok nmX1 CF.2.2.2.1 hK hP hD hS 0 rfl rfl 4 (by decide) (CF.2.2.2.2 _ (inr_6 _ (List.mem_of_getElem? (i := 18) rfl))) (fun _ h9 => h9) rfl (by decide +kernel) rfl rfl (Nat.le_of_ble_eq_true rfl) hdg (fun H1 locs1 hP hD hS => ?_)
  exact kk (up σ 0 3 v) H1 locs1 rfl hP hD hS
theorem x1_g_done (CF : CallFix p m c cc nL s args AW RX1) (hK : KK G cA s) (hP : va_P G vwCl (w1 ad cA σ) H) {v : Int32} (hv : σ 0 5 = v) (hdg : decode cc pc = .ok (.getfield 86, 3)) (kk : W p l e R s m args below meth c H locs cells slots Q (F0 m (pc + 3) ls (.int v :: rest))) : W p l e R s m args below meth c H locs cells slots Q (F0 m pc ls (.ref (ad 0) :: rest)) :=
  va_get (ci := 1) (C := RX1) (T := TX1) (N := 14) CF.1 CF.2.1 CF.2.2.2.2 inlX1 CF.2.2.2.1 hK hP 0 rfl rfl 6 (by decide) (CF.2.2.2.2 _ (inr_6 _ (List.mem_of_getElem? (i := 17) rfl))) (fun _ h9 => h9) rfl hdg (by rw [hv]; exact kk)
theorem x1_p_done (CF : CallFix p m c cc nL s args AW RX1) (hK : KK G cA s) (hP : va_P G vwCl (w1 ad cA σ) H) (hD : va_D A (w1 ad cA σ)) (hS : va_S A H0 H locs) {v : Int32} (hdg : decode cc pc = .ok (.putfield 86, 3)) (kk : ∀ (σ' : RS) (H1 : Heap) (locs1 : List Loc), σ' = up σ 0 5 v → va_P G vwCl (w1 ad cA σ') H1 → va_D A (w1 ad cA σ') → va_S A H0 H1 locs1 → W p l e R s m args below meth c H1 locs1 cells slots Q (F0 m (pc + 3) ls (rest))) : W p l e R s m args below meth c H locs cells slots Q (F0 m pc ls (.int v :: .ref (ad 0) :: rest)) := by
  refine va_put (D := G) (ci := 1) (v := .int v) (ty := .int) (C := RX1) (T := TX1) (N := 14) CF.1 CF.2.1 CF.2.2.2.2 inlX1 tyX1 tyX1_ok nmX1 CF.2.2.2.1 hK hP hD hS 0 rfl rfl 6 (by decide) (CF.2.2.2.2 _ (inr_6 _ (List.mem_of_getElem? (i := 17) rfl))) (fun _ h9 => h9) rfl (by decide +kernel) rfl rfl (Nat.le_of_ble_eq_true rfl) hdg (fun H1 locs1 hP hD hS => ?_)
  exact kk (up σ 0 5 v) H1 locs1 rfl hP hD hS
theorem x1_g_day (CF : CallFix p m c cc nL s args AW RX1) (hK : KK G cA s) (hP : va_P G vwCl (w1 ad cA σ) H) {v : Int32} (hv : σ 0 0 = v) (hdg : decode cc pc = .ok (.getfield 114, 3)) (kk : W p l e R s m args below meth c H locs cells slots Q (F0 m (pc + 3) ls (.int v :: rest))) : W p l e R s m args below meth c H locs cells slots Q (F0 m pc ls (.ref (ad 0) :: rest)) :=
  va_get (ci := 1) (C := RX1) (T := TX1) (N := 14) CF.1 CF.2.1 CF.2.2.2.2 inlX1 CF.2.2.2.1 hK hP 0 rfl rfl 1 (by decide) (CF.2.2.2.2 _ (inr_10 _ (List.mem_of_getElem? (i := 21) rfl))) (fun _ h9 => h9) rfl hdg (by rw [hv]; exact kk)
theorem x1_p_day (CF : CallFix p m c cc nL s args AW RX1) (hK : KK G cA s) (hP : va_P G vwCl (w1 ad cA σ) H) (hD : va_D A (w1 ad cA σ)) (hS : va_S A H0 H locs) {v : Int32} (hdg : decode cc pc = .ok (.putfield 114, 3)) (kk : ∀ (σ' : RS) (H1 : Heap) (locs1 : List Loc), σ' = up σ 0 0 v → va_P G vwCl (w1 ad cA σ') H1 → va_D A (w1 ad cA σ') → va_S A H0 H1 locs1 → W p l e R s m args below meth c H1 locs1 cells slots Q (F0 m (pc + 3) ls (rest))) : W p l e R s m args below meth c H locs cells slots Q (F0 m pc ls (.int v :: .ref (ad 0) :: rest)) := by
  refine va_put (D := G) (ci := 1) (v := .int v) (ty := .int) (C := RX1) (T := TX1) (N := 14) CF.1 CF.2.1 CF.2.2.2.2 inlX1 tyX1 tyX1_ok nmX1 CF.2.2.2.1 hK hP hD hS 0 rfl rfl 1 (by decide) (CF.2.2.2.2 _ (inr_10 _ (List.mem_of_getElem? (i := 21) rfl))) (fun _ h9 => h9) rfl (by decide +kernel) rfl rfl (Nat.le_of_ble_eq_true rfl) hdg (fun H1 locs1 hP hD hS => ?_)
  exact kk (up σ 0 0 v) H1 locs1 rfl hP hD hS
theorem x1_ald1 (CF : CallFix p m c cc nL s args AW own) (hK : KK G cA s) (hP : va_P G vwCl (w1 ad cA σ) H) {i : Nat} (hi : i < 25) {v : Int32} (hv : σ 1 i = v) (hdg : decode cc pc = .ok (.iaload, 1)) (kk : W p l e R s m args below meth c H locs cells slots Q (F0 m (pc + 1) ls (.int v :: rest))) : W p l e R s m args below meth c H locs cells slots Q (F0 m pc ls (.int (nI i) :: .ref (ad 1) :: rest)) := by
  refine va_iald (D := G) CF.1 CF.2.1 hK hP 1 0 rfl rfl (vp_in_nI hi (by omega)) hdg ?_
  rw [nI_clamp (show i < 2 ^ 31 by omega), hv]
  exact kk
theorem x1_ast1 (CF : CallFix p m c cc nL s args AW own) (hK : KK G cA s) (hP : va_P G vwCl (w1 ad cA σ) H) (hD : va_D A (w1 ad cA σ)) (hS : va_S A H0 H locs) {i : Nat} (hi : i < 25) {v : Int32} (hdg : decode cc pc = .ok (.iastore, 1)) (kk : ∀ (σ' : RS) (H1 : Heap) (locs1 : List Loc), σ' = up σ 1 i v → va_P G vwCl (w1 ad cA σ') H1 → va_D A (w1 ad cA σ') → va_S A H0 H1 locs1 → W p l e R s m args below meth c H1 locs1 cells slots Q (F0 m (pc + 1) ls (rest))) : W p l e R s m args below meth c H locs cells slots Q (F0 m pc ls (.int v :: .int (nI i) :: .ref (ad 1) :: rest)) := by
  refine va_iast (D := G) CF.1 CF.2.1 hK hP hD hS 1 0 rfl rfl (vp_in_nI hi (by omega)) hdg (fun H1 locs1 hP hD hS => ?_)
  rw [nI_clamp (show i < 2 ^ 31 by omega)] at hP hD
  exact kk (up σ 1 i v) H1 locs1 rfl hP hD hS
theorem x1_ald2 (CF : CallFix p m c cc nL s args AW own) (hK : KK G cA s) (hP : va_P G vwCl (w1 ad cA σ) H) {i : Nat} (hi : i < 5) {v : Int32} (hv : σ 2 i = v) (hdg : decode cc pc = .ok (.iaload, 1)) (kk : W p l e R s m args below meth c H locs cells slots Q (F0 m (pc + 1) ls (.int v :: rest))) : W p l e R s m args below meth c H locs cells slots Q (F0 m pc ls (.int (nI i) :: .ref (ad 2) :: rest)) := by
  refine va_iald (D := G) CF.1 CF.2.1 hK hP 2 0 rfl rfl (vp_in_nI hi (by omega)) hdg ?_
  rw [nI_clamp (show i < 2 ^ 31 by omega), hv]
  exact kk
theorem x1_ast2 (CF : CallFix p m c cc nL s args AW own) (hK : KK G cA s) (hP : va_P G vwCl (w1 ad cA σ) H) (hD : va_D A (w1 ad cA σ)) (hS : va_S A H0 H locs) {i : Nat} (hi : i < 5) {v : Int32} (hdg : decode cc pc = .ok (.iastore, 1)) (kk : ∀ (σ' : RS) (H1 : Heap) (locs1 : List Loc), σ' = up σ 2 i v → va_P G vwCl (w1 ad cA σ') H1 → va_D A (w1 ad cA σ') → va_S A H0 H1 locs1 → W p l e R s m args below meth c H1 locs1 cells slots Q (F0 m (pc + 1) ls (rest))) : W p l e R s m args below meth c H locs cells slots Q (F0 m pc ls (.int v :: .int (nI i) :: .ref (ad 2) :: rest)) := by
  refine va_iast (D := G) CF.1 CF.2.1 hK hP hD hS 2 0 rfl rfl (vp_in_nI hi (by omega)) hdg (fun H1 locs1 hP hD hS => ?_)
  rw [nI_clamp (show i < 2 ^ 31 by omega)] at hP hD
  exact kk (up σ 2 i v) H1 locs1 rfl hP hD hS
theorem x1_ald3 (CF : CallFix p m c cc nL s args AW own) (hK : KK G cA s) (hP : va_P G vwCl (w1 ad cA σ) H) {i : Nat} (hi : i < 5) {v : Int32} (hv : σ 3 i = v) (hdg : decode cc pc = .ok (.iaload, 1)) (kk : W p l e R s m args below meth c H locs cells slots Q (F0 m (pc + 1) ls (.int v :: rest))) : W p l e R s m args below meth c H locs cells slots Q (F0 m pc ls (.int (nI i) :: .ref (ad 3) :: rest)) := by
  refine va_iald (D := G) CF.1 CF.2.1 hK hP 3 0 rfl rfl (vp_in_nI hi (by omega)) hdg ?_
  rw [nI_clamp (show i < 2 ^ 31 by omega), hv]
  exact kk
theorem x1_ast3 (CF : CallFix p m c cc nL s args AW own) (hK : KK G cA s) (hP : va_P G vwCl (w1 ad cA σ) H) (hD : va_D A (w1 ad cA σ)) (hS : va_S A H0 H locs) {i : Nat} (hi : i < 5) {v : Int32} (hdg : decode cc pc = .ok (.iastore, 1)) (kk : ∀ (σ' : RS) (H1 : Heap) (locs1 : List Loc), σ' = up σ 3 i v → va_P G vwCl (w1 ad cA σ') H1 → va_D A (w1 ad cA σ') → va_S A H0 H1 locs1 → W p l e R s m args below meth c H1 locs1 cells slots Q (F0 m (pc + 1) ls (rest))) : W p l e R s m args below meth c H locs cells slots Q (F0 m pc ls (.int v :: .int (nI i) :: .ref (ad 3) :: rest)) := by
  refine va_iast (D := G) CF.1 CF.2.1 hK hP hD hS 3 0 rfl rfl (vp_in_nI hi (by omega)) hdg (fun H1 locs1 hP hD hS => ?_)
  rw [nI_clamp (show i < 2 ^ 31 by omega)] at hP hD
  exact kk (up σ 3 i v) H1 locs1 rfl hP hD hS
theorem x1_ald4 (CF : CallFix p m c cc nL s args AW own) (hK : KK G cA s) (hP : va_P G vwCl (w1 ad cA σ) H) {i : Nat} (hi : i < 5) {v : Int32} (hv : σ 4 i = v) (hdg : decode cc pc = .ok (.iaload, 1)) (kk : W p l e R s m args below meth c H locs cells slots Q (F0 m (pc + 1) ls (.int v :: rest))) : W p l e R s m args below meth c H locs cells slots Q (F0 m pc ls (.int (nI i) :: .ref (ad 4) :: rest)) := by
  refine va_iald (D := G) CF.1 CF.2.1 hK hP 4 0 rfl rfl (vp_in_nI hi (by omega)) hdg ?_
  rw [nI_clamp (show i < 2 ^ 31 by omega), hv]
  exact kk
theorem x1_ast4 (CF : CallFix p m c cc nL s args AW own) (hK : KK G cA s) (hP : va_P G vwCl (w1 ad cA σ) H) (hD : va_D A (w1 ad cA σ)) (hS : va_S A H0 H locs) {i : Nat} (hi : i < 5) {v : Int32} (hdg : decode cc pc = .ok (.iastore, 1)) (kk : ∀ (σ' : RS) (H1 : Heap) (locs1 : List Loc), σ' = up σ 4 i v → va_P G vwCl (w1 ad cA σ') H1 → va_D A (w1 ad cA σ') → va_S A H0 H1 locs1 → W p l e R s m args below meth c H1 locs1 cells slots Q (F0 m (pc + 1) ls (rest))) : W p l e R s m args below meth c H locs cells slots Q (F0 m pc ls (.int v :: .int (nI i) :: .ref (ad 4) :: rest)) := by
  refine va_iast (D := G) CF.1 CF.2.1 hK hP hD hS 4 0 rfl rfl (vp_in_nI hi (by omega)) hdg (fun H1 locs1 hP hD hS => ?_)
  rw [nI_clamp (show i < 2 ^ 31 by omega)] at hP hD
  exact kk (up σ 4 i v) H1 locs1 rfl hP hD hS
theorem x1_ald5 (CF : CallFix p m c cc nL s args AW own) (hK : KK G cA s) (hP : va_P G vwCl (w1 ad cA σ) H) {i : Nat} (hi : i < 5) {v : Int32} (hv : σ 5 i = v) (hdg : decode cc pc = .ok (.iaload, 1)) (kk : W p l e R s m args below meth c H locs cells slots Q (F0 m (pc + 1) ls (.int v :: rest))) : W p l e R s m args below meth c H locs cells slots Q (F0 m pc ls (.int (nI i) :: .ref (ad 5) :: rest)) := by
  refine va_iald (D := G) CF.1 CF.2.1 hK hP 5 0 rfl rfl (vp_in_nI hi (by omega)) hdg ?_
  rw [nI_clamp (show i < 2 ^ 31 by omega), hv]
  exact kk
theorem x1_ast5 (CF : CallFix p m c cc nL s args AW own) (hK : KK G cA s) (hP : va_P G vwCl (w1 ad cA σ) H) (hD : va_D A (w1 ad cA σ)) (hS : va_S A H0 H locs) {i : Nat} (hi : i < 5) {v : Int32} (hdg : decode cc pc = .ok (.iastore, 1)) (kk : ∀ (σ' : RS) (H1 : Heap) (locs1 : List Loc), σ' = up σ 5 i v → va_P G vwCl (w1 ad cA σ') H1 → va_D A (w1 ad cA σ') → va_S A H0 H1 locs1 → W p l e R s m args below meth c H1 locs1 cells slots Q (F0 m (pc + 1) ls (rest))) : W p l e R s m args below meth c H locs cells slots Q (F0 m pc ls (.int v :: .int (nI i) :: .ref (ad 5) :: rest)) := by
  refine va_iast (D := G) CF.1 CF.2.1 hK hP hD hS 5 0 rfl rfl (vp_in_nI hi (by omega)) hdg (fun H1 locs1 hP hD hS => ?_)
  rw [nI_clamp (show i < 2 ^ 31 by omega)] at hP hD
  exact kk (up σ 5 i v) H1 locs1 rfl hP hD hS
theorem x1_ald6 (CF : CallFix p m c cc nL s args AW own) (hK : KK G cA s) (hP : va_P G vwCl (w1 ad cA σ) H) {i : Nat} (hi : i < 30) {v : Int32} (hv : σ 6 i = v) (hdg : decode cc pc = .ok (.iaload, 1)) (kk : W p l e R s m args below meth c H locs cells slots Q (F0 m (pc + 1) ls (.int v :: rest))) : W p l e R s m args below meth c H locs cells slots Q (F0 m pc ls (.int (nI i) :: .ref (ad 6) :: rest)) := by
  refine va_iald (D := G) CF.1 CF.2.1 hK hP 6 0 rfl rfl (vp_in_nI hi (by omega)) hdg ?_
  rw [nI_clamp (show i < 2 ^ 31 by omega), hv]
  exact kk
theorem x1_ast6 (CF : CallFix p m c cc nL s args AW own) (hK : KK G cA s) (hP : va_P G vwCl (w1 ad cA σ) H) (hD : va_D A (w1 ad cA σ)) (hS : va_S A H0 H locs) {i : Nat} (hi : i < 30) {v : Int32} (hdg : decode cc pc = .ok (.iastore, 1)) (kk : ∀ (σ' : RS) (H1 : Heap) (locs1 : List Loc), σ' = up σ 6 i v → va_P G vwCl (w1 ad cA σ') H1 → va_D A (w1 ad cA σ') → va_S A H0 H1 locs1 → W p l e R s m args below meth c H1 locs1 cells slots Q (F0 m (pc + 1) ls (rest))) : W p l e R s m args below meth c H locs cells slots Q (F0 m pc ls (.int v :: .int (nI i) :: .ref (ad 6) :: rest)) := by
  refine va_iast (D := G) CF.1 CF.2.1 hK hP hD hS 6 0 rfl rfl (vp_in_nI hi (by omega)) hdg (fun H1 locs1 hP hD hS => ?_)
  rw [nI_clamp (show i < 2 ^ 31 by omega)] at hP hD
  exact kk (up σ 6 i v) H1 locs1 rfl hP hD hS
theorem x1_ald7 (CF : CallFix p m c cc nL s args AW own) (hK : KK G cA s) (hP : va_P G vwCl (w1 ad cA σ) H) {i : Nat} (hi : i < 50) {v : Int32} (hv : σ 7 i = v) (hdg : decode cc pc = .ok (.iaload, 1)) (kk : W p l e R s m args below meth c H locs cells slots Q (F0 m (pc + 1) ls (.int v :: rest))) : W p l e R s m args below meth c H locs cells slots Q (F0 m pc ls (.int (nI i) :: .ref (ad 7) :: rest)) := by
  refine va_iald (D := G) CF.1 CF.2.1 hK hP 7 0 rfl rfl (vp_in_nI hi (by omega)) hdg ?_
  rw [nI_clamp (show i < 2 ^ 31 by omega), hv]
  exact kk
theorem x1_ast7 (CF : CallFix p m c cc nL s args AW own) (hK : KK G cA s) (hP : va_P G vwCl (w1 ad cA σ) H) (hD : va_D A (w1 ad cA σ)) (hS : va_S A H0 H locs) {i : Nat} (hi : i < 50) {v : Int32} (hdg : decode cc pc = .ok (.iastore, 1)) (kk : ∀ (σ' : RS) (H1 : Heap) (locs1 : List Loc), σ' = up σ 7 i v → va_P G vwCl (w1 ad cA σ') H1 → va_D A (w1 ad cA σ') → va_S A H0 H1 locs1 → W p l e R s m args below meth c H1 locs1 cells slots Q (F0 m (pc + 1) ls (rest))) : W p l e R s m args below meth c H locs cells slots Q (F0 m pc ls (.int v :: .int (nI i) :: .ref (ad 7) :: rest)) := by
  refine va_iast (D := G) CF.1 CF.2.1 hK hP hD hS 7 0 rfl rfl (vp_in_nI hi (by omega)) hdg (fun H1 locs1 hP hD hS => ?_)
  rw [nI_clamp (show i < 2 ^ 31 by omega)] at hP hD
  exact kk (up σ 7 i v) H1 locs1 rfl hP hD hS
theorem x1_alen1 (CF : CallFix p m c cc nL s args AW own) (hK : KK G cA s) (hP : va_P G vwCl (w1 ad cA σ) H) (hdg : decode cc pc = .ok (.arraylength, 1)) (kk : W p l e R s m args below meth c H locs cells slots Q (F0 m (pc + 1) ls (.int (nI 25) :: rest))) : W p l e R s m args below meth c H locs cells slots Q (F0 m pc ls (.ref (ad 1) :: rest)) := va_alen (D := G) CF.1 CF.2.1 hK hP 1 0 rfl rfl (v := nI 25) rfl hdg kk
theorem o_iadd (CF : CallFix p m c cc nL s args AW own) {a b : Nat} (hdg : decode cc pc = .ok (.iadd, 1)) (kk : W p l e R s m args below meth c H locs cells slots Q (F0 m (pc + 1) ls (.int (nI (a + b)) :: rest))) : W p l e R s m args below meth c H locs cells slots Q (F0 m pc ls (.int (nI b) :: .int (nI a) :: rest)) := lv_iadd CF.1 CF.2.1 hdg (by rw [nI_add]; exact kk)
theorem o_imul (CF : CallFix p m c cc nL s args AW own) {a b : Nat} (hdg : decode cc pc = .ok (.imul, 1)) (kk : W p l e R s m args below meth c H locs cells slots Q (F0 m (pc + 1) ls (.int (nI (a * b)) :: rest))) : W p l e R s m args below meth c H locs cells slots Q (F0 m pc ls (.int (nI b) :: .int (nI a) :: rest)) := lv_imul CF.1 CF.2.1 hdg (by rw [pk_mul]; exact kk)
theorem o_isub (CF : CallFix p m c cc nL s args AW own) {a b : Nat} (h : b ≤ a) (hdg : decode cc pc = .ok (.isub, 1)) (kk : W p l e R s m args below meth c H locs cells slots Q (F0 m (pc + 1) ls (.int (nI (a - b)) :: rest))) : W p l e R s m args below meth c H locs cells slots Q (F0 m pc ls (.int (nI b) :: .int (nI a) :: rest)) := lv_isub CF.1 CF.2.1 hdg (by rw [pk_sub h]; exact kk)
theorem o_ladd (CF : CallFix p m c cc nL s args AW own) {a b : Nat} (hdg : decode cc pc = .ok (.ladd, 1)) (kk : W p l e R s m args below meth c H locs cells slots Q (F0 m (pc + 1) ls (.long (lN (a + b)) :: rest))) : W p l e R s m args below meth c H locs cells slots Q (F0 m pc ls (.long (lN b) :: .long (lN a) :: rest)) := lv_ladd CF.1 CF.2.1 hdg (by rw [lN_add]; exact kk)
theorem o_lmul (CF : CallFix p m c cc nL s args AW own) {a b : Nat} (hdg : decode cc pc = .ok (.lmul, 1)) (kk : W p l e R s m args below meth c H locs cells slots Q (F0 m (pc + 1) ls (.long (lN (a * b)) :: rest))) : W p l e R s m args below meth c H locs cells slots Q (F0 m pc ls (.long (lN b) :: .long (lN a) :: rest)) := lv_lmul CF.1 CF.2.1 hdg (by rw [lN_mul]; exact kk)
theorem o_lsub (CF : CallFix p m c cc nL s args AW own) {a b : Nat} (h : b ≤ a) (hdg : decode cc pc = .ok (.lsub, 1)) (kk : W p l e R s m args below meth c H locs cells slots Q (F0 m (pc + 1) ls (.long (lN (a - b)) :: rest))) : W p l e R s m args below meth c H locs cells slots Q (F0 m pc ls (.long (lN b) :: .long (lN a) :: rest)) := lv_lsub CF.1 CF.2.1 hdg (by rw [lN_sub h]; exact kk)
theorem o_i2l (CF : CallFix p m c cc nL s args AW own) {a : Nat} (ha : a < 2147483648) (hdg : decode cc pc = .ok (.i2l, 1)) (kk : W p l e R s m args below meth c H locs cells slots Q (F0 m (pc + 1) ls (.long (lN a) :: rest))) : W p l e R s m args below meth c H locs cells slots Q (F0 m pc ls (.int (nI a) :: rest)) := lv_i2l (v := lN a) CF.1 CF.2.1 hdg (nI_l ha) kk
theorem o_l2i (CF : CallFix p m c cc nL s args AW own) {a : Nat} (hdg : decode cc pc = .ok (.l2i, 1)) (kk : W p l e R s m args below meth c H locs cells slots Q (F0 m (pc + 1) ls (.int (nI a) :: rest))) : W p l e R s m args below meth c H locs cells slots Q (F0 m pc ls (.long (lN a) :: rest)) := lv_l2i (v := nI a) CF.1 CF.2.1 hdg (lN_i a) kk
theorem tpi {x y : Int32} (h : x = y) (kk : W p l e R s m args below meth c H locs cells slots Q (F0 m pc ls (.int y :: rest))) : W p l e R s m args below meth c H locs cells slots Q (F0 m pc ls (.int x :: rest)) := by rw [h]; exact kk
theorem tpl {x y : Int64} (h : x = y) (kk : W p l e R s m args below meth c H locs cells slots Q (F0 m pc ls (.long y :: rest))) : W p l e R s m args below meth c H locs cells slots Q (F0 m pc ls (.long x :: rest)) := by rw [h]; exact kk
theorem z_icmp_eq (CF : CallFix p m c cc nL s args AW own) {x y : Int32} {a b : Int} (hx : x.toInt = a) (hy : y.toInt = b) {off : Int} {tgt : Nat} (hdg : decode cc pc = .ok (.if_icmp .eq off, 3)) (ht : (pc : Int) + off = (tgt : Int)) (k1 : a = b → W p l e R s m args below meth c H locs cells slots Q (F0 m tgt ls (rest))) (k2 : a ≠ b → W p l e R s m args below meth c H locs cells slots Q (F0 m (pc + 3) ls (rest))) : W p l e R s m args below meth c H locs cells slots Q (F0 m pc ls (.int y :: .int x :: rest)) := by
  refine lv_icmp_eq CF.1 CF.2.1 hdg ht (fun h => k1 ?_) (fun h => k2 ?_) <;> simp only [Int32.lt_iff_toInt_lt, Int32.le_iff_toInt_le, ← Int32.toInt_inj, ge_iff_le, gt_iff_lt, ne_eq] at h <;> omega
theorem z_if_eq (CF : CallFix p m c cc nL s args AW own) {x : Int32} {a : Int} (hx : x.toInt = a) {off : Int} {tgt : Nat} (hdg : decode cc pc = .ok (.ifCond .eq off, 3)) (ht : (pc : Int) + off = (tgt : Int)) (k1 : a = 0 → W p l e R s m args below meth c H locs cells slots Q (F0 m tgt ls (rest))) (k2 : a ≠ 0 → W p l e R s m args below meth c H locs cells slots Q (F0 m (pc + 3) ls (rest))) : W p l e R s m args below meth c H locs cells slots Q (F0 m pc ls (.int x :: rest)) := by
  have h0 : (0 : Int32).toInt = 0 := by decide
  refine lv_if_eq CF.1 CF.2.1 hdg ht (fun h => k1 ?_) (fun h => k2 ?_) <;> simp only [Int32.lt_iff_toInt_lt, Int32.le_iff_toInt_le, ← Int32.toInt_inj, ge_iff_le, gt_iff_lt, ne_eq, h0] at h <;> omega
theorem z_lcmp_eq (CF : CallFix p m c cc nL s args AW own) {x y : Int64} {a b : Int} (hx : x.toInt = a) (hy : y.toInt = b) {off : Int} {tgt : Nat} (hd1 : decode cc pc = .ok (.lcmp, 1)) (hdg : decode cc (pc + 1) = .ok (.ifCond .eq off, 3)) (ht : ((pc + 1 : Nat) : Int) + off = (tgt : Int)) (k1 : a = b → W p l e R s m args below meth c H locs cells slots Q (F0 m tgt ls (rest))) (k2 : a ≠ b → W p l e R s m args below meth c H locs cells slots Q (F0 m (pc + 4) ls (rest))) : W p l e R s m args below meth c H locs cells slots Q (F0 m pc ls (.long y :: .long x :: rest)) := by
  refine W.lcmp CF.1 CF.2.1 hd1 ?_
  have h0 : (lg_cmp x y).toInt = if b < a then 1 else if a = b then 0 else -1 := by
    subst hx; subst hy
    simp only [lg_cmp, gt_iff_lt, Int64.lt_iff_toInt_lt, ← Int64.toInt_inj]
    repeat' split
    all_goals first | decide | rfl
  refine z_if_eq CF h0 hdg ht (fun h => k1 ?_) (fun h => k2 ?_) <;> (repeat' split at h) <;> omega
theorem z_icmp_ne (CF : CallFix p m c cc nL s args AW own) {x y : Int32} {a b : Int} (hx : x.toInt = a) (hy : y.toInt = b) {off : Int} {tgt : Nat} (hdg : decode cc pc = .ok (.if_icmp .ne off, 3)) (ht : (pc : Int) + off = (tgt : Int)) (k1 : a ≠ b → W p l e R s m args below meth c H locs cells slots Q (F0 m tgt ls (rest))) (k2 : a = b → W p l e R s m args below meth c H locs cells slots Q (F0 m (pc + 3) ls (rest))) : W p l e R s m args below meth c H locs cells slots Q (F0 m pc ls (.int y :: .int x :: rest)) := by
  refine lv_icmp_ne CF.1 CF.2.1 hdg ht (fun h => k1 ?_) (fun h => k2 ?_) <;> simp only [Int32.lt_iff_toInt_lt, Int32.le_iff_toInt_le, ← Int32.toInt_inj, ge_iff_le, gt_iff_lt, ne_eq] at h <;> omega
theorem z_if_ne (CF : CallFix p m c cc nL s args AW own) {x : Int32} {a : Int} (hx : x.toInt = a) {off : Int} {tgt : Nat} (hdg : decode cc pc = .ok (.ifCond .ne off, 3)) (ht : (pc : Int) + off = (tgt : Int)) (k1 : a ≠ 0 → W p l e R s m args below meth c H locs cells slots Q (F0 m tgt ls (rest))) (k2 : a = 0 → W p l e R s m args below meth c H locs cells slots Q (F0 m (pc + 3) ls (rest))) : W p l e R s m args below meth c H locs cells slots Q (F0 m pc ls (.int x :: rest)) := by
  have h0 : (0 : Int32).toInt = 0 := by decide
  refine lv_if_ne CF.1 CF.2.1 hdg ht (fun h => k1 ?_) (fun h => k2 ?_) <;> simp only [Int32.lt_iff_toInt_lt, Int32.le_iff_toInt_le, ← Int32.toInt_inj, ge_iff_le, gt_iff_lt, ne_eq, h0] at h <;> omega
theorem z_lcmp_ne (CF : CallFix p m c cc nL s args AW own) {x y : Int64} {a b : Int} (hx : x.toInt = a) (hy : y.toInt = b) {off : Int} {tgt : Nat} (hd1 : decode cc pc = .ok (.lcmp, 1)) (hdg : decode cc (pc + 1) = .ok (.ifCond .ne off, 3)) (ht : ((pc + 1 : Nat) : Int) + off = (tgt : Int)) (k1 : a ≠ b → W p l e R s m args below meth c H locs cells slots Q (F0 m tgt ls (rest))) (k2 : a = b → W p l e R s m args below meth c H locs cells slots Q (F0 m (pc + 4) ls (rest))) : W p l e R s m args below meth c H locs cells slots Q (F0 m pc ls (.long y :: .long x :: rest)) := by
  refine W.lcmp CF.1 CF.2.1 hd1 ?_
  have h0 : (lg_cmp x y).toInt = if b < a then 1 else if a = b then 0 else -1 := by
    subst hx; subst hy
    simp only [lg_cmp, gt_iff_lt, Int64.lt_iff_toInt_lt, ← Int64.toInt_inj]
    repeat' split
    all_goals first | decide | rfl
  refine z_if_ne CF h0 hdg ht (fun h => k1 ?_) (fun h => k2 ?_) <;> (repeat' split at h) <;> omega
theorem z_icmp_lt (CF : CallFix p m c cc nL s args AW own) {x y : Int32} {a b : Int} (hx : x.toInt = a) (hy : y.toInt = b) {off : Int} {tgt : Nat} (hdg : decode cc pc = .ok (.if_icmp .lt off, 3)) (ht : (pc : Int) + off = (tgt : Int)) (k1 : a < b → W p l e R s m args below meth c H locs cells slots Q (F0 m tgt ls (rest))) (k2 : b ≤ a → W p l e R s m args below meth c H locs cells slots Q (F0 m (pc + 3) ls (rest))) : W p l e R s m args below meth c H locs cells slots Q (F0 m pc ls (.int y :: .int x :: rest)) := by
  refine lv_icmp_lt CF.1 CF.2.1 hdg ht (fun h => k1 ?_) (fun h => k2 ?_) <;> simp only [Int32.lt_iff_toInt_lt, Int32.le_iff_toInt_le, ← Int32.toInt_inj, ge_iff_le, gt_iff_lt, ne_eq] at h <;> omega
theorem z_if_lt (CF : CallFix p m c cc nL s args AW own) {x : Int32} {a : Int} (hx : x.toInt = a) {off : Int} {tgt : Nat} (hdg : decode cc pc = .ok (.ifCond .lt off, 3)) (ht : (pc : Int) + off = (tgt : Int)) (k1 : a < 0 → W p l e R s m args below meth c H locs cells slots Q (F0 m tgt ls (rest))) (k2 : 0 ≤ a → W p l e R s m args below meth c H locs cells slots Q (F0 m (pc + 3) ls (rest))) : W p l e R s m args below meth c H locs cells slots Q (F0 m pc ls (.int x :: rest)) := by
  have h0 : (0 : Int32).toInt = 0 := by decide
  refine lv_if_lt CF.1 CF.2.1 hdg ht (fun h => k1 ?_) (fun h => k2 ?_) <;> simp only [Int32.lt_iff_toInt_lt, Int32.le_iff_toInt_le, ← Int32.toInt_inj, ge_iff_le, gt_iff_lt, ne_eq, h0] at h <;> omega
theorem z_lcmp_lt (CF : CallFix p m c cc nL s args AW own) {x y : Int64} {a b : Int} (hx : x.toInt = a) (hy : y.toInt = b) {off : Int} {tgt : Nat} (hd1 : decode cc pc = .ok (.lcmp, 1)) (hdg : decode cc (pc + 1) = .ok (.ifCond .lt off, 3)) (ht : ((pc + 1 : Nat) : Int) + off = (tgt : Int)) (k1 : a < b → W p l e R s m args below meth c H locs cells slots Q (F0 m tgt ls (rest))) (k2 : b ≤ a → W p l e R s m args below meth c H locs cells slots Q (F0 m (pc + 4) ls (rest))) : W p l e R s m args below meth c H locs cells slots Q (F0 m pc ls (.long y :: .long x :: rest)) := by
  refine W.lcmp CF.1 CF.2.1 hd1 ?_
  have h0 : (lg_cmp x y).toInt = if b < a then 1 else if a = b then 0 else -1 := by
    subst hx; subst hy
    simp only [lg_cmp, gt_iff_lt, Int64.lt_iff_toInt_lt, ← Int64.toInt_inj]
    repeat' split
    all_goals first | decide | rfl
  refine z_if_lt CF h0 hdg ht (fun h => k1 ?_) (fun h => k2 ?_) <;> (repeat' split at h) <;> omega
theorem z_icmp_ge (CF : CallFix p m c cc nL s args AW own) {x y : Int32} {a b : Int} (hx : x.toInt = a) (hy : y.toInt = b) {off : Int} {tgt : Nat} (hdg : decode cc pc = .ok (.if_icmp .ge off, 3)) (ht : (pc : Int) + off = (tgt : Int)) (k1 : b ≤ a → W p l e R s m args below meth c H locs cells slots Q (F0 m tgt ls (rest))) (k2 : a < b → W p l e R s m args below meth c H locs cells slots Q (F0 m (pc + 3) ls (rest))) : W p l e R s m args below meth c H locs cells slots Q (F0 m pc ls (.int y :: .int x :: rest)) := by
  refine lv_icmp_ge CF.1 CF.2.1 hdg ht (fun h => k1 ?_) (fun h => k2 ?_) <;> simp only [Int32.lt_iff_toInt_lt, Int32.le_iff_toInt_le, ← Int32.toInt_inj, ge_iff_le, gt_iff_lt, ne_eq] at h <;> omega
theorem z_if_ge (CF : CallFix p m c cc nL s args AW own) {x : Int32} {a : Int} (hx : x.toInt = a) {off : Int} {tgt : Nat} (hdg : decode cc pc = .ok (.ifCond .ge off, 3)) (ht : (pc : Int) + off = (tgt : Int)) (k1 : 0 ≤ a → W p l e R s m args below meth c H locs cells slots Q (F0 m tgt ls (rest))) (k2 : a < 0 → W p l e R s m args below meth c H locs cells slots Q (F0 m (pc + 3) ls (rest))) : W p l e R s m args below meth c H locs cells slots Q (F0 m pc ls (.int x :: rest)) := by
  have h0 : (0 : Int32).toInt = 0 := by decide
  refine lv_if_ge CF.1 CF.2.1 hdg ht (fun h => k1 ?_) (fun h => k2 ?_) <;> simp only [Int32.lt_iff_toInt_lt, Int32.le_iff_toInt_le, ← Int32.toInt_inj, ge_iff_le, gt_iff_lt, ne_eq, h0] at h <;> omega
theorem z_lcmp_ge (CF : CallFix p m c cc nL s args AW own) {x y : Int64} {a b : Int} (hx : x.toInt = a) (hy : y.toInt = b) {off : Int} {tgt : Nat} (hd1 : decode cc pc = .ok (.lcmp, 1)) (hdg : decode cc (pc + 1) = .ok (.ifCond .ge off, 3)) (ht : ((pc + 1 : Nat) : Int) + off = (tgt : Int)) (k1 : b ≤ a → W p l e R s m args below meth c H locs cells slots Q (F0 m tgt ls (rest))) (k2 : a < b → W p l e R s m args below meth c H locs cells slots Q (F0 m (pc + 4) ls (rest))) : W p l e R s m args below meth c H locs cells slots Q (F0 m pc ls (.long y :: .long x :: rest)) := by
  refine W.lcmp CF.1 CF.2.1 hd1 ?_
  have h0 : (lg_cmp x y).toInt = if b < a then 1 else if a = b then 0 else -1 := by
    subst hx; subst hy
    simp only [lg_cmp, gt_iff_lt, Int64.lt_iff_toInt_lt, ← Int64.toInt_inj]
    repeat' split
    all_goals first | decide | rfl
  refine z_if_ge CF h0 hdg ht (fun h => k1 ?_) (fun h => k2 ?_) <;> (repeat' split at h) <;> omega
theorem z_icmp_gt (CF : CallFix p m c cc nL s args AW own) {x y : Int32} {a b : Int} (hx : x.toInt = a) (hy : y.toInt = b) {off : Int} {tgt : Nat} (hdg : decode cc pc = .ok (.if_icmp .gt off, 3)) (ht : (pc : Int) + off = (tgt : Int)) (k1 : b < a → W p l e R s m args below meth c H locs cells slots Q (F0 m tgt ls (rest))) (k2 : a ≤ b → W p l e R s m args below meth c H locs cells slots Q (F0 m (pc + 3) ls (rest))) : W p l e R s m args below meth c H locs cells slots Q (F0 m pc ls (.int y :: .int x :: rest)) := by
  refine lv_icmp_gt CF.1 CF.2.1 hdg ht (fun h => k1 ?_) (fun h => k2 ?_) <;> simp only [Int32.lt_iff_toInt_lt, Int32.le_iff_toInt_le, ← Int32.toInt_inj, ge_iff_le, gt_iff_lt, ne_eq] at h <;> omega
theorem z_if_gt (CF : CallFix p m c cc nL s args AW own) {x : Int32} {a : Int} (hx : x.toInt = a) {off : Int} {tgt : Nat} (hdg : decode cc pc = .ok (.ifCond .gt off, 3)) (ht : (pc : Int) + off = (tgt : Int)) (k1 : 0 < a → W p l e R s m args below meth c H locs cells slots Q (F0 m tgt ls (rest))) (k2 : a ≤ 0 → W p l e R s m args below meth c H locs cells slots Q (F0 m (pc + 3) ls (rest))) : W p l e R s m args below meth c H locs cells slots Q (F0 m pc ls (.int x :: rest)) := by
  have h0 : (0 : Int32).toInt = 0 := by decide
  refine lv_if_gt CF.1 CF.2.1 hdg ht (fun h => k1 ?_) (fun h => k2 ?_) <;> simp only [Int32.lt_iff_toInt_lt, Int32.le_iff_toInt_le, ← Int32.toInt_inj, ge_iff_le, gt_iff_lt, ne_eq, h0] at h <;> omega
theorem z_lcmp_gt (CF : CallFix p m c cc nL s args AW own) {x y : Int64} {a b : Int} (hx : x.toInt = a) (hy : y.toInt = b) {off : Int} {tgt : Nat} (hd1 : decode cc pc = .ok (.lcmp, 1)) (hdg : decode cc (pc + 1) = .ok (.ifCond .gt off, 3)) (ht : ((pc + 1 : Nat) : Int) + off = (tgt : Int)) (k1 : b < a → W p l e R s m args below meth c H locs cells slots Q (F0 m tgt ls (rest))) (k2 : a ≤ b → W p l e R s m args below meth c H locs cells slots Q (F0 m (pc + 4) ls (rest))) : W p l e R s m args below meth c H locs cells slots Q (F0 m pc ls (.long y :: .long x :: rest)) := by
  refine W.lcmp CF.1 CF.2.1 hd1 ?_
  have h0 : (lg_cmp x y).toInt = if b < a then 1 else if a = b then 0 else -1 := by
    subst hx; subst hy
    simp only [lg_cmp, gt_iff_lt, Int64.lt_iff_toInt_lt, ← Int64.toInt_inj]
    repeat' split
    all_goals first | decide | rfl
  refine z_if_gt CF h0 hdg ht (fun h => k1 ?_) (fun h => k2 ?_) <;> (repeat' split at h) <;> omega
theorem z_icmp_le (CF : CallFix p m c cc nL s args AW own) {x y : Int32} {a b : Int} (hx : x.toInt = a) (hy : y.toInt = b) {off : Int} {tgt : Nat} (hdg : decode cc pc = .ok (.if_icmp .le off, 3)) (ht : (pc : Int) + off = (tgt : Int)) (k1 : a ≤ b → W p l e R s m args below meth c H locs cells slots Q (F0 m tgt ls (rest))) (k2 : b < a → W p l e R s m args below meth c H locs cells slots Q (F0 m (pc + 3) ls (rest))) : W p l e R s m args below meth c H locs cells slots Q (F0 m pc ls (.int y :: .int x :: rest)) := by
  refine lv_icmp_le CF.1 CF.2.1 hdg ht (fun h => k1 ?_) (fun h => k2 ?_) <;> simp only [Int32.lt_iff_toInt_lt, Int32.le_iff_toInt_le, ← Int32.toInt_inj, ge_iff_le, gt_iff_lt, ne_eq] at h <;> omega
theorem z_if_le (CF : CallFix p m c cc nL s args AW own) {x : Int32} {a : Int} (hx : x.toInt = a) {off : Int} {tgt : Nat} (hdg : decode cc pc = .ok (.ifCond .le off, 3)) (ht : (pc : Int) + off = (tgt : Int)) (k1 : a ≤ 0 → W p l e R s m args below meth c H locs cells slots Q (F0 m tgt ls (rest))) (k2 : 0 < a → W p l e R s m args below meth c H locs cells slots Q (F0 m (pc + 3) ls (rest))) : W p l e R s m args below meth c H locs cells slots Q (F0 m pc ls (.int x :: rest)) := by
  have h0 : (0 : Int32).toInt = 0 := by decide
  refine lv_if_le CF.1 CF.2.1 hdg ht (fun h => k1 ?_) (fun h => k2 ?_) <;> simp only [Int32.lt_iff_toInt_lt, Int32.le_iff_toInt_le, ← Int32.toInt_inj, ge_iff_le, gt_iff_lt, ne_eq, h0] at h <;> omega
theorem z_lcmp_le (CF : CallFix p m c cc nL s args AW own) {x y : Int64} {a b : Int} (hx : x.toInt = a) (hy : y.toInt = b) {off : Int} {tgt : Nat} (hd1 : decode cc pc = .ok (.lcmp, 1)) (hdg : decode cc (pc + 1) = .ok (.ifCond .le off, 3)) (ht : ((pc + 1 : Nat) : Int) + off = (tgt : Int)) (k1 : a ≤ b → W p l e R s m args below meth c H locs cells slots Q (F0 m tgt ls (rest))) (k2 : b < a → W p l e R s m args below meth c H locs cells slots Q (F0 m (pc + 4) ls (rest))) : W p l e R s m args below meth c H locs cells slots Q (F0 m pc ls (.long y :: .long x :: rest)) := by
  refine W.lcmp CF.1 CF.2.1 hd1 ?_
  have h0 : (lg_cmp x y).toInt = if b < a then 1 else if a = b then 0 else -1 := by
    subst hx; subst hy
    simp only [lg_cmp, gt_iff_lt, Int64.lt_iff_toInt_lt, ← Int64.toInt_inj]
    repeat' split
    all_goals first | decide | rfl
  refine z_if_le CF h0 hdg ht (fun h => k1 ?_) (fun h => k2 ?_) <;> (repeat' split at h) <;> omega
theorem ro_i {a : Array Value} {post : Int32 → Prop} (hr : va_Run p l e R s m args below meth c H locs cells slots 0 0 (F0 m pc ls st) rest (rqi post a) (fun _ => False)) (kk : ∀ r : Int32, post r → W p l e R s m args below meth c H locs cells slots Q (F0 m (pc + 3) ls (.int r :: rest))) : W p l e R s m args below meth c H locs cells slots Q (F0 m pc ls (st)) := by
  intro T hT X
  obtain ⟨v, st₀, t, T', L, h0, X', hL, e1, e2, ⟨r, hv, hp, hh⟩, stp⟩ := hr T hT X
  cases hv
  obtain ⟨t2, a1, b1⟩ := kk r hp T' (by rw [e1, hh, h0]) (Stand.forget X' (fun q h => (hL q h).elim))
  exact ⟨t2, stp t2 a1, b1⟩
theorem ro_l {a : Array Value} {post : Int64 → Prop} (hr : va_Run p l e R s m args below meth c H locs cells slots 0 0 (F0 m pc ls st) rest (rql post a) (fun _ => False)) (kk : ∀ r : Int64, post r → W p l e R s m args below meth c H locs cells slots Q (F0 m (pc + 3) ls (.long r :: rest))) : W p l e R s m args below meth c H locs cells slots Q (F0 m pc ls (st)) := by
  intro T hT X
  obtain ⟨v, st₀, t, T', L, h0, X', hL, e1, e2, ⟨r, hv, hp, hh⟩, stp⟩ := hr T hT X
  cases hv
  obtain ⟨t2, a1, b1⟩ := kk r hp T' (by rw [e1, hh, h0]) (Stand.forget X' (fun q h => (hL q h).elim))
  exact ⟨t2, stp t2 a1, b1⟩
theorem c0_i (CF : CallFix p m c cc nL s args AW own) (hK : KK G cA s) (hP : va_P G vwCl (w0 ad cA σ) H) {ret : Option FieldType} {y : MethodName} {b : ByteArray} {maxL idx k n : Nat} {As : List Value} {post : Int32 → Prop} (hM : Met l y (ws_ y b maxL ret) (rmk k 0 0) (pc0 G cA ad σ (.ref (ad 0) :: As)) (rqi post) 0 0 (fun _ => False)) (hcl : y.cls = RX0) (lk : LkV own idx y b maxL ret n) (hn : As.length = n) (hsz : ls.size = nL) (hR : k + 1 ≤ R.frames ∧ 8 + (maxL + 11) + 40 * k ≤ R.locals) (hC : cells ≤ R.cells ∧ slots ≤ R.slots) (hrm : (rest.map fun v => v.category).sum ≤ 8) (hst : st = As.reverse ++ .ref (ad 0) :: rest) (hdg : decode cc pc = .ok (.invokevirtual idx, 3)) (kk : ∀ r : Int32, post r → W p l e R s m args below meth c H locs cells slots Q (F0 m (pc + 3) ls (.int r :: rest))) : W p l e R s m args below meth c H locs cells slots Q (F0 m pc ls (st)) := by
  refine ro_i (va_runV (As := As) (rest := rest) CF hM (cwV n CF.2.2.2.2 lk.good rfl rfl rfl ⟨rfl, lk.2.2.2.2.2⟩ hR) ⟨pc0_blind, by rw [hcl]; exact va_recv hK hP (ci := 0) (q0 := 0) rfl rfl, fun U hU hW => ⟨rfl, by rw [hU]; exact hP, va_K.moved hW.alike hK⟩⟩ rfl hn hsz hst (lv_room hrm) hdg ⟨hC.1, hC.2⟩) kk
theorem c0_l (CF : CallFix p m c cc nL s args AW own) (hK : KK G cA s) (hP : va_P G vwCl (w0 ad cA σ) H) {ret : Option FieldType} {y : MethodName} {b : ByteArray} {maxL idx k n : Nat} {As : List Value} {post : Int64 → Prop} (hM : Met l y (ws_ y b maxL ret) (rmk k 0 0) (pc0 G cA ad σ (.ref (ad 0) :: As)) (rql post) 0 0 (fun _ => False)) (hcl : y.cls = RX0) (lk : LkV own idx y b maxL ret n) (hn : As.length = n) (hsz : ls.size = nL) (hR : k + 1 ≤ R.frames ∧ 8 + (maxL + 11) + 40 * k ≤ R.locals) (hC : cells ≤ R.cells ∧ slots ≤ R.slots) (hrm : (rest.map fun v => v.category).sum ≤ 8) (hst : st = As.reverse ++ .ref (ad 0) :: rest) (hdg : decode cc pc = .ok (.invokevirtual idx, 3)) (kk : ∀ r : Int64, post r → W p l e R s m args below meth c H locs cells slots Q (F0 m (pc + 3) ls (.long r :: rest))) : W p l e R s m args below meth c H locs cells slots Q (F0 m pc ls (st)) := by
  refine ro_l (va_runV (As := As) (rest := rest) CF hM (cwV n CF.2.2.2.2 lk.good rfl rfl rfl ⟨rfl, lk.2.2.2.2.2⟩ hR) ⟨pc0_blind, by rw [hcl]; exact va_recv hK hP (ci := 0) (q0 := 0) rfl rfl, fun U hU hW => ⟨rfl, by rw [hU]; exact hP, va_K.moved hW.alike hK⟩⟩ rfl hn hsz hst (lv_room hrm) hdg ⟨hC.1, hC.2⟩) kk
theorem c1_i (CF : CallFix p m c cc nL s args AW own) (hK : KK G cA s) (hP : va_P G vwCl (w1 ad cA σ) H) {ret : Option FieldType} {y : MethodName} {b : ByteArray} {maxL idx k n : Nat} {As : List Value} {post : Int32 → Prop} (hM : Met l y (ws_ y b maxL ret) (rmk k 0 0) (pc1 G cA ad σ (.ref (ad 0) :: As)) (rqi post) 0 0 (fun _ => False)) (hcl : y.cls = RX1) (lk : LkV own idx y b maxL ret n) (hn : As.length = n) (hsz : ls.size = nL) (hR : k + 1 ≤ R.frames ∧ 8 + (maxL + 11) + 40 * k ≤ R.locals) (hC : cells ≤ R.cells ∧ slots ≤ R.slots) (hrm : (rest.map fun v => v.category).sum ≤ 8) (hst : st = As.reverse ++ .ref (ad 0) :: rest) (hdg : decode cc pc = .ok (.invokevirtual idx, 3)) (kk : ∀ r : Int32, post r → W p l e R s m args below meth c H locs cells slots Q (F0 m (pc + 3) ls (.int r :: rest))) : W p l e R s m args below meth c H locs cells slots Q (F0 m pc ls (st)) := by
  refine ro_i (va_runV (As := As) (rest := rest) CF hM (cwV n CF.2.2.2.2 lk.good rfl rfl rfl ⟨rfl, lk.2.2.2.2.2⟩ hR) ⟨pc1_blind, by rw [hcl]; exact va_recv hK hP (ci := 1) (q0 := 0) rfl rfl, fun U hU hW => ⟨rfl, by rw [hU]; exact hP, va_K.moved hW.alike hK⟩⟩ rfl hn hsz hst (lv_room hrm) hdg ⟨hC.1, hC.2⟩) kk
theorem c1_l (CF : CallFix p m c cc nL s args AW own) (hK : KK G cA s) (hP : va_P G vwCl (w1 ad cA σ) H) {ret : Option FieldType} {y : MethodName} {b : ByteArray} {maxL idx k n : Nat} {As : List Value} {post : Int64 → Prop} (hM : Met l y (ws_ y b maxL ret) (rmk k 0 0) (pc1 G cA ad σ (.ref (ad 0) :: As)) (rql post) 0 0 (fun _ => False)) (hcl : y.cls = RX1) (lk : LkV own idx y b maxL ret n) (hn : As.length = n) (hsz : ls.size = nL) (hR : k + 1 ≤ R.frames ∧ 8 + (maxL + 11) + 40 * k ≤ R.locals) (hC : cells ≤ R.cells ∧ slots ≤ R.slots) (hrm : (rest.map fun v => v.category).sum ≤ 8) (hst : st = As.reverse ++ .ref (ad 0) :: rest) (hdg : decode cc pc = .ok (.invokevirtual idx, 3)) (kk : ∀ r : Int64, post r → W p l e R s m args below meth c H locs cells slots Q (F0 m (pc + 3) ls (.long r :: rest))) : W p l e R s m args below meth c H locs cells slots Q (F0 m pc ls (st)) := by
  refine ro_l (va_runV (As := As) (rest := rest) CF hM (cwV n CF.2.2.2.2 lk.good rfl rfl rfl ⟨rfl, lk.2.2.2.2.2⟩ hR) ⟨pc1_blind, by rw [hcl]; exact va_recv hK hP (ci := 1) (q0 := 0) rfl rfl, fun U hU hW => ⟨rfl, by rw [hU]; exact hP, va_K.moved hW.alike hK⟩⟩ rfl hn hsz hst (lv_room hrm) hdg ⟨hC.1, hC.2⟩) kk
theorem cS_i (CF : CallFix p m c cc nL s args AW own) {ret : Option FieldType} {y : MethodName} {b : ByteArray} {maxL idx k n : Nat} {As : List Value} {post : Int32 → Prop} (hM : Met l y (ws_ y b maxL ret) (rmk k 0 0) (pcS As) (rqi post) 0 0 (fun _ => False)) (lk : LkS own idx y b maxL ret n) (hn : As.length = n) (hsz : ls.size = nL) (hR : k + 1 ≤ R.frames ∧ 8 + (maxL + 11) + 40 * k ≤ R.locals) (hC : cells ≤ R.cells ∧ slots ≤ R.slots) (hrm : (rest.map fun v => v.category).sum ≤ 8) (hst : st = As.reverse ++ rest) (hdg : decode cc pc = .ok (.invokestatic idx, 3)) (kk : ∀ r : Int32, post r → W p l e R s m args below meth c H locs cells slots Q (F0 m (pc + 3) ls (.int r :: rest))) : W p l e R s m args below meth c H locs cells slots Q (F0 m pc ls (st)) := by
  refine ro_i (va_runS (As := As) (rest := rest) CF hM (va_cwS n CF.2.2.2.2 lk.good rfl rfl rfl lk.2.2.2.2 hR) ⟨pcS_blind, fun U hU hW => ⟨rfl, trivial⟩⟩ rfl hn hsz hst (lv_room hrm) hdg ⟨hC.1, hC.2⟩) kk
theorem cS_l (CF : CallFix p m c cc nL s args AW own) {ret : Option FieldType} {y : MethodName} {b : ByteArray} {maxL idx k n : Nat} {As : List Value} {post : Int64 → Prop} (hM : Met l y (ws_ y b maxL ret) (rmk k 0 0) (pcS As) (rql post) 0 0 (fun _ => False)) (lk : LkS own idx y b maxL ret n) (hn : As.length = n) (hsz : ls.size = nL) (hR : k + 1 ≤ R.frames ∧ 8 + (maxL + 11) + 40 * k ≤ R.locals) (hC : cells ≤ R.cells ∧ slots ≤ R.slots) (hrm : (rest.map fun v => v.category).sum ≤ 8) (hst : st = As.reverse ++ rest) (hdg : decode cc pc = .ok (.invokestatic idx, 3)) (kk : ∀ r : Int64, post r → W p l e R s m args below meth c H locs cells slots Q (F0 m (pc + 3) ls (.long r :: rest))) : W p l e R s m args below meth c H locs cells slots Q (F0 m pc ls (st)) := by
  refine ro_l (va_runS (As := As) (rest := rest) CF hM (va_cwS n CF.2.2.2.2 lk.good rfl rfl rfl lk.2.2.2.2 hR) ⟨pcS_blind, fun U hU hW => ⟨rfl, trivial⟩⟩ rfl hn hsz hst (lv_room hrm) hdg ⟨hC.1, hC.2⟩) kk
theorem d0_i (CF : CallFix p m c cc nL s args AW own) (hK : KK G cA s) (hP : va_P G vwCl (w0 ad cA σ) H) (hj : inj8 ad) (hA : ∀ q, own8 ad q → A q) (hS : va_S A H0 H locs) {ret : Option FieldType} {y : MethodName} {b : ByteArray} {maxL idx k n : Nat} {As : List Value} {post : Int32 → RS → Prop} (hM : Met l y (ws_ y b maxL ret) (rmk k 0 0) (pc0 G cA ad σ (.ref (ad 0) :: As)) (va_Qi post (fun σ' t => va_P G vwCl (w0 ad cA σ') t.heap) (own8 ad)) 0 0 (own8 ad)) (hcl : y.cls = RX0) (lk : LkV own idx y b maxL ret n) (hn : As.length = n) (hsz : ls.size = nL) (hR : k + 1 ≤ R.frames ∧ 8 + (maxL + 11) + 40 * k ≤ R.locals) (hC : cells ≤ R.cells ∧ slots ≤ R.slots) (hrm : (rest.map fun v => v.category).sum ≤ 8) (hst : st = As.reverse ++ .ref (ad 0) :: rest) (hdg : decode cc pc = .ok (.invokevirtual idx, 3)) (kk : ∀ (r : Int32) (σ' : RS) (H1 : Heap) (locs1 : List Loc), post r σ' → va_P G vwCl (w0 ad cA σ') H1 → va_D A (w0 ad cA σ') → va_S A H0 H1 locs1 → H.size ≤ H1.size → (∀ q : Nat, q < H.size → ¬ own8 ad q → H1[q]? = H[q]?) → W p l e R s m args below meth c H1 locs1 cells slots Q (F0 m (pc + 3) ls (.int r :: rest))) : W p l e R s m args below meth c H locs cells slots Q (F0 m pc ls (st)) := by
  refine va_calli (va_runV (As := As) (rest := rest) CF hM (cwV n CF.2.2.2.2 lk.good rfl rfl rfl ⟨rfl, lk.2.2.2.2.2⟩ hR) ⟨pc0_blind, by rw [hcl]; exact va_recv hK hP (ci := 0) (q0 := 0) rfl rfl, fun U hU hW => ⟨rfl, by rw [hU]; exact hP, va_K.moved hW.alike hK⟩⟩ rfl hn hsz hst (lv_room hrm) hdg ⟨hC.1, hC.2⟩) hS (fun q _ h => hA q h) hA (fun r σ' t H1 locs1 ht hvm hp hB hz hk hS1 => ?_)
  exact kk r σ' H1 locs1 hp (by rw [← ht]; exact hB) (w0_D hj hA) hS1 hz hk
theorem d0_v (CF : CallFix p m c cc nL s args AW own) (hK : KK G cA s) (hP : va_P G vwCl (w0 ad cA σ) H) (hj : inj8 ad) (hA : ∀ q, own8 ad q → A q) (hS : va_S A H0 H locs) {ret : Option FieldType} {y : MethodName} {b : ByteArray} {maxL idx k n : Nat} {As : List Value} {post : RS → Prop} (hM : Met l y (ws_ y b maxL ret) (rmk k 0 0) (pc0 G cA ad σ (.ref (ad 0) :: As)) (va_Qv post (fun σ' t => va_P G vwCl (w0 ad cA σ') t.heap) (own8 ad)) 0 0 (own8 ad)) (hcl : y.cls = RX0) (lk : LkV own idx y b maxL ret n) (hn : As.length = n) (hsz : ls.size = nL) (hR : k + 1 ≤ R.frames ∧ 8 + (maxL + 11) + 40 * k ≤ R.locals) (hC : cells ≤ R.cells ∧ slots ≤ R.slots) (hrm : (rest.map fun v => v.category).sum ≤ 8) (hst : st = As.reverse ++ .ref (ad 0) :: rest) (hdg : decode cc pc = .ok (.invokevirtual idx, 3)) (kk : ∀ (σ' : RS) (H1 : Heap) (locs1 : List Loc), post σ' → va_P G vwCl (w0 ad cA σ') H1 → va_D A (w0 ad cA σ') → va_S A H0 H1 locs1 → H.size ≤ H1.size → (∀ q : Nat, q < H.size → ¬ own8 ad q → H1[q]? = H[q]?) → W p l e R s m args below meth c H1 locs1 cells slots Q (F0 m (pc + 3) ls (rest))) : W p l e R s m args below meth c H locs cells slots Q (F0 m pc ls (st)) := by
  refine va_callv (va_runV (As := As) (rest := rest) CF hM (cwV n CF.2.2.2.2 lk.good rfl rfl rfl ⟨rfl, lk.2.2.2.2.2⟩ hR) ⟨pc0_blind, by rw [hcl]; exact va_recv hK hP (ci := 0) (q0 := 0) rfl rfl, fun U hU hW => ⟨rfl, by rw [hU]; exact hP, va_K.moved hW.alike hK⟩⟩ rfl hn hsz hst (lv_room hrm) hdg ⟨hC.1, hC.2⟩) hS (fun q _ h => hA q h) hA (fun σ' t H1 locs1 ht hvm hp hB hz hk hS1 => ?_)
  exact kk σ' H1 locs1 hp (by rw [← ht]; exact hB) (w0_D hj hA) hS1 hz hk
theorem d1_i (CF : CallFix p m c cc nL s args AW own) (hK : KK G cA s) (hP : va_P G vwCl (w1 ad cA σ) H) (hj : inj8 ad) (hA : ∀ q, own8 ad q → A q) (hS : va_S A H0 H locs) {ret : Option FieldType} {y : MethodName} {b : ByteArray} {maxL idx k n : Nat} {As : List Value} {post : Int32 → RS → Prop} (hM : Met l y (ws_ y b maxL ret) (rmk k 0 0) (pc1 G cA ad σ (.ref (ad 0) :: As)) (va_Qi post (fun σ' t => va_P G vwCl (w1 ad cA σ') t.heap) (own8 ad)) 0 0 (own8 ad)) (hcl : y.cls = RX1) (lk : LkV own idx y b maxL ret n) (hn : As.length = n) (hsz : ls.size = nL) (hR : k + 1 ≤ R.frames ∧ 8 + (maxL + 11) + 40 * k ≤ R.locals) (hC : cells ≤ R.cells ∧ slots ≤ R.slots) (hrm : (rest.map fun v => v.category).sum ≤ 8) (hst : st = As.reverse ++ .ref (ad 0) :: rest) (hdg : decode cc pc = .ok (.invokevirtual idx, 3)) (kk : ∀ (r : Int32) (σ' : RS) (H1 : Heap) (locs1 : List Loc), post r σ' → va_P G vwCl (w1 ad cA σ') H1 → va_D A (w1 ad cA σ') → va_S A H0 H1 locs1 → H.size ≤ H1.size → (∀ q : Nat, q < H.size → ¬ own8 ad q → H1[q]? = H[q]?) → W p l e R s m args below meth c H1 locs1 cells slots Q (F0 m (pc + 3) ls (.int r :: rest))) : W p l e R s m args below meth c H locs cells slots Q (F0 m pc ls (st)) := by
  refine va_calli (va_runV (As := As) (rest := rest) CF hM (cwV n CF.2.2.2.2 lk.good rfl rfl rfl ⟨rfl, lk.2.2.2.2.2⟩ hR) ⟨pc1_blind, by rw [hcl]; exact va_recv hK hP (ci := 1) (q0 := 0) rfl rfl, fun U hU hW => ⟨rfl, by rw [hU]; exact hP, va_K.moved hW.alike hK⟩⟩ rfl hn hsz hst (lv_room hrm) hdg ⟨hC.1, hC.2⟩) hS (fun q _ h => hA q h) hA (fun r σ' t H1 locs1 ht hvm hp hB hz hk hS1 => ?_)
  exact kk r σ' H1 locs1 hp (by rw [← ht]; exact hB) (w1_D hj hA) hS1 hz hk
theorem d1_v (CF : CallFix p m c cc nL s args AW own) (hK : KK G cA s) (hP : va_P G vwCl (w1 ad cA σ) H) (hj : inj8 ad) (hA : ∀ q, own8 ad q → A q) (hS : va_S A H0 H locs) {ret : Option FieldType} {y : MethodName} {b : ByteArray} {maxL idx k n : Nat} {As : List Value} {post : RS → Prop} (hM : Met l y (ws_ y b maxL ret) (rmk k 0 0) (pc1 G cA ad σ (.ref (ad 0) :: As)) (va_Qv post (fun σ' t => va_P G vwCl (w1 ad cA σ') t.heap) (own8 ad)) 0 0 (own8 ad)) (hcl : y.cls = RX1) (lk : LkV own idx y b maxL ret n) (hn : As.length = n) (hsz : ls.size = nL) (hR : k + 1 ≤ R.frames ∧ 8 + (maxL + 11) + 40 * k ≤ R.locals) (hC : cells ≤ R.cells ∧ slots ≤ R.slots) (hrm : (rest.map fun v => v.category).sum ≤ 8) (hst : st = As.reverse ++ .ref (ad 0) :: rest) (hdg : decode cc pc = .ok (.invokevirtual idx, 3)) (kk : ∀ (σ' : RS) (H1 : Heap) (locs1 : List Loc), post σ' → va_P G vwCl (w1 ad cA σ') H1 → va_D A (w1 ad cA σ') → va_S A H0 H1 locs1 → H.size ≤ H1.size → (∀ q : Nat, q < H.size → ¬ own8 ad q → H1[q]? = H[q]?) → W p l e R s m args below meth c H1 locs1 cells slots Q (F0 m (pc + 3) ls (rest))) : W p l e R s m args below meth c H locs cells slots Q (F0 m pc ls (st)) := by
  refine va_callv (va_runV (As := As) (rest := rest) CF hM (cwV n CF.2.2.2.2 lk.good rfl rfl rfl ⟨rfl, lk.2.2.2.2.2⟩ hR) ⟨pc1_blind, by rw [hcl]; exact va_recv hK hP (ci := 1) (q0 := 0) rfl rfl, fun U hU hW => ⟨rfl, by rw [hU]; exact hP, va_K.moved hW.alike hK⟩⟩ rfl hn hsz hst (lv_room hrm) hdg ⟨hC.1, hC.2⟩) hS (fun q _ h => hA q h) hA (fun σ' t H1 locs1 ht hvm hp hB hz hk hS1 => ?_)
  exact kk σ' H1 locs1 hp (by rw [← ht]; exact hB) (w1_D hj hA) hS1 hz hk
end OW
end
section
/-! the abstract state b: row 0 day, spread, customers, waiting, changes, done; rows 1 to 7 rates, stocks, dust, limits, given, purses, orders -/
abbrev BS : Type := Nat → Nat → Nat
def aln (k : Nat) : Nat := if k = 1 then 25 else if k = 6 then 30 else 5
def Rc (σ : RS) (b : BS) : Prop := σ 0 0 = nI (b 0 0) ∧ σ 0 1 = nI (b 0 1) ∧ σ 0 2 = nI (b 0 2) ∧ σ 0 4 = nI (b 0 4) ∧ ∀ k i, 1 ≤ k → k ≤ 6 → i < aln k → σ k i = nI (b k i)
def Ro (σ : RS) (b : BS) : Prop := σ 0 3 = nI (b 0 3) ∧ σ 0 5 = nI (b 0 5) ∧ ∀ i, i < 5 * b 0 3 → σ 7 i = nI (b 7 i)
theorem Rc.a1 {σ : RS} {b : BS} (h : Rc σ b) {i : Nat} (hi : i < 25) : σ 1 i = nI (b 1 i) := h.2.2.2.2 1 i (by omega) (by omega) hi
theorem Rc.a2 {σ : RS} {b : BS} (h : Rc σ b) {i : Nat} (hi : i < 5) : σ 2 i = nI (b 2 i) := h.2.2.2.2 2 i (by omega) (by omega) hi
theorem Rc.a3 {σ : RS} {b : BS} (h : Rc σ b) {i : Nat} (hi : i < 5) : σ 3 i = nI (b 3 i) := h.2.2.2.2 3 i (by omega) (by omega) hi
theorem Rc.a4 {σ : RS} {b : BS} (h : Rc σ b) {i : Nat} (hi : i < 5) : σ 4 i = nI (b 4 i) := h.2.2.2.2 4 i (by omega) (by omega) hi
theorem Rc.a5 {σ : RS} {b : BS} (h : Rc σ b) {i : Nat} (hi : i < 5) : σ 5 i = nI (b 5 i) := h.2.2.2.2 5 i (by omega) (by omega) hi
theorem Rc.a6 {σ : RS} {b : BS} (h : Rc σ b) {i : Nat} (hi : i < 30) : σ 6 i = nI (b 6 i) := h.2.2.2.2 6 i (by omega) (by omega) hi
def InvC (b : BS) : Prop := b 0 1 ≤ 50 ∧ b 0 2 ≤ 6 ∧ (∀ i, i < 25 → b 1 i ≤ 9999) ∧ (∀ i, i < 5 → b 1 (i * 5 + i) = 0) ∧ (∀ i, i < 5 → b 2 i ≤ 999999 ∧ b 3 i ≤ 9999 ∧ b 4 i ≤ 99999 ∧ b 5 i ≤ 99999) ∧ ∀ i, i < 30 → b 6 i ≤ 999999
def InvO (b : BS) : Prop := b 0 3 ≤ 10 ∧ ∀ p, p < b 0 3 → b 7 (p * 5) < b 0 2 ∧ b 7 (p * 5 + 1) < 5 ∧ b 7 (p * 5 + 2) < 5 ∧ b 7 (p * 5 + 1) ≠ b 7 (p * 5 + 2) ∧ 1 ≤ b 7 (p * 5 + 3) ∧ b 7 (p * 5 + 3) ≤ 99999 ∧ 1 ≤ b 7 (p * 5 + 4) ∧ b 7 (p * 5 + 4) ≤ 99999
def upN (b : BS) (k i v : Nat) : BS := fun a j => if a = k ∧ j = i then v else b a j
/-- a change's tenthousandths, and the whole ones -/
def pr (b : BS) (f t a : Nat) : Nat := a * b 1 (f * 5 + t) * (100 - b 0 1)
def gv (b : BS) (f t a : Nat) : Nat := pr b f t a / 10000
theorem nI_ex {x : Int32} {n : Nat} (h0 : 0 ≤ x.toInt) (h1 : x.toInt < (n : Int)) : ∃ j : Nat, j < n ∧ x = nI j := by
  have hn : ¬ x < 0 := by rw [Int32.lt_iff_toInt_lt, show (0 : Int32).toInt = 0 by decide]; omega
  obtain ⟨j, hj, rfl⟩ := nI_of hn
  rw [nI_toInt hj] at h1
  exact ⟨j, by omega, rfl⟩
theorem mnL {a b : Nat} (ha : a < 9223372036854775808) (hb : b < 9223372036854775808) : (if lN b < lN a then lN b else lN a) = lN (min a b) := by
  by_cases h : b < a
  · rw [if_pos ((pk_lLT hb ha).mpr h), Nat.min_eq_right (by omega)]
  · rw [if_neg (fun z => h ((pk_lLT hb ha).mp z)), Nat.min_eq_left (by omega)]
theorem mxL {a b : Nat} (ha : a < 9223372036854775808) (hb : b < 9223372036854775808) : (if lN b < lN a then lN a else lN b) = lN (max a b) := by
  by_cases h : b < a
  · rw [if_pos ((pk_lLT hb ha).mpr h), Nat.max_eq_left (by omega)]
  · rw [if_neg (fun z => h ((pk_lLT hb ha).mp z)), Nat.max_eq_right (by omega)]
theorem mnI {a b : Nat} (ha : a < 2147483648) (hb : b < 2147483648) : (if nI b < nI a then nI b else nI a) = nI (min a b) := by
  by_cases h : b < a
  · rw [if_pos ((nI_ltI hb ha).mpr h), Nat.min_eq_right (by omega)]
  · rw [if_neg (fun z => h ((nI_ltI hb ha).mp z)), Nat.min_eq_left (by omega)]
theorem lne {n : Nat} (h0 : 0 < n) (h : n < 9223372036854775808) : ¬ lN n = 0 := by
  intro z
  have h1 := lNz h
  rw [z, show (0 : Int64).toInt = 0 by decide] at h1
  omega
theorem ine {n : Nat} (h0 : 0 < n) (h : n < 2147483648) : ¬ nI n = 0 := by
  intro z
  have h1 := nIz h
  rw [z, show (0 : Int32).toInt = 0 by decide] at h1
  omega
theorem andI (a b : Nat) : nI a &&& nI b = nI (a &&& b) := by
  apply Int32.toBitVec_inj.1
  show BitVec.ofNat 32 a &&& BitVec.ofNat 32 b = BitVec.ofNat 32 (a &&& b)
  apply BitVec.eq_of_getLsbD_eq
  intro i hi
  simp [hi]
theorem orI (a b : Nat) : nI a ||| nI b = nI (a ||| b) := by
  apply Int32.toBitVec_inj.1
  show BitVec.ofNat 32 a ||| BitVec.ofNat 32 b = BitVec.ofNat 32 (a ||| b)
  apply BitVec.eq_of_getLsbD_eq
  intro i hi
  simp [hi]
theorem up_s {σ : RS} {k i : Nat} {x : Int32} : up σ k i x k i = x := by simp [up, upd]
theorem up_k {σ : RS} {k i a j : Nat} {x : Int32} (h : a ≠ k) : up σ k i x a j = σ a j := by simp [up, h]
theorem up_i {σ : RS} {k i j : Nat} {x : Int32} (h : j ≠ i) : up σ k i x k j = σ k j := by simp [up, upd, h]
theorem upN_s {b : BS} {k i v : Nat} : upN b k i v k i = v := by simp [upN]
theorem upN_k {b : BS} {k i v a j : Nat} (h : a ≠ k) : upN b k i v a j = b a j := by simp [upN, h]
theorem upN_i {b : BS} {k i v j : Nat} (h : j ≠ i) : upN b k i v k j = b k j := by simp [upN, h]
theorem up_n {σ : RS} {b : BS} {k i v a j : Nat} (h : σ a j = nI (b a j)) : up σ k i (nI v) a j = nI (upN b k i v a j) := by
  by_cases ha : a = k
  · subst ha
    by_cases hj : j = i
    · subst hj; rw [up_s, upN_s]
    · rw [up_i hj, upN_i hj, h]
  · rw [up_k ha, upN_k ha, h]
theorem Rc_up {σ : RS} {b : BS} (h : Rc σ b) (k i v : Nat) : Rc (up σ k i (nI v)) (upN b k i v) := by
  obtain ⟨h1, h2, h3, h4, h5⟩ := h
  exact ⟨up_n h1, up_n h2, up_n h3, up_n h4, fun a j ha hb hj => up_n (h5 a j ha hb hj)⟩
theorem Rc_to {σ : RS} {b b' : BS} (h : Rc σ b) (h0 : b' 0 0 = b 0 0) (h1 : b' 0 1 = b 0 1) (h2 : b' 0 2 = b 0 2) (h4 : b' 0 4 = b 0 4) (ha : ∀ k i, 1 ≤ k → k ≤ 6 → i < aln k → b' k i = b k i) : Rc σ b' := by
  obtain ⟨q1, q2, q3, q4, q5⟩ := h
  exact ⟨by rw [h0]; exact q1, by rw [h1]; exact q2, by rw [h2]; exact q3, by rw [h4]; exact q4, fun k i a c d => by rw [ha k i a c d]; exact q5 k i a c d⟩
theorem Ro_up {σ : RS} {b : BS} (h : Ro σ b) {k : Nat} (hk : k ≠ 0 ∧ k ≠ 7) (i : Nat) (x : Int32) (v : Nat) : Ro (up σ k i x) (upN b k i v) := by
  obtain ⟨h1, h2, h3⟩ := h
  refine ⟨by rw [up_k (Ne.symm hk.1), upN_k (Ne.symm hk.1)]; exact h1, by rw [up_k (Ne.symm hk.1), upN_k (Ne.symm hk.1)]; exact h2, fun j hj => ?_⟩
  rw [upN_k (Ne.symm hk.1)] at hj
  rw [up_k (Ne.symm hk.2), upN_k (Ne.symm hk.2)]
  exact h3 j hj
/-- orders, their number and the number of done ones stay -/
def Sm (σ σ' : RS) : Prop := σ' 7 = σ 7 ∧ σ' 0 3 = σ 0 3 ∧ σ' 0 5 = σ 0 5
theorem Sm_rf {σ : RS} : Sm σ σ := ⟨rfl, rfl, rfl⟩
theorem Sm_up {σ σ' : RS} (h : Sm σ σ') {k i : Nat} {x : Int32} (hk : k ≠ 7 ∧ (k ≠ 0 ∨ (i ≠ 3 ∧ i ≠ 5))) : Sm σ (up σ' k i x) := by
  obtain ⟨h1, h2, h3⟩ := h
  refine ⟨?_, ?_, ?_⟩
  · funext j; rw [up_k (Ne.symm hk.1), h1]
  · rcases hk.2 with h | h
    · rw [up_k (Ne.symm h), h2]
    · by_cases h0 : k = 0
      · subst h0; rw [up_i (Ne.symm h.1), h2]
      · rw [up_k (Ne.symm h0), h2]
  · rcases hk.2 with h | h
    · rw [up_k (Ne.symm h), h3]
    · by_cases h0 : k = 0
      · subst h0; rw [up_i (Ne.symm h.2), h3]
      · rw [up_k (Ne.symm h0), h3]
theorem Sm_tr {σ σ1 σ2 : RS} (h : Sm σ σ1) (h2 : Sm σ1 σ2) : Sm σ σ2 := ⟨h2.1.trans h.1, h2.2.1.trans h.2.1, h2.2.2.trans h.2.2⟩
theorem pr_le {b : BS} (hI : InvC b) {f t a A : Nat} (hf : f < 5) (ht : t < 5) (ha : a ≤ A) : pr b f t a ≤ A * 999900 := by
  have h1 := hI.2.2.1 (f * 5 + t) (by omega)
  have h2 : 100 - b 0 1 ≤ 100 := by omega
  have h3 : a * b 1 (f * 5 + t) ≤ A * 9999 := Nat.mul_le_mul ha h1
  calc pr b f t a = a * b 1 (f * 5 + t) * (100 - b 0 1) := rfl
    _ ≤ A * 9999 * 100 := Nat.mul_le_mul h3 h2
    _ = A * 999900 := by omega
/-- more dust: what is whole of it goes into stock -/
def kd (b : BS) (t x : Nat) : BS := upN (upN b 2 t (min (b 2 t + (b 3 t + x) / 10000) 999999)) 3 t ((b 3 t + x) % 10000)
/-- a change is done -/
def dc0 (b : BS) (u f t a : Nat) : BS := upN (upN (upN (upN (upN (upN b 6 (u * 5 + f) (b 6 (u * 5 + f) - a)) 6 (u * 5 + t) (min (b 6 (u * 5 + t) + gv b f t a) 999999)) 2 f (min (b 2 f + a) 999999)) 2 t (b 2 t - gv b f t a)) 5 t (b 5 t + gv b f t a)) 0 4 (b 0 4 + 1)
def dc (b : BS) (u f t a : Nat) : BS := kd (dc0 b u f t a) t (pr b f t a % 10000)
/-- it can be done, and gives at least k -/
abbrev okN (b : BS) (u f t a k : Nat) : Prop := f ≠ t ∧ 1 ≤ a ∧ a ≤ b 6 (u * 5 + f) ∧ 1 ≤ gv b f t a ∧ gv b f t a ≤ b 2 t ∧ b 5 t + gv b f t a ≤ b 4 t ∧ k ≤ gv b f t a
theorem kd_rc {σ : RS} {b : BS} {t x s d : Nat} (h : Rc σ (upN (upN b 2 t s) 3 t d)) (hs : s = min (b 2 t + (b 3 t + x) / 10000) 999999) (hd : d = (b 3 t + x) % 10000) : Rc σ (kd b t x) := by rw [hs, hd] at h; exact h
end
section
/-! loops: a counter i from i0 to N; L: what the locals hold at the head; I: what holds of the raw state -/
section LP
variable {p : Program} {l : Launch} {e : Env} {R : Room} {s : State} {m : MethodId} {args : Array Value} {below : List Frame} {meth : Method} {c : Code} {H : Heap} {locs : List Loc} {cells slots : Nat} {Q : State → Prop}
variable {pc nL : Nat} {ls0 : Array Slot} {G : va_G} {cA : ClassId} {ad : Nat → Nat} {A : Nat → Prop} {H0 : Heap}
theorem loop_ro (L : Nat → List (Nat × Value)) (N i0 : Nat) (h0 : lv_has ls0 nL (L i0)) (hi0 : i0 ≤ N)
    (hs : ∀ i, i0 ≤ i → i ≤ N → (∀ ls, i < N → lv_has ls nL (L (i + 1)) → W p l e R s m args below meth c H locs cells slots Q (F0 m pc ls [])) → ∀ ls, lv_has ls nL (L i) → W p l e R s m args below meth c H locs cells slots Q (F0 m pc ls [])) :
    W p l e R s m args below meth c H locs cells slots Q (F0 m pc ls0 []) := by
  have K : ∀ n i, i0 ≤ i → i ≤ N → N ≤ i + n → ∀ ls, lv_has ls nL (L i) → W p l e R s m args below meth c H locs cells slots Q (F0 m pc ls []) := by
    intro n
    induction n with
    | zero => exact fun i ha h1 h2 ls hl => hs i ha h1 (fun ls hlt _ => absurd hlt (by omega)) ls hl
    | succ n ih => exact fun i ha h1 h2 ls hl => hs i ha h1 (fun ls hlt hl => ih (i + 1) (by omega) (by omega) (by omega) ls hl) ls hl
  exact K (N - i0) i0 (Nat.le_refl _) hi0 (by omega) ls0 h0
/-- .. with a ghost x that changes at each turn (x is known at every i) -/
theorem loop_gh {α : Type} (L : Nat → α → List (Nat × Value)) (I : Nat → α → Prop) (N i0 : Nat) (x0 : α) (hI0 : I i0 x0) (h0 : lv_has ls0 nL (L i0 x0)) (hi0 : i0 ≤ N)
    (hs : ∀ i x, i0 ≤ i → i ≤ N → I i x → (∀ x' ls, i < N → I (i + 1) x' → lv_has ls nL (L (i + 1) x') → W p l e R s m args below meth c H locs cells slots Q (F0 m pc ls [])) → ∀ ls, lv_has ls nL (L i x) → W p l e R s m args below meth c H locs cells slots Q (F0 m pc ls [])) :
    W p l e R s m args below meth c H locs cells slots Q (F0 m pc ls0 []) := by
  have K : ∀ n i x, i0 ≤ i → i ≤ N → N ≤ i + n → I i x → ∀ ls, lv_has ls nL (L i x) → W p l e R s m args below meth c H locs cells slots Q (F0 m pc ls []) := by
    intro n
    induction n with
    | zero => exact fun i x ha h1 h2 hx ls hl => hs i x ha h1 hx (fun x' ls hlt _ _ => absurd hlt (by omega)) ls hl
    | succ n ih => exact fun i x ha h1 h2 hx ls hl => hs i x ha h1 hx (fun x' ls hlt hx' hl => ih (i + 1) x' (by omega) (by omega) (by omega) hx' ls hl) ls hl
  exact K (N - i0) i0 x0 (Nat.le_refl _) hi0 (by omega) hI0 ls0 h0
theorem loop_rw0 {α : Type} (L : Nat → α → List (Nat × Value)) (I : Nat → α → RS → Prop) (N i0 : Nat) (x0 : α) {σ0 : RS} (hI0 : I i0 x0 σ0) (hP0 : va_P G vwCl (w0 ad cA σ0) H) (hS0 : va_S A H0 H locs) (h0 : lv_has ls0 nL (L i0 x0)) (hi0 : i0 ≤ N)
    (hs : ∀ i x σ H locs, i0 ≤ i → i ≤ N → I i x σ → va_P G vwCl (w0 ad cA σ) H → va_S A H0 H locs → (∀ x' σ' H' locs' ls, i < N → I (i + 1) x' σ' → va_P G vwCl (w0 ad cA σ') H' → va_S A H0 H' locs' → lv_has ls nL (L (i + 1) x') → W p l e R s m args below meth c H' locs' cells slots Q (F0 m pc ls [])) → ∀ ls, lv_has ls nL (L i x) → W p l e R s m args below meth c H locs cells slots Q (F0 m pc ls [])) :
    W p l e R s m args below meth c H locs cells slots Q (F0 m pc ls0 []) := by
  have K : ∀ n i x σ H locs, i0 ≤ i → i ≤ N → N ≤ i + n → I i x σ → va_P G vwCl (w0 ad cA σ) H → va_S A H0 H locs → ∀ ls, lv_has ls nL (L i x) → W p l e R s m args below meth c H locs cells slots Q (F0 m pc ls []) := by
    intro n
    induction n with
    | zero => exact fun i x σ H locs ha h1 h2 hx hP hS ls hl => hs i x σ H locs ha h1 hx hP hS (fun x' σ' H' locs' ls hlt _ _ _ _ => absurd hlt (by omega)) ls hl
    | succ n ih => exact fun i x σ H locs ha h1 h2 hx hP hS ls hl => hs i x σ H locs ha h1 hx hP hS (fun x' σ' H' locs' ls hlt hx' hP hS hl => ih (i + 1) x' σ' H' locs' (by omega) (by omega) (by omega) hx' hP hS ls hl) ls hl
  exact K (N - i0) i0 x0 σ0 H locs (Nat.le_refl _) hi0 (by omega) hI0 hP0 hS0 ls0 h0
theorem loop_rw1 {α : Type} (L : Nat → α → List (Nat × Value)) (I : Nat → α → RS → Prop) (N i0 : Nat) (x0 : α) {σ0 : RS} (hI0 : I i0 x0 σ0) (hP0 : va_P G vwCl (w1 ad cA σ0) H) (hS0 : va_S A H0 H locs) (h0 : lv_has ls0 nL (L i0 x0)) (hi0 : i0 ≤ N)
    (hs : ∀ i x σ H locs, i0 ≤ i → i ≤ N → I i x σ → va_P G vwCl (w1 ad cA σ) H → va_S A H0 H locs → (∀ x' σ' H' locs' ls, i < N → I (i + 1) x' σ' → va_P G vwCl (w1 ad cA σ') H' → va_S A H0 H' locs' → lv_has ls nL (L (i + 1) x') → W p l e R s m args below meth c H' locs' cells slots Q (F0 m pc ls [])) → ∀ ls, lv_has ls nL (L i x) → W p l e R s m args below meth c H locs cells slots Q (F0 m pc ls [])) :
    W p l e R s m args below meth c H locs cells slots Q (F0 m pc ls0 []) := by
  have K : ∀ n i x σ H locs, i0 ≤ i → i ≤ N → N ≤ i + n → I i x σ → va_P G vwCl (w1 ad cA σ) H → va_S A H0 H locs → ∀ ls, lv_has ls nL (L i x) → W p l e R s m args below meth c H locs cells slots Q (F0 m pc ls []) := by
    intro n
    induction n with
    | zero => exact fun i x σ H locs ha h1 h2 hx hP hS ls hl => hs i x σ H locs ha h1 hx hP hS (fun x' σ' H' locs' ls hlt _ _ _ _ => absurd hlt (by omega)) ls hl
    | succ n ih => exact fun i x σ H locs ha h1 h2 hx hP hS ls hl => hs i x σ H locs ha h1 hx hP hS (fun x' σ' H' locs' ls hlt hx' hP hS hl => ih (i + 1) x' σ' H' locs' (by omega) (by omega) (by omega) hx' hP hS ls hl) ls hl
  exact K (N - i0) i0 x0 σ0 H locs (Nat.le_refl _) hi0 (by omega) hI0 hP0 hS0 ls0 h0
end LP
/-- sums over customers, rates that are not 0 -/
def alls (b : BS) (t : Nat) : Nat → Nat | 0 => 0 | i + 1 => alls b t i + b 6 (i * 5 + t)
def nzr (b : BS) : Nat → Nat | 0 => 0 | i + 1 => nzr b i + (if b 1 i = 0 then 0 else 1)
theorem alls_le {b : BS} (hI : InvC b) {t : Nat} (ht : t < 5) : ∀ i, i ≤ 6 → alls b t i ≤ i * 999999
  | 0, _ => by simp [alls]
  | i + 1, h => by
    have h1 := alls_le hI ht i (by omega)
    have h2 := hI.2.2.2.2.2 (i * 5 + t) (by omega)
    show alls b t i + b 6 (i * 5 + t) ≤ (i + 1) * 999999
    omega
theorem nzr_le {b : BS} : ∀ i, nzr b i ≤ i
  | 0 => by simp [nzr]
  | i + 1 => by
    have h1 := nzr_le (b := b) i
    show nzr b i + (if b 1 i = 0 then 0 else 1) ≤ i + 1
    split <;> omega
theorem nzr_s0 {b : BS} {i : Nat} (h : b 1 i = 0) : nzr b (i + 1) = nzr b i := by show nzr b i + (if b 1 i = 0 then 0 else 1) = _; rw [if_pos h]; rfl
theorem nzr_s1 {b : BS} {i : Nat} (h : ¬ b 1 i = 0) : nzr b (i + 1) = nzr b i + 1 := by show nzr b i + (if b 1 i = 0 then 0 else 1) = _; rw [if_neg h]
def fmo (b : BS) (t w : Nat) : Nat := if w = 0 then b 2 t else if w = 1 then b 3 t else if w = 2 then b 4 t else if w = 3 then b 5 t else alls b t (b 0 2)
def fbo (b : BS) (w : Nat) : Nat := if w = 0 then b 0 0 else if w = 1 then b 0 1 else if w = 2 then b 0 2 else if w = 3 then b 0 3 else if w = 4 then nzr b 25 else if w = 5 then b 0 4 else b 0 5
/-- cells of one order copied to another place -/
def mvI (σ : RS) (q k n : Nat) : RS := fun a j => if a = 7 ∧ k * 5 ≤ j ∧ j < k * 5 + n then σ 7 (q * 5 + (j - k * 5)) else σ a j
theorem mvI_0 {σ : RS} {q k : Nat} : mvI σ q k 0 = σ := by
  funext a j
  unfold mvI
  rw [if_neg (by omega)]
theorem mvI_rd {σ : RS} {q k n : Nat} (hn : n < 5) : mvI σ q k n 7 (q * 5 + n) = σ 7 (q * 5 + n) := by
  unfold mvI
  split
  · next h => congr 1; omega
  · rfl
theorem mvI_up {σ : RS} {q k n : Nat} : up (mvI σ q k n) 7 (k * 5 + n) (σ 7 (q * 5 + n)) = mvI σ q k (n + 1) := by
  funext a j
  by_cases ha : a = 7
  · subst ha
    by_cases hj : j = k * 5 + n
    · subst hj
      rw [up_s]
      unfold mvI
      rw [if_pos ⟨rfl, by omega, by omega⟩]
      congr 1; omega
    · rw [up_i hj]
      unfold mvI
      by_cases h : 7 = 7 ∧ k * 5 ≤ j ∧ j < k * 5 + n
      · rw [if_pos h, if_pos ⟨rfl, h.2.1, by omega⟩]
      · rw [if_neg h, if_neg (by omega)]
  · rw [up_k ha]
    unfold mvI
    rw [if_neg (fun h => ha h.1), if_neg (fun h => ha h.1)]
/-- the order at p can be done, and gives what it asks for -/
abbrev dueN (b : BS) (p : Nat) : Prop := okN b (b 7 (p * 5)) (b 7 (p * 5 + 1)) (b 7 (p * 5 + 2)) (b 7 (p * 5 + 3)) (b 7 (p * 5 + 4))
def dorder (b : BS) (p : Nat) : BS := dc b (b 7 (p * 5)) (b 7 (p * 5 + 1)) (b 7 (p * 5 + 2)) (b 7 (p * 5 + 3))
def takeN (b : BS) (p : Nat) : BS := fun a j => if a = 0 ∧ j = 3 then b 0 3 - 1 else if a = 7 then (if j < p * 5 then b 7 j else b 7 (j + 5)) else b a j
def lkS (x : BS × Nat) : BS × Nat := if dueN x.1 x.2 then (upN (takeN (dorder x.1 x.2) x.2) 0 5 (x.1 0 5 + 1), x.2) else (x.1, x.2 + 1)
def lkN (b : BS) : Nat → BS × Nat | 0 => (b, 0) | n + 1 => lkS (lkN b n)
/-- the booth behind a look at all orders -/
def lka (b : BS) : BS := (lkN b (b 0 3)).1
theorem dc_7 {b : BS} {u f t a : Nat} : dc b u f t a 7 = b 7 := by
  funext j
  simp [dc, kd, dc0, upN]
theorem dc_03 {b : BS} {u f t a : Nat} : dc b u f t a 0 3 = b 0 3 := by simp [dc, kd, dc0, upN]
theorem dc_05 {b : BS} {u f t a : Nat} : dc b u f t a 0 5 = b 0 5 := by simp [dc, kd, dc0, upN]
theorem dc_02 {b : BS} {u f t a : Nat} : dc b u f t a 0 2 = b 0 2 := by simp [dc, kd, dc0, upN]
theorem dc_1 {b : BS} {u f t a : Nat} : dc b u f t a 1 = b 1 := by
  funext j
  simp [dc, kd, dc0, upN]
theorem dc_01 {b : BS} {u f t a : Nat} : dc b u f t a 0 1 = b 0 1 := by simp [dc, kd, dc0, upN]
theorem InvC_dc {b : BS} {u f t a k : Nat} (hI : InvC b) (hu : u < b 0 2) (hf : f < 5) (ht : t < 5) (hk : okN b u f t a k) : InvC (dc b u f t a) := by
  obtain ⟨i1, i2, i3, i4, i5, i6⟩ := hI
  obtain ⟨k1, k2, k3, k4, k5, k6, k7⟩ := hk
  have hd := i5 t ht
  have hdf := i5 f hf
  refine ⟨by rw [dc_01]; exact i1, by rw [dc_02]; exact i2, fun i hi => by rw [dc_1]; exact i3 i hi, fun i hi => by rw [dc_1]; exact i4 i hi, fun i hi => ?_, fun i hi => ?_⟩
  · have h5 := i5 i hi
    refine ⟨?_, ?_, ?_, ?_⟩ <;> simp [dc, kd, dc0, upN] <;> (try split) <;> (try split) <;> omega
  · have h6 := i6 i hi
    have h7 := i6 (u * 5 + f) (by omega)
    have h8 := i6 (u * 5 + t) (by omega)
    simp [dc, kd, dc0, upN]
    (try split) <;> (try split) <;> omega
theorem takeN_k {b : BS} {p a j : Nat} (h : a ≠ 7) (h2 : a ≠ 0 ∨ j ≠ 3) : takeN b p a j = b a j := by
  unfold takeN
  rw [if_neg (by omega), if_neg h]
theorem takeN_w {b : BS} {p : Nat} : takeN b p 0 3 = b 0 3 - 1 := by simp [takeN]
theorem takeN_7 {b : BS} {p j : Nat} : takeN b p 7 j = if j < p * 5 then b 7 j else b 7 (j + 5) := by simp [takeN]
theorem InvC_to {b b' : BS} (hI : InvC b) (h1 : b' 0 1 = b 0 1) (h2 : b' 0 2 = b 0 2) (ha : ∀ k i, 1 ≤ k → k ≤ 6 → b' k i = b k i) : InvC b' := by
  obtain ⟨i1, i2, i3, i4, i5, i6⟩ := hI
  refine ⟨by rw [h1]; exact i1, by rw [h2]; exact i2, fun i hi => by rw [ha 1 i (by omega) (by omega)]; exact i3 i hi, fun i hi => by rw [ha 1 _ (by omega) (by omega)]; exact i4 i hi, fun i hi => ?_, fun i hi => by rw [ha 6 i (by omega) (by omega)]; exact i6 i hi⟩
  rw [ha 2 i (by omega) (by omega), ha 3 i (by omega) (by omega), ha 4 i (by omega) (by omega), ha 5 i (by omega) (by omega)]
  exact i5 i hi
theorem InvO_take {b b' : BS} {p : Nat} (hO : InvO b) (h3 : b' 0 3 = b 0 3 - 1) (h2 : b' 0 2 = b 0 2) (h7 : ∀ j, b' 7 j = if j < p * 5 then b 7 j else b 7 (j + 5)) : InvO b' := by
  obtain ⟨o1, o2⟩ := hO
  refine ⟨by omega, fun q hq => ?_⟩
  rw [h3] at hq
  by_cases h : q < p
  · have := o2 q (by omega)
    rw [h7, h7, h7, h7, h7, h2, if_pos (by omega), if_pos (by omega), if_pos (by omega), if_pos (by omega), if_pos (by omega)]
    exact this
  · have := o2 (q + 1) (by omega)
    rw [h7, h7, h7, h7, h7, h2, if_neg (by omega), if_neg (by omega), if_neg (by omega), if_neg (by omega), if_neg (by omega)]
    rw [show (q + 1) * 5 = q * 5 + 5 by omega] at this
    rw [show q * 5 + 1 + 5 = q * 5 + 5 + 1 by omega, show q * 5 + 2 + 5 = q * 5 + 5 + 2 by omega, show q * 5 + 3 + 5 = q * 5 + 5 + 3 by omega, show q * 5 + 4 + 5 = q * 5 + 5 + 4 by omega]
    exact this
def lkA (b : BS) (p : Nat) : BS := upN (takeN (dorder b p) p) 0 5 (b 0 5 + 1)
theorem lkS_y {b : BS} {p : Nat} (h : dueN b p) : lkS (b, p) = (lkA b p, p) := if_pos h
theorem lkS_n {b : BS} {p : Nat} (h : ¬ dueN b p) : lkS (b, p) = (b, p + 1) := if_neg h
theorem lkA_03 {b : BS} {p : Nat} : lkA b p 0 3 = b 0 3 - 1 := by
  unfold lkA dorder
  rw [upN_i (by omega), takeN_w, dc_03]
theorem lkA_02 {b : BS} {p : Nat} : lkA b p 0 2 = b 0 2 := by
  unfold lkA dorder
  rw [upN_i (by omega), takeN_k (by omega) (by omega), dc_02]
theorem lkA_05 {b : BS} {p : Nat} : lkA b p 0 5 = b 0 5 + 1 := upN_s
theorem lkA_7 {b : BS} {p j : Nat} : lkA b p 7 j = if j < p * 5 then b 7 j else b 7 (j + 5) := by
  unfold lkA dorder
  rw [upN_k (by omega), takeN_7, dc_7]
theorem lkA_k {b : BS} {p k i : Nat} (h : k ≠ 7) (h2 : k ≠ 0 ∨ (i ≠ 3 ∧ i ≠ 5)) : lkA b p k i = dorder b p k i := by
  unfold lkA
  by_cases h0 : k = 0
  · subst h0
    rw [upN_i (by omega), takeN_k (by omega) (by omega)]
  · rw [upN_k h0, takeN_k h (by omega)]
theorem InvC_lkA {b : BS} {p : Nat} (hI : InvC b) (hO : InvO b) (hp : p < b 0 3) (hd : dueN b p) : InvC (lkA b p) := by
  obtain ⟨o1, o2, o3, o4, o5, o6, o7, o8⟩ := hO.2 p hp
  have h := InvC_dc hI o1 o2 o3 hd
  refine InvC_to h ?_ ?_ ?_
  · rw [lkA_k (by omega) (by omega)]; rfl
  · rw [lkA_k (by omega) (by omega)]; rfl
  · intro k i h1 h2
    rw [lkA_k (by omega) (by omega)]; rfl
theorem InvO_lkA {b : BS} {p : Nat} (hO : InvO b) : InvO (lkA b p) := InvO_take hO lkA_03 lkA_02 (fun _ => lkA_7)
theorem lk_inv {b : BS} (hI : InvC b) (hO : InvO b) : ∀ n, n ≤ b 0 3 → InvC (lkN b n).1 ∧ InvO (lkN b n).1 ∧ (lkN b n).2 ≤ n ∧ (lkN b n).1 0 3 + n = b 0 3 + (lkN b n).2 ∧ (lkN b n).1 0 5 + (lkN b n).2 = b 0 5 + n ∧ (lkN b n).1 0 2 = b 0 2
  | 0, _ => ⟨hI, hO, Nat.le_refl _, rfl, rfl, rfl⟩
  | n + 1, h => by
    obtain ⟨j1, j2, j3, j4, j5, j6⟩ := lk_inv hI hO n (by omega)
    show InvC (lkS (lkN b n)).1 ∧ InvO (lkS (lkN b n)).1 ∧ (lkS (lkN b n)).2 ≤ n + 1 ∧ (lkS (lkN b n)).1 0 3 + (n + 1) = b 0 3 + (lkS (lkN b n)).2 ∧ (lkS (lkN b n)).1 0 5 + (lkS (lkN b n)).2 = b 0 5 + (n + 1) ∧ (lkS (lkN b n)).1 0 2 = b 0 2
    generalize lkN b n = x at *
    obtain ⟨c, k⟩ := x
    dsimp only at *
    by_cases hd : dueN c k
    · rw [lkS_y hd]
      refine ⟨InvC_lkA j1 j2 (by omega) hd, InvO_lkA j2, by omega, ?_, ?_, ?_⟩
      · show lkA c k 0 3 + (n + 1) = b 0 3 + k
        rw [lkA_03]; omega
      · show lkA c k 0 5 + k = b 0 5 + (n + 1)
        rw [lkA_05]; omega
      · show lkA c k 0 2 = b 0 2
        rw [lkA_02]; exact j6
    · rw [lkS_n hd]
      exact ⟨j1, j2, by show k + 1 ≤ n + 1; omega, by show c 0 3 + (n + 1) = b 0 3 + (k + 1); omega, by show c 0 5 + (k + 1) = b 0 5 + (n + 1); omega, j6⟩
end
section
set_option maxHeartbeats 4000000 in
set_option maxRecDepth 100000 in
theorem c0_isMoney (l : Launch) (x : Int32) : Met l yX0_isMoney (ws_ yX0_isMoney cX0_isMoney 1 (some .boolean)) (rmk 1 0 0) (pcS [.int (x)]) (rqi (fun r => (r = 1 ∧ 0 ≤ x.toInt ∧ x.toInt < 5) ∨ (r = 0 ∧ (x.toInt < 0 ∨ 5 ≤ x.toInt)))) 0 0 (fun _ => False) := by
  refine Met.ofW (cc := cX0_isMoney) (maxL := 1) (ret := (some .boolean)) (by decide) rfl ?_
  intro p e s m args below meth c s₁ B hml hv
  obtain ⟨rfl, -⟩ := hv
  have CF : CallFix p m c cX0_isMoney 1 s _ AW RX0 := ⟨B.exec, B.bytes, hml, findClass_of_methodNamed B.named, fun w h => atoms_spec (ws := ws_ yX0_isMoney cX0_isMoney 1 (some .boolean)) B.pre w (List.mem_cons_of_mem _ h)⟩
  have hr := B.returns
  have hlocks := B.notSynchronized
  have hl := lv_entry ([.int (x)]) (n := 1) (Nat.le_of_ble_eq_true rfl)
  rw [lg_entry_eq]
  generalize (lg_sl ([.int (x)]) ++ List.replicate (1 - (lg_sl ([.int (x)])).length) Slot.unset).toArray = ls at hl ⊢
  have hl : lv_has ls 1 [(0, .int (x))] := hl
  refine lv_iload_n CF.1 CF.2.1 dX0_isMoney_0 rfl (lv_at hl 0 rfl) ?_
  refine z_if_lt CF (tgt := 13) rfl dX0_isMoney_1 (by decide) (fun h_1 => ?_) (fun h_2 => ?_)
  · refine lv_iconst (v := nI 0) CF.1 CF.2.1 dX0_isMoney_13 (by decide) ?_
    exact W.zret CF.1 CF.2.1 hr rfl (fun t ht hW => ⟨_, rfl, Or.inr ⟨rfl, by omega⟩, ht⟩) (fun q hq => absurd hq List.not_mem_nil) dX0_isMoney_14
  · refine lv_iload_n CF.1 CF.2.1 dX0_isMoney_4 rfl (lv_at hl 0 rfl) ?_
    refine lv_iconst (v := nI 5) CF.1 CF.2.1 dX0_isMoney_5 (by decide) ?_
    refine z_icmp_ge CF (tgt := 13) rfl (nIz (by omega)) dX0_isMoney_6 (by decide) (fun h_3 => ?_) (fun h_4 => ?_)
    · refine lv_iconst (v := nI 0) CF.1 CF.2.1 dX0_isMoney_13 (by decide) ?_
      exact W.zret CF.1 CF.2.1 hr rfl (fun t ht hW => ⟨_, rfl, Or.inr ⟨rfl, by omega⟩, ht⟩) (fun q hq => absurd hq List.not_mem_nil) dX0_isMoney_14
    · refine lv_iconst (v := nI 1) CF.1 CF.2.1 dX0_isMoney_9 (by decide) ?_
      refine lv_goto (tgt := 14) CF.1 CF.2.1 dX0_isMoney_10 (by decide) ?_
      exact W.zret CF.1 CF.2.1 hr rfl (fun t ht hW => ⟨_, rfl, Or.inl ⟨rfl, by omega, by omega⟩, ht⟩) (fun q hq => absurd hq List.not_mem_nil) dX0_isMoney_14
set_option maxHeartbeats 4000000 in
set_option maxRecDepth 100000 in
theorem c0_isNamedAmount (l : Launch) (x : Int32) : Met l yX0_isNamedAmount (ws_ yX0_isNamedAmount cX0_isNamedAmount 1 (some .boolean)) (rmk 1 0 0) (pcS [.int (x)]) (rqi (fun r => (r = 1 ∧ 1 ≤ x.toInt ∧ x.toInt < 100000) ∨ (r = 0 ∧ (x.toInt < 1 ∨ 100000 ≤ x.toInt)))) 0 0 (fun _ => False) := by
  refine Met.ofW (cc := cX0_isNamedAmount) (maxL := 1) (ret := (some .boolean)) (by decide) rfl ?_
  intro p e s m args below meth c s₁ B hml hv
  obtain ⟨rfl, -⟩ := hv
  have CF : CallFix p m c cX0_isNamedAmount 1 s _ AW RX0 := ⟨B.exec, B.bytes, hml, findClass_of_methodNamed B.named, fun w h => atoms_spec (ws := ws_ yX0_isNamedAmount cX0_isNamedAmount 1 (some .boolean)) B.pre w (List.mem_cons_of_mem _ h)⟩
  have hr := B.returns
  have hlocks := B.notSynchronized
  have hl := lv_entry ([.int (x)]) (n := 1) (Nat.le_of_ble_eq_true rfl)
  rw [lg_entry_eq]
  generalize (lg_sl ([.int (x)]) ++ List.replicate (1 - (lg_sl ([.int (x)])).length) Slot.unset).toArray = ls at hl ⊢
  have hl : lv_has ls 1 [(0, .int (x))] := hl
  refine lv_iload_n CF.1 CF.2.1 dX0_isNamedAmount_0 rfl (lv_at hl 0 rfl) ?_
  refine lv_iconst (v := nI 1) CF.1 CF.2.1 dX0_isNamedAmount_1 (by decide) ?_
  refine z_icmp_lt CF (tgt := 15) rfl (nIz (by omega)) dX0_isNamedAmount_2 (by decide) (fun h_1 => ?_) (fun h_2 => ?_)
  · refine lv_iconst (v := nI 0) CF.1 CF.2.1 dX0_isNamedAmount_15 (by decide) ?_
    exact W.zret CF.1 CF.2.1 hr rfl (fun t ht hW => ⟨_, rfl, Or.inr ⟨rfl, by omega⟩, ht⟩) (fun q hq => absurd hq List.not_mem_nil) dX0_isNamedAmount_16
  · refine lv_iload_n CF.1 CF.2.1 dX0_isNamedAmount_5 rfl (lv_at hl 0 rfl) ?_
    refine lv_ldc (v := nI 99999) CF.1 CF.2.1 CF.2.2.2.1 (CF.2.2.2.2 _ (inr_9 _ (List.mem_of_getElem? (i := 16) rfl))) dX0_isNamedAmount_6 ?_
    refine z_icmp_gt CF (tgt := 15) rfl (nIz (by omega)) dX0_isNamedAmount_8 (by decide) (fun h_3 => ?_) (fun h_4 => ?_)
    · refine lv_iconst (v := nI 0) CF.1 CF.2.1 dX0_isNamedAmount_15 (by decide) ?_
      exact W.zret CF.1 CF.2.1 hr rfl (fun t ht hW => ⟨_, rfl, Or.inr ⟨rfl, by omega⟩, ht⟩) (fun q hq => absurd hq List.not_mem_nil) dX0_isNamedAmount_16
    · refine lv_iconst (v := nI 1) CF.1 CF.2.1 dX0_isNamedAmount_11 (by decide) ?_
      refine lv_goto (tgt := 16) CF.1 CF.2.1 dX0_isNamedAmount_12 (by decide) ?_
      exact W.zret CF.1 CF.2.1 hr rfl (fun t ht hW => ⟨_, rfl, Or.inl ⟨rfl, by omega, by omega⟩, ht⟩) (fun q hq => absurd hq List.not_mem_nil) dX0_isNamedAmount_16
set_option maxHeartbeats 4000000 in
set_option maxRecDepth 100000 in
theorem c0_isOrderCell (l : Launch) {p0 k : Nat} (h0 : p0 < 10) (h1 : k < 5) : Met l yX0_isOrderCell (ws_ yX0_isOrderCell cX0_isOrderCell 2 (some .boolean)) (rmk 1 0 0) (pcS [.int (nI (p0)), .int (nI (k))]) (rqi (fun r => r = 1)) 0 0 (fun _ => False) := by
  refine Met.ofW (cc := cX0_isOrderCell) (maxL := 2) (ret := (some .boolean)) (by decide) rfl ?_
  intro p e s m args below meth c s₁ B hml hv
  obtain ⟨rfl, -⟩ := hv
  have CF : CallFix p m c cX0_isOrderCell 2 s _ AW RX0 := ⟨B.exec, B.bytes, hml, findClass_of_methodNamed B.named, fun w h => atoms_spec (ws := ws_ yX0_isOrderCell cX0_isOrderCell 2 (some .boolean)) B.pre w (List.mem_cons_of_mem _ h)⟩
  have hr := B.returns
  have hlocks := B.notSynchronized
  have hl := lv_entry ([.int (nI (p0)), .int (nI (k))]) (n := 2) (Nat.le_of_ble_eq_true rfl)
  rw [lg_entry_eq]
  generalize (lg_sl ([.int (nI (p0)), .int (nI (k))]) ++ List.replicate (2 - (lg_sl ([.int (nI (p0)), .int (nI (k))])).length) Slot.unset).toArray = ls at hl ⊢
  have hl : lv_has ls 2 [(0, .int (nI (p0))), (1, .int (nI (k)))] := hl
  refine lv_iload_n CF.1 CF.2.1 dX0_isOrderCell_0 rfl (lv_at hl 0 rfl) ?_
  refine z_if_lt CF (tgt := 23) (nIz (by omega)) dX0_isOrderCell_1 (by decide) (fun h_1 => absurd h_1 (by omega)) (fun h_2 => ?_)
  refine lv_iload_n CF.1 CF.2.1 dX0_isOrderCell_4 rfl (lv_at hl 0 rfl) ?_
  refine lv_bipush (v := nI 10) CF.1 CF.2.1 dX0_isOrderCell_5 (by decide) ?_
  refine z_icmp_ge CF (tgt := 23) (nIz (by omega)) (nIz (by omega)) dX0_isOrderCell_7 (by decide) (fun h_3 => absurd h_3 (by omega)) (fun h_4 => ?_)
  refine lv_iload_n CF.1 CF.2.1 dX0_isOrderCell_10 rfl (lv_at hl 1 rfl) ?_
  refine z_if_lt CF (tgt := 23) (nIz (by omega)) dX0_isOrderCell_11 (by decide) (fun h_5 => absurd h_5 (by omega)) (fun h_6 => ?_)
  refine lv_iload_n CF.1 CF.2.1 dX0_isOrderCell_14 rfl (lv_at hl 1 rfl) ?_
  refine lv_iconst (v := nI 5) CF.1 CF.2.1 dX0_isOrderCell_15 (by decide) ?_
  refine z_icmp_ge CF (tgt := 23) (nIz (by omega)) (nIz (by omega)) dX0_isOrderCell_16 (by decide) (fun h_7 => absurd h_7 (by omega)) (fun h_8 => ?_)
  refine lv_iconst (v := nI 1) CF.1 CF.2.1 dX0_isOrderCell_19 (by decide) ?_
  refine lv_goto (tgt := 24) CF.1 CF.2.1 dX0_isOrderCell_20 (by decide) ?_
  exact W.zret CF.1 CF.2.1 hr rfl (fun t ht hW => ⟨_, rfl, rfl, ht⟩) (fun q hq => absurd hq List.not_mem_nil) dX0_isOrderCell_24
set_option maxHeartbeats 4000000 in
set_option maxRecDepth 100000 in
theorem c0_isCustomer (l : Launch) {G : va_G} {cA : ClassId} {ad : Nat → Nat} {σ : RS} {b : BS} (hI : InvC b) (hR : Rc σ b) (x : Int32) : Met l yX0_isCustomer (ws_ yX0_isCustomer cX0_isCustomer 2 (some .boolean)) (rmk 1 0 0) (pc0 G cA ad σ [.ref (ad 0), .int (x)]) (rqi (fun r => (r = 1 ∧ 0 ≤ x.toInt ∧ x.toInt < (b 0 2 : Nat)) ∨ (r = 0 ∧ (x.toInt < 0 ∨ ((b 0 2 : Nat) : Int) ≤ x.toInt)))) 0 0 (fun _ => False) := by
  refine Met.ofW (cc := cX0_isCustomer) (maxL := 2) (ret := (some .boolean)) (by decide) rfl ?_
  intro p e s m args below meth c s₁ B hml hv
  obtain ⟨rfl, hP, hK⟩ := hv
  have CF : CallFix p m c cX0_isCustomer 2 s _ AW RX0 := ⟨B.exec, B.bytes, hml, findClass_of_methodNamed B.named, fun w h => atoms_spec (ws := ws_ yX0_isCustomer cX0_isCustomer 2 (some .boolean)) B.pre w (List.mem_cons_of_mem _ h)⟩
  have hr := B.returns
  have hlocks := B.notSynchronized
  have hl := lv_entry ([.ref (ad 0), .int (x)]) (n := 2) (Nat.le_of_ble_eq_true rfl)
  rw [lg_entry_eq]
  generalize (lg_sl ([.ref (ad 0), .int (x)]) ++ List.replicate (2 - (lg_sl ([.ref (ad 0), .int (x)])).length) Slot.unset).toArray = ls at hl ⊢
  have hl : lv_has ls 2 [(0, .ref (ad 0)), (1, .int (x))] := hl
  obtain ⟨i_sp, i_cu, i_ra, i_di, i_mo, i_pu⟩ := id hI
  refine lv_iload_n CF.1 CF.2.1 dX0_isCustomer_0 rfl (lv_at hl 1 rfl) ?_
  refine z_if_lt CF (tgt := 22) rfl dX0_isCustomer_1 (by decide) (fun h_1 => ?_) (fun h_2 => ?_)
  · refine lv_iconst (v := nI 0) CF.1 CF.2.1 dX0_isCustomer_22 (by decide) ?_
    exact W.zret CF.1 CF.2.1 hr rfl (fun t ht hW => ⟨_, rfl, Or.inr ⟨rfl, by omega⟩, ht⟩) (fun q hq => absurd hq List.not_mem_nil) dX0_isCustomer_23
  · refine lv_iload_n CF.1 CF.2.1 dX0_isCustomer_4 rfl (lv_at hl 1 rfl) ?_
    refine lv_aload_n CF.1 CF.2.1 dX0_isCustomer_5 rfl (lv_at hl 0 rfl) ?_
    refine x0_g_customers CF hK hP (v := (nI (b 0 2))) hR.2.2.1 dX0_isCustomer_6 ?_
    refine z_icmp_ge CF (tgt := 22) rfl (nIz (by omega)) dX0_isCustomer_9 (by decide) (fun h_3 => ?_) (fun h_4 => ?_)
    · refine lv_iconst (v := nI 0) CF.1 CF.2.1 dX0_isCustomer_22 (by decide) ?_
      exact W.zret CF.1 CF.2.1 hr rfl (fun t ht hW => ⟨_, rfl, Or.inr ⟨rfl, by omega⟩, ht⟩) (fun q hq => absurd hq List.not_mem_nil) dX0_isCustomer_23
    · refine lv_iload_n CF.1 CF.2.1 dX0_isCustomer_12 rfl (lv_at hl 1 rfl) ?_
      refine lv_bipush (v := nI 6) CF.1 CF.2.1 dX0_isCustomer_13 (by decide) ?_
      refine z_icmp_ge CF (tgt := 22) rfl (nIz (by omega)) dX0_isCustomer_15 (by decide) (fun h_5 => ?_) (fun h_6 => ?_)
      · refine lv_iconst (v := nI 0) CF.1 CF.2.1 dX0_isCustomer_22 (by decide) ?_
        exact W.zret CF.1 CF.2.1 hr rfl (fun t ht hW => ⟨_, rfl, Or.inr ⟨rfl, by omega⟩, ht⟩) (fun q hq => absurd hq List.not_mem_nil) dX0_isCustomer_23
      · refine lv_iconst (v := nI 1) CF.1 CF.2.1 dX0_isCustomer_18 (by decide) ?_
        refine lv_goto (tgt := 23) CF.1 CF.2.1 dX0_isCustomer_19 (by decide) ?_
        exact W.zret CF.1 CF.2.1 hr rfl (fun t ht hW => ⟨_, rfl, Or.inl ⟨rfl, by omega, by omega⟩, ht⟩) (fun q hq => absurd hq List.not_mem_nil) dX0_isCustomer_23
set_option maxHeartbeats 4000000 in
set_option maxRecDepth 100000 in
theorem c0_isAmountOrNone (l : Launch) (x : Int32) : Met l yX0_isAmountOrNone (ws_ yX0_isAmountOrNone cX0_isAmountOrNone 1 (some .boolean)) (rmk 2 0 0) (pcS [.int (x)]) (rqi (fun r => (r = 1 ∧ 0 ≤ x.toInt ∧ x.toInt < 100000) ∨ (r = 0 ∧ (x.toInt < 0 ∨ 100000 ≤ x.toInt)))) 0 0 (fun _ => False) := by
  refine Met.ofW (cc := cX0_isAmountOrNone) (maxL := 1) (ret := (some .boolean)) (by decide) rfl ?_
  intro p e s m args below meth c s₁ B hml hv
  obtain ⟨rfl, -⟩ := hv
  have CF : CallFix p m c cX0_isAmountOrNone 1 s _ AW RX0 := ⟨B.exec, B.bytes, hml, findClass_of_methodNamed B.named, fun w h => atoms_spec (ws := ws_ yX0_isAmountOrNone cX0_isAmountOrNone 1 (some .boolean)) B.pre w (List.mem_cons_of_mem _ h)⟩
  have hr := B.returns
  have hlocks := B.notSynchronized
  have hl := lv_entry ([.int (x)]) (n := 1) (Nat.le_of_ble_eq_true rfl)
  rw [lg_entry_eq]
  generalize (lg_sl ([.int (x)]) ++ List.replicate (1 - (lg_sl ([.int (x)])).length) Slot.unset).toArray = ls at hl ⊢
  have hl : lv_has ls 1 [(0, .int (x))] := hl
  refine lv_iload_n CF.1 CF.2.1 dX0_isAmountOrNone_0 rfl (lv_at hl 0 rfl) ?_
  refine z_if_eq CF (tgt := 11) rfl dX0_isAmountOrNone_1 (by decide) (fun h_1 => ?_) (fun h_2 => ?_)
  · refine lv_iconst (v := nI 1) CF.1 CF.2.1 dX0_isAmountOrNone_11 (by decide) ?_
    refine lv_goto (tgt := 16) CF.1 CF.2.1 dX0_isAmountOrNone_12 (by decide) ?_
    exact W.zret CF.1 CF.2.1 hr rfl (fun t ht hW => ⟨_, rfl, Or.inl ⟨rfl, by omega, by omega⟩, ht⟩) (fun q hq => absurd hq List.not_mem_nil) dX0_isAmountOrNone_16
  · refine lv_iload_n CF.1 CF.2.1 dX0_isAmountOrNone_4 rfl (lv_at hl 0 rfl) ?_
    refine cS_i CF (As := [.int (x)]) (rest := []) (c0_isNamedAmount l ((x))) lk_RX0_X0_isNamedAmount rfl hl.1 ⟨Nat.le_of_ble_eq_true rfl, Nat.le_of_ble_eq_true rfl⟩ ⟨Nat.zero_le _, Nat.zero_le _⟩ (Nat.le_of_ble_eq_true rfl) rfl dX0_isAmountOrNone_5 (fun r_3 hr_4 => ?_)
    rcases hr_4 with ⟨rfl, hr_4a, hr_4b⟩ | ⟨rfl, hr_4c⟩
    · rw [show (1 : Int32) = nI 1 by rfl]
      refine z_if_eq CF (tgt := 15) (nIz (by omega)) dX0_isAmountOrNone_8 (by decide) (fun h => absurd h (by decide)) (fun _ => ?_)
      refine lv_iconst (v := nI 1) CF.1 CF.2.1 dX0_isAmountOrNone_11 (by decide) ?_
      refine lv_goto (tgt := 16) CF.1 CF.2.1 dX0_isAmountOrNone_12 (by decide) ?_
      exact W.zret CF.1 CF.2.1 hr rfl (fun t ht hW => ⟨_, rfl, Or.inl ⟨rfl, by omega, by omega⟩, ht⟩) (fun q hq => absurd hq List.not_mem_nil) dX0_isAmountOrNone_16
    · rw [show (0 : Int32) = nI 0 by rfl]
      refine z_if_eq CF (tgt := 15) (nIz (by omega)) dX0_isAmountOrNone_8 (by decide) (fun _ => ?_) (fun h => absurd h (by decide))
      refine lv_iconst (v := nI 0) CF.1 CF.2.1 dX0_isAmountOrNone_15 (by decide) ?_
      exact W.zret CF.1 CF.2.1 hr rfl (fun t ht hW => ⟨_, rfl, Or.inr ⟨rfl, by omega⟩, ht⟩) (fun q hq => absurd hq List.not_mem_nil) dX0_isAmountOrNone_16
set_option maxHeartbeats 4000000 in
set_option maxRecDepth 100000 in
theorem c0_rateOf (l : Launch) {G : va_G} {cA : ClassId} {ad : Nat → Nat} {σ : RS} {b : BS} (hI : InvC b) (hR : Rc σ b) {f t : Nat} (hf : f < 5) (ht : t < 5) : Met l yX0_rateOf (ws_ yX0_rateOf cX0_rateOf 3 (some .int)) (rmk 2 0 0) (pc0 G cA ad σ [.ref (ad 0), .int (nI (f)), .int (nI (t))]) (rqi (fun r => r = nI (b 1 (f * 5 + t)))) 0 0 (fun _ => False) := by
  refine Met.ofW (cc := cX0_rateOf) (maxL := 3) (ret := (some .int)) (by decide) rfl ?_
  intro p e s m args below meth c s₁ B hml hv
  obtain ⟨rfl, hP, hK⟩ := hv
  have CF : CallFix p m c cX0_rateOf 3 s _ AW RX0 := ⟨B.exec, B.bytes, hml, findClass_of_methodNamed B.named, fun w h => atoms_spec (ws := ws_ yX0_rateOf cX0_rateOf 3 (some .int)) B.pre w (List.mem_cons_of_mem _ h)⟩
  have hr := B.returns
  have hlocks := B.notSynchronized
  have hl := lv_entry ([.ref (ad 0), .int (nI (f)), .int (nI (t))]) (n := 3) (Nat.le_of_ble_eq_true rfl)
  rw [lg_entry_eq]
  generalize (lg_sl ([.ref (ad 0), .int (nI (f)), .int (nI (t))]) ++ List.replicate (3 - (lg_sl ([.ref (ad 0), .int (nI (f)), .int (nI (t))])).length) Slot.unset).toArray = ls at hl ⊢
  have hl : lv_has ls 3 [(0, .ref (ad 0)), (1, .int (nI (f))), (2, .int (nI (t)))] := hl
  obtain ⟨i_sp, i_cu, i_ra, i_di, i_mo, i_pu⟩ := id hI
  refine lv_iload_n CF.1 CF.2.1 dX0_rateOf_0 rfl (lv_at hl 1 rfl) ?_
  refine cS_i CF (As := [.int (nI (f))]) (rest := []) (c0_isMoney l (nI (f))) lk_RX0_X0_isMoney rfl hl.1 ⟨Nat.le_of_ble_eq_true rfl, Nat.le_of_ble_eq_true rfl⟩ ⟨Nat.zero_le _, Nat.zero_le _⟩ (Nat.le_of_ble_eq_true rfl) rfl dX0_rateOf_1 (fun r_1 hr_2 => ?_)
  have hxh_3 := nIz (n := f) (by omega)
  rcases hr_2 with ⟨rfl, -, -⟩ | ⟨rfl, h9⟩
  rotate_left
  · exact absurd h9 (by rw [hxh_3]; omega)
  rw [show (1 : Int32) = nI 1 by rfl]
  refine z_if_eq CF (tgt := 27) (nIz (by omega)) dX0_rateOf_4 (by decide) (fun h => absurd h (by decide)) (fun _ => ?_)
  refine lv_iload_n CF.1 CF.2.1 dX0_rateOf_7 rfl (lv_at hl 2 rfl) ?_
  refine cS_i CF (As := [.int (nI (t))]) (rest := []) (c0_isMoney l (nI (t))) lk_RX0_X0_isMoney rfl hl.1 ⟨Nat.le_of_ble_eq_true rfl, Nat.le_of_ble_eq_true rfl⟩ ⟨Nat.zero_le _, Nat.zero_le _⟩ (Nat.le_of_ble_eq_true rfl) rfl dX0_rateOf_8 (fun r_6 hr_7 => ?_)
  have hxh_8 := nIz (n := t) (by omega)
  rcases hr_7 with ⟨rfl, -, -⟩ | ⟨rfl, h9⟩
  rotate_left
  · exact absurd h9 (by rw [hxh_8]; omega)
  rw [show (1 : Int32) = nI 1 by rfl]
  refine z_if_eq CF (tgt := 27) (nIz (by omega)) dX0_rateOf_11 (by decide) (fun h => absurd h (by decide)) (fun _ => ?_)
  refine lv_aload_n CF.1 CF.2.1 dX0_rateOf_14 rfl (lv_at hl 0 rfl) ?_
  refine x0_g_rates CF hK hP dX0_rateOf_15 ?_
  refine lv_iload_n CF.1 CF.2.1 dX0_rateOf_18 rfl (lv_at hl 1 rfl) ?_
  refine lv_iconst (v := nI 5) CF.1 CF.2.1 dX0_rateOf_19 (by decide) ?_
  refine o_imul CF dX0_rateOf_20 ?_
  refine lv_iload_n CF.1 CF.2.1 dX0_rateOf_21 rfl (lv_at hl 2 rfl) ?_
  refine o_iadd CF dX0_rateOf_22 ?_
  refine x0_ald1 CF hK hP (i := f * 5 + t) (by omega) (v := (nI (b 1 (f * 5 + t)))) (hR.a1 (by omega)) dX0_rateOf_23 ?_
  refine lv_goto (tgt := 28) CF.1 CF.2.1 dX0_rateOf_24 (by decide) ?_
  exact W.iret CF.1 CF.2.1 hr (fun t ht hW => ⟨_, rfl, rfl, ht⟩) (fun q hq => absurd hq List.not_mem_nil) dX0_rateOf_28
set_option maxHeartbeats 4000000 in
set_option maxRecDepth 100000 in
theorem c0_inPurse (l : Launch) {G : va_G} {cA : ClassId} {ad : Nat → Nat} {σ : RS} {b : BS} (hI : InvC b) (hR : Rc σ b) {u t : Nat} (hf : u < b 0 2) (ht : t < 5) : Met l yX0_inPurse (ws_ yX0_inPurse cX0_inPurse 3 (some .int)) (rmk 2 0 0) (pc0 G cA ad σ [.ref (ad 0), .int (nI (u)), .int (nI (t))]) (rqi (fun r => r = nI (b 6 (u * 5 + t)))) 0 0 (fun _ => False) := by
  refine Met.ofW (cc := cX0_inPurse) (maxL := 3) (ret := (some .int)) (by decide) rfl ?_
  intro p e s m args below meth c s₁ B hml hv
  obtain ⟨rfl, hP, hK⟩ := hv
  have CF : CallFix p m c cX0_inPurse 3 s _ AW RX0 := ⟨B.exec, B.bytes, hml, findClass_of_methodNamed B.named, fun w h => atoms_spec (ws := ws_ yX0_inPurse cX0_inPurse 3 (some .int)) B.pre w (List.mem_cons_of_mem _ h)⟩
  have hr := B.returns
  have hlocks := B.notSynchronized
  have hl := lv_entry ([.ref (ad 0), .int (nI (u)), .int (nI (t))]) (n := 3) (Nat.le_of_ble_eq_true rfl)
  rw [lg_entry_eq]
  generalize (lg_sl ([.ref (ad 0), .int (nI (u)), .int (nI (t))]) ++ List.replicate (3 - (lg_sl ([.ref (ad 0), .int (nI (u)), .int (nI (t))])).length) Slot.unset).toArray = ls at hl ⊢
  have hl : lv_has ls 3 [(0, .ref (ad 0)), (1, .int (nI (u))), (2, .int (nI (t)))] := hl
  obtain ⟨i_sp, i_cu, i_ra, i_di, i_mo, i_pu⟩ := id hI
  refine lv_aload_n CF.1 CF.2.1 dX0_inPurse_0 rfl (lv_at hl 0 rfl) ?_
  refine lv_iload_n CF.1 CF.2.1 dX0_inPurse_1 rfl (lv_at hl 1 rfl) ?_
  refine c0_i CF hK hP (As := [.int (nI (u))]) (rest := []) (c0_isCustomer l hI hR (nI (u))) rfl lk_RX0_X0_isCustomer rfl hl.1 ⟨Nat.le_of_ble_eq_true rfl, Nat.le_of_ble_eq_true rfl⟩ ⟨Nat.zero_le _, Nat.zero_le _⟩ (Nat.le_of_ble_eq_true rfl) rfl dX0_inPurse_2 (fun r_1 hr_2 => ?_)
  have hxh_3 := nIz (n := u) (by omega)
  rcases hr_2 with ⟨rfl, -, -⟩ | ⟨rfl, h9⟩
  rotate_left
  · exact absurd h9 (by rw [hxh_3]; omega)
  rw [show (1 : Int32) = nI 1 by rfl]
  refine z_if_eq CF (tgt := 28) (nIz (by omega)) dX0_inPurse_5 (by decide) (fun h => absurd h (by decide)) (fun _ => ?_)
  refine lv_iload_n CF.1 CF.2.1 dX0_inPurse_8 rfl (lv_at hl 2 rfl) ?_
  refine cS_i CF (As := [.int (nI (t))]) (rest := []) (c0_isMoney l (nI (t))) lk_RX0_X0_isMoney rfl hl.1 ⟨Nat.le_of_ble_eq_true rfl, Nat.le_of_ble_eq_true rfl⟩ ⟨Nat.zero_le _, Nat.zero_le _⟩ (Nat.le_of_ble_eq_true rfl) rfl dX0_inPurse_9 (fun r_6 hr_7 => ?_)
  have hxh_8 := nIz (n := t) (by omega)
  rcases hr_7 with ⟨rfl, -, -⟩ | ⟨rfl, h9⟩
  rotate_left
  · exact absurd h9 (by rw [hxh_8]; omega)
  rw [show (1 : Int32) = nI 1 by rfl]
  refine z_if_eq CF (tgt := 28) (nIz (by omega)) dX0_inPurse_12 (by decide) (fun h => absurd h (by decide)) (fun _ => ?_)
  refine lv_aload_n CF.1 CF.2.1 dX0_inPurse_15 rfl (lv_at hl 0 rfl) ?_
  refine x0_g_purses CF hK hP dX0_inPurse_16 ?_
  refine lv_iload_n CF.1 CF.2.1 dX0_inPurse_19 rfl (lv_at hl 1 rfl) ?_
  refine lv_iconst (v := nI 5) CF.1 CF.2.1 dX0_inPurse_20 (by decide) ?_
  refine o_imul CF dX0_inPurse_21 ?_
  refine lv_iload_n CF.1 CF.2.1 dX0_inPurse_22 rfl (lv_at hl 2 rfl) ?_
  refine o_iadd CF dX0_inPurse_23 ?_
  refine x0_ald6 CF hK hP (i := u * 5 + t) (by omega) (v := (nI (b 6 (u * 5 + t)))) (hR.a6 (by omega)) dX0_inPurse_24 ?_
  refine lv_goto (tgt := 29) CF.1 CF.2.1 dX0_inPurse_25 (by decide) ?_
  exact W.iret CF.1 CF.2.1 hr (fun t ht hW => ⟨_, rfl, rfl, ht⟩) (fun q hq => absurd hq List.not_mem_nil) dX0_inPurse_29
set_option maxHeartbeats 4000000 in
set_option maxRecDepth 100000 in
theorem c0_orderPart (l : Launch) {G : va_G} {cA : ClassId} {ad : Nat → Nat} {σ : RS} {u t : Nat} (hf : u < 10) (ht : t < 5) : Met l yX0_orderPart (ws_ yX0_orderPart cX0_orderPart 3 (some .int)) (rmk 2 0 0) (pc0 G cA ad σ [.ref (ad 0), .int (nI (u)), .int (nI (t))]) (rqi (fun r => r = σ 7 (u * 5 + t))) 0 0 (fun _ => False) := by
  refine Met.ofW (cc := cX0_orderPart) (maxL := 3) (ret := (some .int)) (by decide) rfl ?_
  intro p e s m args below meth c s₁ B hml hv
  obtain ⟨rfl, hP, hK⟩ := hv
  have CF : CallFix p m c cX0_orderPart 3 s _ AW RX0 := ⟨B.exec, B.bytes, hml, findClass_of_methodNamed B.named, fun w h => atoms_spec (ws := ws_ yX0_orderPart cX0_orderPart 3 (some .int)) B.pre w (List.mem_cons_of_mem _ h)⟩
  have hr := B.returns
  have hlocks := B.notSynchronized
  have hl := lv_entry ([.ref (ad 0), .int (nI (u)), .int (nI (t))]) (n := 3) (Nat.le_of_ble_eq_true rfl)
  rw [lg_entry_eq]
  generalize (lg_sl ([.ref (ad 0), .int (nI (u)), .int (nI (t))]) ++ List.replicate (3 - (lg_sl ([.ref (ad 0), .int (nI (u)), .int (nI (t))])).length) Slot.unset).toArray = ls at hl ⊢
  have hl : lv_has ls 3 [(0, .ref (ad 0)), (1, .int (nI (u))), (2, .int (nI (t)))] := hl
  refine lv_iload_n CF.1 CF.2.1 dX0_orderPart_0 rfl (lv_at hl 1 rfl) ?_
  refine lv_iload_n CF.1 CF.2.1 dX0_orderPart_1 rfl (lv_at hl 2 rfl) ?_
  refine cS_i CF (As := [.int (nI (u)), .int (nI (t))]) (rest := []) (c0_isOrderCell l (p0 := u) (k := t) (by omega) (by omega)) lk_RX0_X0_isOrderCell rfl hl.1 ⟨Nat.le_of_ble_eq_true rfl, Nat.le_of_ble_eq_true rfl⟩ ⟨Nat.zero_le _, Nat.zero_le _⟩ (Nat.le_of_ble_eq_true rfl) rfl dX0_orderPart_2 (fun r_1 hr_2 => ?_)
  subst hr_2
  rw [show (1 : Int32) = nI 1 by rfl]
  refine z_if_eq CF (tgt := 21) (nIz (by omega)) dX0_orderPart_5 (by decide) (fun h => absurd h (by decide)) (fun _ => ?_)
  refine lv_aload_n CF.1 CF.2.1 dX0_orderPart_8 rfl (lv_at hl 0 rfl) ?_
  refine x0_g_orders CF hK hP dX0_orderPart_9 ?_
  refine lv_iload_n CF.1 CF.2.1 dX0_orderPart_12 rfl (lv_at hl 1 rfl) ?_
  refine lv_iconst (v := nI 5) CF.1 CF.2.1 dX0_orderPart_13 (by decide) ?_
  refine o_imul CF dX0_orderPart_14 ?_
  refine lv_iload_n CF.1 CF.2.1 dX0_orderPart_15 rfl (lv_at hl 2 rfl) ?_
  refine o_iadd CF dX0_orderPart_16 ?_
  refine x0_ald7 CF hK hP (i := u * 5 + t) (by omega) (v := (σ 7 (u * 5 + t))) rfl dX0_orderPart_17 ?_
  refine lv_goto (tgt := 22) CF.1 CF.2.1 dX0_orderPart_18 (by decide) ?_
  exact W.iret CF.1 CF.2.1 hr (fun t ht hW => ⟨_, rfl, rfl, ht⟩) (fun q hq => absurd hq List.not_mem_nil) dX0_orderPart_22
set_option maxHeartbeats 4000000 in
set_option maxRecDepth 100000 in
theorem c0_tenthousandths (l : Launch) {G : va_G} {cA : ClassId} {ad : Nat → Nat} {σ : RS} {b : BS} (hI : InvC b) (hR : Rc σ b) {f t : Nat} (hf : f < 5) (ht : t < 5) (x : Int64) : Met l yX0_tenthousandths (ws_ yX0_tenthousandths cX0_tenthousandths 5 (some .long)) (rmk 3 0 0) (pc0 G cA ad σ [.ref (ad 0), .int (nI (f)), .int (nI (t)), .long (x)]) (rql (fun r => r = x * lN (b 1 (f * 5 + t)) * lN (100 - b 0 1))) 0 0 (fun _ => False) := by
  refine Met.ofW (cc := cX0_tenthousandths) (maxL := 5) (ret := (some .long)) (by decide) rfl ?_
  intro p e s m args below meth c s₁ B hml hv
  obtain ⟨rfl, hP, hK⟩ := hv
  have CF : CallFix p m c cX0_tenthousandths 5 s _ AW RX0 := ⟨B.exec, B.bytes, hml, findClass_of_methodNamed B.named, fun w h => atoms_spec (ws := ws_ yX0_tenthousandths cX0_tenthousandths 5 (some .long)) B.pre w (List.mem_cons_of_mem _ h)⟩
  have hr := B.returns
  have hlocks := B.notSynchronized
  have hl := lv_entry ([.ref (ad 0), .int (nI (f)), .int (nI (t)), .long (x)]) (n := 5) (Nat.le_of_ble_eq_true rfl)
  rw [lg_entry_eq]
  generalize (lg_sl ([.ref (ad 0), .int (nI (f)), .int (nI (t)), .long (x)]) ++ List.replicate (5 - (lg_sl ([.ref (ad 0), .int (nI (f)), .int (nI (t)), .long (x)])).length) Slot.unset).toArray = ls at hl ⊢
  have hl : lv_has ls 5 [(0, .ref (ad 0)), (1, .int (nI (f))), (2, .int (nI (t))), (3, .long (x))] := hl
  obtain ⟨i_sp, i_cu, i_ra, i_di, i_mo, i_pu⟩ := id hI
  have h_r := i_ra (f * 5 + t) (by omega)
  refine lv_lload_n CF.1 CF.2.1 dX0_tenthousandths_0 rfl (lv_at hl 3 rfl) ?_
  refine lv_aload_n CF.1 CF.2.1 dX0_tenthousandths_1 rfl (lv_at hl 0 rfl) ?_
  refine lv_iload_n CF.1 CF.2.1 dX0_tenthousandths_2 rfl (lv_at hl 1 rfl) ?_
  refine lv_iload_n CF.1 CF.2.1 dX0_tenthousandths_3 rfl (lv_at hl 2 rfl) ?_
  refine c0_i CF hK hP (As := [.int (nI (f)), .int (nI (t))]) (rest := [.long (x)]) (c0_rateOf l hI hR (f := f) (t := t) (by omega) (by omega)) rfl lk_RX0_X0_rateOf rfl hl.1 ⟨Nat.le_of_ble_eq_true rfl, Nat.le_of_ble_eq_true rfl⟩ ⟨Nat.zero_le _, Nat.zero_le _⟩ (Nat.le_of_ble_eq_true rfl) rfl dX0_tenthousandths_4 (fun r_1 hr_2 => ?_)
  subst hr_2
  refine o_i2l CF (by omega) dX0_tenthousandths_7 ?_
  refine lv_lmul CF.1 CF.2.1 dX0_tenthousandths_8 ?_
  refine lv_bipush (v := nI 100) CF.1 CF.2.1 dX0_tenthousandths_9 (by decide) ?_
  refine lv_aload_n CF.1 CF.2.1 dX0_tenthousandths_11 rfl (lv_at hl 0 rfl) ?_
  refine x0_g_spread CF hK hP (v := (nI (b 0 1))) hR.2.1 dX0_tenthousandths_12 ?_
  refine o_isub CF (by omega) dX0_tenthousandths_15 ?_
  refine o_i2l CF (by omega) dX0_tenthousandths_16 ?_
  refine lv_lmul CF.1 CF.2.1 dX0_tenthousandths_17 ?_
  exact W.lret CF.1 CF.2.1 hr (fun t ht hW => ⟨_, rfl, rfl, ht⟩) (fun q hq => absurd hq List.not_mem_nil) dX0_tenthousandths_18
set_option maxHeartbeats 4000000 in
set_option maxRecDepth 100000 in
theorem c0_bit (l : Launch) {j : Nat} (hj : j < 5) : Met l yX0_bit (ws_ yX0_bit cX0_bit 1 (some .int)) (rmk 2 0 0) (pcS [.int (nI (j))]) (rqi (fun r => r = nI (2 ^ j))) 0 0 (fun _ => False) := by
  refine Met.ofW (cc := cX0_bit) (maxL := 1) (ret := (some .int)) (by decide) rfl ?_
  intro p e s m args below meth c s₁ B hml hv
  obtain ⟨rfl, -⟩ := hv
  have CF : CallFix p m c cX0_bit 1 s _ AW RX0 := ⟨B.exec, B.bytes, hml, findClass_of_methodNamed B.named, fun w h => atoms_spec (ws := ws_ yX0_bit cX0_bit 1 (some .int)) B.pre w (List.mem_cons_of_mem _ h)⟩
  have hr := B.returns
  have hlocks := B.notSynchronized
  have hl := lv_entry ([.int (nI (j))]) (n := 1) (Nat.le_of_ble_eq_true rfl)
  rw [lg_entry_eq]
  generalize (lg_sl ([.int (nI (j))]) ++ List.replicate (1 - (lg_sl ([.int (nI (j))])).length) Slot.unset).toArray = ls at hl ⊢
  have hl : lv_has ls 1 [(0, .int (nI (j)))] := hl
  refine lv_iload_n CF.1 CF.2.1 dX0_bit_0 rfl (lv_at hl 0 rfl) ?_
  refine cS_i CF (As := [.int (nI (j))]) (rest := []) (c0_isMoney l (nI (j))) lk_RX0_X0_isMoney rfl hl.1 ⟨Nat.le_of_ble_eq_true rfl, Nat.le_of_ble_eq_true rfl⟩ ⟨Nat.zero_le _, Nat.zero_le _⟩ (Nat.le_of_ble_eq_true rfl) rfl dX0_bit_1 (fun r_1 hr_2 => ?_)
  have hxh_3 := nIz (n := j) (by omega)
  rcases hr_2 with ⟨rfl, -, -⟩ | ⟨rfl, h9⟩
  rotate_left
  · exact absurd h9 (by rw [hxh_3]; omega)
  rw [show (1 : Int32) = nI 1 by rfl]
  refine z_if_eq CF (tgt := 13) (nIz (by omega)) dX0_bit_4 (by decide) (fun h => absurd h (by decide)) (fun _ => ?_)
  refine lv_iconst (v := nI 1) CF.1 CF.2.1 dX0_bit_7 (by decide) ?_
  refine lv_iload_n CF.1 CF.2.1 dX0_bit_8 rfl (lv_at hl 0 rfl) ?_
  refine lv_ishl CF.1 CF.2.1 dX0_bit_9 ?_
  refine lv_goto (tgt := 14) CF.1 CF.2.1 dX0_bit_10 (by decide) ?_
  exact W.iret CF.1 CF.2.1 hr (fun t ht hW => ⟨_, rfl, by rcases (show j = 0 ∨ j = 1 ∨ j = 2 ∨ j = 3 ∨ j = 4 by omega) with rfl | rfl | rfl | rfl | rfl <;> decide, ht⟩) (fun q hq => absurd hq List.not_mem_nil) dX0_bit_14
set_option maxHeartbeats 4000000 in
set_option maxRecDepth 100000 in
theorem c0_wholeOnes (l : Launch) (x : Int64) : Met l yX0_wholeOnes (ws_ yX0_wholeOnes cX0_wholeOnes 2 (some .long)) (rmk 1 0 0) (pcS [.long (x)]) (rql (fun r => r = x / lN 10000)) 0 0 (fun _ => False) := by
  refine Met.ofW (cc := cX0_wholeOnes) (maxL := 2) (ret := (some .long)) (by decide) rfl ?_
  intro p e s m args below meth c s₁ B hml hv
  obtain ⟨rfl, -⟩ := hv
  have CF : CallFix p m c cX0_wholeOnes 2 s _ AW RX0 := ⟨B.exec, B.bytes, hml, findClass_of_methodNamed B.named, fun w h => atoms_spec (ws := ws_ yX0_wholeOnes cX0_wholeOnes 2 (some .long)) B.pre w (List.mem_cons_of_mem _ h)⟩
  have hr := B.returns
  have hlocks := B.notSynchronized
  have hl := lv_entry ([.long (x)]) (n := 2) (Nat.le_of_ble_eq_true rfl)
  rw [lg_entry_eq]
  generalize (lg_sl ([.long (x)]) ++ List.replicate (2 - (lg_sl ([.long (x)])).length) Slot.unset).toArray = ls at hl ⊢
  have hl : lv_has ls 2 [(0, .long (x))] := hl
  refine lv_lload_n CF.1 CF.2.1 dX0_wholeOnes_0 rfl (lv_at hl 0 rfl) ?_
  refine lv_ldc2 (v := lN 10000) CF.1 CF.2.1 CF.2.2.2.1 (CF.2.2.2.2 _ (inr_4 _ (List.mem_of_getElem? (i := 0) rfl))) dX0_wholeOnes_1 ?_
  refine lv_ldiv CF.1 CF.2.1 dX0_wholeOnes_4 (lne (by omega) (by omega)) ?_
  exact W.lret CF.1 CF.2.1 hr (fun t ht hW => ⟨_, rfl, rfl, ht⟩) (fun q hq => absurd hq List.not_mem_nil) dX0_wholeOnes_5
set_option maxHeartbeats 4000000 in
set_option maxRecDepth 100000 in
theorem c0_heldAtMost (l : Launch) {v : Nat} (hv : v < 9223372036854775808) : Met l yX0_heldAtMost (ws_ yX0_heldAtMost cX0_heldAtMost 2 (some .int)) (rmk 1 0 0) (pcS [.long (lN (v))]) (rqi (fun r => r = nI (min v 999999))) 0 0 (fun _ => False) := by
  refine Met.ofW (cc := cX0_heldAtMost) (maxL := 2) (ret := (some .int)) (by decide) rfl ?_
  intro p e s m args below meth c s₁ B hml hv
  obtain ⟨rfl, -⟩ := hv
  have CF : CallFix p m c cX0_heldAtMost 2 s _ AW RX0 := ⟨B.exec, B.bytes, hml, findClass_of_methodNamed B.named, fun w h => atoms_spec (ws := ws_ yX0_heldAtMost cX0_heldAtMost 2 (some .int)) B.pre w (List.mem_cons_of_mem _ h)⟩
  have hr := B.returns
  have hlocks := B.notSynchronized
  have hl := lv_entry ([.long (lN (v))]) (n := 2) (Nat.le_of_ble_eq_true rfl)
  rw [lg_entry_eq]
  generalize (lg_sl ([.long (lN (v))]) ++ List.replicate (2 - (lg_sl ([.long (lN (v))])).length) Slot.unset).toArray = ls at hl ⊢
  have hl : lv_has ls 2 [(0, .long (lN (v)))] := hl
  refine lv_lload_n CF.1 CF.2.1 dX0_heldAtMost_0 rfl (lv_at hl 0 rfl) ?_
  refine lv_ldc2 (v := lN 999999) CF.1 CF.2.1 CF.2.2.2.1 (CF.2.2.2.2 _ (inr_5 _ (List.mem_of_getElem? (i := 5) rfl))) dX0_heldAtMost_1 ?_
  refine va_mmin_long CF.1 CF.2.1 (CF.2.2.1.trans hl.1.symm) CF.2.2.2.1 (CF.2.2.2.2 _ (inr_5 _ (List.mem_of_getElem? (i := 6) rfl))) (CF.2.2.2.2 _ (inr_5 _ (List.mem_of_getElem? (i := 7) rfl))) (CF.2.2.2.2 _ (inr_5 _ (List.mem_of_getElem? (i := 8) rfl))) (CF.2.2.2.2 _ (inr_5 _ (List.mem_of_getElem? (i := 9) rfl))) (Nat.le_of_ble_eq_true rfl) (Nat.le_of_ble_eq_true rfl) (Nat.zero_le _) (Nat.zero_le _) dX0_heldAtMost_4 ?_
  refine tpl (mnL (by omega) (by omega)) ?_
  refine o_l2i CF dX0_heldAtMost_7 ?_
  exact W.iret CF.1 CF.2.1 hr (fun t ht hW => ⟨_, rfl, rfl, ht⟩) (fun q hq => absurd hq List.not_mem_nil) dX0_heldAtMost_8
end
section
set_option maxHeartbeats 4000000 in
set_option maxRecDepth 100000 in
theorem c0_isAllowed (l : Launch) {G : va_G} {cA : ClassId} {ad : Nat → Nat} {σ : RS} {b : BS} (hI : InvC b) (hR : Rc σ b) {P t a w : Nat} (hP0 : P < 2147483648) (ht : t < 5) (ha : a < 2147483648) (hw : w < 4611686018427387904) : Met l yX0_isAllowed (ws_ yX0_isAllowed cX0_isAllowed 6 (some .boolean)) (rmk 2 0 0) (pc0 G cA ad σ [.ref (ad 0), .int (nI (P)), .int (nI (t)), .int (nI (a)), .long (lN (w))]) (rqi (fun r => (r = nI 1 ∧ (1 ≤ a ∧ a ≤ P ∧ 1 ≤ w ∧ w ≤ b 2 t ∧ b 5 t + w ≤ b 4 t)) ∨ (r = nI 0 ∧ ¬ (1 ≤ a ∧ a ≤ P ∧ 1 ≤ w ∧ w ≤ b 2 t ∧ b 5 t + w ≤ b 4 t)))) 0 0 (fun _ => False) := by
  refine Met.ofW (cc := cX0_isAllowed) (maxL := 6) (ret := (some .boolean)) (by decide) rfl ?_
  intro p e s m args below meth c s₁ B hml hv
  obtain ⟨rfl, hP, hK⟩ := hv
  have CF : CallFix p m c cX0_isAllowed 6 s _ AW RX0 := ⟨B.exec, B.bytes, hml, findClass_of_methodNamed B.named, fun w h => atoms_spec (ws := ws_ yX0_isAllowed cX0_isAllowed 6 (some .boolean)) B.pre w (List.mem_cons_of_mem _ h)⟩
  have hr := B.returns
  have hlocks := B.notSynchronized
  have hl := lv_entry ([.ref (ad 0), .int (nI (P)), .int (nI (t)), .int (nI (a)), .long (lN (w))]) (n := 6) (Nat.le_of_ble_eq_true rfl)
  rw [lg_entry_eq]
  generalize (lg_sl ([.ref (ad 0), .int (nI (P)), .int (nI (t)), .int (nI (a)), .long (lN (w))]) ++ List.replicate (6 - (lg_sl ([.ref (ad 0), .int (nI (P)), .int (nI (t)), .int (nI (a)), .long (lN (w))])).length) Slot.unset).toArray = ls at hl ⊢
  have hl : lv_has ls 6 [(0, .ref (ad 0)), (1, .int (nI (P))), (2, .int (nI (t))), (3, .int (nI (a))), (4, .long (lN (w)))] := hl
  obtain ⟨i_sp, i_cu, i_ra, i_di, i_mo, i_pu⟩ := id hI
  have h_m := i_mo t (by omega)
  refine lv_iload_n CF.1 CF.2.1 dX0_isAllowed_0 rfl (lv_at hl 2 rfl) ?_
  refine cS_i CF (As := [.int (nI (t))]) (rest := []) (c0_isMoney l (nI (t))) lk_RX0_X0_isMoney rfl hl.1 ⟨Nat.le_of_ble_eq_true rfl, Nat.le_of_ble_eq_true rfl⟩ ⟨Nat.zero_le _, Nat.zero_le _⟩ (Nat.le_of_ble_eq_true rfl) rfl dX0_isAllowed_1 (fun r_1 hr_2 => ?_)
  have hxh_3 := nIz (n := t) (by omega)
  rcases hr_2 with ⟨rfl, -, -⟩ | ⟨rfl, h9⟩
  rotate_left
  · exact absurd h9 (by rw [hxh_3]; omega)
  rw [show (1 : Int32) = nI 1 by rfl]
  refine z_if_eq CF (tgt := 62) (nIz (by omega)) dX0_isAllowed_4 (by decide) (fun h => absurd h (by decide)) (fun _ => ?_)
  refine lv_iload_n CF.1 CF.2.1 dX0_isAllowed_7 rfl (lv_at hl 3 rfl) ?_
  refine lv_iconst (v := nI 1) CF.1 CF.2.1 dX0_isAllowed_8 (by decide) ?_
  refine z_icmp_lt CF (tgt := 62) (nIz (by omega)) (nIz (by omega)) dX0_isAllowed_9 (by decide) (fun h_6 => ?_) (fun h_7 => ?_)
  · refine lv_iconst (v := nI 0) CF.1 CF.2.1 dX0_isAllowed_62 (by decide) ?_
    exact W.zret CF.1 CF.2.1 hr rfl (fun t ht hW => ⟨_, rfl, Or.inr ⟨rfl, by omega⟩, ht⟩) (fun q hq => absurd hq List.not_mem_nil) dX0_isAllowed_63
  · refine lv_iload_n CF.1 CF.2.1 dX0_isAllowed_12 rfl (lv_at hl 3 rfl) ?_
    refine lv_iload_n CF.1 CF.2.1 dX0_isAllowed_13 rfl (lv_at hl 1 rfl) ?_
    refine z_icmp_gt CF (tgt := 62) (nIz (by omega)) (nIz (by omega)) dX0_isAllowed_14 (by decide) (fun h_8 => ?_) (fun h_9 => ?_)
    · refine lv_iconst (v := nI 0) CF.1 CF.2.1 dX0_isAllowed_62 (by decide) ?_
      exact W.zret CF.1 CF.2.1 hr rfl (fun t ht hW => ⟨_, rfl, Or.inr ⟨rfl, by omega⟩, ht⟩) (fun q hq => absurd hq List.not_mem_nil) dX0_isAllowed_63
    · refine lv_lload CF.1 CF.2.1 dX0_isAllowed_17 (lv_at hl 4 rfl) ?_
      refine lv_lconst (v := lN 1) CF.1 CF.2.1 dX0_isAllowed_19 (by decide) ?_
      refine z_lcmp_lt CF (tgt := 62) (lNz (by omega)) (lNz (by omega)) dX0_isAllowed_20 dX0_isAllowed_21 (by decide) (fun h_10 => ?_) (fun h_11 => ?_)
      · refine lv_iconst (v := nI 0) CF.1 CF.2.1 dX0_isAllowed_62 (by decide) ?_
        exact W.zret CF.1 CF.2.1 hr rfl (fun t ht hW => ⟨_, rfl, Or.inr ⟨rfl, by omega⟩, ht⟩) (fun q hq => absurd hq List.not_mem_nil) dX0_isAllowed_63
      · refine lv_lload CF.1 CF.2.1 dX0_isAllowed_24 (lv_at hl 4 rfl) ?_
        refine lv_aload_n CF.1 CF.2.1 dX0_isAllowed_26 rfl (lv_at hl 0 rfl) ?_
        refine x0_g_stocks CF hK hP dX0_isAllowed_27 ?_
        refine lv_iload_n CF.1 CF.2.1 dX0_isAllowed_30 rfl (lv_at hl 2 rfl) ?_
        refine x0_ald2 CF hK hP (i := t) (by omega) (v := (nI (b 2 (t)))) (hR.a2 (by omega)) dX0_isAllowed_31 ?_
        refine o_i2l CF (by omega) dX0_isAllowed_32 ?_
        refine z_lcmp_gt CF (tgt := 62) (lNz (by omega)) (lNz (by omega)) dX0_isAllowed_33 dX0_isAllowed_34 (by decide) (fun h_12 => ?_) (fun h_13 => ?_)
        · refine lv_iconst (v := nI 0) CF.1 CF.2.1 dX0_isAllowed_62 (by decide) ?_
          exact W.zret CF.1 CF.2.1 hr rfl (fun t ht hW => ⟨_, rfl, Or.inr ⟨rfl, by omega⟩, ht⟩) (fun q hq => absurd hq List.not_mem_nil) dX0_isAllowed_63
        · refine lv_aload_n CF.1 CF.2.1 dX0_isAllowed_37 rfl (lv_at hl 0 rfl) ?_
          refine x0_g_givenToday CF hK hP dX0_isAllowed_38 ?_
          refine lv_iload_n CF.1 CF.2.1 dX0_isAllowed_41 rfl (lv_at hl 2 rfl) ?_
          refine x0_ald5 CF hK hP (i := t) (by omega) (v := (nI (b 5 (t)))) (hR.a5 (by omega)) dX0_isAllowed_42 ?_
          refine o_i2l CF (by omega) dX0_isAllowed_43 ?_
          refine lv_lload CF.1 CF.2.1 dX0_isAllowed_44 (lv_at hl 4 rfl) ?_
          refine o_ladd CF dX0_isAllowed_46 ?_
          refine lv_aload_n CF.1 CF.2.1 dX0_isAllowed_47 rfl (lv_at hl 0 rfl) ?_
          refine x0_g_limits CF hK hP dX0_isAllowed_48 ?_
          refine lv_iload_n CF.1 CF.2.1 dX0_isAllowed_51 rfl (lv_at hl 2 rfl) ?_
          refine x0_ald4 CF hK hP (i := t) (by omega) (v := (nI (b 4 (t)))) (hR.a4 (by omega)) dX0_isAllowed_52 ?_
          refine o_i2l CF (by omega) dX0_isAllowed_53 ?_
          refine z_lcmp_gt CF (tgt := 62) (lNz (by omega)) (lNz (by omega)) dX0_isAllowed_54 dX0_isAllowed_55 (by decide) (fun h_14 => ?_) (fun h_15 => ?_)
          · refine lv_iconst (v := nI 0) CF.1 CF.2.1 dX0_isAllowed_62 (by decide) ?_
            exact W.zret CF.1 CF.2.1 hr rfl (fun t ht hW => ⟨_, rfl, Or.inr ⟨rfl, by omega⟩, ht⟩) (fun q hq => absurd hq List.not_mem_nil) dX0_isAllowed_63
          · refine lv_iconst (v := nI 1) CF.1 CF.2.1 dX0_isAllowed_58 (by decide) ?_
            refine lv_goto (tgt := 63) CF.1 CF.2.1 dX0_isAllowed_59 (by decide) ?_
            exact W.zret CF.1 CF.2.1 hr rfl (fun t ht hW => ⟨_, rfl, Or.inl ⟨rfl, by omega⟩, ht⟩) (fun q hq => absurd hq List.not_mem_nil) dX0_isAllowed_63
set_option maxHeartbeats 4000000 in
set_option maxRecDepth 100000 in
theorem c0_keepDust (l : Launch) {G : va_G} {cA : ClassId} {ad : Nat → Nat} {σ : RS} (hj : inj8 ad) {b : BS} (hR : Rc σ b) {t x : Nat} (ht : t < 5) (hx : x < 10000) (hs2 : b 2 t ≤ 999999) (hs3 : b 3 t ≤ 9999) : Met l yX0_keepDust (ws_ yX0_keepDust cX0_keepDust 4 none) (rmk 2 0 0) (pc0 G cA ad σ [.ref (ad 0), .int (nI (t)), .int (nI (x))]) (va_Qv (fun σ' : RS => Rc σ' (kd b t x) ∧ Sm σ σ') (fun σ' t => va_P G vwCl (w0 ad cA σ') t.heap) (own8 ad)) 0 0 (own8 ad) := by
  refine Met.ofW (cc := cX0_keepDust) (maxL := 4) (ret := none) (by decide) rfl ?_
  intro p e s m args below meth c s₁ B hml hv
  obtain ⟨rfl, hP, hK⟩ := hv
  have CF : CallFix p m c cX0_keepDust 4 s _ AW RX0 := ⟨B.exec, B.bytes, hml, findClass_of_methodNamed B.named, fun w h => atoms_spec (ws := ws_ yX0_keepDust cX0_keepDust 4 none) B.pre w (List.mem_cons_of_mem _ h)⟩
  have hr := B.returns
  have hlocks := B.notSynchronized
  have hl := lv_entry ([.ref (ad 0), .int (nI (t)), .int (nI (x))]) (n := 4) (Nat.le_of_ble_eq_true rfl)
  rw [lg_entry_eq]
  generalize (lg_sl ([.ref (ad 0), .int (nI (t)), .int (nI (x))]) ++ List.replicate (4 - (lg_sl ([.ref (ad 0), .int (nI (t)), .int (nI (x))])).length) Slot.unset).toArray = ls at hl ⊢
  have hl : lv_has ls 4 [(0, .ref (ad 0)), (1, .int (nI (t))), (2, .int (nI (x)))] := hl
  have hD : va_D (own8 ad) (w0 ad cA σ) := w0_D hj (fun _ h => h)
  have hS : va_S (own8 ad) s.heap s.heap [] := va_S.rf
  refine lv_iload_n CF.1 CF.2.1 dX0_keepDust_0 rfl (lv_at hl 1 rfl) ?_
  refine cS_i CF (As := [.int (nI (t))]) (rest := []) (c0_isMoney l (nI (t))) lk_RX0_X0_isMoney rfl hl.1 ⟨Nat.le_of_ble_eq_true rfl, Nat.le_of_ble_eq_true rfl⟩ ⟨Nat.zero_le _, Nat.zero_le _⟩ (Nat.le_of_ble_eq_true rfl) rfl dX0_keepDust_1 (fun r_1 hr_2 => ?_)
  have hxh_3 := nIz (n := t) (by omega)
  rcases hr_2 with ⟨rfl, -, -⟩ | ⟨rfl, h9⟩
  rotate_left
  · exact absurd h9 (by rw [hxh_3]; omega)
  rw [show (1 : Int32) = nI 1 by rfl]
  refine z_if_ne CF (tgt := 8) (nIz (by omega)) dX0_keepDust_4 (by decide) (fun _ => ?_) (fun h => absurd h (by decide))
  refine lv_aload_n CF.1 CF.2.1 dX0_keepDust_8 rfl (lv_at hl 0 rfl) ?_
  refine x0_g_dusts CF hK hP dX0_keepDust_9 ?_
  refine lv_iload_n CF.1 CF.2.1 dX0_keepDust_12 rfl (lv_at hl 1 rfl) ?_
  refine x0_ald3 CF hK hP (i := t) (by omega) (v := (nI (b 3 (t)))) (hR.a3 (by omega)) dX0_keepDust_13 ?_
  refine lv_iload_n CF.1 CF.2.1 dX0_keepDust_14 rfl (lv_at hl 2 rfl) ?_
  refine o_iadd CF dX0_keepDust_15 ?_
  refine lv_istore_n (lv' := [(3, .int (nI (b 3 (t) + x))), (0, .ref (ad 0)), (1, .int (nI (t))), (2, .int (nI (x)))]) CF.1 CF.2.1 dX0_keepDust_16 rfl hl (by decide) rfl (fun ls hl => ?_)
  refine lv_aload_n CF.1 CF.2.1 dX0_keepDust_17 rfl (lv_at hl 1 rfl) ?_
  refine x0_g_stocks CF hK hP dX0_keepDust_18 ?_
  refine lv_iload_n CF.1 CF.2.1 dX0_keepDust_21 rfl (lv_at hl 2 rfl) ?_
  refine lv_aload_n CF.1 CF.2.1 dX0_keepDust_22 rfl (lv_at hl 1 rfl) ?_
  refine x0_g_stocks CF hK hP dX0_keepDust_23 ?_
  refine lv_iload_n CF.1 CF.2.1 dX0_keepDust_26 rfl (lv_at hl 2 rfl) ?_
  refine x0_ald2 CF hK hP (i := t) (by omega) (v := (nI (b 2 (t)))) (hR.a2 (by omega)) dX0_keepDust_27 ?_
  refine lv_iload_n CF.1 CF.2.1 dX0_keepDust_28 rfl (lv_at hl 0 rfl) ?_
  refine lv_sipush (v := nI 10000) CF.1 CF.2.1 dX0_keepDust_29 (by decide) ?_
  refine lv_idiv CF.1 CF.2.1 dX0_keepDust_32 (ine (by omega) (by omega)) ?_
  refine tpi (pk_div (by omega) (by omega) (by omega)) ?_
  refine o_iadd CF dX0_keepDust_33 ?_
  refine o_i2l CF (by omega) dX0_keepDust_34 ?_
  refine cS_i CF (As := [.long (lN (b 2 (t) + ((b 3 (t) + x) / (10000))))]) (rest := [.int (nI (t)), .ref (ad 2)]) (c0_heldAtMost l (v := b 2 (t) + ((b 3 (t) + x) / (10000))) (by omega)) lk_RX0_X0_heldAtMost rfl hl.1 ⟨Nat.le_of_ble_eq_true rfl, Nat.le_of_ble_eq_true rfl⟩ ⟨Nat.zero_le _, Nat.zero_le _⟩ (Nat.le_of_ble_eq_true rfl) rfl dX0_keepDust_35 (fun r_6 hr_7 => ?_)
  subst hr_7
  refine x0_ast2 CF hK hP hD hS (i := t) (by omega) dX0_keepDust_38 (fun σ8 H8 locs hσ8 hP8 hD8 hS8 => ?_)
  have hR8 : Rc σ8 (upN (b) 2 (t) (min (b 2 (t) + ((b 3 (t) + x) / (10000))) 999999)) := by rw [hσ8]; exact Rc_up hR 2 (t) (min (b 2 (t) + ((b 3 (t) + x) / (10000))) 999999)
  have hM8 : Sm σ σ8 := by rw [hσ8]; exact Sm_up Sm_rf ⟨by decide, Or.inl (by decide)⟩
  refine lv_aload_n CF.1 CF.2.1 dX0_keepDust_39 rfl (lv_at hl 1 rfl) ?_
  refine x0_g_dusts CF hK hP8 dX0_keepDust_40 ?_
  refine lv_iload_n CF.1 CF.2.1 dX0_keepDust_43 rfl (lv_at hl 2 rfl) ?_
  refine lv_iload_n CF.1 CF.2.1 dX0_keepDust_44 rfl (lv_at hl 0 rfl) ?_
  refine lv_sipush (v := nI 10000) CF.1 CF.2.1 dX0_keepDust_45 (by decide) ?_
  refine lv_irem CF.1 CF.2.1 dX0_keepDust_48 (ine (by omega) (by omega)) ?_
  refine tpi (pk_rem (by omega) (by omega) (by omega)) ?_
  refine x0_ast3 CF hK hP8 hD8 hS8 (i := t) (by omega) dX0_keepDust_49 (fun σ9 H9 locs hσ9 hP9 hD9 hS9 => ?_)
  have hR9 : Rc σ9 (upN (upN (b) 2 (t) (min (b 2 (t) + ((b 3 (t) + x) / (10000))) 999999)) 3 (t) ((b 3 (t) + x) % (10000))) := by rw [hσ9]; exact Rc_up hR8 3 (t) ((b 3 (t) + x) % (10000))
  have hM9 : Sm σ σ9 := by rw [hσ9]; exact Sm_up hM8 ⟨by decide, Or.inl (by decide)⟩
  exact W.vret CF.1 CF.2.1 hr (fun t ht hW => ⟨⟨σ9, rfl, ⟨kd_rc hR9 rfl rfl, hM9⟩, by show va_P G vwCl (w0 ad cA σ9) t.heap; rw [ht]; exact hP9⟩, hS9.F ht⟩) hS9.2.2 dX0_keepDust_50
set_option maxHeartbeats 4000000 in
set_option maxRecDepth 100000 in
theorem c0_changeIfPossible (l : Launch) {G : va_G} {cA : ClassId} {ad : Nat → Nat} {σ : RS} (hj : inj8 ad) {b : BS} (hI : InvC b) (hR : Rc σ b) {u f t a k : Nat} (hu : u < b 0 2) (hf : f < 5) (ht : t < 5) (ha : a < 2147483648) (hk0 : 1 ≤ k) (hk : k < 2147483648) : Met l yX0_changeIfPossible (ws_ yX0_changeIfPossible cX0_changeIfPossible 12 (some .int)) (rmk 4 0 0) (pc0 G cA ad σ [.ref (ad 0), .int (nI (u)), .int (nI (f)), .int (nI (t)), .int (nI (a)), .int (nI (k))]) (va_Qi (fun (r : Int32) (σ' : RS) => (okN b u f t a k ∧ r = nI (gv b f t a) ∧ Rc σ' (dc b u f t a) ∧ Sm σ σ') ∨ (¬ okN b u f t a k ∧ r = nI 0 ∧ σ' = σ)) (fun σ' t => va_P G vwCl (w0 ad cA σ') t.heap) (own8 ad)) 0 0 (own8 ad) := by
  refine Met.ofW (cc := cX0_changeIfPossible) (maxL := 12) (ret := (some .int)) (by decide) rfl ?_
  intro p e s m args below meth c s₁ B hml hv
  obtain ⟨rfl, hP, hK⟩ := hv
  have CF : CallFix p m c cX0_changeIfPossible 12 s _ AW RX0 := ⟨B.exec, B.bytes, hml, findClass_of_methodNamed B.named, fun w h => atoms_spec (ws := ws_ yX0_changeIfPossible cX0_changeIfPossible 12 (some .int)) B.pre w (List.mem_cons_of_mem _ h)⟩
  have hr := B.returns
  have hlocks := B.notSynchronized
  have hl := lv_entry ([.ref (ad 0), .int (nI (u)), .int (nI (f)), .int (nI (t)), .int (nI (a)), .int (nI (k))]) (n := 12) (Nat.le_of_ble_eq_true rfl)
  rw [lg_entry_eq]
  generalize (lg_sl ([.ref (ad 0), .int (nI (u)), .int (nI (f)), .int (nI (t)), .int (nI (a)), .int (nI (k))]) ++ List.replicate (12 - (lg_sl ([.ref (ad 0), .int (nI (u)), .int (nI (f)), .int (nI (t)), .int (nI (a)), .int (nI (k))])).length) Slot.unset).toArray = ls at hl ⊢
  have hl : lv_has ls 12 [(0, .ref (ad 0)), (1, .int (nI (u))), (2, .int (nI (f))), (3, .int (nI (t))), (4, .int (nI (a))), (5, .int (nI (k)))] := hl
  have hD : va_D (own8 ad) (w0 ad cA σ) := w0_D hj (fun _ h => h)
  have hS : va_S (own8 ad) s.heap s.heap [] := va_S.rf
  obtain ⟨i_sp, i_cu, i_ra, i_di, i_mo, i_pu⟩ := id hI
  have h_mf := i_mo f (by omega)
  have h_mt := i_mo t (by omega)
  have h_pf := i_pu (u * 5 + f) (by omega)
  have h_pt := i_pu (u * 5 + t) (by omega)
  refine lv_aload_n CF.1 CF.2.1 dX0_changeIfPossible_0 rfl (lv_at hl 0 rfl) ?_
  refine lv_iload_n CF.1 CF.2.1 dX0_changeIfPossible_1 rfl (lv_at hl 1 rfl) ?_
  refine c0_i CF hK hP (As := [.int (nI (u))]) (rest := []) (c0_isCustomer l hI hR (nI (u))) rfl lk_RX0_X0_isCustomer rfl hl.1 ⟨Nat.le_of_ble_eq_true rfl, Nat.le_of_ble_eq_true rfl⟩ ⟨Nat.zero_le _, Nat.zero_le _⟩ (Nat.le_of_ble_eq_true rfl) rfl dX0_changeIfPossible_2 (fun r_1 hr_2 => ?_)
  have hxh_3 := nIz (n := u) (by omega)
  rcases hr_2 with ⟨rfl, -, -⟩ | ⟨rfl, h9⟩
  rotate_left
  · exact absurd h9 (by rw [hxh_3]; omega)
  rw [show (1 : Int32) = nI 1 by rfl]
  refine z_if_eq CF (tgt := 27) (nIz (by omega)) dX0_changeIfPossible_5 (by decide) (fun h => absurd h (by decide)) (fun _ => ?_)
  refine lv_iload_n CF.1 CF.2.1 dX0_changeIfPossible_8 rfl (lv_at hl 2 rfl) ?_
  refine cS_i CF (As := [.int (nI (f))]) (rest := []) (c0_isMoney l (nI (f))) lk_RX0_X0_isMoney rfl hl.1 ⟨Nat.le_of_ble_eq_true rfl, Nat.le_of_ble_eq_true rfl⟩ ⟨Nat.zero_le _, Nat.zero_le _⟩ (Nat.le_of_ble_eq_true rfl) rfl dX0_changeIfPossible_9 (fun r_6 hr_7 => ?_)
  have hxh_8 := nIz (n := f) (by omega)
  rcases hr_7 with ⟨rfl, -, -⟩ | ⟨rfl, h9⟩
  rotate_left
  · exact absurd h9 (by rw [hxh_8]; omega)
  rw [show (1 : Int32) = nI 1 by rfl]
  refine z_if_eq CF (tgt := 27) (nIz (by omega)) dX0_changeIfPossible_12 (by decide) (fun h => absurd h (by decide)) (fun _ => ?_)
  refine lv_iload_n CF.1 CF.2.1 dX0_changeIfPossible_15 rfl (lv_at hl 3 rfl) ?_
  refine cS_i CF (As := [.int (nI (t))]) (rest := []) (c0_isMoney l (nI (t))) lk_RX0_X0_isMoney rfl hl.1 ⟨Nat.le_of_ble_eq_true rfl, Nat.le_of_ble_eq_true rfl⟩ ⟨Nat.zero_le _, Nat.zero_le _⟩ (Nat.le_of_ble_eq_true rfl) rfl dX0_changeIfPossible_16 (fun r_11 hr_12 => ?_)
  have hxh_13 := nIz (n := t) (by omega)
  rcases hr_12 with ⟨rfl, -, -⟩ | ⟨rfl, h9⟩
  rotate_left
  · exact absurd h9 (by rw [hxh_13]; omega)
  rw [show (1 : Int32) = nI 1 by rfl]
  refine z_if_eq CF (tgt := 27) (nIz (by omega)) dX0_changeIfPossible_19 (by decide) (fun h => absurd h (by decide)) (fun _ => ?_)
  refine lv_iload_n CF.1 CF.2.1 dX0_changeIfPossible_22 rfl (lv_at hl 2 rfl) ?_
  refine lv_iload_n CF.1 CF.2.1 dX0_changeIfPossible_23 rfl (lv_at hl 3 rfl) ?_
  refine z_icmp_ne CF (tgt := 29) (nIz (by omega)) (nIz (by omega)) dX0_changeIfPossible_24 (by decide) (fun h_16 => ?_) (fun h_17 => ?_)
  · refine lv_aload_n CF.1 CF.2.1 dX0_changeIfPossible_29 rfl (lv_at hl 0 rfl) ?_
    refine lv_iload_n CF.1 CF.2.1 dX0_changeIfPossible_30 rfl (lv_at hl 2 rfl) ?_
    refine lv_iload_n CF.1 CF.2.1 dX0_changeIfPossible_31 rfl (lv_at hl 3 rfl) ?_
    refine lv_iload CF.1 CF.2.1 dX0_changeIfPossible_32 (lv_at hl 4 rfl) ?_
    refine o_i2l CF (by omega) dX0_changeIfPossible_34 ?_
    refine c0_l CF hK hP (As := [.int (nI (f)), .int (nI (t)), .long (lN (a))]) (rest := []) (c0_tenthousandths l hI hR (f := f) (t := t) (by omega) (by omega) (lN (a))) rfl lk_RX0_X0_tenthousandths rfl hl.1 ⟨Nat.le_of_ble_eq_true rfl, Nat.le_of_ble_eq_true rfl⟩ ⟨Nat.zero_le _, Nat.zero_le _⟩ (Nat.le_of_ble_eq_true rfl) rfl dX0_changeIfPossible_35 (fun r_18 hr_19 => ?_)
    subst hr_19
    refine tpl (show lN (a) * lN (b 1 (f * 5 + t)) * lN (100 - b 0 1) = lN (pr b (f) (t) (a)) from by rw [lN_mul, lN_mul]; rfl) ?_
    have hp_20 := pr_le hI (f := f) (t := t) (a := a) (A := 2147483647) (by omega) (by omega) (by omega)
    refine lv_lstore (lv' := [(6, .long (lN (pr b (f) (t) (a)))), (0, .ref (ad 0)), (1, .int (nI (u))), (2, .int (nI (f))), (3, .int (nI (t))), (4, .int (nI (a))), (5, .int (nI (k)))]) CF.1 CF.2.1 dX0_changeIfPossible_38 hl (by decide) rfl (fun ls hl => ?_)
    refine lv_lload CF.1 CF.2.1 dX0_changeIfPossible_40 (lv_at hl 0 rfl) ?_
    refine cS_l CF (As := [.long (lN (pr b (f) (t) (a)))]) (rest := []) (c0_wholeOnes l (lN (pr b (f) (t) (a)))) lk_RX0_X0_wholeOnes rfl hl.1 ⟨Nat.le_of_ble_eq_true rfl, Nat.le_of_ble_eq_true rfl⟩ ⟨Nat.zero_le _, Nat.zero_le _⟩ (Nat.le_of_ble_eq_true rfl) rfl dX0_changeIfPossible_42 (fun r_21 hr_22 => ?_)
    subst hr_22
    refine tpl (y := lN (gv b (f) (t) (a))) (pk_lDiv (a := pr b (f) (t) (a)) (b := 10000) (by omega) (by omega) (by omega)) ?_
    have hg_23 : gv b (f) (t) (a) = pr b (f) (t) (a) / 10000 := rfl
    refine lv_lstore (lv' := [(8, .long (lN (gv b (f) (t) (a)))), (6, .long (lN (pr b (f) (t) (a)))), (0, .ref (ad 0)), (1, .int (nI (u))), (2, .int (nI (f))), (3, .int (nI (t))), (4, .int (nI (a))), (5, .int (nI (k)))]) CF.1 CF.2.1 dX0_changeIfPossible_45 hl (by decide) rfl (fun ls hl => ?_)
    refine lv_lload CF.1 CF.2.1 dX0_changeIfPossible_47 (lv_at hl 0 rfl) ?_
    refine lv_iload CF.1 CF.2.1 dX0_changeIfPossible_49 (lv_at hl 7 rfl) ?_
    refine o_i2l CF (by omega) dX0_changeIfPossible_51 ?_
    refine z_lcmp_lt CF (tgt := 74) (lNz (by omega)) (lNz (by omega)) dX0_changeIfPossible_52 dX0_changeIfPossible_53 (by decide) (fun h_24 => ?_) (fun h_25 => ?_)
    · refine lv_iconst (v := nI 0) CF.1 CF.2.1 dX0_changeIfPossible_74 (by decide) ?_
      exact W.iret CF.1 CF.2.1 hr (fun t ht hW => ⟨⟨_, σ, rfl, Or.inr ⟨by unfold okN; omega, rfl, rfl⟩, by show va_P G vwCl (w0 ad cA σ) t.heap; rw [ht]; exact hP⟩, hS.F ht⟩) hS.2.2 dX0_changeIfPossible_75
    · refine lv_aload_n CF.1 CF.2.1 dX0_changeIfPossible_56 rfl (lv_at hl 2 rfl) ?_
      refine lv_aload_n CF.1 CF.2.1 dX0_changeIfPossible_57 rfl (lv_at hl 2 rfl) ?_
      refine lv_iload_n CF.1 CF.2.1 dX0_changeIfPossible_58 rfl (lv_at hl 3 rfl) ?_
      refine lv_iload_n CF.1 CF.2.1 dX0_changeIfPossible_59 rfl (lv_at hl 4 rfl) ?_
      refine c0_i CF hK hP (As := [.int (nI (u)), .int (nI (f))]) (rest := [.ref (ad 0)]) (c0_inPurse l hI hR (u := u) (t := f) (by omega) (by omega)) rfl lk_RX0_X0_inPurse rfl hl.1 ⟨Nat.le_of_ble_eq_true rfl, Nat.le_of_ble_eq_true rfl⟩ ⟨Nat.zero_le _, Nat.zero_le _⟩ (Nat.le_of_ble_eq_true rfl) rfl dX0_changeIfPossible_60 (fun r_26 hr_27 => ?_)
      subst hr_27
      refine lv_iload_n CF.1 CF.2.1 dX0_changeIfPossible_63 rfl (lv_at hl 5 rfl) ?_
      refine lv_iload CF.1 CF.2.1 dX0_changeIfPossible_64 (lv_at hl 6 rfl) ?_
      refine lv_lload CF.1 CF.2.1 dX0_changeIfPossible_66 (lv_at hl 0 rfl) ?_
      refine c0_i CF hK hP (As := [.int (nI (b 6 (u * 5 + f))), .int (nI (t)), .int (nI (a)), .long (lN (gv b (f) (t) (a)))]) (rest := []) (c0_isAllowed l hI hR (P := b 6 (u * 5 + f)) (t := t) (a := a) (w := gv b (f) (t) (a)) (by omega) (by omega) (by omega) (by omega)) rfl lk_RX0_X0_isAllowed rfl hl.1 ⟨Nat.le_of_ble_eq_true rfl, Nat.le_of_ble_eq_true rfl⟩ ⟨Nat.zero_le _, Nat.zero_le _⟩ (Nat.le_of_ble_eq_true rfl) rfl dX0_changeIfPossible_68 (fun r_28 hr_29 => ?_)
      rcases hr_29 with ⟨rfl, hr_29a⟩ | ⟨rfl, hr_29n⟩
      · refine z_if_ne CF (tgt := 76) (nIz (by omega)) dX0_changeIfPossible_71 (by decide) (fun _ => ?_) (fun h => absurd h (by decide))
        refine lv_iload_n CF.1 CF.2.1 dX0_changeIfPossible_76 rfl (lv_at hl 3 rfl) ?_
        refine lv_iconst (v := nI 5) CF.1 CF.2.1 dX0_changeIfPossible_77 (by decide) ?_
        refine o_imul CF dX0_changeIfPossible_78 ?_
        refine lv_iload_n CF.1 CF.2.1 dX0_changeIfPossible_79 rfl (lv_at hl 4 rfl) ?_
        refine o_iadd CF dX0_changeIfPossible_80 ?_
        refine lv_istore (lv' := [(10, .int (nI (u * 5 + f))), (8, .long (lN (gv b (f) (t) (a)))), (6, .long (lN (pr b (f) (t) (a)))), (0, .ref (ad 0)), (1, .int (nI (u))), (2, .int (nI (f))), (3, .int (nI (t))), (4, .int (nI (a))), (5, .int (nI (k)))]) CF.1 CF.2.1 dX0_changeIfPossible_81 hl (by decide) rfl (fun ls hl => ?_)
        refine lv_iload_n CF.1 CF.2.1 dX0_changeIfPossible_83 rfl (lv_at hl 4 rfl) ?_
        refine lv_iconst (v := nI 5) CF.1 CF.2.1 dX0_changeIfPossible_84 (by decide) ?_
        refine o_imul CF dX0_changeIfPossible_85 ?_
        refine lv_iload_n CF.1 CF.2.1 dX0_changeIfPossible_86 rfl (lv_at hl 6 rfl) ?_
        refine o_iadd CF dX0_changeIfPossible_87 ?_
        refine lv_istore (lv' := [(11, .int (nI (u * 5 + t))), (10, .int (nI (u * 5 + f))), (8, .long (lN (gv b (f) (t) (a)))), (6, .long (lN (pr b (f) (t) (a)))), (0, .ref (ad 0)), (1, .int (nI (u))), (2, .int (nI (f))), (3, .int (nI (t))), (4, .int (nI (a))), (5, .int (nI (k)))]) CF.1 CF.2.1 dX0_changeIfPossible_88 hl (by decide) rfl (fun ls hl => ?_)
        refine lv_aload_n CF.1 CF.2.1 dX0_changeIfPossible_90 rfl (lv_at hl 4 rfl) ?_
        refine x0_g_purses CF hK hP dX0_changeIfPossible_91 ?_
        refine lv_iload CF.1 CF.2.1 dX0_changeIfPossible_94 (lv_at hl 1 rfl) ?_
        refine lv_dup2_11 CF.1 CF.2.1 dX0_changeIfPossible_96 rfl rfl ?_
        refine x0_ald6 CF hK hP (i := u * 5 + f) (by omega) (v := (nI (b 6 (u * 5 + f)))) (hR.a6 (by omega)) dX0_changeIfPossible_97 ?_
        refine lv_iload CF.1 CF.2.1 dX0_changeIfPossible_98 (lv_at hl 8 rfl) ?_
        refine o_isub CF (by omega) dX0_changeIfPossible_100 ?_
        refine x0_ast6 CF hK hP hD hS (i := u * 5 + f) (by omega) dX0_changeIfPossible_101 (fun σ32 H32 locs hσ32 hP32 hD32 hS32 => ?_)
        have hR32 : Rc σ32 (upN (b) 6 (u * 5 + f) ((b 6 (u * 5 + f)) - a)) := by rw [hσ32]; exact Rc_up hR 6 (u * 5 + f) ((b 6 (u * 5 + f)) - a)
        have hM32 : Sm σ σ32 := by rw [hσ32]; exact Sm_up Sm_rf ⟨by decide, Or.inl (by decide)⟩
        refine lv_aload_n CF.1 CF.2.1 dX0_changeIfPossible_102 rfl (lv_at hl 4 rfl) ?_
        refine x0_g_purses CF hK hP32 dX0_changeIfPossible_103 ?_
        refine lv_iload CF.1 CF.2.1 dX0_changeIfPossible_106 (lv_at hl 0 rfl) ?_
        refine lv_aload_n CF.1 CF.2.1 dX0_changeIfPossible_108 rfl (lv_at hl 4 rfl) ?_
        refine x0_g_purses CF hK hP32 dX0_changeIfPossible_109 ?_
        refine lv_iload CF.1 CF.2.1 dX0_changeIfPossible_112 (lv_at hl 0 rfl) ?_
        refine x0_ald6 CF hK hP32 (i := u * 5 + t) (by omega) (v := (nI (b 6 (u * 5 + t)))) (by rw [hσ32, up_i (by omega)]; exact hR.a6 (by omega)) dX0_changeIfPossible_114 ?_
        refine o_i2l CF (by omega) dX0_changeIfPossible_115 ?_
        refine lv_lload CF.1 CF.2.1 dX0_changeIfPossible_116 (lv_at hl 2 rfl) ?_
        refine o_ladd CF dX0_changeIfPossible_118 ?_
        refine cS_i CF (As := [.long (lN ((b 6 (u * 5 + t)) + (gv b (f) (t) (a))))]) (rest := [.int (nI (u * 5 + t)), .ref (ad 6)]) (c0_heldAtMost l (v := (b 6 (u * 5 + t)) + (gv b (f) (t) (a))) (by omega)) lk_RX0_X0_heldAtMost rfl hl.1 ⟨Nat.le_of_ble_eq_true rfl, Nat.le_of_ble_eq_true rfl⟩ ⟨Nat.zero_le _, Nat.zero_le _⟩ (Nat.le_of_ble_eq_true rfl) rfl dX0_changeIfPossible_119 (fun r_33 hr_34 => ?_)
        subst hr_34
        refine x0_ast6 CF hK hP32 hD32 hS32 (i := u * 5 + t) (by omega) dX0_changeIfPossible_122 (fun σ35 H35 locs hσ35 hP35 hD35 hS35 => ?_)
        have hR35 : Rc σ35 (upN (upN (b) 6 (u * 5 + f) ((b 6 (u * 5 + f)) - a)) 6 (u * 5 + t) (min ((b 6 (u * 5 + t)) + (gv b (f) (t) (a))) 999999)) := by rw [hσ35]; exact Rc_up hR32 6 (u * 5 + t) (min ((b 6 (u * 5 + t)) + (gv b (f) (t) (a))) 999999)
        have hM35 : Sm σ σ35 := by rw [hσ35]; exact Sm_up hM32 ⟨by decide, Or.inl (by decide)⟩
        refine lv_aload_n CF.1 CF.2.1 dX0_changeIfPossible_123 rfl (lv_at hl 4 rfl) ?_
        refine x0_g_stocks CF hK hP35 dX0_changeIfPossible_124 ?_
        refine lv_iload_n CF.1 CF.2.1 dX0_changeIfPossible_127 rfl (lv_at hl 6 rfl) ?_
        refine lv_aload_n CF.1 CF.2.1 dX0_changeIfPossible_128 rfl (lv_at hl 4 rfl) ?_
        refine x0_g_stocks CF hK hP35 dX0_changeIfPossible_129 ?_
        refine lv_iload_n CF.1 CF.2.1 dX0_changeIfPossible_132 rfl (lv_at hl 6 rfl) ?_
        refine x0_ald2 CF hK hP35 (i := f) (by omega) (v := (nI (b 2 (f)))) (by rw [hσ35, up_k (by decide), hσ32, up_k (by decide)]; exact hR.a2 (by omega)) dX0_changeIfPossible_133 ?_
        refine o_i2l CF (by omega) dX0_changeIfPossible_134 ?_
        refine lv_iload CF.1 CF.2.1 dX0_changeIfPossible_135 (lv_at hl 8 rfl) ?_
        refine o_i2l CF (by omega) dX0_changeIfPossible_137 ?_
        refine o_ladd CF dX0_changeIfPossible_138 ?_
        refine cS_i CF (As := [.long (lN ((b 2 (f)) + (a)))]) (rest := [.int (nI (f)), .ref (ad 2)]) (c0_heldAtMost l (v := (b 2 (f)) + (a)) (by omega)) lk_RX0_X0_heldAtMost rfl hl.1 ⟨Nat.le_of_ble_eq_true rfl, Nat.le_of_ble_eq_true rfl⟩ ⟨Nat.zero_le _, Nat.zero_le _⟩ (Nat.le_of_ble_eq_true rfl) rfl dX0_changeIfPossible_139 (fun r_36 hr_37 => ?_)
        subst hr_37
        refine x0_ast2 CF hK hP35 hD35 hS35 (i := f) (by omega) dX0_changeIfPossible_142 (fun σ38 H38 locs hσ38 hP38 hD38 hS38 => ?_)
        have hR38 : Rc σ38 (upN (upN (upN (b) 6 (u * 5 + f) ((b 6 (u * 5 + f)) - a)) 6 (u * 5 + t) (min ((b 6 (u * 5 + t)) + (gv b (f) (t) (a))) 999999)) 2 (f) (min ((b 2 (f)) + (a)) 999999)) := by rw [hσ38]; exact Rc_up hR35 2 (f) (min ((b 2 (f)) + (a)) 999999)
        have hM38 : Sm σ σ38 := by rw [hσ38]; exact Sm_up hM35 ⟨by decide, Or.inl (by decide)⟩
        refine lv_aload_n CF.1 CF.2.1 dX0_changeIfPossible_143 rfl (lv_at hl 4 rfl) ?_
        refine x0_g_stocks CF hK hP38 dX0_changeIfPossible_144 ?_
        refine lv_iload_n CF.1 CF.2.1 dX0_changeIfPossible_147 rfl (lv_at hl 7 rfl) ?_
        refine lv_dup2_11 CF.1 CF.2.1 dX0_changeIfPossible_148 rfl rfl ?_
        refine x0_ald2 CF hK hP38 (i := t) (by omega) (v := (nI (b 2 (t)))) (by rw [hσ38, up_i (by omega), hσ35, up_k (by decide), hσ32, up_k (by decide)]; exact hR.a2 (by omega)) dX0_changeIfPossible_149 ?_
        refine lv_lload CF.1 CF.2.1 dX0_changeIfPossible_150 (lv_at hl 2 rfl) ?_
        refine o_l2i CF dX0_changeIfPossible_152 ?_
        refine o_isub CF (by omega) dX0_changeIfPossible_153 ?_
        refine x0_ast2 CF hK hP38 hD38 hS38 (i := t) (by omega) dX0_changeIfPossible_154 (fun σ39 H39 locs hσ39 hP39 hD39 hS39 => ?_)
        have hR39 : Rc σ39 (upN (upN (upN (upN (b) 6 (u * 5 + f) ((b 6 (u * 5 + f)) - a)) 6 (u * 5 + t) (min ((b 6 (u * 5 + t)) + (gv b (f) (t) (a))) 999999)) 2 (f) (min ((b 2 (f)) + (a)) 999999)) 2 (t) ((b 2 (t)) - (gv b (f) (t) (a)))) := by rw [hσ39]; exact Rc_up hR38 2 (t) ((b 2 (t)) - (gv b (f) (t) (a)))
        have hM39 : Sm σ σ39 := by rw [hσ39]; exact Sm_up hM38 ⟨by decide, Or.inl (by decide)⟩
        refine lv_aload_n CF.1 CF.2.1 dX0_changeIfPossible_155 rfl (lv_at hl 4 rfl) ?_
        refine x0_g_givenToday CF hK hP39 dX0_changeIfPossible_156 ?_
        refine lv_iload_n CF.1 CF.2.1 dX0_changeIfPossible_159 rfl (lv_at hl 7 rfl) ?_
        refine lv_dup2_11 CF.1 CF.2.1 dX0_changeIfPossible_160 rfl rfl ?_
        refine x0_ald5 CF hK hP39 (i := t) (by omega) (v := (nI (b 5 (t)))) (by rw [hσ39, up_k (by decide), hσ38, up_k (by decide), hσ35, up_k (by decide), hσ32, up_k (by decide)]; exact hR.a5 (by omega)) dX0_changeIfPossible_161 ?_
        refine lv_lload CF.1 CF.2.1 dX0_changeIfPossible_162 (lv_at hl 2 rfl) ?_
        refine o_l2i CF dX0_changeIfPossible_164 ?_
        refine o_iadd CF dX0_changeIfPossible_165 ?_
        refine x0_ast5 CF hK hP39 hD39 hS39 (i := t) (by omega) dX0_changeIfPossible_166 (fun σ40 H40 locs hσ40 hP40 hD40 hS40 => ?_)
        have hR40 : Rc σ40 (upN (upN (upN (upN (upN (b) 6 (u * 5 + f) ((b 6 (u * 5 + f)) - a)) 6 (u * 5 + t) (min ((b 6 (u * 5 + t)) + (gv b (f) (t) (a))) 999999)) 2 (f) (min ((b 2 (f)) + (a)) 999999)) 2 (t) ((b 2 (t)) - (gv b (f) (t) (a)))) 5 (t) (b 5 (t) + (gv b (f) (t) (a)))) := by rw [hσ40]; exact Rc_up hR39 5 (t) (b 5 (t) + (gv b (f) (t) (a)))
        have hM40 : Sm σ σ40 := by rw [hσ40]; exact Sm_up hM39 ⟨by decide, Or.inl (by decide)⟩
        refine lv_aload_n CF.1 CF.2.1 dX0_changeIfPossible_167 rfl (lv_at hl 4 rfl) ?_
        refine lv_dup CF.1 CF.2.1 dX0_changeIfPossible_168 rfl ?_
        refine x0_g_changesMade CF hK hP40 (v := (nI (b 0 4))) (by rw [hσ40, up_k (by decide), hσ39, up_k (by decide), hσ38, up_k (by decide), hσ35, up_k (by decide), hσ32, up_k (by decide)]; exact hR.2.2.2.1) dX0_changeIfPossible_169 ?_
        refine lv_iconst (v := nI 1) CF.1 CF.2.1 dX0_changeIfPossible_172 (by decide) ?_
        refine o_iadd CF dX0_changeIfPossible_173 ?_
        refine x0_p_changesMade CF hK hP40 hD40 hS40 dX0_changeIfPossible_174 (fun σ41 H41 locs hσ41 hP41 hD41 hS41 => ?_)
        have hR41 : Rc σ41 (upN (upN (upN (upN (upN (upN (b) 6 (u * 5 + f) ((b 6 (u * 5 + f)) - a)) 6 (u * 5 + t) (min ((b 6 (u * 5 + t)) + (gv b (f) (t) (a))) 999999)) 2 (f) (min ((b 2 (f)) + (a)) 999999)) 2 (t) ((b 2 (t)) - (gv b (f) (t) (a)))) 5 (t) (b 5 (t) + (gv b (f) (t) (a)))) 0 (4) (b 0 4 + 1)) := by rw [hσ41]; exact Rc_up hR40 0 (4) (b 0 4 + 1)
        have hM41 : Sm σ σ41 := by rw [hσ41]; exact Sm_up hM40 ⟨by decide, Or.inr ⟨by decide, by decide⟩⟩
        refine lv_aload_n CF.1 CF.2.1 dX0_changeIfPossible_177 rfl (lv_at hl 4 rfl) ?_
        refine lv_iload_n CF.1 CF.2.1 dX0_changeIfPossible_178 rfl (lv_at hl 7 rfl) ?_
        refine lv_lload CF.1 CF.2.1 dX0_changeIfPossible_179 (lv_at hl 3 rfl) ?_
        refine lv_ldc2 (v := lN 10000) CF.1 CF.2.1 CF.2.2.2.1 (CF.2.2.2.2 _ (inr_4 _ (List.mem_of_getElem? (i := 0) rfl))) dX0_changeIfPossible_181 ?_
        refine lv_lrem CF.1 CF.2.1 dX0_changeIfPossible_184 (lne (by omega) (by omega)) ?_
        refine tpl (pk_lRem (by omega) (by omega) (by omega)) ?_
        refine o_l2i CF dX0_changeIfPossible_185 ?_
        refine d0_v CF hK hP41 hj (fun _ h => h) hS41 (As := [.int (nI (t)), .int (nI ((pr b (f) (t) (a)) % (10000)))]) (rest := []) (c0_keepDust l hj (b := upN (upN (upN (upN (upN (upN (b) 6 (u * 5 + f) ((b 6 (u * 5 + f)) - a)) 6 (u * 5 + t) (min ((b 6 (u * 5 + t)) + (gv b (f) (t) (a))) 999999)) 2 (f) (min ((b 2 (f)) + (a)) 999999)) 2 (t) ((b 2 (t)) - (gv b (f) (t) (a)))) 5 (t) (b 5 (t) + (gv b (f) (t) (a)))) 0 (4) (b 0 4 + 1)) hR41 (t := t) (x := (pr b (f) (t) (a)) % (10000)) (by omega) (by omega) (by simp [upN]; omega) (by simp [upN]; omega)) rfl lk_RX0_X0_keepDust rfl hl.1 ⟨Nat.le_of_ble_eq_true rfl, Nat.le_of_ble_eq_true rfl⟩ ⟨Nat.zero_le _, Nat.zero_le _⟩ (Nat.le_of_ble_eq_true rfl) rfl dX0_changeIfPossible_186 (fun σ45 H45 locs hr_44 hP45 hD45 hS45 hz45 hk45 => ?_)
        refine lv_lload CF.1 CF.2.1 dX0_changeIfPossible_189 (lv_at hl 2 rfl) ?_
        refine o_l2i CF dX0_changeIfPossible_191 ?_
        exact W.iret CF.1 CF.2.1 hr (fun t ht hW => ⟨⟨_, σ45, rfl, Or.inl ⟨by unfold okN; omega, rfl, hr_44.1, Sm_tr hM41 hr_44.2⟩, by show va_P G vwCl (w0 ad cA σ45) t.heap; rw [ht]; exact hP45⟩, hS45.F ht⟩) hS45.2.2 dX0_changeIfPossible_192
      · refine z_if_ne CF (tgt := 76) (nIz (by omega)) dX0_changeIfPossible_71 (by decide) (fun h => absurd h (by decide)) (fun _ => ?_)
        refine lv_iconst (v := nI 0) CF.1 CF.2.1 dX0_changeIfPossible_74 (by decide) ?_
        exact W.iret CF.1 CF.2.1 hr (fun t ht hW => ⟨⟨_, σ, rfl, Or.inr ⟨by unfold okN; omega, rfl, rfl⟩, by show va_P G vwCl (w0 ad cA σ) t.heap; rw [ht]; exact hP⟩, hS.F ht⟩) hS.2.2 dX0_changeIfPossible_75
  · refine lv_iconst (v := nI 0) CF.1 CF.2.1 dX0_changeIfPossible_27 (by decide) ?_
    exact W.iret CF.1 CF.2.1 hr (fun t ht hW => ⟨⟨_, σ, rfl, Or.inr ⟨by unfold okN; omega, rfl, rfl⟩, by show va_P G vwCl (w0 ad cA σ) t.heap; rw [ht]; exact hP⟩, hS.F ht⟩) hS.2.2 dX0_changeIfPossible_28
end
section
set_option maxHeartbeats 4000000 in
set_option maxRecDepth 100000 in
theorem c0_inAllPurses (l : Launch) {G : va_G} {cA : ClassId} {ad : Nat → Nat} {σ : RS} {b : BS} (hI : InvC b) (hR : Rc σ b) {t : Nat} (ht : t < 5) : Met l yX0_inAllPurses (ws_ yX0_inAllPurses cX0_inAllPurses 4 (some .int)) (rmk 3 0 0) (pc0 G cA ad σ [.ref (ad 0), .int (nI (t))]) (rqi (fun r => r = nI (alls b t (b 0 2)))) 0 0 (fun _ => False) := by
  refine Met.ofW (cc := cX0_inAllPurses) (maxL := 4) (ret := (some .int)) (by decide) rfl ?_
  intro p e s m args below meth c s₁ B hml hv
  obtain ⟨rfl, hP, hK⟩ := hv
  have CF : CallFix p m c cX0_inAllPurses 4 s _ AW RX0 := ⟨B.exec, B.bytes, hml, findClass_of_methodNamed B.named, fun w h => atoms_spec (ws := ws_ yX0_inAllPurses cX0_inAllPurses 4 (some .int)) B.pre w (List.mem_cons_of_mem _ h)⟩
  have hr := B.returns
  have hlocks := B.notSynchronized
  have hl := lv_entry ([.ref (ad 0), .int (nI (t))]) (n := 4) (Nat.le_of_ble_eq_true rfl)
  rw [lg_entry_eq]
  generalize (lg_sl ([.ref (ad 0), .int (nI (t))]) ++ List.replicate (4 - (lg_sl ([.ref (ad 0), .int (nI (t))])).length) Slot.unset).toArray = ls at hl ⊢
  have hl : lv_has ls 4 [(0, .ref (ad 0)), (1, .int (nI (t)))] := hl
  obtain ⟨i_sp, i_cu, i_ra, i_di, i_mo, i_pu⟩ := id hI
  refine lv_iconst (v := nI 0) CF.1 CF.2.1 dX0_inAllPurses_0 (by decide) ?_
  refine lv_istore_n (lv' := [(2, .int (nI (0))), (0, .ref (ad 0)), (1, .int (nI (t)))]) CF.1 CF.2.1 dX0_inAllPurses_1 rfl hl (by decide) rfl (fun ls hl => ?_)
  refine lv_iconst (v := nI 0) CF.1 CF.2.1 dX0_inAllPurses_2 (by decide) ?_
  refine lv_istore_n (lv' := [(3, .int (nI (0))), (2, .int (nI (0))), (0, .ref (ad 0)), (1, .int (nI (t)))]) CF.1 CF.2.1 dX0_inAllPurses_3 rfl hl (by decide) rfl (fun ls hl => ?_)
  refine loop_ro (fun i => [(0, .ref (ad 0)), (1, .int (nI (t))), (2, .int (nI (alls b t (i)))), (3, .int (nI (i)))]) (b 0 2) (0) (lv_sub hl [2, 3, 1, 0] rfl) (by omega) (fun i_1 h_4 h_3 ih_2 ls hl => ?_)
  have h_al := alls_le hI ht i_1 (by omega)
  refine lv_iload_n CF.1 CF.2.1 dX0_inAllPurses_4 rfl (lv_at hl 3 rfl) ?_
  refine lv_aload_n CF.1 CF.2.1 dX0_inAllPurses_5 rfl (lv_at hl 0 rfl) ?_
  refine x0_g_customers CF hK hP (v := (nI (b 0 2))) hR.2.2.1 dX0_inAllPurses_6 ?_
  refine z_icmp_ge CF (tgt := 27) (nIz (by omega)) (nIz (by omega)) dX0_inAllPurses_9 (by decide) (fun h_5 => ?_) (fun h_6 => ?_)
  · refine lv_iload_n CF.1 CF.2.1 dX0_inAllPurses_27 rfl (lv_at hl 2 rfl) ?_
    exact W.iret CF.1 CF.2.1 hr (fun t ht hW => ⟨_, rfl, by rw [show i_1 = b 0 2 by omega], ht⟩) (fun q hq => absurd hq List.not_mem_nil) dX0_inAllPurses_28
  · refine lv_iload_n CF.1 CF.2.1 dX0_inAllPurses_12 rfl (lv_at hl 2 rfl) ?_
    refine lv_aload_n CF.1 CF.2.1 dX0_inAllPurses_13 rfl (lv_at hl 0 rfl) ?_
    refine lv_iload_n CF.1 CF.2.1 dX0_inAllPurses_14 rfl (lv_at hl 3 rfl) ?_
    refine lv_iload_n CF.1 CF.2.1 dX0_inAllPurses_15 rfl (lv_at hl 1 rfl) ?_
    refine c0_i CF hK hP (As := [.int (nI (i_1)), .int (nI (t))]) (rest := [.int (nI (alls b t (i_1)))]) (c0_inPurse l hI hR (u := i_1) (t := t) (by omega) (by omega)) rfl lk_RX0_X0_inPurse rfl hl.1 ⟨Nat.le_of_ble_eq_true rfl, Nat.le_of_ble_eq_true rfl⟩ ⟨Nat.zero_le _, Nat.zero_le _⟩ (Nat.le_of_ble_eq_true rfl) rfl dX0_inAllPurses_16 (fun r_7 hr_8 => ?_)
    subst hr_8
    refine o_iadd CF dX0_inAllPurses_19 ?_
    refine lv_istore_n (lv' := [(2, .int (nI (alls b t (i_1) + (b 6 (i_1 * 5 + t))))), (0, .ref (ad 0)), (1, .int (nI (t))), (3, .int (nI (i_1)))]) CF.1 CF.2.1 dX0_inAllPurses_20 rfl hl (by decide) rfl (fun ls hl => ?_)
    refine lv_iinc (v := nI (i_1 + 1)) (lv' := [(3, .int (nI (i_1 + 1))), (2, .int (nI (alls b t (i_1) + (b 6 (i_1 * 5 + t))))), (0, .ref (ad 0)), (1, .int (nI (t)))]) CF.1 CF.2.1 dX0_inAllPurses_21 hl (k := 3) rfl (by first | exact nI_add _ _ | rfl) (by decide) rfl (fun ls hl => ?_)
    refine lv_goto (tgt := 4) CF.1 CF.2.1 dX0_inAllPurses_24 (by decide) ?_
    exact ih_2 ls (by omega) (lv_sub hl [2, 3, 1, 0] rfl)
set_option maxHeartbeats 4000000 in
set_option maxRecDepth 100000 in
theorem c0_ratesThatAreNotZero (l : Launch) {G : va_G} {cA : ClassId} {ad : Nat → Nat} {σ : RS} {b : BS} (hI : InvC b) (hR : Rc σ b)  : Met l yX0_ratesThatAreNotZero (ws_ yX0_ratesThatAreNotZero cX0_ratesThatAreNotZero 3 (some .int)) (rmk 2 0 0) (pc0 G cA ad σ [.ref (ad 0)]) (rqi (fun r => r = nI (nzr b 25))) 0 0 (fun _ => False) := by
  refine Met.ofW (cc := cX0_ratesThatAreNotZero) (maxL := 3) (ret := (some .int)) (by decide) rfl ?_
  intro p e s m args below meth c s₁ B hml hv
  obtain ⟨rfl, hP, hK⟩ := hv
  have CF : CallFix p m c cX0_ratesThatAreNotZero 3 s _ AW RX0 := ⟨B.exec, B.bytes, hml, findClass_of_methodNamed B.named, fun w h => atoms_spec (ws := ws_ yX0_ratesThatAreNotZero cX0_ratesThatAreNotZero 3 (some .int)) B.pre w (List.mem_cons_of_mem _ h)⟩
  have hr := B.returns
  have hlocks := B.notSynchronized
  have hl := lv_entry ([.ref (ad 0)]) (n := 3) (Nat.le_of_ble_eq_true rfl)
  rw [lg_entry_eq]
  generalize (lg_sl ([.ref (ad 0)]) ++ List.replicate (3 - (lg_sl ([.ref (ad 0)])).length) Slot.unset).toArray = ls at hl ⊢
  have hl : lv_has ls 3 [(0, .ref (ad 0))] := hl
  refine lv_iconst (v := nI 0) CF.1 CF.2.1 dX0_ratesThatAreNotZero_0 (by decide) ?_
  refine lv_istore_n (lv' := [(1, .int (nI (0))), (0, .ref (ad 0))]) CF.1 CF.2.1 dX0_ratesThatAreNotZero_1 rfl hl (by decide) rfl (fun ls hl => ?_)
  refine lv_iconst (v := nI 0) CF.1 CF.2.1 dX0_ratesThatAreNotZero_2 (by decide) ?_
  refine lv_istore_n (lv' := [(2, .int (nI (0))), (1, .int (nI (0))), (0, .ref (ad 0))]) CF.1 CF.2.1 dX0_ratesThatAreNotZero_3 rfl hl (by decide) rfl (fun ls hl => ?_)
  refine loop_ro (fun i => [(0, .ref (ad 0)), (1, .int (nI (nzr b (i)))), (2, .int (nI (i)))]) (25) (0) (lv_sub hl [2, 1, 0] rfl) (by omega) (fun i_1 h_4 h_3 ih_2 ls hl => ?_)
  have h_nz := nzr_le (b := b) i_1
  have h_ra := hI.2.2.1 i_1
  refine lv_iload_n CF.1 CF.2.1 dX0_ratesThatAreNotZero_4 rfl (lv_at hl 2 rfl) ?_
  refine lv_aload_n CF.1 CF.2.1 dX0_ratesThatAreNotZero_5 rfl (lv_at hl 0 rfl) ?_
  refine x0_g_rates CF hK hP dX0_ratesThatAreNotZero_6 ?_
  refine x0_alen1 CF hK hP dX0_ratesThatAreNotZero_9 ?_
  refine z_icmp_ge CF (tgt := 31) (nIz (by omega)) (nIz (by omega)) dX0_ratesThatAreNotZero_10 (by decide) (fun h_5 => ?_) (fun h_6 => ?_)
  · refine lv_iload_n CF.1 CF.2.1 dX0_ratesThatAreNotZero_31 rfl (lv_at hl 1 rfl) ?_
    exact W.iret CF.1 CF.2.1 hr (fun t ht hW => ⟨_, rfl, by rw [show i_1 = 25 by omega], ht⟩) (fun q hq => absurd hq List.not_mem_nil) dX0_ratesThatAreNotZero_32
  · refine lv_aload_n CF.1 CF.2.1 dX0_ratesThatAreNotZero_13 rfl (lv_at hl 0 rfl) ?_
    refine x0_g_rates CF hK hP dX0_ratesThatAreNotZero_14 ?_
    refine lv_iload_n CF.1 CF.2.1 dX0_ratesThatAreNotZero_17 rfl (lv_at hl 2 rfl) ?_
    refine x0_ald1 CF hK hP (i := i_1) (by omega) (v := (nI (b 1 (i_1)))) (hR.a1 (by omega)) dX0_ratesThatAreNotZero_18 ?_
    refine z_if_eq CF (tgt := 25) (nIz (by omega)) dX0_ratesThatAreNotZero_19 (by decide) (fun h_7 => ?_) (fun h_8 => ?_)
    · refine lv_iinc (v := nI (i_1 + 1)) (lv' := [(2, .int (nI (i_1 + 1))), (0, .ref (ad 0)), (1, .int (nI (nzr b (i_1))))]) CF.1 CF.2.1 dX0_ratesThatAreNotZero_25 hl (k := 2) rfl (by first | exact nI_add _ _ | rfl) (by decide) rfl (fun ls hl => ?_)
      refine lv_goto (tgt := 4) CF.1 CF.2.1 dX0_ratesThatAreNotZero_28 (by decide) ?_
      exact ih_2 ls (by omega) (lv_sub hl [1, 2, 0] (by first | (rw [nzr_s0 (by omega)]; rfl) | (rw [nzr_s1 (by omega)]; rfl)))
    · refine lv_iinc (v := nI (nzr b (i_1) + 1)) (lv' := [(1, .int (nI (nzr b (i_1) + 1))), (0, .ref (ad 0)), (2, .int (nI (i_1)))]) CF.1 CF.2.1 dX0_ratesThatAreNotZero_22 hl (k := 1) rfl (by first | exact nI_add _ _ | rfl) (by decide) rfl (fun ls hl => ?_)
      refine lv_iinc (v := nI (i_1 + 1)) (lv' := [(2, .int (nI (i_1 + 1))), (1, .int (nI (nzr b (i_1) + 1))), (0, .ref (ad 0))]) CF.1 CF.2.1 dX0_ratesThatAreNotZero_25 hl (k := 2) rfl (by first | exact nI_add _ _ | rfl) (by decide) rfl (fun ls hl => ?_)
      refine lv_goto (tgt := 4) CF.1 CF.2.1 dX0_ratesThatAreNotZero_28 (by decide) ?_
      exact ih_2 ls (by omega) (lv_sub hl [2, 1, 0] (by first | (rw [nzr_s0 (by omega)]; rfl) | (rw [nzr_s1 (by omega)]; rfl)))
set_option maxHeartbeats 4000000 in
set_option maxRecDepth 100000 in
theorem c0_factOfMoney (l : Launch) {G : va_G} {cA : ClassId} {ad : Nat → Nat} {σ : RS} {b : BS} (hI : InvC b) (hR : Rc σ b) {t w : Nat} (ht : t < 5) (hw : w < 5) : Met l yX0_factOfMoney (ws_ yX0_factOfMoney cX0_factOfMoney 3 (some .int)) (rmk 4 0 0) (pc0 G cA ad σ [.ref (ad 0), .int (nI (t)), .int (nI (w))]) (rqi (fun r => r = nI (fmo b t w))) 0 0 (fun _ => False) := by
  refine Met.ofW (cc := cX0_factOfMoney) (maxL := 3) (ret := (some .int)) (by decide) rfl ?_
  intro p e s m args below meth c s₁ B hml hv
  obtain ⟨rfl, hP, hK⟩ := hv
  have CF : CallFix p m c cX0_factOfMoney 3 s _ AW RX0 := ⟨B.exec, B.bytes, hml, findClass_of_methodNamed B.named, fun w h => atoms_spec (ws := ws_ yX0_factOfMoney cX0_factOfMoney 3 (some .int)) B.pre w (List.mem_cons_of_mem _ h)⟩
  have hr := B.returns
  have hlocks := B.notSynchronized
  have hl := lv_entry ([.ref (ad 0), .int (nI (t)), .int (nI (w))]) (n := 3) (Nat.le_of_ble_eq_true rfl)
  rw [lg_entry_eq]
  generalize (lg_sl ([.ref (ad 0), .int (nI (t)), .int (nI (w))]) ++ List.replicate (3 - (lg_sl ([.ref (ad 0), .int (nI (t)), .int (nI (w))])).length) Slot.unset).toArray = ls at hl ⊢
  have hl : lv_has ls 3 [(0, .ref (ad 0)), (1, .int (nI (t))), (2, .int (nI (w)))] := hl
  obtain ⟨i_sp, i_cu, i_ra, i_di, i_mo, i_pu⟩ := id hI
  refine lv_iload_n CF.1 CF.2.1 dX0_factOfMoney_0 rfl (lv_at hl 1 rfl) ?_
  refine cS_i CF (As := [.int (nI (t))]) (rest := []) (c0_isMoney l (nI (t))) lk_RX0_X0_isMoney rfl hl.1 ⟨Nat.le_of_ble_eq_true rfl, Nat.le_of_ble_eq_true rfl⟩ ⟨Nat.zero_le _, Nat.zero_le _⟩ (Nat.le_of_ble_eq_true rfl) rfl dX0_factOfMoney_1 (fun r_1 hr_2 => ?_)
  have hxh_3 := nIz (n := t) (by omega)
  rcases hr_2 with ⟨rfl, -, -⟩ | ⟨rfl, h9⟩
  rotate_left
  · exact absurd h9 (by rw [hxh_3]; omega)
  rw [show (1 : Int32) = nI 1 by rfl]
  refine z_if_ne CF (tgt := 9) (nIz (by omega)) dX0_factOfMoney_4 (by decide) (fun _ => ?_) (fun h => absurd h (by decide))
  refine lv_iload_n CF.1 CF.2.1 dX0_factOfMoney_9 rfl (lv_at hl 2 rfl) ?_
  rcases (show w = 0 ∨ w = 1 ∨ w = 2 ∨ w = 3 ∨ 4 ≤ w by omega) with rfl | rfl | rfl | rfl | h_6
  · refine lv_tableIn (off := 30) (tgt := 40) CF.1 CF.2.1 dX0_factOfMoney_10 (by decide) (by decide) rfl (by decide) ?_
    refine lv_aload_n CF.1 CF.2.1 dX0_factOfMoney_40 rfl (lv_at hl 0 rfl) ?_
    refine x0_g_stocks CF hK hP dX0_factOfMoney_41 ?_
    refine lv_iload_n CF.1 CF.2.1 dX0_factOfMoney_44 rfl (lv_at hl 1 rfl) ?_
    refine x0_ald2 CF hK hP (i := t) (by omega) (v := (nI (b 2 (t)))) (hR.a2 (by omega)) dX0_factOfMoney_45 ?_
    exact W.iret CF.1 CF.2.1 hr (fun t ht hW => ⟨_, rfl, by first | rfl | (rw [show w = 4 by omega]; rfl), ht⟩) (fun q hq => absurd hq List.not_mem_nil) dX0_factOfMoney_46
  · refine lv_tableIn (off := 37) (tgt := 47) CF.1 CF.2.1 dX0_factOfMoney_10 (by decide) (by decide) rfl (by decide) ?_
    refine lv_aload_n CF.1 CF.2.1 dX0_factOfMoney_47 rfl (lv_at hl 0 rfl) ?_
    refine x0_g_dusts CF hK hP dX0_factOfMoney_48 ?_
    refine lv_iload_n CF.1 CF.2.1 dX0_factOfMoney_51 rfl (lv_at hl 1 rfl) ?_
    refine x0_ald3 CF hK hP (i := t) (by omega) (v := (nI (b 3 (t)))) (hR.a3 (by omega)) dX0_factOfMoney_52 ?_
    exact W.iret CF.1 CF.2.1 hr (fun t ht hW => ⟨_, rfl, by first | rfl | (rw [show w = 4 by omega]; rfl), ht⟩) (fun q hq => absurd hq List.not_mem_nil) dX0_factOfMoney_53
  · refine lv_tableIn (off := 44) (tgt := 54) CF.1 CF.2.1 dX0_factOfMoney_10 (by decide) (by decide) rfl (by decide) ?_
    refine lv_aload_n CF.1 CF.2.1 dX0_factOfMoney_54 rfl (lv_at hl 0 rfl) ?_
    refine x0_g_limits CF hK hP dX0_factOfMoney_55 ?_
    refine lv_iload_n CF.1 CF.2.1 dX0_factOfMoney_58 rfl (lv_at hl 1 rfl) ?_
    refine x0_ald4 CF hK hP (i := t) (by omega) (v := (nI (b 4 (t)))) (hR.a4 (by omega)) dX0_factOfMoney_59 ?_
    exact W.iret CF.1 CF.2.1 hr (fun t ht hW => ⟨_, rfl, by first | rfl | (rw [show w = 4 by omega]; rfl), ht⟩) (fun q hq => absurd hq List.not_mem_nil) dX0_factOfMoney_60
  · refine lv_tableIn (off := 51) (tgt := 61) CF.1 CF.2.1 dX0_factOfMoney_10 (by decide) (by decide) rfl (by decide) ?_
    refine lv_aload_n CF.1 CF.2.1 dX0_factOfMoney_61 rfl (lv_at hl 0 rfl) ?_
    refine x0_g_givenToday CF hK hP dX0_factOfMoney_62 ?_
    refine lv_iload_n CF.1 CF.2.1 dX0_factOfMoney_65 rfl (lv_at hl 1 rfl) ?_
    refine x0_ald5 CF hK hP (i := t) (by omega) (v := (nI (b 5 (t)))) (hR.a5 (by omega)) dX0_factOfMoney_66 ?_
    exact W.iret CF.1 CF.2.1 hr (fun t ht hW => ⟨_, rfl, by first | rfl | (rw [show w = 4 by omega]; rfl), ht⟩) (fun q hq => absurd hq List.not_mem_nil) dX0_factOfMoney_67
  · refine lv_tableOut (tgt := 68) CF.1 CF.2.1 dX0_factOfMoney_10 (by right; rw [nIz (by omega)]; omega) (by decide) ?_
    refine lv_aload_n CF.1 CF.2.1 dX0_factOfMoney_68 rfl (lv_at hl 0 rfl) ?_
    refine lv_iload_n CF.1 CF.2.1 dX0_factOfMoney_69 rfl (lv_at hl 1 rfl) ?_
    refine c0_i CF hK hP (As := [.int (nI (t))]) (rest := []) (c0_inAllPurses l hI hR (t := t) (by omega)) rfl lk_RX0_X0_inAllPurses rfl hl.1 ⟨Nat.le_of_ble_eq_true rfl, Nat.le_of_ble_eq_true rfl⟩ ⟨Nat.zero_le _, Nat.zero_le _⟩ (Nat.le_of_ble_eq_true rfl) rfl dX0_factOfMoney_70 (fun r_7 hr_8 => ?_)
    subst hr_8
    exact W.iret CF.1 CF.2.1 hr (fun t ht hW => ⟨_, rfl, by first | rfl | (rw [show w = 4 by omega]; rfl), ht⟩) (fun q hq => absurd hq List.not_mem_nil) dX0_factOfMoney_73
set_option maxHeartbeats 4000000 in
set_option maxRecDepth 100000 in
theorem c0_factOfBooth (l : Launch) {G : va_G} {cA : ClassId} {ad : Nat → Nat} {σ : RS} {b : BS} (hI : InvC b) (hR : Rc σ b) (hO : Ro σ b) {w : Nat} (hw : w < 7) : Met l yX0_factOfBooth (ws_ yX0_factOfBooth cX0_factOfBooth 2 (some .int)) (rmk 4 0 0) (pc0 G cA ad σ [.ref (ad 0), .int (nI (w))]) (rqi (fun r => r = nI (fbo b w))) 0 0 (fun _ => False) := by
  refine Met.ofW (cc := cX0_factOfBooth) (maxL := 2) (ret := (some .int)) (by decide) rfl ?_
  intro p e s m args below meth c s₁ B hml hv
  obtain ⟨rfl, hP, hK⟩ := hv
  have CF : CallFix p m c cX0_factOfBooth 2 s _ AW RX0 := ⟨B.exec, B.bytes, hml, findClass_of_methodNamed B.named, fun w h => atoms_spec (ws := ws_ yX0_factOfBooth cX0_factOfBooth 2 (some .int)) B.pre w (List.mem_cons_of_mem _ h)⟩
  have hr := B.returns
  have hlocks := B.notSynchronized
  have hl := lv_entry ([.ref (ad 0), .int (nI (w))]) (n := 2) (Nat.le_of_ble_eq_true rfl)
  rw [lg_entry_eq]
  generalize (lg_sl ([.ref (ad 0), .int (nI (w))]) ++ List.replicate (2 - (lg_sl ([.ref (ad 0), .int (nI (w))])).length) Slot.unset).toArray = ls at hl ⊢
  have hl : lv_has ls 2 [(0, .ref (ad 0)), (1, .int (nI (w)))] := hl
  refine lv_iload_n CF.1 CF.2.1 dX0_factOfBooth_0 rfl (lv_at hl 1 rfl) ?_
  rcases (show w = 0 ∨ w = 1 ∨ w = 2 ∨ w = 3 ∨ w = 4 ∨ w = 5 ∨ 6 ≤ w by omega) with rfl | rfl | rfl | rfl | rfl | rfl | h_1
  · refine lv_tableIn (off := 39) (tgt := 40) CF.1 CF.2.1 dX0_factOfBooth_1 (by decide) (by decide) rfl (by decide) ?_
    refine lv_aload_n CF.1 CF.2.1 dX0_factOfBooth_40 rfl (lv_at hl 0 rfl) ?_
    refine x0_g_day CF hK hP (v := (nI (b 0 0))) hR.1 dX0_factOfBooth_41 ?_
    exact W.iret CF.1 CF.2.1 hr (fun t ht hW => ⟨_, rfl, by first | rfl | (rw [show w = 6 by omega]; rfl), ht⟩) (fun q hq => absurd hq List.not_mem_nil) dX0_factOfBooth_44
  · refine lv_tableIn (off := 44) (tgt := 45) CF.1 CF.2.1 dX0_factOfBooth_1 (by decide) (by decide) rfl (by decide) ?_
    refine lv_aload_n CF.1 CF.2.1 dX0_factOfBooth_45 rfl (lv_at hl 0 rfl) ?_
    refine x0_g_spread CF hK hP (v := (nI (b 0 1))) hR.2.1 dX0_factOfBooth_46 ?_
    exact W.iret CF.1 CF.2.1 hr (fun t ht hW => ⟨_, rfl, by first | rfl | (rw [show w = 6 by omega]; rfl), ht⟩) (fun q hq => absurd hq List.not_mem_nil) dX0_factOfBooth_49
  · refine lv_tableIn (off := 49) (tgt := 50) CF.1 CF.2.1 dX0_factOfBooth_1 (by decide) (by decide) rfl (by decide) ?_
    refine lv_aload_n CF.1 CF.2.1 dX0_factOfBooth_50 rfl (lv_at hl 0 rfl) ?_
    refine x0_g_customers CF hK hP (v := (nI (b 0 2))) hR.2.2.1 dX0_factOfBooth_51 ?_
    exact W.iret CF.1 CF.2.1 hr (fun t ht hW => ⟨_, rfl, by first | rfl | (rw [show w = 6 by omega]; rfl), ht⟩) (fun q hq => absurd hq List.not_mem_nil) dX0_factOfBooth_54
  · refine lv_tableIn (off := 54) (tgt := 55) CF.1 CF.2.1 dX0_factOfBooth_1 (by decide) (by decide) rfl (by decide) ?_
    refine lv_aload_n CF.1 CF.2.1 dX0_factOfBooth_55 rfl (lv_at hl 0 rfl) ?_
    refine x0_g_waiting CF hK hP (v := (nI (b 0 3))) hO.1 dX0_factOfBooth_56 ?_
    exact W.iret CF.1 CF.2.1 hr (fun t ht hW => ⟨_, rfl, by first | rfl | (rw [show w = 6 by omega]; rfl), ht⟩) (fun q hq => absurd hq List.not_mem_nil) dX0_factOfBooth_59
  · refine lv_tableIn (off := 59) (tgt := 60) CF.1 CF.2.1 dX0_factOfBooth_1 (by decide) (by decide) rfl (by decide) ?_
    refine lv_aload_n CF.1 CF.2.1 dX0_factOfBooth_60 rfl (lv_at hl 0 rfl) ?_
    refine c0_i CF hK hP (As := []) (rest := []) (c0_ratesThatAreNotZero l hI hR) rfl lk_RX0_X0_ratesThatAreNotZero rfl hl.1 ⟨Nat.le_of_ble_eq_true rfl, Nat.le_of_ble_eq_true rfl⟩ ⟨Nat.zero_le _, Nat.zero_le _⟩ (Nat.le_of_ble_eq_true rfl) rfl dX0_factOfBooth_61 (fun r_2 hr_3 => ?_)
    subst hr_3
    exact W.iret CF.1 CF.2.1 hr (fun t ht hW => ⟨_, rfl, by first | rfl | (rw [show w = 6 by omega]; rfl), ht⟩) (fun q hq => absurd hq List.not_mem_nil) dX0_factOfBooth_64
  · refine lv_tableIn (off := 64) (tgt := 65) CF.1 CF.2.1 dX0_factOfBooth_1 (by decide) (by decide) rfl (by decide) ?_
    refine lv_aload_n CF.1 CF.2.1 dX0_factOfBooth_65 rfl (lv_at hl 0 rfl) ?_
    refine x0_g_changesMade CF hK hP (v := (nI (b 0 4))) hR.2.2.2.1 dX0_factOfBooth_66 ?_
    exact W.iret CF.1 CF.2.1 hr (fun t ht hW => ⟨_, rfl, by first | rfl | (rw [show w = 6 by omega]; rfl), ht⟩) (fun q hq => absurd hq List.not_mem_nil) dX0_factOfBooth_69
  · refine lv_tableOut (tgt := 70) CF.1 CF.2.1 dX0_factOfBooth_1 (by right; rw [nIz (by omega)]; omega) (by decide) ?_
    refine lv_aload_n CF.1 CF.2.1 dX0_factOfBooth_70 rfl (lv_at hl 0 rfl) ?_
    refine x0_g_ordersDone CF hK hP (v := (nI (b 0 5))) hO.2.1 dX0_factOfBooth_71 ?_
    exact W.iret CF.1 CF.2.1 hr (fun t ht hW => ⟨_, rfl, by first | rfl | (rw [show w = 6 by omega]; rfl), ht⟩) (fun q hq => absurd hq List.not_mem_nil) dX0_factOfBooth_74
set_option maxHeartbeats 4000000 in
set_option maxRecDepth 100000 in
theorem c0_setOrderPart (l : Launch) {G : va_G} {cA : ClassId} {ad : Nat → Nat} {σ : RS} (hj : inj8 ad) {q k : Nat} (hq : q < 10) (hk : k < 5) (v : Int32) : Met l yX0_setOrderPart (ws_ yX0_setOrderPart cX0_setOrderPart 4 none) (rmk 2 0 0) (pc0 G cA ad σ [.ref (ad 0), .int (nI (q)), .int (nI (k)), .int (v)]) (va_Qv (fun σ' : RS => σ' = up σ 7 (q * 5 + k) v) (fun σ' t => va_P G vwCl (w0 ad cA σ') t.heap) (own8 ad)) 0 0 (own8 ad) := by
  refine Met.ofW (cc := cX0_setOrderPart) (maxL := 4) (ret := none) (by decide) rfl ?_
  intro p e s m args below meth c s₁ B hml hv
  obtain ⟨rfl, hP, hK⟩ := hv
  have CF : CallFix p m c cX0_setOrderPart 4 s _ AW RX0 := ⟨B.exec, B.bytes, hml, findClass_of_methodNamed B.named, fun w h => atoms_spec (ws := ws_ yX0_setOrderPart cX0_setOrderPart 4 none) B.pre w (List.mem_cons_of_mem _ h)⟩
  have hr := B.returns
  have hlocks := B.notSynchronized
  have hl := lv_entry ([.ref (ad 0), .int (nI (q)), .int (nI (k)), .int (v)]) (n := 4) (Nat.le_of_ble_eq_true rfl)
  rw [lg_entry_eq]
  generalize (lg_sl ([.ref (ad 0), .int (nI (q)), .int (nI (k)), .int (v)]) ++ List.replicate (4 - (lg_sl ([.ref (ad 0), .int (nI (q)), .int (nI (k)), .int (v)])).length) Slot.unset).toArray = ls at hl ⊢
  have hl : lv_has ls 4 [(0, .ref (ad 0)), (1, .int (nI (q))), (2, .int (nI (k))), (3, .int (v))] := hl
  have hD : va_D (own8 ad) (w0 ad cA σ) := w0_D hj (fun _ h => h)
  have hS : va_S (own8 ad) s.heap s.heap [] := va_S.rf
  refine lv_iload_n CF.1 CF.2.1 dX0_setOrderPart_0 rfl (lv_at hl 1 rfl) ?_
  refine lv_iload_n CF.1 CF.2.1 dX0_setOrderPart_1 rfl (lv_at hl 2 rfl) ?_
  refine cS_i CF (As := [.int (nI (q)), .int (nI (k))]) (rest := []) (c0_isOrderCell l (p0 := q) (k := k) (by omega) (by omega)) lk_RX0_X0_isOrderCell rfl hl.1 ⟨Nat.le_of_ble_eq_true rfl, Nat.le_of_ble_eq_true rfl⟩ ⟨Nat.zero_le _, Nat.zero_le _⟩ (Nat.le_of_ble_eq_true rfl) rfl dX0_setOrderPart_2 (fun r_1 hr_2 => ?_)
  subst hr_2
  rw [show (1 : Int32) = nI 1 by rfl]
  refine z_if_eq CF (tgt := 19) (nIz (by omega)) dX0_setOrderPart_5 (by decide) (fun h => absurd h (by decide)) (fun _ => ?_)
  refine lv_aload_n CF.1 CF.2.1 dX0_setOrderPart_8 rfl (lv_at hl 0 rfl) ?_
  refine x0_g_orders CF hK hP dX0_setOrderPart_9 ?_
  refine lv_iload_n CF.1 CF.2.1 dX0_setOrderPart_12 rfl (lv_at hl 1 rfl) ?_
  refine lv_iconst (v := nI 5) CF.1 CF.2.1 dX0_setOrderPart_13 (by decide) ?_
  refine o_imul CF dX0_setOrderPart_14 ?_
  refine lv_iload_n CF.1 CF.2.1 dX0_setOrderPart_15 rfl (lv_at hl 2 rfl) ?_
  refine o_iadd CF dX0_setOrderPart_16 ?_
  refine lv_iload_n CF.1 CF.2.1 dX0_setOrderPart_17 rfl (lv_at hl 3 rfl) ?_
  refine x0_ast7 CF hK hP hD hS (i := q * 5 + k) (by omega) dX0_setOrderPart_18 (fun σ5 H5 locs hσ5 hP5 hD5 hS5 => ?_)
  exact W.vret CF.1 CF.2.1 hr (fun t ht hW => ⟨⟨σ5, rfl, hσ5, by show va_P G vwCl (w0 ad cA σ5) t.heap; rw [ht]; exact hP5⟩, hS5.F ht⟩) hS5.2.2 dX0_setOrderPart_19
set_option maxHeartbeats 4000000 in
set_option maxRecDepth 100000 in
theorem c0_moveOrder (l : Launch) {G : va_G} {cA : ClassId} {ad : Nat → Nat} {σ : RS} (hj : inj8 ad) {q k : Nat} (hq : q < 10) (hk : k < 10) : Met l yX0_moveOrder (ws_ yX0_moveOrder cX0_moveOrder 4 none) (rmk 3 0 0) (pc0 G cA ad σ [.ref (ad 0), .int (nI (q)), .int (nI (k))]) (va_Qv (fun σ' : RS => σ' = mvI σ q k 5) (fun σ' t => va_P G vwCl (w0 ad cA σ') t.heap) (own8 ad)) 0 0 (own8 ad) := by
  refine Met.ofW (cc := cX0_moveOrder) (maxL := 4) (ret := none) (by decide) rfl ?_
  intro p e s m args below meth c s₁ B hml hv
  obtain ⟨rfl, hP, hK⟩ := hv
  have CF : CallFix p m c cX0_moveOrder 4 s _ AW RX0 := ⟨B.exec, B.bytes, hml, findClass_of_methodNamed B.named, fun w h => atoms_spec (ws := ws_ yX0_moveOrder cX0_moveOrder 4 none) B.pre w (List.mem_cons_of_mem _ h)⟩
  have hr := B.returns
  have hlocks := B.notSynchronized
  have hl := lv_entry ([.ref (ad 0), .int (nI (q)), .int (nI (k))]) (n := 4) (Nat.le_of_ble_eq_true rfl)
  rw [lg_entry_eq]
  generalize (lg_sl ([.ref (ad 0), .int (nI (q)), .int (nI (k))]) ++ List.replicate (4 - (lg_sl ([.ref (ad 0), .int (nI (q)), .int (nI (k))])).length) Slot.unset).toArray = ls at hl ⊢
  have hl : lv_has ls 4 [(0, .ref (ad 0)), (1, .int (nI (q))), (2, .int (nI (k)))] := hl
  have hD : va_D (own8 ad) (w0 ad cA σ) := w0_D hj (fun _ h => h)
  have hS : va_S (own8 ad) s.heap s.heap [] := va_S.rf
  refine lv_iconst (v := nI 0) CF.1 CF.2.1 dX0_moveOrder_0 (by decide) ?_
  refine lv_istore_n (lv' := [(3, .int (nI (0))), (0, .ref (ad 0)), (1, .int (nI (q))), (2, .int (nI (k)))]) CF.1 CF.2.1 dX0_moveOrder_1 rfl hl (by decide) rfl (fun ls hl => ?_)
  refine loop_rw0 (α := Unit) (fun i x => [(0, .ref (ad 0)), (1, .int (nI (q))), (2, .int (nI (k))), (3, .int (nI (i)))]) (fun i _ σ' => σ' = mvI σ q k i) (5) (0) (()) mvI_0.symm hP hS (lv_sub hl [1, 2, 3, 0] rfl) (by omega) (fun i_1 x_1 σ1 H1 locs hj_1 hi_1 hx_1 hP1 hS1 ih_1 ls hl => ?_)
  have hD1 : va_D (own8 ad) (w0 ad cA σ1) := w0_D hj (fun _ h => h)
  have hx_1 : σ1 = mvI σ q k i_1 := hx_1
  refine lv_iload_n CF.1 CF.2.1 dX0_moveOrder_2 rfl (lv_at hl 3 rfl) ?_
  refine lv_iconst (v := nI 5) CF.1 CF.2.1 dX0_moveOrder_3 (by decide) ?_
  refine z_icmp_ge CF (tgt := 25) (nIz (by omega)) (nIz (by omega)) dX0_moveOrder_4 (by decide) (fun h_2 => ?_) (fun h_3 => ?_)
  · exact W.vret CF.1 CF.2.1 hr (fun t ht hW => ⟨⟨σ1, rfl, by rw [hx_1, show i_1 = 5 by omega], by show va_P G vwCl (w0 ad cA σ1) t.heap; rw [ht]; exact hP1⟩, hS1.F ht⟩) hS1.2.2 dX0_moveOrder_25
  · refine lv_aload_n CF.1 CF.2.1 dX0_moveOrder_7 rfl (lv_at hl 0 rfl) ?_
    refine lv_iload_n CF.1 CF.2.1 dX0_moveOrder_8 rfl (lv_at hl 2 rfl) ?_
    refine lv_iload_n CF.1 CF.2.1 dX0_moveOrder_9 rfl (lv_at hl 3 rfl) ?_
    refine lv_aload_n CF.1 CF.2.1 dX0_moveOrder_10 rfl (lv_at hl 0 rfl) ?_
    refine lv_iload_n CF.1 CF.2.1 dX0_moveOrder_11 rfl (lv_at hl 1 rfl) ?_
    refine lv_iload_n CF.1 CF.2.1 dX0_moveOrder_12 rfl (lv_at hl 3 rfl) ?_
    refine c0_i CF hK hP1 (As := [.int (nI (q)), .int (nI (i_1))]) (rest := [.int (nI (i_1)), .int (nI (k)), .ref (ad 0)]) (c0_orderPart l (σ := σ1) (u := q) (t := i_1) (by omega) (by omega)) rfl lk_RX0_X0_orderPart rfl hl.1 ⟨Nat.le_of_ble_eq_true rfl, Nat.le_of_ble_eq_true rfl⟩ ⟨Nat.zero_le _, Nat.zero_le _⟩ (Nat.le_of_ble_eq_true rfl) rfl dX0_moveOrder_13 (fun r_4 hr_5 => ?_)
    subst hr_5
    refine d0_v CF hK hP1 hj (fun _ h => h) hS1 (As := [.int (nI (k)), .int (nI (i_1)), .int (σ1 7 (q * 5 + i_1))]) (rest := []) (c0_setOrderPart l hj (σ := σ1) (q := k) (k := i_1) (by omega) (by omega) ((σ1 7 (q * 5 + i_1)))) rfl lk_RX0_X0_setOrderPart rfl hl.1 ⟨Nat.le_of_ble_eq_true rfl, Nat.le_of_ble_eq_true rfl⟩ ⟨Nat.zero_le _, Nat.zero_le _⟩ (Nat.le_of_ble_eq_true rfl) rfl dX0_moveOrder_16 (fun σ8 H8 locs hr_7 hP8 hD8 hS8 hz8 hk8 => ?_)
    refine lv_iinc (v := nI (i_1 + 1)) (lv' := [(3, .int (nI (i_1 + 1))), (0, .ref (ad 0)), (1, .int (nI (q))), (2, .int (nI (k)))]) CF.1 CF.2.1 dX0_moveOrder_19 hl (k := 3) rfl (by first | exact nI_add _ _ | rfl) (by decide) rfl (fun ls hl => ?_)
    refine lv_goto (tgt := 2) CF.1 CF.2.1 dX0_moveOrder_22 (by decide) ?_
    exact ih_1 () σ8 _ _ ls (by omega) (by show σ8 = mvI σ q k (i_1 + 1); rw [hr_7, hx_1, mvI_rd (by omega)]; exact mvI_up) hP8 hS8 (lv_sub hl [1, 2, 3, 0] rfl)
end
section
set_option maxHeartbeats 4000000 in
set_option maxRecDepth 100000 in
theorem c0_doneIfPossible (l : Launch) {G : va_G} {cA : ClassId} {ad : Nat → Nat} {σ : RS} (hj : inj8 ad) {b : BS} (hI : InvC b) (hR : Rc σ b) {q u f t a k : Nat} (hq : q < 10) (hq0 : σ 7 (q * 5 + 0) = nI u) (hq1 : σ 7 (q * 5 + 1) = nI f) (hq2 : σ 7 (q * 5 + 2) = nI t) (hq3 : σ 7 (q * 5 + 3) = nI a) (hq4 : σ 7 (q * 5 + 4) = nI k) (hu : u < b 0 2) (hf : f < 5) (ht : t < 5) (ha : a < 2147483648) (hk0 : 1 ≤ k) (hk : k < 2147483648) : Met l yX0_doneIfPossible (ws_ yX0_doneIfPossible cX0_doneIfPossible 3 (some .boolean)) (rmk 5 0 0) (pc0 G cA ad σ [.ref (ad 0), .int (nI (q))]) (va_Qi (fun (r : Int32) (σ' : RS) => (okN b u f t a k ∧ r = nI 1 ∧ Rc σ' (dc b u f t a) ∧ Sm σ σ') ∨ (¬ okN b u f t a k ∧ r = nI 0 ∧ σ' = σ)) (fun σ' t => va_P G vwCl (w0 ad cA σ') t.heap) (own8 ad)) 0 0 (own8 ad) := by
  refine Met.ofW (cc := cX0_doneIfPossible) (maxL := 3) (ret := (some .boolean)) (by decide) rfl ?_
  intro p e s m args below meth c s₁ B hml hv
  obtain ⟨rfl, hP, hK⟩ := hv
  have CF : CallFix p m c cX0_doneIfPossible 3 s _ AW RX0 := ⟨B.exec, B.bytes, hml, findClass_of_methodNamed B.named, fun w h => atoms_spec (ws := ws_ yX0_doneIfPossible cX0_doneIfPossible 3 (some .boolean)) B.pre w (List.mem_cons_of_mem _ h)⟩
  have hr := B.returns
  have hlocks := B.notSynchronized
  have hl := lv_entry ([.ref (ad 0), .int (nI (q))]) (n := 3) (Nat.le_of_ble_eq_true rfl)
  rw [lg_entry_eq]
  generalize (lg_sl ([.ref (ad 0), .int (nI (q))]) ++ List.replicate (3 - (lg_sl ([.ref (ad 0), .int (nI (q))])).length) Slot.unset).toArray = ls at hl ⊢
  have hl : lv_has ls 3 [(0, .ref (ad 0)), (1, .int (nI (q)))] := hl
  have hD : va_D (own8 ad) (w0 ad cA σ) := w0_D hj (fun _ h => h)
  have hS : va_S (own8 ad) s.heap s.heap [] := va_S.rf
  obtain ⟨i_sp, i_cu, i_ra, i_di, i_mo, i_pu⟩ := id hI
  have h_gl := pr_le hI (f := f) (t := t) (a := a) (A := 2147483647) (by omega) (by omega) (by omega)
  have h_gv : gv b f t a = pr b f t a / 10000 := rfl
  have h_mt := i_mo t (by omega)
  refine lv_aload_n CF.1 CF.2.1 dX0_doneIfPossible_0 rfl (lv_at hl 0 rfl) ?_
  refine lv_aload_n CF.1 CF.2.1 dX0_doneIfPossible_1 rfl (lv_at hl 0 rfl) ?_
  refine lv_iload_n CF.1 CF.2.1 dX0_doneIfPossible_2 rfl (lv_at hl 1 rfl) ?_
  refine lv_iconst (v := nI 0) CF.1 CF.2.1 dX0_doneIfPossible_3 (by decide) ?_
  refine c0_i CF hK hP (As := [.int (nI (q)), .int (nI (0))]) (rest := [.ref (ad 0)]) (c0_orderPart l (σ := σ) (u := q) (t := 0) (by omega) (by omega)) rfl lk_RX0_X0_orderPart rfl hl.1 ⟨Nat.le_of_ble_eq_true rfl, Nat.le_of_ble_eq_true rfl⟩ ⟨Nat.zero_le _, Nat.zero_le _⟩ (Nat.le_of_ble_eq_true rfl) rfl dX0_doneIfPossible_4 (fun r_1 hr_2 => ?_)
  subst hr_2
  refine tpi hq0 ?_
  refine lv_aload_n CF.1 CF.2.1 dX0_doneIfPossible_7 rfl (lv_at hl 0 rfl) ?_
  refine lv_iload_n CF.1 CF.2.1 dX0_doneIfPossible_8 rfl (lv_at hl 1 rfl) ?_
  refine lv_iconst (v := nI 1) CF.1 CF.2.1 dX0_doneIfPossible_9 (by decide) ?_
  refine c0_i CF hK hP (As := [.int (nI (q)), .int (nI (1))]) (rest := [.int (nI (u)), .ref (ad 0)]) (c0_orderPart l (σ := σ) (u := q) (t := 1) (by omega) (by omega)) rfl lk_RX0_X0_orderPart rfl hl.1 ⟨Nat.le_of_ble_eq_true rfl, Nat.le_of_ble_eq_true rfl⟩ ⟨Nat.zero_le _, Nat.zero_le _⟩ (Nat.le_of_ble_eq_true rfl) rfl dX0_doneIfPossible_10 (fun r_3 hr_4 => ?_)
  subst hr_4
  refine tpi hq1 ?_
  refine lv_aload_n CF.1 CF.2.1 dX0_doneIfPossible_13 rfl (lv_at hl 0 rfl) ?_
  refine lv_iload_n CF.1 CF.2.1 dX0_doneIfPossible_14 rfl (lv_at hl 1 rfl) ?_
  refine lv_iconst (v := nI 2) CF.1 CF.2.1 dX0_doneIfPossible_15 (by decide) ?_
  refine c0_i CF hK hP (As := [.int (nI (q)), .int (nI (2))]) (rest := [.int (nI (f)), .int (nI (u)), .ref (ad 0)]) (c0_orderPart l (σ := σ) (u := q) (t := 2) (by omega) (by omega)) rfl lk_RX0_X0_orderPart rfl hl.1 ⟨Nat.le_of_ble_eq_true rfl, Nat.le_of_ble_eq_true rfl⟩ ⟨Nat.zero_le _, Nat.zero_le _⟩ (Nat.le_of_ble_eq_true rfl) rfl dX0_doneIfPossible_16 (fun r_5 hr_6 => ?_)
  subst hr_6
  refine tpi hq2 ?_
  refine lv_aload_n CF.1 CF.2.1 dX0_doneIfPossible_19 rfl (lv_at hl 0 rfl) ?_
  refine lv_iload_n CF.1 CF.2.1 dX0_doneIfPossible_20 rfl (lv_at hl 1 rfl) ?_
  refine lv_iconst (v := nI 3) CF.1 CF.2.1 dX0_doneIfPossible_21 (by decide) ?_
  refine c0_i CF hK hP (As := [.int (nI (q)), .int (nI (3))]) (rest := [.int (nI (t)), .int (nI (f)), .int (nI (u)), .ref (ad 0)]) (c0_orderPart l (σ := σ) (u := q) (t := 3) (by omega) (by omega)) rfl lk_RX0_X0_orderPart rfl hl.1 ⟨Nat.le_of_ble_eq_true rfl, Nat.le_of_ble_eq_true rfl⟩ ⟨Nat.zero_le _, Nat.zero_le _⟩ (Nat.le_of_ble_eq_true rfl) rfl dX0_doneIfPossible_22 (fun r_7 hr_8 => ?_)
  subst hr_8
  refine tpi hq3 ?_
  refine lv_aload_n CF.1 CF.2.1 dX0_doneIfPossible_25 rfl (lv_at hl 0 rfl) ?_
  refine lv_iload_n CF.1 CF.2.1 dX0_doneIfPossible_26 rfl (lv_at hl 1 rfl) ?_
  refine lv_iconst (v := nI 4) CF.1 CF.2.1 dX0_doneIfPossible_27 (by decide) ?_
  refine c0_i CF hK hP (As := [.int (nI (q)), .int (nI (4))]) (rest := [.int (nI (a)), .int (nI (t)), .int (nI (f)), .int (nI (u)), .ref (ad 0)]) (c0_orderPart l (σ := σ) (u := q) (t := 4) (by omega) (by omega)) rfl lk_RX0_X0_orderPart rfl hl.1 ⟨Nat.le_of_ble_eq_true rfl, Nat.le_of_ble_eq_true rfl⟩ ⟨Nat.zero_le _, Nat.zero_le _⟩ (Nat.le_of_ble_eq_true rfl) rfl dX0_doneIfPossible_28 (fun r_9 hr_10 => ?_)
  subst hr_10
  refine tpi hq4 ?_
  refine d0_i CF hK hP hj (fun _ h => h) hS (As := [.int (nI (u)), .int (nI (f)), .int (nI (t)), .int (nI (a)), .int (nI (k))]) (rest := []) (c0_changeIfPossible l hj (b := b) hI hR (u := u) (f := f) (t := t) (a := a) (k := k) (by omega) (by omega) (by omega) (by omega) (by omega) (by omega)) rfl lk_RX0_X0_changeIfPossible rfl hl.1 ⟨Nat.le_of_ble_eq_true rfl, Nat.le_of_ble_eq_true rfl⟩ ⟨Nat.zero_le _, Nat.zero_le _⟩ (Nat.le_of_ble_eq_true rfl) rfl dX0_doneIfPossible_31 (fun r_11 σ13 H13 locs hr_12 hP13 hD13 hS13 hz13 hk13 => ?_)
  rcases hr_12 with ⟨hr_12a, rfl, hr_12b, hr_12c⟩ | ⟨hr_12a, rfl, rfl⟩
  · obtain ⟨hr_121, hr_122, hr_123, hr_124, hr_125, hr_126, hr_127⟩ := id hr_12a
    refine lv_istore_n (lv' := [(2, .int (nI (gv b (f) (t) (a)))), (0, .ref (ad 0)), (1, .int (nI (q)))]) CF.1 CF.2.1 dX0_doneIfPossible_34 rfl hl (by decide) rfl (fun ls hl => ?_)
    refine lv_iload_n CF.1 CF.2.1 dX0_doneIfPossible_35 rfl (lv_at hl 0 rfl) ?_
    refine z_if_eq CF (tgt := 43) (nIz (by omega)) dX0_doneIfPossible_36 (by decide) (fun h_14 => absurd h_14 (by omega)) (fun h_15 => ?_)
    refine lv_iconst (v := nI 1) CF.1 CF.2.1 dX0_doneIfPossible_39 (by decide) ?_
    refine lv_goto (tgt := 44) CF.1 CF.2.1 dX0_doneIfPossible_40 (by decide) ?_
    exact W.zret CF.1 CF.2.1 hr rfl (fun t ht hW => ⟨⟨_, σ13, rfl, Or.inl ⟨hr_12a, rfl, hr_12b, hr_12c⟩, by show va_P G vwCl (w0 ad cA σ13) t.heap; rw [ht]; exact hP13⟩, hS13.F ht⟩) hS13.2.2 dX0_doneIfPossible_44
  · refine lv_istore_n (lv' := [(2, .int (nI (0))), (0, .ref (ad 0)), (1, .int (nI (q)))]) CF.1 CF.2.1 dX0_doneIfPossible_34 rfl hl (by decide) rfl (fun ls hl => ?_)
    refine lv_iload_n CF.1 CF.2.1 dX0_doneIfPossible_35 rfl (lv_at hl 0 rfl) ?_
    refine z_if_eq CF (tgt := 43) (nIz (by omega)) dX0_doneIfPossible_36 (by decide) (fun _ => ?_) (fun h => absurd h (by decide))
    refine lv_iconst (v := nI 0) CF.1 CF.2.1 dX0_doneIfPossible_43 (by decide) ?_
    exact W.zret CF.1 CF.2.1 hr rfl (fun t ht hW => ⟨⟨_, σ13, rfl, Or.inr ⟨hr_12a, rfl, rfl⟩, by show va_P G vwCl (w0 ad cA σ13) t.heap; rw [ht]; exact hP13⟩, hS13.F ht⟩) hS13.2.2 dX0_doneIfPossible_44
/-- the class in the midst of a look: i places seen -/
def LkI (b : BS) (i : Nat) (σ : RS) : Prop := Rc σ (lkN b i).1 ∧ σ 0 3 = nI (b 0 3) ∧ σ 0 5 = nI (b 0 5) ∧ (∀ j, j < (lkN b i).2 * 5 → σ 7 j = nI ((lkN b i).1 7 j)) ∧ ∀ j, (lkN b i).2 * 5 ≤ j → j < (lkN b i).1 0 3 * 5 → σ 7 (j + (i - (lkN b i).2) * 5) = nI ((lkN b i).1 7 j)
theorem LkI_0 {b : BS} {σ : RS} (hR : Rc σ b) (hO : Ro σ b) : LkI b 0 σ := ⟨hR, hO.1, hO.2.1, fun j hj => absurd hj (by show ¬ j < 0 * 5; omega), fun j h1 h2 => by
  have h3 := hO.2.2 j (by have : j < b 0 3 * 5 := h2; omega)
  show σ 7 (j + (0 - 0) * 5) = _
  rw [show j + (0 - 0) * 5 = j by omega]
  exact h3⟩
theorem lkN_s {b : BS} {i : Nat} : lkN b (i + 1) = lkS ((lkN b i).1, (lkN b i).2) := rfl
theorem LkI_rd {b : BS} {σ : RS} {i x : Nat} (h : LkI b i σ) (hk : (lkN b i).2 ≤ i) (hw : (lkN b i).2 < (lkN b i).1 0 3) (hx : x < 5) : σ 7 (i * 5 + x) = nI ((lkN b i).1 7 ((lkN b i).2 * 5 + x)) := by
  have h5 := h.2.2.2.2 ((lkN b i).2 * 5 + x) (by omega) (by omega)
  rw [show (lkN b i).2 * 5 + x + (i - (lkN b i).2) * 5 = i * 5 + x by omega] at h5
  exact h5
theorem LkI_y {b : BS} {σ σ' : RS} {i : Nat} (h : LkI b i σ) (hk : (lkN b i).2 ≤ i) (hd : dueN (lkN b i).1 (lkN b i).2) (hR : Rc σ' (dorder (lkN b i).1 (lkN b i).2)) (hM : Sm σ σ') : LkI b (i + 1) σ' := by
  obtain ⟨e1, e2, e3, e4, e5⟩ := h
  obtain ⟨m1, m2, m3⟩ := hM
  unfold LkI
  rw [lkN_s, lkS_y hd]
  dsimp only
  generalize (lkN b i).1 = c at *
  generalize (lkN b i).2 = k at *
  refine ⟨Rc_to hR ?_ ?_ ?_ ?_ ?_, m2.trans e2, m3.trans e3, fun j hj => ?_, fun j h1 h2 => ?_⟩
  · rw [lkA_k (by omega) (by omega)]
  · rw [lkA_k (by omega) (by omega)]
  · rw [lkA_k (by omega) (by omega)]
  · rw [lkA_k (by omega) (by omega)]
  · intro k2 i2 h1 h2 h3
    rw [lkA_k (by omega) (by omega)]
  · rw [m1, lkA_7, if_pos hj]
    exact e4 j hj
  · rw [lkA_03] at h2
    rw [m1, lkA_7, if_neg (by omega), show j + (i + 1 - k) * 5 = j + 5 + (i - k) * 5 by omega]
    exact e5 (j + 5) (by omega) (by omega)
theorem LkI_n {b : BS} {σ : RS} {i : Nat} (h : LkI b i σ) (hk : (lkN b i).2 ≤ i) (hw : (lkN b i).2 < (lkN b i).1 0 3) (hd : ¬ dueN (lkN b i).1 (lkN b i).2) : LkI b (i + 1) (mvI σ i (lkN b i).2 5) := by
  have hrd := fun x hx => LkI_rd (x := x) h hk hw hx
  obtain ⟨e1, e2, e3, e4, e5⟩ := h
  unfold LkI
  rw [lkN_s, lkS_n hd]
  dsimp only
  generalize (lkN b i).1 = c at *
  generalize (lkN b i).2 = k at *
  have hne : ∀ a j, a ≠ 7 → mvI σ i k 5 a j = σ a j := fun a j ha => by unfold mvI; rw [if_neg (fun h => ha h.1)]
  obtain ⟨q1, q2, q3, q4, q5⟩ := e1
  refine ⟨⟨by rw [hne _ _ (by omega)]; exact q1, by rw [hne _ _ (by omega)]; exact q2, by rw [hne _ _ (by omega)]; exact q3, by rw [hne _ _ (by omega)]; exact q4, fun a j h1 h2 h3 => by rw [hne _ _ (by omega)]; exact q5 a j h1 h2 h3⟩, by rw [hne _ _ (by omega)]; exact e2, by rw [hne _ _ (by omega)]; exact e3, fun j hj => ?_, fun j h1 h2 => ?_⟩
  · unfold mvI
    by_cases hj2 : k * 5 ≤ j
    · rw [if_pos ⟨rfl, hj2, by omega⟩, hrd (j - k * 5) (by omega), show k * 5 + (j - k * 5) = j by omega]
    · rw [if_neg (by omega)]
      exact e4 j (by omega)
  · unfold mvI
    rw [if_neg (by omega), show j + (i + 1 - (k + 1)) * 5 = j + (i - k) * 5 by omega]
    exact e5 j (by omega) h2
theorem look_end {b : BS} {σ σ1 σ2 : RS} {i : Nat} (h : LkI b i σ) (hi : i = b 0 3) (j3 : (lkN b i).2 ≤ i) (j4 : (lkN b i).1 0 3 + i = b 0 3 + (lkN b i).2) (j5 : (lkN b i).1 0 5 + (lkN b i).2 = b 0 5 + i) (h1 : σ1 = up σ 0 3 (nI (lkN b i).2)) (h2 : σ2 = up σ1 0 5 (nI (b 0 5 + (b 0 3 - (lkN b i).2)))) : nI (b 0 3 - (lkN b i).2) = nI (b 0 3 - lka b 0 3) ∧ Rc σ2 (lka b) ∧ Ro σ2 (lka b) := by
  subst hi
  obtain ⟨e1, e2, e3, e4, e5⟩ := h
  have hk : lka b 0 3 = (lkN b (b 0 3)).2 := by unfold lka; omega
  have hd : lka b 0 5 = b 0 5 + (b 0 3 - (lkN b (b 0 3)).2) := by unfold lka; omega
  have hne : ∀ a j, (a ≠ 0 ∨ (j ≠ 3 ∧ j ≠ 5)) → σ2 a j = σ a j := fun a j ha => by
    rw [h2, h1]
    by_cases h0 : a = 0
    · subst h0
      rw [up_i (by omega), up_i (by omega)]
    · rw [up_k h0, up_k h0]
  obtain ⟨q1, q2, q3, q4, q5⟩ := e1
  refine ⟨by rw [hk], ⟨by rw [hne _ _ (by omega)]; exact q1, by rw [hne _ _ (by omega)]; exact q2, by rw [hne _ _ (by omega)]; exact q3, by rw [hne _ _ (by omega)]; exact q4, fun a j z1 z2 z3 => by rw [hne _ _ (by omega)]; exact q5 a j z1 z2 z3⟩, ?_, ?_, fun j hj => ?_⟩
  · rw [h2, up_i (by omega), h1, up_s, hk]
  · rw [h2, up_s, hd]
  · rw [hk] at hj
    rw [hne _ _ (by omega)]
    exact e4 j (by omega)

set_option maxHeartbeats 4000000 in
set_option maxRecDepth 100000 in
theorem c0_lookAtOrders (l : Launch) {G : va_G} {cA : ClassId} {ad : Nat → Nat} {σ : RS} (hj : inj8 ad) {b : BS} (hI : InvC b) (hR : Rc σ b) (hO : Ro σ b) (hOi : InvO b) : Met l yX0_lookAtOrders (ws_ yX0_lookAtOrders cX0_lookAtOrders 3 (some .int)) (rmk 6 0 0) (pc0 G cA ad σ [.ref (ad 0)]) (va_Qi (fun (r : Int32) (σ' : RS) => r = nI (b 0 3 - lka b 0 3) ∧ Rc σ' (lka b) ∧ Ro σ' (lka b)) (fun σ' t => va_P G vwCl (w0 ad cA σ') t.heap) (own8 ad)) 0 0 (own8 ad) := by
  refine Met.ofW (cc := cX0_lookAtOrders) (maxL := 3) (ret := (some .int)) (by decide) rfl ?_
  intro p e s m args below meth c s₁ B hml hv
  obtain ⟨rfl, hP, hK⟩ := hv
  have CF : CallFix p m c cX0_lookAtOrders 3 s _ AW RX0 := ⟨B.exec, B.bytes, hml, findClass_of_methodNamed B.named, fun w h => atoms_spec (ws := ws_ yX0_lookAtOrders cX0_lookAtOrders 3 (some .int)) B.pre w (List.mem_cons_of_mem _ h)⟩
  have hr := B.returns
  have hlocks := B.notSynchronized
  have hl := lv_entry ([.ref (ad 0)]) (n := 3) (Nat.le_of_ble_eq_true rfl)
  rw [lg_entry_eq]
  generalize (lg_sl ([.ref (ad 0)]) ++ List.replicate (3 - (lg_sl ([.ref (ad 0)])).length) Slot.unset).toArray = ls at hl ⊢
  have hl : lv_has ls 3 [(0, .ref (ad 0))] := hl
  have hD : va_D (own8 ad) (w0 ad cA σ) := w0_D hj (fun _ h => h)
  have hS : va_S (own8 ad) s.heap s.heap [] := va_S.rf
  have hw10 := hOi.1
  refine lv_iconst (v := nI 0) CF.1 CF.2.1 dX0_lookAtOrders_0 (by decide) ?_
  refine lv_istore_n (lv' := [(1, .int (nI (0))), (0, .ref (ad 0))]) CF.1 CF.2.1 dX0_lookAtOrders_1 rfl hl (by decide) rfl (fun ls hl => ?_)
  refine lv_iconst (v := nI 0) CF.1 CF.2.1 dX0_lookAtOrders_2 (by decide) ?_
  refine lv_istore_n (lv' := [(2, .int (nI (0))), (1, .int (nI (0))), (0, .ref (ad 0))]) CF.1 CF.2.1 dX0_lookAtOrders_3 rfl hl (by decide) rfl (fun ls hl => ?_)
  refine loop_rw0 (α := Unit) (fun i x => [(0, .ref (ad 0)), (1, .int (nI ((lkN b i).2))), (2, .int (nI (i)))]) (fun i _ σ' => LkI b i σ') (b 0 3) (0) (()) (LkI_0 hR hO) hP hS (lv_sub hl [2, 1, 0] rfl) (by omega) (fun i_1 x_1 σ1 H1 locs hj_1 hi_1 hx_1 hP1 hS1 ih_1 ls hl => ?_)
  have hD1 : va_D (own8 ad) (w0 ad cA σ1) := w0_D hj (fun _ h => h)
  obtain ⟨j1, j2, j3, j4, j5, j6⟩ := lk_inv hI hOi i_1 (by omega)
  obtain ⟨e1, e2, e3, e4, e5⟩ := id hx_1
  have hw10 := hOi.1
  refine lv_iload_n CF.1 CF.2.1 dX0_lookAtOrders_4 rfl (lv_at hl 2 rfl) ?_
  refine lv_aload_n CF.1 CF.2.1 dX0_lookAtOrders_5 rfl (lv_at hl 0 rfl) ?_
  refine x0_g_waiting CF hK hP1 (v := (nI (b 0 3))) e2 dX0_lookAtOrders_6 ?_
  refine z_icmp_ge CF (tgt := 35) (nIz (by omega)) (nIz (by omega)) dX0_lookAtOrders_9 (by decide) (fun h_2 => ?_) (fun h_3 => ?_)
  · refine lv_aload_n CF.1 CF.2.1 dX0_lookAtOrders_35 rfl (lv_at hl 0 rfl) ?_
    refine x0_g_waiting CF hK hP1 (v := (nI (b 0 3))) e2 dX0_lookAtOrders_36 ?_
    refine lv_iload_n CF.1 CF.2.1 dX0_lookAtOrders_39 rfl (lv_at hl 1 rfl) ?_
    refine o_isub CF (by omega) dX0_lookAtOrders_40 ?_
    refine lv_istore_n (lv' := [(2, .int (nI (b 0 3 - ((lkN b i_1).2)))), (0, .ref (ad 0)), (1, .int (nI ((lkN b i_1).2)))]) CF.1 CF.2.1 dX0_lookAtOrders_41 rfl hl (by decide) rfl (fun ls hl => ?_)
    refine lv_aload_n CF.1 CF.2.1 dX0_lookAtOrders_42 rfl (lv_at hl 1 rfl) ?_
    refine lv_iload_n CF.1 CF.2.1 dX0_lookAtOrders_43 rfl (lv_at hl 2 rfl) ?_
    refine x0_p_waiting CF hK hP1 hD1 hS1 dX0_lookAtOrders_44 (fun σ4 H4 locs hσ4 hP4 hD4 hS4 => ?_)
    refine lv_aload_n CF.1 CF.2.1 dX0_lookAtOrders_47 rfl (lv_at hl 1 rfl) ?_
    refine lv_dup CF.1 CF.2.1 dX0_lookAtOrders_48 rfl ?_
    refine x0_g_ordersDone CF hK hP4 (v := (nI (b 0 5))) (by rw [hσ4, up_i (by decide)]; exact e3) dX0_lookAtOrders_49 ?_
    refine lv_iload_n CF.1 CF.2.1 dX0_lookAtOrders_52 rfl (lv_at hl 0 rfl) ?_
    refine o_iadd CF dX0_lookAtOrders_53 ?_
    refine x0_p_ordersDone CF hK hP4 hD4 hS4 dX0_lookAtOrders_54 (fun σ5 H5 locs hσ5 hP5 hD5 hS5 => ?_)
    refine lv_iload_n CF.1 CF.2.1 dX0_lookAtOrders_57 rfl (lv_at hl 0 rfl) ?_
    exact W.iret CF.1 CF.2.1 hr (fun t ht hW => ⟨⟨_, σ5, rfl, look_end hx_1 (by omega) j3 j4 j5 hσ4 hσ5, by show va_P G vwCl (w0 ad cA σ5) t.heap; rw [ht]; exact hP5⟩, hS5.F ht⟩) hS5.2.2 dX0_lookAtOrders_58
  · refine lv_aload_n CF.1 CF.2.1 dX0_lookAtOrders_12 rfl (lv_at hl 0 rfl) ?_
    refine lv_iload_n CF.1 CF.2.1 dX0_lookAtOrders_13 rfl (lv_at hl 2 rfl) ?_
    obtain ⟨o1, o2, o3, o4, o5, o6, o7, o8⟩ := j2.2 (lkN b i_1).2 (by omega)
    have hrd := fun x hx => LkI_rd (x := x) hx_1 j3 (by omega) hx
    refine d0_i CF hK hP1 hj (fun _ h => h) hS1 (As := [.int (nI (i_1))]) (rest := []) (c0_doneIfPossible l hj (b := (lkN b i_1).1) j1 e1 (q := i_1) (u := (lkN b i_1).1 7 ((lkN b i_1).2 * 5)) (f := (lkN b i_1).1 7 ((lkN b i_1).2 * 5 + 1)) (t := (lkN b i_1).1 7 ((lkN b i_1).2 * 5 + 2)) (a := (lkN b i_1).1 7 ((lkN b i_1).2 * 5 + 3)) (k := (lkN b i_1).1 7 ((lkN b i_1).2 * 5 + 4)) (by omega) (hrd 0 (by omega)) (hrd 1 (by omega)) (hrd 2 (by omega)) (hrd 3 (by omega)) (hrd 4 (by omega)) o1 o2 o3 (by omega) o7 (by omega)) rfl lk_RX0_X0_doneIfPossible rfl hl.1 ⟨Nat.le_of_ble_eq_true rfl, Nat.le_of_ble_eq_true rfl⟩ ⟨Nat.zero_le _, Nat.zero_le _⟩ (Nat.le_of_ble_eq_true rfl) rfl dX0_lookAtOrders_14 (fun r_6 σ8 H8 locs hr_7 hP8 hD8 hS8 hz8 hk8 => ?_)
    rcases hr_7 with ⟨hr_7a, rfl, hr_7b, hr_7c⟩ | ⟨hr_7a, rfl, rfl⟩
    · refine z_if_ne CF (tgt := 29) (nIz (by omega)) dX0_lookAtOrders_17 (by decide) (fun _ => ?_) (fun h => absurd h (by decide))
      refine lv_iinc (v := nI (i_1 + 1)) (lv' := [(2, .int (nI (i_1 + 1))), (0, .ref (ad 0)), (1, .int (nI ((lkN b i_1).2)))]) CF.1 CF.2.1 dX0_lookAtOrders_29 hl (k := 2) rfl (by first | exact nI_add _ _ | rfl) (by decide) rfl (fun ls hl => ?_)
      refine lv_goto (tgt := 4) CF.1 CF.2.1 dX0_lookAtOrders_32 (by decide) ?_
      have hk2 : (lkN b (i_1 + 1)).2 = (lkN b i_1).2 := by rw [lkN_s, lkS_y hr_7a]
      exact ih_1 () σ8 _ _ ls (by omega) (LkI_y hx_1 j3 hr_7a hr_7b hr_7c) hP8 hS8 (lv_sub hl [1, 2, 0] (by rw [hk2]; rfl))
    · refine z_if_ne CF (tgt := 29) (nIz (by omega)) dX0_lookAtOrders_17 (by decide) (fun h => absurd h (by decide)) (fun _ => ?_)
      refine lv_aload_n CF.1 CF.2.1 dX0_lookAtOrders_20 rfl (lv_at hl 0 rfl) ?_
      refine lv_iload_n CF.1 CF.2.1 dX0_lookAtOrders_21 rfl (lv_at hl 2 rfl) ?_
      refine lv_iload_n CF.1 CF.2.1 dX0_lookAtOrders_22 rfl (lv_at hl 1 rfl) ?_
      refine d0_v CF hK hP8 hj (fun _ h => h) hS8 (As := [.int (nI (i_1)), .int (nI ((lkN b i_1).2))]) (rest := []) (c0_moveOrder l hj (σ := σ8) (q := i_1) (k := (lkN b i_1).2) (by omega) (by omega)) rfl lk_RX0_X0_moveOrder rfl hl.1 ⟨Nat.le_of_ble_eq_true rfl, Nat.le_of_ble_eq_true rfl⟩ ⟨Nat.zero_le _, Nat.zero_le _⟩ (Nat.le_of_ble_eq_true rfl) rfl dX0_lookAtOrders_23 (fun σ15 H15 locs hr_14 hP15 hD15 hS15 hz15 hk15 => ?_)
      refine lv_iinc (v := nI ((lkN b i_1).2 + 1)) (lv' := [(1, .int (nI ((lkN b i_1).2 + 1))), (0, .ref (ad 0)), (2, .int (nI (i_1)))]) CF.1 CF.2.1 dX0_lookAtOrders_26 hl (k := 1) rfl (by first | exact nI_add _ _ | rfl) (by decide) rfl (fun ls hl => ?_)
      refine lv_iinc (v := nI (i_1 + 1)) (lv' := [(2, .int (nI (i_1 + 1))), (1, .int (nI ((lkN b i_1).2 + 1))), (0, .ref (ad 0))]) CF.1 CF.2.1 dX0_lookAtOrders_29 hl (k := 2) rfl (by first | exact nI_add _ _ | rfl) (by decide) rfl (fun ls hl => ?_)
      refine lv_goto (tgt := 4) CF.1 CF.2.1 dX0_lookAtOrders_32 (by decide) ?_
      have hk2 : (lkN b (i_1 + 1)).2 = (lkN b i_1).2 + 1 := by rw [lkN_s, lkS_n hr_7a]
      exact ih_1 () σ15 _ _ ls (by omega) (by show LkI b (i_1 + 1) σ15; rw [hr_14]; exact LkI_n hx_1 j3 (by omega) hr_7a) hP15 hS15 (lv_sub hl [2, 1, 0] (by rw [hk2]; rfl))
end
section
/-- behind one change, cut off -/
def bh (b : BS) (f t a : Nat) : Nat := min (gv b f t a) 2147483647
def mgl (F : Nat → Nat) (x : Nat) : Nat → Nat | 0 => x | k + 1 => max (mgl F x k) (F k)
def mag (b : BS) (goal : Nat) : Nat → Nat → Nat → Nat → Nat
  | 0, _, _, _ => 0
  | n + 1, at_, a, v => mgl (fun o => if v &&& 2 ^ o = 0 then mag b goal n o (bh b at_ o a) (v ||| 2 ^ o) else 0) (bh b at_ goal a) 5
def mgF (b : BS) (goal n at_ a v : Nat) : Nat → Nat := fun o => if v &&& 2 ^ o = 0 then mag b goal n o (bh b at_ o a) (v ||| 2 ^ o) else 0
theorem mag_s {b : BS} {goal n at_ a v : Nat} : mag b goal (n + 1) at_ a v = mgl (mgF b goal n at_ a v) (bh b at_ goal a) 5 := rfl
theorem mgl_y {b : BS} {goal n at_ a v x o : Nat} (h : v &&& 2 ^ o = 0) : mgl (mgF b goal n at_ a v) x (o + 1) = max (mgl (mgF b goal n at_ a v) x o) (mag b goal n o (bh b at_ o a) (v ||| 2 ^ o)) := by
  show max _ (mgF b goal n at_ a v o) = _
  unfold mgF
  rw [if_pos h]
theorem mgl_n {b : BS} {goal n at_ a v x o : Nat} (h : ¬ v &&& 2 ^ o = 0) : mgl (mgF b goal n at_ a v) x (o + 1) = mgl (mgF b goal n at_ a v) x o := by
  show max _ (mgF b goal n at_ a v o) = _
  have h2 : mgF b goal n at_ a v o = 0 := by unfold mgF; rw [if_neg h]
  rw [h2]; omega
theorem mgl_le {F : Nat → Nat} {x B : Nat} (hx : x ≤ B) (hF : ∀ o, F o ≤ B) : ∀ k, mgl F x k ≤ B
  | 0 => hx
  | k + 1 => Nat.max_le.mpr ⟨mgl_le hx hF k, hF k⟩
theorem bh_le {b : BS} {f t a : Nat} : bh b f t a ≤ 2147483647 := Nat.min_le_right _ _
theorem mag_le {b : BS} {goal : Nat} : ∀ n at_ a v, mag b goal n at_ a v ≤ 2147483647
  | 0, _, _, _ => Nat.zero_le _
  | n + 1, at_, a, v => by
    rw [mag_s]
    refine mgl_le bh_le (fun o => ?_) 5
    unfold mgF
    split
    · exact mag_le n _ _ _
    · exact Nat.zero_le _
theorem mgF_le {b : BS} {goal n at_ a v o : Nat} : mgF b goal n at_ a v o ≤ 2147483647 := by
  unfold mgF
  split
  · exact mag_le n _ _ _
  · exact Nat.zero_le _
theorem rk {k K mL : Nat} (h : k + 1 ≤ K) (h2 : mL ≤ 21) : k + 1 ≤ (rmk K 0 0).frames ∧ 8 + (mL + 11) + 40 * k ≤ (rmk K 0 0).locals := ⟨h, by show 8 + (mL + 11) + 40 * k ≤ 40 * K; omega⟩
theorem ml15 {K : Nat} (h : 1 ≤ K) : (([] : List Value).map fun v => v.category).sum + 15 ≤ (rmk K 0 0).locals := by show 0 + 15 ≤ 40 * K; omega
theorem or_lt {v o : Nat} (h : v < 32) (ho : o < 5) : v ||| 2 ^ o < 32 := by
  have h2 : 2 ^ o < 2 ^ 5 := Nat.pow_lt_pow_right (by omega) ho
  exact Nat.or_lt_two_pow (n := 5) h h2

set_option maxHeartbeats 1000000 in
set_option maxRecDepth 100000 in
theorem c0_behindOneChange (l : Launch) {G : va_G} {cA : ClassId} {ad : Nat → Nat} {σ : RS} {b : BS} (hI : InvC b) (hR : Rc σ b) {f t a : Nat} (hf : f < 5) (ht : t < 5) (ha : a ≤ 2147483647) : Met l yX0_behindOneChange (ws_ yX0_behindOneChange cX0_behindOneChange 5 (some .long)) (rmk 4 0 0) (pc0 G cA ad σ [.ref (ad 0), .int (nI (f)), .int (nI (t)), .long (lN (a))]) (rql (fun r => r = lN (bh b f t a))) 0 0 (fun _ => False) := by
  refine Met.ofW (cc := cX0_behindOneChange) (maxL := 5) (ret := (some .long)) (by decide) rfl ?_
  intro p e s m args below meth c s₁ B hml hv
  obtain ⟨rfl, hP, hK⟩ := hv
  have CF : CallFix p m c cX0_behindOneChange 5 s _ AW RX0 := ⟨B.exec, B.bytes, hml, findClass_of_methodNamed B.named, fun w h => atoms_spec (ws := ws_ yX0_behindOneChange cX0_behindOneChange 5 (some .long)) B.pre w (List.mem_cons_of_mem _ h)⟩
  have hr := B.returns
  have hlocks := B.notSynchronized
  have hl := lv_entry ([.ref (ad 0), .int (nI (f)), .int (nI (t)), .long (lN (a))]) (n := 5) (Nat.le_of_ble_eq_true rfl)
  rw [lg_entry_eq]
  generalize (lg_sl ([.ref (ad 0), .int (nI (f)), .int (nI (t)), .long (lN (a))]) ++ List.replicate (5 - (lg_sl ([.ref (ad 0), .int (nI (f)), .int (nI (t)), .long (lN (a))])).length) Slot.unset).toArray = ls at hl ⊢
  have hl : lv_has ls 5 [(0, .ref (ad 0)), (1, .int (nI (f))), (2, .int (nI (t))), (3, .long (lN (a)))] := hl
  obtain ⟨i_sp, i_cu, i_ra, i_di, i_mo, i_pu⟩ := id hI
  refine lv_aload_n CF.1 CF.2.1 dX0_behindOneChange_0 rfl (lv_at hl 0 rfl) ?_
  refine lv_iload_n CF.1 CF.2.1 dX0_behindOneChange_1 rfl (lv_at hl 1 rfl) ?_
  refine lv_iload_n CF.1 CF.2.1 dX0_behindOneChange_2 rfl (lv_at hl 2 rfl) ?_
  refine lv_lload_n CF.1 CF.2.1 dX0_behindOneChange_3 rfl (lv_at hl 3 rfl) ?_
  refine c0_l CF hK hP (As := [.int (nI (f)), .int (nI (t)), .long (lN (a))]) (rest := []) (c0_tenthousandths l hI hR (f := f) (t := t) (by omega) (by omega) (lN (a))) rfl lk_RX0_X0_tenthousandths rfl hl.1 ⟨Nat.le_of_ble_eq_true rfl, Nat.le_of_ble_eq_true rfl⟩ ⟨Nat.zero_le _, Nat.zero_le _⟩ (Nat.le_of_ble_eq_true rfl) rfl dX0_behindOneChange_4 (fun r_1 hr_2 => ?_)
  subst hr_2
  refine tpl (show lN (a) * lN (b 1 (f * 5 + t)) * lN (100 - b 0 1) = lN (pr b (f) (t) (a)) from by rw [lN_mul, lN_mul]; rfl) ?_
  have hp_3 := pr_le hI (f := f) (t := t) (a := a) (A := 2147483647) (by omega) (by omega) (by omega)
  refine cS_l CF (As := [.long (lN (pr b (f) (t) (a)))]) (rest := []) (c0_wholeOnes l (lN (pr b (f) (t) (a)))) lk_RX0_X0_wholeOnes rfl hl.1 ⟨Nat.le_of_ble_eq_true rfl, Nat.le_of_ble_eq_true rfl⟩ ⟨Nat.zero_le _, Nat.zero_le _⟩ (Nat.le_of_ble_eq_true rfl) rfl dX0_behindOneChange_7 (fun r_4 hr_5 => ?_)
  subst hr_5
  refine tpl (y := lN (gv b (f) (t) (a))) (pk_lDiv (a := pr b (f) (t) (a)) (b := 10000) (by omega) (by omega) (by omega)) ?_
  have hg_6 : gv b (f) (t) (a) = pr b (f) (t) (a) / 10000 := rfl
  refine lv_ldc2 (v := lN 2147483647) CF.1 CF.2.1 CF.2.2.2.1 (CF.2.2.2.2 _ (inr_18 _ (List.mem_of_getElem? (i := 4) rfl))) dX0_behindOneChange_10 ?_
  refine va_mmin_long CF.1 CF.2.1 (CF.2.2.1.trans hl.1.symm) CF.2.2.2.1 (CF.2.2.2.2 _ (inr_5 _ (List.mem_of_getElem? (i := 6) rfl))) (CF.2.2.2.2 _ (inr_5 _ (List.mem_of_getElem? (i := 7) rfl))) (CF.2.2.2.2 _ (inr_5 _ (List.mem_of_getElem? (i := 8) rfl))) (CF.2.2.2.2 _ (inr_5 _ (List.mem_of_getElem? (i := 9) rfl))) (Nat.le_of_ble_eq_true rfl) (Nat.le_of_ble_eq_true rfl) (Nat.zero_le _) (Nat.zero_le _) dX0_behindOneChange_13 ?_
  refine tpl (mnL (by omega) (by omega)) ?_
  exact W.lret CF.1 CF.2.1 hr (fun t ht hW => ⟨_, rfl, rfl, ht⟩) (fun q hq => absurd hq List.not_mem_nil) dX0_behindOneChange_16
def CtA (l : Launch) (G : va_G) (cA : ClassId) (ad : Nat → Nat) (σ : RS) (b : BS) (n : Nat) : Prop := ∀ at_ goal a v, at_ < 5 → goal < 5 → a ≤ 2147483647 → v < 32 → Met l yX0_mostAtGoal (ws_ yX0_mostAtGoal cX0_mostAtGoal 10 (some .long)) (rmk (2 * n + 5) 0 0) (pc0 G cA ad σ [.ref (ad 0), .int (nI at_), .int (nI goal), .long (lN a), .int (nI v), .int (nI n)]) (rql (fun r => r = lN (mag b goal n at_ a v))) 0 0 (fun _ => False)
def CtO (l : Launch) (G : va_G) (cA : ClassId) (ad : Nat → Nat) (σ : RS) (b : BS) (n : Nat) : Prop := ∀ at_ o goal a v, at_ < 5 → o < 5 → goal < 5 → a ≤ 2147483647 → v < 32 → Met l yX0_mostOver (ws_ yX0_mostOver cX0_mostOver 10 (some .long)) (rmk (2 * (n + 1) + 4) 0 0) (pc0 G cA ad σ [.ref (ad 0), .int (nI at_), .int (nI o), .int (nI goal), .long (lN a), .int (nI v), .int (nI (n + 1))]) (rql (fun r => r = lN (mag b goal n o (bh b at_ o a) (v ||| 2 ^ o)))) 0 0 (fun _ => False)
set_option maxHeartbeats 1000000 in
set_option maxRecDepth 100000 in
theorem c0_mostOver (l : Launch) {G : va_G} {cA : ClassId} {ad : Nat → Nat} {σ : RS} {b : BS} (hI : InvC b) (hR : Rc σ b) {n : Nat} (hn : n < 10) (hA : CtA l G cA ad σ b n) : CtO l G cA ad σ b n := by
  intro at_ o goal a v hat ho hgoal ha hv
  refine Met.ofW (cc := cX0_mostOver) (maxL := 10) (ret := (some .long)) (by decide) rfl ?_
  intro p e s m args below meth c s₁ B hml hv
  obtain ⟨rfl, hP, hK⟩ := hv
  have CF : CallFix p m c cX0_mostOver 10 s _ AW RX0 := ⟨B.exec, B.bytes, hml, findClass_of_methodNamed B.named, fun w h => atoms_spec (ws := ws_ yX0_mostOver cX0_mostOver 10 (some .long)) B.pre w (List.mem_cons_of_mem _ h)⟩
  have hr := B.returns
  have hlocks := B.notSynchronized
  have hl := lv_entry ([.ref (ad 0), .int (nI (at_)), .int (nI (o)), .int (nI (goal)), .long (lN (a)), .int (nI (v)), .int (nI (n + 1))]) (n := 10) (Nat.le_of_ble_eq_true rfl)
  rw [lg_entry_eq]
  show W p l e (rmk (2 * (n + 1) + 4) 0 0) s m _ below meth c s.heap [] 0 0 _ _
  generalize (lg_sl ([.ref (ad 0), .int (nI (at_)), .int (nI (o)), .int (nI (goal)), .long (lN (a)), .int (nI (v)), .int (nI (n + 1))]) ++ List.replicate (10 - (lg_sl ([.ref (ad 0), .int (nI (at_)), .int (nI (o)), .int (nI (goal)), .long (lN (a)), .int (nI (v)), .int (nI (n + 1))])).length) Slot.unset).toArray = ls at hl ⊢
  have hl : lv_has ls 10 [(0, .ref (ad 0)), (1, .int (nI (at_))), (2, .int (nI (o))), (3, .int (nI (goal))), (4, .long (lN (a))), (6, .int (nI (v))), (7, .int (nI (n + 1)))] := hl
  obtain ⟨i_sp, i_cu, i_ra, i_di, i_mo, i_pu⟩ := id hI
  refine lv_aload_n CF.1 CF.2.1 dX0_mostOver_0 rfl (lv_at hl 0 rfl) ?_
  refine lv_iload_n CF.1 CF.2.1 dX0_mostOver_1 rfl (lv_at hl 1 rfl) ?_
  refine lv_iload_n CF.1 CF.2.1 dX0_mostOver_2 rfl (lv_at hl 2 rfl) ?_
  refine lv_lload CF.1 CF.2.1 dX0_mostOver_3 (lv_at hl 4 rfl) ?_
  refine c0_l CF hK hP (As := [.int (nI (at_)), .int (nI (o)), .long (lN (a))]) (rest := []) (c0_behindOneChange l hI hR (f := at_) (t := o) (a := a) (by omega) (by omega) (by omega)) rfl lk_RX0_X0_behindOneChange rfl hl.1 (rk (by omega) (by decide)) ⟨Nat.zero_le _, Nat.zero_le _⟩ (Nat.le_of_ble_eq_true rfl) rfl dX0_mostOver_5 (fun r_1 hr_2 => ?_)
  subst hr_2
  refine lv_lstore (lv' := [(8, .long (lN (bh b (at_) (o) (a)))), (0, .ref (ad 0)), (1, .int (nI (at_))), (2, .int (nI (o))), (3, .int (nI (goal))), (4, .long (lN (a))), (6, .int (nI (v))), (7, .int (nI (n + 1)))]) CF.1 CF.2.1 dX0_mostOver_8 hl (by decide) rfl (fun ls hl => ?_)
  refine lv_aload_n CF.1 CF.2.1 dX0_mostOver_10 rfl (lv_at hl 1 rfl) ?_
  refine lv_iload_n CF.1 CF.2.1 dX0_mostOver_11 rfl (lv_at hl 3 rfl) ?_
  refine lv_iload_n CF.1 CF.2.1 dX0_mostOver_12 rfl (lv_at hl 4 rfl) ?_
  refine lv_lload CF.1 CF.2.1 dX0_mostOver_13 (lv_at hl 0 rfl) ?_
  refine lv_iload CF.1 CF.2.1 dX0_mostOver_15 (lv_at hl 6 rfl) ?_
  refine lv_iload_n CF.1 CF.2.1 dX0_mostOver_17 rfl (lv_at hl 3 rfl) ?_
  refine cS_i CF (As := [.int (nI (o))]) (rest := [.int (nI (v)), .long (lN (bh b (at_) (o) (a))), .int (nI (goal)), .int (nI (o)), .ref (ad 0)]) (c0_bit l (j := o) (by omega)) lk_RX0_X0_bit rfl hl.1 (rk (by omega) (by decide)) ⟨Nat.zero_le _, Nat.zero_le _⟩ (Nat.le_of_ble_eq_true rfl) rfl dX0_mostOver_18 (fun r_3 hr_4 => ?_)
  subst hr_4
  refine lv_ior CF.1 CF.2.1 dX0_mostOver_21 ?_
  refine tpi (orI _ _) ?_
  refine lv_iload CF.1 CF.2.1 dX0_mostOver_22 (lv_at hl 7 rfl) ?_
  refine lv_iconst (v := nI 1) CF.1 CF.2.1 dX0_mostOver_24 (by decide) ?_
  refine o_isub CF (by omega) dX0_mostOver_25 ?_
  refine tpi (congrArg nI (show n + 1 - 1 = n by omega)) ?_
  refine c0_l CF hK hP (As := [.int (nI (o)), .int (nI (goal)), .long (lN (bh b (at_) (o) (a))), .int (nI ((v) ||| (2 ^ (o)))), .int (nI (n))]) (rest := []) (hA o goal (bh b (at_) (o) (a)) ((v) ||| (2 ^ (o))) (by omega) (by omega) bh_le (or_lt hv ho)) rfl lk_RX0_X0_mostAtGoal rfl hl.1 (rk (by omega) (by decide)) ⟨Nat.zero_le _, Nat.zero_le _⟩ (Nat.le_of_ble_eq_true rfl) rfl dX0_mostOver_26 (fun r_5 hr_6 => ?_)
  subst hr_6
  exact W.lret CF.1 CF.2.1 hr (fun t ht hW => ⟨_, rfl, rfl, ht⟩) (fun q hq => absurd hq List.not_mem_nil) dX0_mostOver_29
set_option maxHeartbeats 1000000 in
set_option maxRecDepth 100000 in
theorem c0_mag0 (l : Launch) {G : va_G} {cA : ClassId} {ad : Nat → Nat} {σ : RS} {b : BS} (hI : InvC b) (hR : Rc σ b) : CtA l G cA ad σ b 0 := by
  intro at_ goal a v hat hgoal ha hv
  refine Met.ofW (cc := cX0_mostAtGoal) (maxL := 10) (ret := (some .long)) (by decide) rfl ?_
  intro p e s m args below meth c s₁ B hml hv
  obtain ⟨rfl, hP, hK⟩ := hv
  have CF : CallFix p m c cX0_mostAtGoal 10 s _ AW RX0 := ⟨B.exec, B.bytes, hml, findClass_of_methodNamed B.named, fun w h => atoms_spec (ws := ws_ yX0_mostAtGoal cX0_mostAtGoal 10 (some .long)) B.pre w (List.mem_cons_of_mem _ h)⟩
  have hr := B.returns
  have hlocks := B.notSynchronized
  have hl := lv_entry ([.ref (ad 0), .int (nI (at_)), .int (nI (goal)), .long (lN (a)), .int (nI (v)), .int (nI (0))]) (n := 10) (Nat.le_of_ble_eq_true rfl)
  rw [lg_entry_eq]
  show W p l e (rmk (2 * 0 + 5) 0 0) s m _ below meth c s.heap [] 0 0 _ _
  generalize (lg_sl ([.ref (ad 0), .int (nI (at_)), .int (nI (goal)), .long (lN (a)), .int (nI (v)), .int (nI (0))]) ++ List.replicate (10 - (lg_sl ([.ref (ad 0), .int (nI (at_)), .int (nI (goal)), .long (lN (a)), .int (nI (v)), .int (nI (0))])).length) Slot.unset).toArray = ls at hl ⊢
  have hl : lv_has ls 10 [(0, .ref (ad 0)), (1, .int (nI (at_))), (2, .int (nI (goal))), (3, .long (lN (a))), (5, .int (nI (v))), (6, .int (nI (0)))] := hl
  obtain ⟨i_sp, i_cu, i_ra, i_di, i_mo, i_pu⟩ := id hI
  refine lv_iload CF.1 CF.2.1 dX0_mostAtGoal_0 (lv_at hl 5 rfl) ?_
  refine lv_iconst (v := nI 1) CF.1 CF.2.1 dX0_mostAtGoal_2 (by decide) ?_
  refine z_icmp_ge CF (tgt := 8) (nIz (by omega)) (nIz (by omega)) dX0_mostAtGoal_3 (by decide) (fun h => absurd h (by decide)) (fun _ => ?_)
  refine lv_lconst (v := lN 0) CF.1 CF.2.1 dX0_mostAtGoal_6 (by decide) ?_
  exact W.lret CF.1 CF.2.1 hr (fun t ht hW => ⟨_, rfl, rfl, ht⟩) (fun q hq => absurd hq List.not_mem_nil) dX0_mostAtGoal_7
set_option maxHeartbeats 1000000 in
set_option maxRecDepth 100000 in
theorem c0_magS (l : Launch) {G : va_G} {cA : ClassId} {ad : Nat → Nat} {σ : RS} {b : BS} (hI : InvC b) (hR : Rc σ b) {n : Nat} (hn : n < 10) (hO : CtO l G cA ad σ b n) : CtA l G cA ad σ b (n + 1) := by
  intro at_ goal a v hat hgoal ha hv
  refine Met.ofW (cc := cX0_mostAtGoal) (maxL := 10) (ret := (some .long)) (by decide) rfl ?_
  intro p e s m args below meth c s₁ B hml hv
  obtain ⟨rfl, hP, hK⟩ := hv
  have CF : CallFix p m c cX0_mostAtGoal 10 s _ AW RX0 := ⟨B.exec, B.bytes, hml, findClass_of_methodNamed B.named, fun w h => atoms_spec (ws := ws_ yX0_mostAtGoal cX0_mostAtGoal 10 (some .long)) B.pre w (List.mem_cons_of_mem _ h)⟩
  have hr := B.returns
  have hlocks := B.notSynchronized
  have hl := lv_entry ([.ref (ad 0), .int (nI (at_)), .int (nI (goal)), .long (lN (a)), .int (nI (v)), .int (nI (n + 1))]) (n := 10) (Nat.le_of_ble_eq_true rfl)
  rw [lg_entry_eq]
  show W p l e (rmk (2 * (n + 1) + 5) 0 0) s m _ below meth c s.heap [] 0 0 _ _
  generalize (lg_sl ([.ref (ad 0), .int (nI (at_)), .int (nI (goal)), .long (lN (a)), .int (nI (v)), .int (nI (n + 1))]) ++ List.replicate (10 - (lg_sl ([.ref (ad 0), .int (nI (at_)), .int (nI (goal)), .long (lN (a)), .int (nI (v)), .int (nI (n + 1))])).length) Slot.unset).toArray = ls at hl ⊢
  have hl : lv_has ls 10 [(0, .ref (ad 0)), (1, .int (nI (at_))), (2, .int (nI (goal))), (3, .long (lN (a))), (5, .int (nI (v))), (6, .int (nI (n + 1)))] := hl
  obtain ⟨i_sp, i_cu, i_ra, i_di, i_mo, i_pu⟩ := id hI
  refine lv_iload CF.1 CF.2.1 dX0_mostAtGoal_0 (lv_at hl 5 rfl) ?_
  refine lv_iconst (v := nI 1) CF.1 CF.2.1 dX0_mostAtGoal_2 (by decide) ?_
  refine z_icmp_ge CF (tgt := 8) (nIz (by omega)) (nIz (by omega)) dX0_mostAtGoal_3 (by decide) (fun h_1 => ?_) (fun h_2 => absurd h_2 (by omega))
  refine lv_aload_n CF.1 CF.2.1 dX0_mostAtGoal_8 rfl (lv_at hl 0 rfl) ?_
  refine lv_iload_n CF.1 CF.2.1 dX0_mostAtGoal_9 rfl (lv_at hl 1 rfl) ?_
  refine lv_iload_n CF.1 CF.2.1 dX0_mostAtGoal_10 rfl (lv_at hl 2 rfl) ?_
  refine lv_lload_n CF.1 CF.2.1 dX0_mostAtGoal_11 rfl (lv_at hl 3 rfl) ?_
  refine c0_l CF hK hP (As := [.int (nI (at_)), .int (nI (goal)), .long (lN (a))]) (rest := []) (c0_behindOneChange l hI hR (f := at_) (t := goal) (a := a) (by omega) (by omega) (by omega)) rfl lk_RX0_X0_behindOneChange rfl hl.1 (rk (by omega) (by decide)) ⟨Nat.zero_le _, Nat.zero_le _⟩ (Nat.le_of_ble_eq_true rfl) rfl dX0_mostAtGoal_12 (fun r_3 hr_4 => ?_)
  subst hr_4
  refine lv_lstore (lv' := [(7, .long (lN (bh b (at_) (goal) (a)))), (0, .ref (ad 0)), (1, .int (nI (at_))), (2, .int (nI (goal))), (3, .long (lN (a))), (5, .int (nI (v))), (6, .int (nI (n + 1)))]) CF.1 CF.2.1 dX0_mostAtGoal_15 hl (by decide) rfl (fun ls hl => ?_)
  refine lv_iconst (v := nI 0) CF.1 CF.2.1 dX0_mostAtGoal_17 (by decide) ?_
  refine lv_istore (lv' := [(9, .int (nI (0))), (7, .long (lN (bh b (at_) (goal) (a)))), (0, .ref (ad 0)), (1, .int (nI (at_))), (2, .int (nI (goal))), (3, .long (lN (a))), (5, .int (nI (v))), (6, .int (nI (n + 1)))]) CF.1 CF.2.1 dX0_mostAtGoal_18 hl (by decide) rfl (fun ls hl => ?_)
  refine loop_ro (fun i => [(0, .ref (ad 0)), (1, .int (nI (at_))), (2, .int (nI (goal))), (3, .long (lN (a))), (5, .int (nI (v))), (6, .int (nI (n + 1))), (7, .long (lN (mgl (mgF b goal n at_ a v) (bh b at_ goal a) (i)))), (9, .int (nI (i)))]) (5) (0) (lv_sub hl [2, 3, 4, 5, 6, 7, 1, 0] rfl) (by omega) (fun i_5 h_8 h_7 ih_6 ls hl => ?_)
  have h_mm := mgl_le (B := 2147483647) (bh_le (b := b) (f := at_) (t := goal) (a := a)) (fun o => mgF_le (b := b) (goal := goal) (n := n) (at_ := at_) (a := a) (v := v) (o := o)) i_5
  have h_an : v &&& 2 ^ (i_5) ≤ v := Nat.and_le_left
  refine lv_iload CF.1 CF.2.1 dX0_mostAtGoal_20 (lv_at hl 7 rfl) ?_
  refine lv_iconst (v := nI 5) CF.1 CF.2.1 dX0_mostAtGoal_22 (by decide) ?_
  refine z_icmp_ge CF (tgt := 63) (nIz (by omega)) (nIz (by omega)) dX0_mostAtGoal_23 (by decide) (fun h_9 => ?_) (fun h_10 => ?_)
  · refine lv_lload CF.1 CF.2.1 dX0_mostAtGoal_63 (lv_at hl 6 rfl) ?_
    exact W.lret CF.1 CF.2.1 hr (fun t ht hW => ⟨_, rfl, by rw [mag_s, show i_5 = 5 by omega], ht⟩) (fun q hq => absurd hq List.not_mem_nil) dX0_mostAtGoal_65
  · refine lv_iload CF.1 CF.2.1 dX0_mostAtGoal_26 (lv_at hl 4 rfl) ?_
    refine lv_iload CF.1 CF.2.1 dX0_mostAtGoal_28 (lv_at hl 7 rfl) ?_
    refine cS_i CF (As := [.int (nI (i_5))]) (rest := [.int (nI (v))]) (c0_bit l (j := i_5) (by omega)) lk_RX0_X0_bit rfl hl.1 (rk (by omega) (by decide)) ⟨Nat.zero_le _, Nat.zero_le _⟩ (Nat.le_of_ble_eq_true rfl) rfl dX0_mostAtGoal_30 (fun r_11 hr_12 => ?_)
    subst hr_12
    refine lv_iand CF.1 CF.2.1 dX0_mostAtGoal_33 ?_
    refine tpi (andI _ _) ?_
    refine z_if_ne CF (tgt := 57) (nIz (by omega)) dX0_mostAtGoal_34 (by decide) (fun h_13 => ?_) (fun h_14 => ?_)
    · refine lv_iinc (v := nI (i_5 + 1)) (lv' := [(9, .int (nI (i_5 + 1))), (0, .ref (ad 0)), (1, .int (nI (at_))), (2, .int (nI (goal))), (3, .long (lN (a))), (5, .int (nI (v))), (6, .int (nI (n + 1))), (7, .long (lN (mgl (mgF b goal n at_ a v) (bh b at_ goal a) (i_5))))]) CF.1 CF.2.1 dX0_mostAtGoal_57 hl (k := 7) rfl (by first | exact nI_add _ _ | rfl) (by decide) rfl (fun ls hl => ?_)
      refine lv_goto (tgt := 20) CF.1 CF.2.1 dX0_mostAtGoal_60 (by decide) ?_
      exact ih_6 ls (by omega) (lv_sub hl [1, 2, 3, 4, 5, 6, 7, 0] (by first | (rw [mgl_y (by omega)]; rfl) | (rw [mgl_n (by omega)]; rfl)))
    · refine lv_lload CF.1 CF.2.1 dX0_mostAtGoal_37 (lv_at hl 6 rfl) ?_
      refine lv_aload_n CF.1 CF.2.1 dX0_mostAtGoal_39 rfl (lv_at hl 0 rfl) ?_
      refine lv_iload_n CF.1 CF.2.1 dX0_mostAtGoal_40 rfl (lv_at hl 1 rfl) ?_
      refine lv_iload CF.1 CF.2.1 dX0_mostAtGoal_41 (lv_at hl 7 rfl) ?_
      refine lv_iload_n CF.1 CF.2.1 dX0_mostAtGoal_43 rfl (lv_at hl 2 rfl) ?_
      refine lv_lload_n CF.1 CF.2.1 dX0_mostAtGoal_44 rfl (lv_at hl 3 rfl) ?_
      refine lv_iload CF.1 CF.2.1 dX0_mostAtGoal_45 (lv_at hl 4 rfl) ?_
      refine lv_iload CF.1 CF.2.1 dX0_mostAtGoal_47 (lv_at hl 5 rfl) ?_
      refine c0_l CF hK hP (As := [.int (nI (at_)), .int (nI (i_5)), .int (nI (goal)), .long (lN (a)), .int (nI (v)), .int (nI (n + 1))]) (rest := [.long (lN (mgl (mgF b goal n at_ a v) (bh b at_ goal a) (i_5)))]) (hO at_ (i_5) goal a v (by omega) (by omega) (by omega) (by omega) (by omega)) rfl lk_RX0_X0_mostOver rfl hl.1 (rk (by omega) (by decide)) ⟨Nat.zero_le _, Nat.zero_le _⟩ (Nat.le_of_ble_eq_true rfl) rfl dX0_mostAtGoal_49 (fun r_15 hr_16 => ?_)
      subst hr_16
      have h_ml := mag_le (b := b) (goal := goal) n (i_5) (bh b at_ (i_5) a) (v ||| 2 ^ (i_5))
      refine va_mmax_long CF.1 CF.2.1 (CF.2.2.1.trans hl.1.symm) CF.2.2.2.1 (CF.2.2.2.2 _ (inr_17 _ (List.mem_of_getElem? (i := 21) rfl))) (CF.2.2.2.2 _ (inr_17 _ (List.mem_of_getElem? (i := 22) rfl))) (CF.2.2.2.2 _ (inr_5 _ (List.mem_of_getElem? (i := 8) rfl))) (CF.2.2.2.2 _ (inr_17 _ (List.mem_of_getElem? (i := 23) rfl))) (show 1 ≤ 2 * (n + 1) + 5 by omega) (ml15 (by omega)) (Nat.zero_le _) (Nat.zero_le _) dX0_mostAtGoal_52 ?_
      refine tpl (mxL (by omega) (by omega)) ?_
      refine lv_lstore (lv' := [(7, .long (lN (max (mgl (mgF b goal n at_ a v) (bh b at_ goal a) (i_5)) (mag b goal n (i_5) (bh b at_ (i_5) a) (v ||| 2 ^ (i_5)))))), (0, .ref (ad 0)), (1, .int (nI (at_))), (2, .int (nI (goal))), (3, .long (lN (a))), (5, .int (nI (v))), (6, .int (nI (n + 1))), (9, .int (nI (i_5)))]) CF.1 CF.2.1 dX0_mostAtGoal_55 hl (by decide) rfl (fun ls hl => ?_)
      refine lv_iinc (v := nI (i_5 + 1)) (lv' := [(9, .int (nI (i_5 + 1))), (7, .long (lN (max (mgl (mgF b goal n at_ a v) (bh b at_ goal a) (i_5)) (mag b goal n (i_5) (bh b at_ (i_5) a) (v ||| 2 ^ (i_5)))))), (0, .ref (ad 0)), (1, .int (nI (at_))), (2, .int (nI (goal))), (3, .long (lN (a))), (5, .int (nI (v))), (6, .int (nI (n + 1)))]) CF.1 CF.2.1 dX0_mostAtGoal_57 hl (k := 7) rfl (by first | exact nI_add _ _ | rfl) (by decide) rfl (fun ls hl => ?_)
      refine lv_goto (tgt := 20) CF.1 CF.2.1 dX0_mostAtGoal_60 (by decide) ?_
      exact ih_6 ls (by omega) (lv_sub hl [2, 3, 4, 5, 6, 7, 1, 0] (by first | (rw [mgl_y (by omega)]; rfl) | (rw [mgl_n (by omega)]; rfl)))
theorem c0_mostAtGoal (l : Launch) {G : va_G} {cA : ClassId} {ad : Nat → Nat} {σ : RS} {b : BS} (hI : InvC b) (hR : Rc σ b) : ∀ n, n ≤ 10 → CtA l G cA ad σ b n
  | 0, _ => c0_mag0 l hI hR
  | n + 1, h => c0_magS l hI hR (by omega) (c0_mostOver l hI hR (by omega) (c0_mostAtGoal l hI hR n (by omega)))
end
section
/-- the order at p wants the money t for the money f -/
abbrev mtN (b : BS) (f t p : Nat) : Prop := b 7 (p * 5 + 1) = f ∧ b 7 (p * 5 + 2) = t
def fstP (b : BS) (f t p : Nat) : Prop := p < b 0 3 ∧ mtN b f t p ∧ ∀ q, q < p → ¬ mtN b f t q
theorem fst_s {b : BS} {f t i : Nat} (h : ∀ q, q < i → ¬ mtN b f t q) (hn : ¬ mtN b f t i) : ∀ q, q < i + 1 → ¬ mtN b f t q := fun q hq => by
  rcases Nat.lt_or_ge q i with z | z
  · exact h q z
  · have e : q = i := by omega
    rw [e]; exact hn
def gx (b : BS) (p x : Nat) : Nat := b 7 (p * 5 + 3) * x * (100 - b 0 1) / 10000
/-- the order at p could be done by the rate x -/
def okR (b : BS) (p x : Nat) : Prop := b 7 (p * 5 + 3) ≤ b 6 (b 7 (p * 5) * 5 + b 7 (p * 5 + 1)) ∧ 1 ≤ gx b p x ∧ gx b p x ≤ b 2 (b 7 (p * 5 + 2)) ∧ b 5 (b 7 (p * 5 + 2)) + gx b p x ≤ b 4 (b 7 (p * 5 + 2)) ∧ b 7 (p * 5 + 4) ≤ gx b p x
def lrP (b : BS) (p : Nat) (r : Int32) : Prop := (∃ x, 1 ≤ x ∧ x ≤ 9999 ∧ okR b p x ∧ (∀ y, 1 ≤ y → y < x → ¬ okR b p y) ∧ r = nI x) ∨ ((∀ y, 1 ≤ y → y ≤ 9999 → ¬ okR b p y) ∧ r = -1)
def ndP (b : BS) (f t : Nat) (r : Int32) : Prop := (∃ p, fstP b f t p ∧ lrP b p r) ∨ ((∀ q, q < b 0 3 → ¬ mtN b f t q) ∧ r = -1)
theorem lrP_one {b : BS} {p : Nat} {r r' : Int32} (h : lrP b p r) (h' : lrP b p r') : r = r' := by
  rcases h with ⟨x, h1, h2, h3, h4, rfl⟩ | ⟨h1, rfl⟩ <;> rcases h' with ⟨x', k1, k2, k3, k4, rfl⟩ | ⟨k1, rfl⟩
  · rcases Nat.lt_trichotomy x x' with z | z | z
    · exact absurd h3 (k4 x h1 z)
    · rw [z]
    · exact absurd k3 (h4 x' k1 z)
  · exact absurd h3 (k1 x h1 h2)
  · exact absurd k3 (h1 x' k1 k2)
  · rfl
theorem ndP_one {b : BS} {f t : Nat} {r r' : Int32} (h : ndP b f t r) (h' : ndP b f t r') : r = r' := by
  rcases h with ⟨p, ⟨h1, h2, h3⟩, h4⟩ | ⟨h1, rfl⟩ <;> rcases h' with ⟨p', ⟨k1, k2, k3⟩, k4⟩ | ⟨k1, rfl⟩
  · rcases Nat.lt_trichotomy p p' with z | z | z
    · exact absurd h2 (k3 p z)
    · subst z; exact lrP_one h4 k4
    · exact absurd k2 (h3 p' z)
  · exact absurd h2 (k1 p h1)
  · exact absurd k2 (h1 p' k1)
  · rfl
theorem gx_w {b : BS} {p x : Nat} : gx b p x = b 7 (p * 5 + 3) * (100 - b 0 1) * x / 10000 := by
  unfold gx
  rw [Nat.mul_assoc, Nat.mul_comm x, ← Nat.mul_assoc]
theorem gx_mono {b : BS} {p x y : Nat} (h : x ≤ y) : gx b p x ≤ gx b p y := by
  rw [gx_w, gx_w]
  exact Nat.div_le_div_right (Nat.mul_le_mul_left _ h)
/-- the rate by division is the least that gives what is asked for -/
theorem lr_lt {b : BS} {p y w : Nat} (hw : w = b 7 (p * 5 + 3) * (100 - b 0 1)) (hw0 : 1 ≤ w) (hy : y < (b 7 (p * 5 + 4) * 10000 + w - 1) / w) : gx b p y < b 7 (p * 5 + 4) := by
  rw [gx_w, ← hw]
  rw [Nat.div_lt_iff_lt_mul (by omega)]
  rw [Nat.lt_div_iff_mul_lt (by omega)] at hy
  rw [Nat.mul_comm w y]
  omega
theorem lr_ge {b : BS} {p w : Nat} (hw : w = b 7 (p * 5 + 3) * (100 - b 0 1)) (hw0 : 1 ≤ w) : b 7 (p * 5 + 4) ≤ gx b p ((b 7 (p * 5 + 4) * 10000 + w - 1) / w) := by
  rw [gx_w, ← hw]
  rw [Nat.le_div_iff_mul_le (by omega)]
  have h := Nat.div_add_mod (b 7 (p * 5 + 4) * 10000 + w - 1) w
  have h2 := Nat.mod_lt (b 7 (p * 5 + 4) * 10000 + w - 1) (show 0 < w by omega)
  omega
theorem lr_big {b : BS} {p w : Nat} (hw : w = b 7 (p * 5 + 3) * (100 - b 0 1)) (hw0 : 1 ≤ w) (h : 9999 < (b 7 (p * 5 + 4) * 10000 + w - 1) / w) : lrP b p (-1) :=
  Or.inr ⟨fun y _ h2 hk => by have := lr_lt hw hw0 (y := y) (by omega); have := hk.2.2.2.2; omega, rfl⟩
theorem lr_yes {b : BS} {p w x : Nat} (hw : w = b 7 (p * 5 + 3) * (100 - b 0 1)) (hw0 : 1 ≤ w) (hx : x = (b 7 (p * 5 + 4) * 10000 + w - 1) / w) (hk : 1 ≤ b 7 (p * 5 + 4)) (h9 : x ≤ 9999) (g : Nat) (hg : g = w * x / 10000) (h : 1 ≤ b 7 (p * 5 + 3) ∧ b 7 (p * 5 + 3) ≤ b 6 (b 7 (p * 5) * 5 + b 7 (p * 5 + 1)) ∧ 1 ≤ g ∧ g ≤ b 2 (b 7 (p * 5 + 2)) ∧ b 5 (b 7 (p * 5 + 2)) + g ≤ b 4 (b 7 (p * 5 + 2))) : lrP b p (nI x) := by
  have e : gx b p x = g := by rw [gx_w, ← hw, hg]
  have h3 := lr_ge hw hw0
  rw [← hx] at h3
  refine Or.inl ⟨x, ?_, h9, ⟨h.2.1, by rw [e]; exact h.2.2.1, by rw [e]; exact h.2.2.2.1, by rw [e]; exact h.2.2.2.2, h3⟩, fun y _ hy hk => ?_, rfl⟩
  · rcases Nat.eq_zero_or_pos x with z | z
    · subst z; rw [gx_w, Nat.mul_zero, Nat.zero_div] at h3; omega
    · exact z
  · have h5 := hk.2.2.2.2
    have h4 := lr_lt hw hw0 (y := y) (by rw [← hx]; exact hy)
    omega
theorem lr_no {b : BS} {p w x : Nat} (hw : w = b 7 (p * 5 + 3) * (100 - b 0 1)) (hw0 : 1 ≤ w) (hx : x = (b 7 (p * 5 + 4) * 10000 + w - 1) / w) (hk : 1 ≤ b 7 (p * 5 + 4)) (ha : 1 ≤ b 7 (p * 5 + 3)) (g : Nat) (hg : g = w * x / 10000) (h : ¬ (1 ≤ b 7 (p * 5 + 3) ∧ b 7 (p * 5 + 3) ≤ b 6 (b 7 (p * 5) * 5 + b 7 (p * 5 + 1)) ∧ 1 ≤ g ∧ g ≤ b 2 (b 7 (p * 5 + 2)) ∧ b 5 (b 7 (p * 5 + 2)) + g ≤ b 4 (b 7 (p * 5 + 2)))) : lrP b p (-1) := by
  have e : gx b p x = g := by rw [gx_w, ← hw, hg]
  have h3 := lr_ge hw hw0
  rw [← hx] at h3
  refine Or.inr ⟨fun y h1 h2 ⟨q1, q2, q3, q4, q5⟩ => ?_, rfl⟩
  by_cases hy : y < x
  · have := lr_lt hw hw0 (y := y) (by rw [← hx]; exact hy)
    omega
  · have h6 := gx_mono (b := b) (p := p) (show x ≤ y by omega)
    exact h ⟨ha, q1, by omega, by omega, by omega⟩
def dg (d : Int64) (x : Nat) : Int64 := d * lN 31 + (nI x).toInt64
def dgl (f : Nat → Nat) (d : Int64) : Nat → Int64 | 0 => d | n + 1 => dg (dgl f d n) (f n)
def dgm (b : BS) (d : Int64) : Nat → Int64 | 0 => d | n + 1 => dgl (fun t => b 1 (n * 5 + t)) (dgl (fmo b n) (dgm b d n) 5) 5
def dgs (b : BS) : Int64 := dgl (b 7) (dgl (b 6) (dgm b (dgl (fbo b) (lN 1367) 7) 5) (b 0 2 * 5)) (b 0 3 * 5)

set_option maxHeartbeats 1000000 in
set_option maxRecDepth 100000 in
theorem c0_firstOrderPlace (l : Launch) {G : va_G} {cA : ClassId} {ad : Nat → Nat} {σ : RS} {b : BS} (hI : InvC b) (hR : Rc σ b) (hO : Ro σ b) (hOi : InvO b) {f t : Nat} (hf : f < 5) (ht : t < 5) : Met l yX0_firstOrderPlace (ws_ yX0_firstOrderPlace cX0_firstOrderPlace 4 (some .int)) (rmk 3 0 0) (pc0 G cA ad σ [.ref (ad 0), .int (nI (f)), .int (nI (t))]) (rqi (fun r => (∃ p, fstP b f t p ∧ r = nI p) ∨ ((∀ q, q < b 0 3 → ¬ mtN b f t q) ∧ r = -1))) 0 0 (fun _ => False) := by
  refine Met.ofW (cc := cX0_firstOrderPlace) (maxL := 4) (ret := (some .int)) (by decide) rfl ?_
  intro p e s m args below meth c s₁ B hml hv
  obtain ⟨rfl, hP, hK⟩ := hv
  have CF : CallFix p m c cX0_firstOrderPlace 4 s _ AW RX0 := ⟨B.exec, B.bytes, hml, findClass_of_methodNamed B.named, fun w h => atoms_spec (ws := ws_ yX0_firstOrderPlace cX0_firstOrderPlace 4 (some .int)) B.pre w (List.mem_cons_of_mem _ h)⟩
  have hr := B.returns
  have hlocks := B.notSynchronized
  have hl := lv_entry ([.ref (ad 0), .int (nI (f)), .int (nI (t))]) (n := 4) (Nat.le_of_ble_eq_true rfl)
  rw [lg_entry_eq]
  generalize (lg_sl ([.ref (ad 0), .int (nI (f)), .int (nI (t))]) ++ List.replicate (4 - (lg_sl ([.ref (ad 0), .int (nI (f)), .int (nI (t))])).length) Slot.unset).toArray = ls at hl ⊢
  have hl : lv_has ls 4 [(0, .ref (ad 0)), (1, .int (nI (f))), (2, .int (nI (t)))] := hl
  have hw10 := hOi.1
  refine lv_iconst (v := nI 0) CF.1 CF.2.1 dX0_firstOrderPlace_0 (by decide) ?_
  refine lv_istore_n (lv' := [(3, .int (nI (0))), (0, .ref (ad 0)), (1, .int (nI (f))), (2, .int (nI (t)))]) CF.1 CF.2.1 dX0_firstOrderPlace_1 rfl hl (by decide) rfl (fun ls hl => ?_)
  refine loop_gh (α := Unit) (fun i x => [(0, .ref (ad 0)), (1, .int (nI (f))), (2, .int (nI (t))), (3, .int (nI (i)))]) (fun i _ => ∀ q, q < i → ¬ mtN b f t q) (b 0 3) (0) (()) (fun q hq => absurd hq (by omega)) (lv_sub hl [1, 2, 3, 0] rfl) (by omega) (fun i_1 x_5 h_4 h_3 hx_6 ih_2 ls hl => ?_)
  have hw10 := hOi.1
  refine lv_iload_n CF.1 CF.2.1 dX0_firstOrderPlace_2 rfl (lv_at hl 3 rfl) ?_
  refine lv_aload_n CF.1 CF.2.1 dX0_firstOrderPlace_3 rfl (lv_at hl 0 rfl) ?_
  refine x0_g_waiting CF hK hP (v := (nI (b 0 3))) hO.1 dX0_firstOrderPlace_4 ?_
  refine z_icmp_ge CF (tgt := 38) (nIz (by omega)) (nIz (by omega)) dX0_firstOrderPlace_7 (by decide) (fun h_7 => ?_) (fun h_8 => ?_)
  · refine lv_iconst (v := (-1)) CF.1 CF.2.1 dX0_firstOrderPlace_38 (by decide) ?_
    exact W.iret CF.1 CF.2.1 hr (fun t ht hW => ⟨_, rfl, Or.inr ⟨fun q hq => hx_6 q (by omega), rfl⟩, ht⟩) (fun q hq => absurd hq List.not_mem_nil) dX0_firstOrderPlace_39
  · refine lv_aload_n CF.1 CF.2.1 dX0_firstOrderPlace_10 rfl (lv_at hl 0 rfl) ?_
    refine lv_iload_n CF.1 CF.2.1 dX0_firstOrderPlace_11 rfl (lv_at hl 3 rfl) ?_
    refine lv_iconst (v := nI 1) CF.1 CF.2.1 dX0_firstOrderPlace_12 (by decide) ?_
    refine c0_i CF hK hP (As := [.int (nI (i_1)), .int (nI (1))]) (rest := []) (c0_orderPart l (σ := σ) (u := i_1) (t := 1) (by omega) (by omega)) rfl lk_RX0_X0_orderPart rfl hl.1 ⟨Nat.le_of_ble_eq_true rfl, Nat.le_of_ble_eq_true rfl⟩ ⟨Nat.zero_le _, Nat.zero_le _⟩ (Nat.le_of_ble_eq_true rfl) rfl dX0_firstOrderPlace_13 (fun r_9 hr_10 => ?_)
    subst hr_10
    obtain ⟨z0, z1, z2, -⟩ := hOi.2 i_1 (by omega)
    refine tpi (show σ 7 (i_1 * 5 + 1) = nI (b 7 (i_1 * 5 + 1)) from hO.2.2 (i_1 * 5 + 1) (by omega)) ?_
    refine lv_iload_n CF.1 CF.2.1 dX0_firstOrderPlace_16 rfl (lv_at hl 1 rfl) ?_
    refine z_icmp_ne CF (tgt := 32) (nIz (by omega)) (nIz (by omega)) dX0_firstOrderPlace_17 (by decide) (fun h_11 => ?_) (fun h_12 => ?_)
    · refine lv_iinc (v := nI (i_1 + 1)) (lv' := [(3, .int (nI (i_1 + 1))), (0, .ref (ad 0)), (1, .int (nI (f))), (2, .int (nI (t)))]) CF.1 CF.2.1 dX0_firstOrderPlace_32 hl (k := 3) rfl (by first | exact nI_add _ _ | rfl) (by decide) rfl (fun ls hl => ?_)
      refine lv_goto (tgt := 2) CF.1 CF.2.1 dX0_firstOrderPlace_35 (by decide) ?_
      exact ih_2 () ls (by omega) (fst_s hx_6 (by rintro ⟨h1, h2⟩; omega)) (lv_sub hl [1, 2, 3, 0] rfl)
    · refine lv_aload_n CF.1 CF.2.1 dX0_firstOrderPlace_20 rfl (lv_at hl 0 rfl) ?_
      refine lv_iload_n CF.1 CF.2.1 dX0_firstOrderPlace_21 rfl (lv_at hl 3 rfl) ?_
      refine lv_iconst (v := nI 2) CF.1 CF.2.1 dX0_firstOrderPlace_22 (by decide) ?_
      refine c0_i CF hK hP (As := [.int (nI (i_1)), .int (nI (2))]) (rest := []) (c0_orderPart l (σ := σ) (u := i_1) (t := 2) (by omega) (by omega)) rfl lk_RX0_X0_orderPart rfl hl.1 ⟨Nat.le_of_ble_eq_true rfl, Nat.le_of_ble_eq_true rfl⟩ ⟨Nat.zero_le _, Nat.zero_le _⟩ (Nat.le_of_ble_eq_true rfl) rfl dX0_firstOrderPlace_23 (fun r_13 hr_14 => ?_)
      subst hr_14
      obtain ⟨z0, z1, z2, -⟩ := hOi.2 i_1 (by omega)
      refine tpi (show σ 7 (i_1 * 5 + 2) = nI (b 7 (i_1 * 5 + 2)) from hO.2.2 (i_1 * 5 + 2) (by omega)) ?_
      refine lv_iload_n CF.1 CF.2.1 dX0_firstOrderPlace_26 rfl (lv_at hl 2 rfl) ?_
      refine z_icmp_ne CF (tgt := 32) (nIz (by omega)) (nIz (by omega)) dX0_firstOrderPlace_27 (by decide) (fun h_15 => ?_) (fun h_16 => ?_)
      · refine lv_iinc (v := nI (i_1 + 1)) (lv' := [(3, .int (nI (i_1 + 1))), (0, .ref (ad 0)), (1, .int (nI (f))), (2, .int (nI (t)))]) CF.1 CF.2.1 dX0_firstOrderPlace_32 hl (k := 3) rfl (by first | exact nI_add _ _ | rfl) (by decide) rfl (fun ls hl => ?_)
        refine lv_goto (tgt := 2) CF.1 CF.2.1 dX0_firstOrderPlace_35 (by decide) ?_
        exact ih_2 () ls (by omega) (fst_s hx_6 (by rintro ⟨h1, h2⟩; omega)) (lv_sub hl [1, 2, 3, 0] rfl)
      · refine lv_iload_n CF.1 CF.2.1 dX0_firstOrderPlace_30 rfl (lv_at hl 3 rfl) ?_
        exact W.iret CF.1 CF.2.1 hr (fun t ht hW => ⟨_, rfl, Or.inl ⟨i_1, ⟨by omega, ⟨by omega, by omega⟩, hx_6⟩, rfl⟩, ht⟩) (fun q hq => absurd hq List.not_mem_nil) dX0_firstOrderPlace_31
set_option maxHeartbeats 1000000 in
set_option maxRecDepth 100000 in
theorem c0_leastRateFor (l : Launch) {G : va_G} {cA : ClassId} {ad : Nat → Nat} {σ : RS} {b : BS} (hI : InvC b) (hR : Rc σ b) (hO : Ro σ b) (hOi : InvO b) {q : Nat} (hq : q < b 0 3) : Met l yX0_leastRateFor (ws_ yX0_leastRateFor cX0_leastRateFor 12 (some .int)) (rmk 4 0 0) (pc0 G cA ad σ [.ref (ad 0), .int (nI (q))]) (rqi (fun r => lrP b q r)) 0 0 (fun _ => False) := by
  refine Met.ofW (cc := cX0_leastRateFor) (maxL := 12) (ret := (some .int)) (by decide) rfl ?_
  intro p e s m args below meth c s₁ B hml hv
  obtain ⟨rfl, hP, hK⟩ := hv
  have CF : CallFix p m c cX0_leastRateFor 12 s _ AW RX0 := ⟨B.exec, B.bytes, hml, findClass_of_methodNamed B.named, fun w h => atoms_spec (ws := ws_ yX0_leastRateFor cX0_leastRateFor 12 (some .int)) B.pre w (List.mem_cons_of_mem _ h)⟩
  have hr := B.returns
  have hlocks := B.notSynchronized
  have hl := lv_entry ([.ref (ad 0), .int (nI (q))]) (n := 12) (Nat.le_of_ble_eq_true rfl)
  rw [lg_entry_eq]
  generalize (lg_sl ([.ref (ad 0), .int (nI (q))]) ++ List.replicate (12 - (lg_sl ([.ref (ad 0), .int (nI (q))])).length) Slot.unset).toArray = ls at hl ⊢
  have hl : lv_has ls 12 [(0, .ref (ad 0)), (1, .int (nI (q)))] := hl
  obtain ⟨i_sp, i_cu, i_ra, i_di, i_mo, i_pu⟩ := id hI
  have hw10 := hOi.1
  obtain ⟨z0, z1, z2, z3, z4, z5, z6, z7⟩ := hOi.2 q hq
  have h_pu := i_pu (b 7 (q * 5) * 5 + b 7 (q * 5 + 1)) (by omega)
  refine lv_aload_n CF.1 CF.2.1 dX0_leastRateFor_0 rfl (lv_at hl 0 rfl) ?_
  refine lv_iload_n CF.1 CF.2.1 dX0_leastRateFor_1 rfl (lv_at hl 1 rfl) ?_
  refine lv_iconst (v := nI 3) CF.1 CF.2.1 dX0_leastRateFor_2 (by decide) ?_
  refine c0_i CF hK hP (As := [.int (nI (q)), .int (nI (3))]) (rest := []) (c0_orderPart l (σ := σ) (u := q) (t := 3) (by omega) (by omega)) rfl lk_RX0_X0_orderPart rfl hl.1 ⟨Nat.le_of_ble_eq_true rfl, Nat.le_of_ble_eq_true rfl⟩ ⟨Nat.zero_le _, Nat.zero_le _⟩ (Nat.le_of_ble_eq_true rfl) rfl dX0_leastRateFor_3 (fun r_1 hr_2 => ?_)
  subst hr_2
  refine tpi (show σ 7 (q * 5 + 3) = nI (b 7 (q * 5 + 3)) from hO.2.2 (q * 5 + 3) (by omega)) ?_
  refine lv_istore_n (lv' := [(2, .int (nI (b 7 (q * 5 + 3)))), (0, .ref (ad 0)), (1, .int (nI (q)))]) CF.1 CF.2.1 dX0_leastRateFor_6 rfl hl (by decide) rfl (fun ls hl => ?_)
  refine lv_aload_n CF.1 CF.2.1 dX0_leastRateFor_7 rfl (lv_at hl 1 rfl) ?_
  refine lv_iload_n CF.1 CF.2.1 dX0_leastRateFor_8 rfl (lv_at hl 2 rfl) ?_
  refine lv_iconst (v := nI 4) CF.1 CF.2.1 dX0_leastRateFor_9 (by decide) ?_
  refine c0_i CF hK hP (As := [.int (nI (q)), .int (nI (4))]) (rest := []) (c0_orderPart l (σ := σ) (u := q) (t := 4) (by omega) (by omega)) rfl lk_RX0_X0_orderPart rfl hl.1 ⟨Nat.le_of_ble_eq_true rfl, Nat.le_of_ble_eq_true rfl⟩ ⟨Nat.zero_le _, Nat.zero_le _⟩ (Nat.le_of_ble_eq_true rfl) rfl dX0_leastRateFor_10 (fun r_3 hr_4 => ?_)
  subst hr_4
  refine tpi (show σ 7 (q * 5 + 4) = nI (b 7 (q * 5 + 4)) from hO.2.2 (q * 5 + 4) (by omega)) ?_
  refine o_i2l CF (by omega) dX0_leastRateFor_13 ?_
  refine lv_ldc2 (v := lN 10000) CF.1 CF.2.1 CF.2.2.2.1 (CF.2.2.2.2 _ (inr_4 _ (List.mem_of_getElem? (i := 0) rfl))) dX0_leastRateFor_14 ?_
  refine o_lmul CF dX0_leastRateFor_17 ?_
  refine lv_lstore_n (lv' := [(3, .long (lN ((b 7 (q * 5 + 4)) * (10000)))), (2, .int (nI (b 7 (q * 5 + 3)))), (0, .ref (ad 0)), (1, .int (nI (q)))]) CF.1 CF.2.1 dX0_leastRateFor_18 rfl hl (by decide) rfl (fun ls hl => ?_)
  refine lv_iload_n CF.1 CF.2.1 dX0_leastRateFor_19 rfl (lv_at hl 1 rfl) ?_
  refine o_i2l CF (by omega) dX0_leastRateFor_20 ?_
  refine lv_bipush (v := nI 100) CF.1 CF.2.1 dX0_leastRateFor_21 (by decide) ?_
  refine lv_aload_n CF.1 CF.2.1 dX0_leastRateFor_23 rfl (lv_at hl 2 rfl) ?_
  refine x0_g_spread CF hK hP (v := (nI (b 0 1))) hR.2.1 dX0_leastRateFor_24 ?_
  refine o_isub CF (by omega) dX0_leastRateFor_27 ?_
  refine o_i2l CF (by omega) dX0_leastRateFor_28 ?_
  refine o_lmul CF dX0_leastRateFor_29 ?_
  obtain ⟨wq, hwq⟩ : ∃ wq, wq = b 7 (q * 5 + 3) * (100 - b 0 1) := ⟨_, rfl⟩
  have hW0 : 1 ≤ wq := by rw [hwq]; exact Nat.mul_pos (by omega) (by omega)
  have hW1 : wq ≤ 99999 * 100 := by rw [hwq]; exact Nat.mul_le_mul (by omega) (by omega)
  refine tpl (show lN ((b 7 (q * 5 + 3)) * (100 - (b 0 1))) = lN wq by rw [hwq]) ?_
  refine lv_lstore (lv' := [(5, .long (lN (wq))), (3, .long (lN ((b 7 (q * 5 + 4)) * (10000)))), (2, .int (nI (b 7 (q * 5 + 3)))), (0, .ref (ad 0)), (1, .int (nI (q)))]) CF.1 CF.2.1 dX0_leastRateFor_30 hl (by decide) rfl (fun ls hl => ?_)
  refine lv_lload CF.1 CF.2.1 dX0_leastRateFor_32 (lv_at hl 0 rfl) ?_
  refine lv_lconst (v := lN 1) CF.1 CF.2.1 dX0_leastRateFor_34 (by decide) ?_
  refine z_lcmp_ge CF (tgt := 41) (lNz (by omega)) (lNz (by omega)) dX0_leastRateFor_35 dX0_leastRateFor_36 (by decide) (fun h_5 => ?_) (fun h_6 => absurd h_6 (by omega))
  refine lv_lload_n CF.1 CF.2.1 dX0_leastRateFor_41 rfl (lv_at hl 1 rfl) ?_
  refine lv_lload CF.1 CF.2.1 dX0_leastRateFor_42 (lv_at hl 0 rfl) ?_
  refine o_ladd CF dX0_leastRateFor_44 ?_
  refine lv_lconst (v := lN 1) CF.1 CF.2.1 dX0_leastRateFor_45 (by decide) ?_
  refine o_lsub CF (by omega) dX0_leastRateFor_46 ?_
  refine lv_lload CF.1 CF.2.1 dX0_leastRateFor_47 (lv_at hl 0 rfl) ?_
  refine lv_ldiv CF.1 CF.2.1 dX0_leastRateFor_49 (lne (by omega) (by omega)) ?_
  refine tpl (pk_lDiv (by omega) (by omega) (by omega)) ?_
  obtain ⟨xq, hX⟩ : ∃ xq, xq = (b 7 (q * 5 + 4) * 10000 + wq - 1) / wq := ⟨_, rfl⟩
  have hX1 : xq ≤ b 7 (q * 5 + 4) * 10000 + wq - 1 := by rw [hX]; exact Nat.div_le_self _ _
  refine tpl (show lN (((((b 7 (q * 5 + 4)) * (10000)) + (wq)) - (1)) / (wq)) = lN xq by rw [hX]) ?_
  refine lv_lstore (lv' := [(7, .long (lN (xq))), (5, .long (lN (wq))), (3, .long (lN ((b 7 (q * 5 + 4)) * (10000)))), (2, .int (nI (b 7 (q * 5 + 3)))), (0, .ref (ad 0)), (1, .int (nI (q)))]) CF.1 CF.2.1 dX0_leastRateFor_50 hl (by decide) rfl (fun ls hl => ?_)
  refine lv_lload CF.1 CF.2.1 dX0_leastRateFor_52 (lv_at hl 0 rfl) ?_
  refine lv_ldc2 (v := lN 9999) CF.1 CF.2.1 CF.2.2.2.1 (CF.2.2.2.2 _ (inr_19 _ (List.mem_of_getElem? (i := 22) rfl))) dX0_leastRateFor_54 ?_
  refine z_lcmp_le CF (tgt := 63) (lNz (by omega)) (lNz (by omega)) dX0_leastRateFor_57 dX0_leastRateFor_58 (by decide) (fun h_7 => ?_) (fun h_8 => ?_)
  · refine lv_lload CF.1 CF.2.1 dX0_leastRateFor_63 (lv_at hl 1 rfl) ?_
    refine lv_lload CF.1 CF.2.1 dX0_leastRateFor_65 (lv_at hl 0 rfl) ?_
    refine o_lmul CF dX0_leastRateFor_67 ?_
    have hWX : wq * xq ≤ 9999900 * 9999 := Nat.mul_le_mul (by omega) (by omega)
    refine cS_l CF (As := [.long (lN ((wq) * (xq)))]) (rest := []) (c0_wholeOnes l (lN ((wq) * (xq)))) lk_RX0_X0_wholeOnes rfl hl.1 ⟨Nat.le_of_ble_eq_true rfl, Nat.le_of_ble_eq_true rfl⟩ ⟨Nat.zero_le _, Nat.zero_le _⟩ (Nat.le_of_ble_eq_true rfl) rfl dX0_leastRateFor_68 (fun r_9 hr_10 => ?_)
    subst hr_10
    refine tpl (y := lN (wq * xq / 10000)) (pk_lDiv (by omega) (by omega) (by omega)) ?_
    refine lv_lstore (lv' := [(9, .long (lN (wq * xq / 10000))), (7, .long (lN (xq))), (5, .long (lN (wq))), (3, .long (lN ((b 7 (q * 5 + 4)) * (10000)))), (2, .int (nI (b 7 (q * 5 + 3)))), (0, .ref (ad 0)), (1, .int (nI (q)))]) CF.1 CF.2.1 dX0_leastRateFor_71 hl (by decide) rfl (fun ls hl => ?_)
    refine lv_aload_n CF.1 CF.2.1 dX0_leastRateFor_73 rfl (lv_at hl 5 rfl) ?_
    refine lv_aload_n CF.1 CF.2.1 dX0_leastRateFor_74 rfl (lv_at hl 5 rfl) ?_
    refine lv_iload_n CF.1 CF.2.1 dX0_leastRateFor_75 rfl (lv_at hl 6 rfl) ?_
    refine lv_iconst (v := nI 0) CF.1 CF.2.1 dX0_leastRateFor_76 (by decide) ?_
    refine c0_i CF hK hP (As := [.int (nI (q)), .int (nI (0))]) (rest := [.ref (ad 0)]) (c0_orderPart l (σ := σ) (u := q) (t := 0) (by omega) (by omega)) rfl lk_RX0_X0_orderPart rfl hl.1 ⟨Nat.le_of_ble_eq_true rfl, Nat.le_of_ble_eq_true rfl⟩ ⟨Nat.zero_le _, Nat.zero_le _⟩ (Nat.le_of_ble_eq_true rfl) rfl dX0_leastRateFor_77 (fun r_11 hr_12 => ?_)
    subst hr_12
    refine tpi (show σ 7 (q * 5 + 0) = nI (b 7 (q * 5)) from hO.2.2 (q * 5 + 0) (by omega)) ?_
    refine lv_aload_n CF.1 CF.2.1 dX0_leastRateFor_80 rfl (lv_at hl 5 rfl) ?_
    refine lv_iload_n CF.1 CF.2.1 dX0_leastRateFor_81 rfl (lv_at hl 6 rfl) ?_
    refine lv_iconst (v := nI 1) CF.1 CF.2.1 dX0_leastRateFor_82 (by decide) ?_
    refine c0_i CF hK hP (As := [.int (nI (q)), .int (nI (1))]) (rest := [.int (nI (b 7 (q * 5))), .ref (ad 0)]) (c0_orderPart l (σ := σ) (u := q) (t := 1) (by omega) (by omega)) rfl lk_RX0_X0_orderPart rfl hl.1 ⟨Nat.le_of_ble_eq_true rfl, Nat.le_of_ble_eq_true rfl⟩ ⟨Nat.zero_le _, Nat.zero_le _⟩ (Nat.le_of_ble_eq_true rfl) rfl dX0_leastRateFor_83 (fun r_13 hr_14 => ?_)
    subst hr_14
    refine tpi (show σ 7 (q * 5 + 1) = nI (b 7 (q * 5 + 1)) from hO.2.2 (q * 5 + 1) (by omega)) ?_
    refine c0_i CF hK hP (As := [.int (nI (b 7 (q * 5))), .int (nI (b 7 (q * 5 + 1)))]) (rest := []) (c0_inPurse l hI hR (u := b 7 (q * 5)) (t := b 7 (q * 5 + 1)) (by omega) (by omega)) rfl lk_RX0_X0_inPurse rfl hl.1 ⟨Nat.le_of_ble_eq_true rfl, Nat.le_of_ble_eq_true rfl⟩ ⟨Nat.zero_le _, Nat.zero_le _⟩ (Nat.le_of_ble_eq_true rfl) rfl dX0_leastRateFor_86 (fun r_15 hr_16 => ?_)
    subst hr_16
    refine lv_istore (lv' := [(11, .int (nI (b 6 (b 7 (q * 5) * 5 + b 7 (q * 5 + 1))))), (9, .long (lN (wq * xq / 10000))), (7, .long (lN (xq))), (5, .long (lN (wq))), (3, .long (lN ((b 7 (q * 5 + 4)) * (10000)))), (2, .int (nI (b 7 (q * 5 + 3)))), (0, .ref (ad 0)), (1, .int (nI (q)))]) CF.1 CF.2.1 dX0_leastRateFor_89 hl (by decide) rfl (fun ls hl => ?_)
    refine lv_aload_n CF.1 CF.2.1 dX0_leastRateFor_91 rfl (lv_at hl 6 rfl) ?_
    refine lv_iload CF.1 CF.2.1 dX0_leastRateFor_92 (lv_at hl 0 rfl) ?_
    refine lv_aload_n CF.1 CF.2.1 dX0_leastRateFor_94 rfl (lv_at hl 6 rfl) ?_
    refine lv_iload_n CF.1 CF.2.1 dX0_leastRateFor_95 rfl (lv_at hl 7 rfl) ?_
    refine lv_iconst (v := nI 2) CF.1 CF.2.1 dX0_leastRateFor_96 (by decide) ?_
    refine c0_i CF hK hP (As := [.int (nI (q)), .int (nI (2))]) (rest := [.int (nI (b 6 (b 7 (q * 5) * 5 + b 7 (q * 5 + 1)))), .ref (ad 0)]) (c0_orderPart l (σ := σ) (u := q) (t := 2) (by omega) (by omega)) rfl lk_RX0_X0_orderPart rfl hl.1 ⟨Nat.le_of_ble_eq_true rfl, Nat.le_of_ble_eq_true rfl⟩ ⟨Nat.zero_le _, Nat.zero_le _⟩ (Nat.le_of_ble_eq_true rfl) rfl dX0_leastRateFor_97 (fun r_17 hr_18 => ?_)
    subst hr_18
    refine tpi (show σ 7 (q * 5 + 2) = nI (b 7 (q * 5 + 2)) from hO.2.2 (q * 5 + 2) (by omega)) ?_
    refine lv_iload_n CF.1 CF.2.1 dX0_leastRateFor_100 rfl (lv_at hl 5 rfl) ?_
    refine lv_lload CF.1 CF.2.1 dX0_leastRateFor_101 (lv_at hl 1 rfl) ?_
    refine c0_i CF hK hP (As := [.int (nI (b 6 (b 7 (q * 5) * 5 + b 7 (q * 5 + 1)))), .int (nI (b 7 (q * 5 + 2))), .int (nI (b 7 (q * 5 + 3))), .long (lN (wq * xq / 10000))]) (rest := []) (c0_isAllowed l hI hR (P := b 6 (b 7 (q * 5) * 5 + b 7 (q * 5 + 1))) (t := b 7 (q * 5 + 2)) (a := b 7 (q * 5 + 3)) (w := wq * xq / 10000) (by omega) (by omega) (by omega) (by omega)) rfl lk_RX0_X0_isAllowed rfl hl.1 ⟨Nat.le_of_ble_eq_true rfl, Nat.le_of_ble_eq_true rfl⟩ ⟨Nat.zero_le _, Nat.zero_le _⟩ (Nat.le_of_ble_eq_true rfl) rfl dX0_leastRateFor_103 (fun r_19 hr_20 => ?_)
    rcases hr_20 with ⟨rfl, hr_20a⟩ | ⟨rfl, hr_20n⟩
    · refine z_if_eq CF (tgt := 115) (nIz (by omega)) dX0_leastRateFor_106 (by decide) (fun h => absurd h (by decide)) (fun _ => ?_)
      refine lv_lload CF.1 CF.2.1 dX0_leastRateFor_109 (lv_at hl 2 rfl) ?_
      refine o_l2i CF dX0_leastRateFor_111 ?_
      refine lv_goto (tgt := 116) CF.1 CF.2.1 dX0_leastRateFor_112 (by decide) ?_
      exact W.iret CF.1 CF.2.1 hr (fun t ht hW => ⟨_, rfl, lr_yes (w := wq) hwq hW0 hX (by omega) (by omega) _ rfl hr_20a, ht⟩) (fun q hq => absurd hq List.not_mem_nil) dX0_leastRateFor_116
    · refine z_if_eq CF (tgt := 115) (nIz (by omega)) dX0_leastRateFor_106 (by decide) (fun _ => ?_) (fun h => absurd h (by decide))
      refine lv_iconst (v := (-1)) CF.1 CF.2.1 dX0_leastRateFor_115 (by decide) ?_
      exact W.iret CF.1 CF.2.1 hr (fun t ht hW => ⟨_, rfl, lr_no (w := wq) hwq hW0 hX (by omega) (by omega) _ rfl hr_20n, ht⟩) (fun q hq => absurd hq List.not_mem_nil) dX0_leastRateFor_116
  · refine lv_iconst (v := (-1)) CF.1 CF.2.1 dX0_leastRateFor_61 (by decide) ?_
    exact W.iret CF.1 CF.2.1 hr (fun t ht hW => ⟨_, rfl, lr_big (w := wq) hwq hW0 (by rw [← hX]; omega), ht⟩) (fun q hq => absurd hq List.not_mem_nil) dX0_leastRateFor_62
end
section
set_option maxHeartbeats 1000000 in
set_option maxRecDepth 100000 in
theorem c0_digestOfMoneys (l : Launch) {G : va_G} {cA : ClassId} {ad : Nat → Nat} {σ : RS} {b : BS} (hI : InvC b) (hR : Rc σ b) (x : Int64) : Met l yX0_digestOfMoneys (ws_ yX0_digestOfMoneys cX0_digestOfMoneys 7 (some .long)) (rmk 5 0 0) (pc0 G cA ad σ [.ref (ad 0), .long (x)]) (rql (fun r => r = dgm b x 5)) 0 0 (fun _ => False) := by
  refine Met.ofW (cc := cX0_digestOfMoneys) (maxL := 7) (ret := (some .long)) (by decide) rfl ?_
  intro p e s m args below meth c s₁ B hml hv
  obtain ⟨rfl, hP, hK⟩ := hv
  have CF : CallFix p m c cX0_digestOfMoneys 7 s _ AW RX0 := ⟨B.exec, B.bytes, hml, findClass_of_methodNamed B.named, fun w h => atoms_spec (ws := ws_ yX0_digestOfMoneys cX0_digestOfMoneys 7 (some .long)) B.pre w (List.mem_cons_of_mem _ h)⟩
  have hr := B.returns
  have hlocks := B.notSynchronized
  have hl := lv_entry ([.ref (ad 0), .long (x)]) (n := 7) (Nat.le_of_ble_eq_true rfl)
  rw [lg_entry_eq]
  generalize (lg_sl ([.ref (ad 0), .long (x)]) ++ List.replicate (7 - (lg_sl ([.ref (ad 0), .long (x)])).length) Slot.unset).toArray = ls at hl ⊢
  have hl : lv_has ls 7 [(0, .ref (ad 0)), (1, .long (x))] := hl
  obtain ⟨i_sp, i_cu, i_ra, i_di, i_mo, i_pu⟩ := id hI
  refine lv_lload_n CF.1 CF.2.1 dX0_digestOfMoneys_0 rfl (lv_at hl 1 rfl) ?_
  refine lv_lstore_n (lv' := [(3, .long (x)), (0, .ref (ad 0)), (1, .long (x))]) CF.1 CF.2.1 dX0_digestOfMoneys_1 rfl hl (by decide) rfl (fun ls hl => ?_)
  refine lv_iconst (v := nI 0) CF.1 CF.2.1 dX0_digestOfMoneys_2 (by decide) ?_
  refine lv_istore (lv' := [(5, .int (nI (0))), (3, .long (x)), (0, .ref (ad 0)), (1, .long (x))]) CF.1 CF.2.1 dX0_digestOfMoneys_3 hl (by decide) rfl (fun ls hl => ?_)
  refine loop_ro (fun i => [(0, .ref (ad 0)), (1, .long (x)), (3, .long (dgm b x i)), (5, .int (nI (i)))]) (5) (0) (lv_sub hl [2, 3, 1, 0] rfl) (by omega) (fun i_1 h_4 h_3 ih_2 ls hl => ?_)
  refine lv_iload CF.1 CF.2.1 dX0_digestOfMoneys_5 (lv_at hl 3 rfl) ?_
  refine lv_iconst (v := nI 5) CF.1 CF.2.1 dX0_digestOfMoneys_7 (by decide) ?_
  refine z_icmp_ge CF (tgt := 79) (nIz (by omega)) (nIz (by omega)) dX0_digestOfMoneys_8 (by decide) (fun h_5 => ?_) (fun h_6 => ?_)
  · obtain rfl : i_1 = 5 := by omega
    refine lv_lload_n CF.1 CF.2.1 dX0_digestOfMoneys_79 rfl (lv_at hl 2 rfl) ?_
    exact W.lret CF.1 CF.2.1 hr (fun t ht hW => ⟨_, rfl, rfl, ht⟩) (fun q hq => absurd hq List.not_mem_nil) dX0_digestOfMoneys_80
  · refine lv_iconst (v := nI 0) CF.1 CF.2.1 dX0_digestOfMoneys_11 (by decide) ?_
    refine lv_istore (lv' := [(6, .int (nI (0))), (0, .ref (ad 0)), (1, .long (x)), (3, .long (dgm b x i_1)), (5, .int (nI (i_1)))]) CF.1 CF.2.1 dX0_digestOfMoneys_12 hl (by decide) rfl (fun ls hl => ?_)
    refine loop_ro (fun i => [(0, .ref (ad 0)), (1, .long (x)), (3, .long (dgl (fmo b i_1) (dgm b x i_1) i)), (5, .int (nI (i_1))), (6, .int (nI (i)))]) (5) (0) (lv_sub hl [1, 2, 3, 4, 0] rfl) (by omega) (fun i_7 h_10 h_9 ih_8 ls hl => ?_)
    refine lv_iload CF.1 CF.2.1 dX0_digestOfMoneys_14 (lv_at hl 4 rfl) ?_
    refine lv_iconst (v := nI 5) CF.1 CF.2.1 dX0_digestOfMoneys_16 (by decide) ?_
    refine z_icmp_ge CF (tgt := 42) (nIz (by omega)) (nIz (by omega)) dX0_digestOfMoneys_17 (by decide) (fun h_11 => ?_) (fun h_12 => ?_)
    · obtain rfl : i_7 = 5 := by omega
      refine lv_iconst (v := nI 0) CF.1 CF.2.1 dX0_digestOfMoneys_42 (by decide) ?_
      refine lv_istore (lv' := [(6, .int (nI (0))), (0, .ref (ad 0)), (1, .long (x)), (3, .long (dgl (fmo b i_1) (dgm b x i_1) 5)), (5, .int (nI (i_1)))]) CF.1 CF.2.1 dX0_digestOfMoneys_43 hl (by decide) rfl (fun ls hl => ?_)
      refine loop_ro (fun i => [(0, .ref (ad 0)), (1, .long (x)), (3, .long (dgl (fun t => b 1 (i_1 * 5 + t)) (dgl (fmo b i_1) (dgm b x i_1) 5) i)), (5, .int (nI (i_1))), (6, .int (nI (i)))]) (5) (0) (lv_sub hl [1, 2, 3, 4, 0] rfl) (by omega) (fun i_13 h_16 h_15 ih_14 ls hl => ?_)
      refine lv_iload CF.1 CF.2.1 dX0_digestOfMoneys_45 (lv_at hl 4 rfl) ?_
      refine lv_iconst (v := nI 5) CF.1 CF.2.1 dX0_digestOfMoneys_47 (by decide) ?_
      refine z_icmp_ge CF (tgt := 73) (nIz (by omega)) (nIz (by omega)) dX0_digestOfMoneys_48 (by decide) (fun h_17 => ?_) (fun h_18 => ?_)
      · obtain rfl : i_13 = 5 := by omega
        refine lv_iinc (v := nI (i_1 + 1)) (lv' := [(5, .int (nI (i_1 + 1))), (0, .ref (ad 0)), (1, .long (x)), (3, .long (dgl (fun t => b 1 (i_1 * 5 + t)) (dgl (fmo b i_1) (dgm b x i_1) 5) 5)), (6, .int (nI (5)))]) CF.1 CF.2.1 dX0_digestOfMoneys_73 hl (k := 3) rfl (by first | exact nI_add _ _ | rfl) (by decide) rfl (fun ls hl => ?_)
        refine lv_goto (tgt := 5) CF.1 CF.2.1 dX0_digestOfMoneys_76 (by decide) ?_
        exact ih_2 ls (by omega) (lv_sub hl [1, 2, 3, 0] rfl)
      · refine lv_lload_n CF.1 CF.2.1 dX0_digestOfMoneys_51 rfl (lv_at hl 2 rfl) ?_
        refine lv_ldc2 (v := lN 31) CF.1 CF.2.1 CF.2.2.2.1 (CF.2.2.2.2 _ (inr_20 _ (List.mem_of_getElem? (i := 19) rfl))) dX0_digestOfMoneys_52 ?_
        refine lv_lmul CF.1 CF.2.1 dX0_digestOfMoneys_55 ?_
        refine lv_aload_n CF.1 CF.2.1 dX0_digestOfMoneys_56 rfl (lv_at hl 0 rfl) ?_
        refine lv_iload CF.1 CF.2.1 dX0_digestOfMoneys_57 (lv_at hl 3 rfl) ?_
        refine lv_iload CF.1 CF.2.1 dX0_digestOfMoneys_59 (lv_at hl 4 rfl) ?_
        refine c0_i CF hK hP (As := [.int (nI (i_1)), .int (nI (i_13))]) (rest := [.long ((dgl (fun t => b 1 (i_1 * 5 + t)) (dgl (fmo b i_1) (dgm b x i_1) 5) i_13) * lN (31))]) (c0_rateOf l hI hR (f := i_1) (t := i_13) (by omega) (by omega)) rfl lk_RX0_X0_rateOf rfl hl.1 ⟨Nat.le_of_ble_eq_true rfl, Nat.le_of_ble_eq_true rfl⟩ ⟨Nat.zero_le _, Nat.zero_le _⟩ (Nat.le_of_ble_eq_true rfl) rfl dX0_digestOfMoneys_61 (fun r_19 hr_20 => ?_)
        subst hr_20
        refine lv_i2l CF.1 CF.2.1 dX0_digestOfMoneys_64 rfl ?_
        refine lv_ladd CF.1 CF.2.1 dX0_digestOfMoneys_65 ?_
        refine lv_lstore_n (lv' := [(3, .long (((dgl (fun t => b 1 (i_1 * 5 + t)) (dgl (fmo b i_1) (dgm b x i_1) 5) i_13) * lN (31)) + ((nI (b 1 (i_1 * 5 + i_13))).toInt64))), (0, .ref (ad 0)), (1, .long (x)), (5, .int (nI (i_1))), (6, .int (nI (i_13)))]) CF.1 CF.2.1 dX0_digestOfMoneys_66 rfl hl (by decide) rfl (fun ls hl => ?_)
        refine lv_iinc (v := nI (i_13 + 1)) (lv' := [(6, .int (nI (i_13 + 1))), (3, .long (((dgl (fun t => b 1 (i_1 * 5 + t)) (dgl (fmo b i_1) (dgm b x i_1) 5) i_13) * lN (31)) + ((nI (b 1 (i_1 * 5 + i_13))).toInt64))), (0, .ref (ad 0)), (1, .long (x)), (5, .int (nI (i_1)))]) CF.1 CF.2.1 dX0_digestOfMoneys_67 hl (k := 4) rfl (by first | exact nI_add _ _ | rfl) (by decide) rfl (fun ls hl => ?_)
        refine lv_goto (tgt := 45) CF.1 CF.2.1 dX0_digestOfMoneys_70 (by decide) ?_
        exact ih_14 ls (by omega) (lv_sub hl [2, 3, 1, 4, 0] rfl)
    · refine lv_lload_n CF.1 CF.2.1 dX0_digestOfMoneys_20 rfl (lv_at hl 2 rfl) ?_
      refine lv_ldc2 (v := lN 31) CF.1 CF.2.1 CF.2.2.2.1 (CF.2.2.2.2 _ (inr_20 _ (List.mem_of_getElem? (i := 19) rfl))) dX0_digestOfMoneys_21 ?_
      refine lv_lmul CF.1 CF.2.1 dX0_digestOfMoneys_24 ?_
      refine lv_aload_n CF.1 CF.2.1 dX0_digestOfMoneys_25 rfl (lv_at hl 0 rfl) ?_
      refine lv_iload CF.1 CF.2.1 dX0_digestOfMoneys_26 (lv_at hl 3 rfl) ?_
      refine lv_iload CF.1 CF.2.1 dX0_digestOfMoneys_28 (lv_at hl 4 rfl) ?_
      refine c0_i CF hK hP (As := [.int (nI (i_1)), .int (nI (i_7))]) (rest := [.long ((dgl (fmo b i_1) (dgm b x i_1) i_7) * lN (31))]) (c0_factOfMoney l hI hR (t := i_1) (w := i_7) (by omega) (by omega)) rfl lk_RX0_X0_factOfMoney rfl hl.1 ⟨Nat.le_of_ble_eq_true rfl, Nat.le_of_ble_eq_true rfl⟩ ⟨Nat.zero_le _, Nat.zero_le _⟩ (Nat.le_of_ble_eq_true rfl) rfl dX0_digestOfMoneys_30 (fun r_21 hr_22 => ?_)
      subst hr_22
      refine lv_i2l CF.1 CF.2.1 dX0_digestOfMoneys_33 rfl ?_
      refine lv_ladd CF.1 CF.2.1 dX0_digestOfMoneys_34 ?_
      refine lv_lstore_n (lv' := [(3, .long (((dgl (fmo b i_1) (dgm b x i_1) i_7) * lN (31)) + ((nI (fmo b (i_1) (i_7))).toInt64))), (0, .ref (ad 0)), (1, .long (x)), (5, .int (nI (i_1))), (6, .int (nI (i_7)))]) CF.1 CF.2.1 dX0_digestOfMoneys_35 rfl hl (by decide) rfl (fun ls hl => ?_)
      refine lv_iinc (v := nI (i_7 + 1)) (lv' := [(6, .int (nI (i_7 + 1))), (3, .long (((dgl (fmo b i_1) (dgm b x i_1) i_7) * lN (31)) + ((nI (fmo b (i_1) (i_7))).toInt64))), (0, .ref (ad 0)), (1, .long (x)), (5, .int (nI (i_1)))]) CF.1 CF.2.1 dX0_digestOfMoneys_36 hl (k := 4) rfl (by first | exact nI_add _ _ | rfl) (by decide) rfl (fun ls hl => ?_)
      refine lv_goto (tgt := 14) CF.1 CF.2.1 dX0_digestOfMoneys_39 (by decide) ?_
      exact ih_8 ls (by omega) (lv_sub hl [2, 3, 1, 4, 0] rfl)
set_option maxHeartbeats 1000000 in
set_option maxRecDepth 100000 in
theorem c0_digest (l : Launch) {G : va_G} {cA : ClassId} {ad : Nat → Nat} {σ : RS} {b : BS} (hI : InvC b) (hR : Rc σ b) (hO : Ro σ b) (hOi : InvO b) : Met l yX0_digest (ws_ yX0_digest cX0_digest 5 (some .long)) (rmk 6 0 0) (pc0 G cA ad σ [.ref (ad 0)]) (rql (fun r => r = dgs b)) 0 0 (fun _ => False) := by
  refine Met.ofW (cc := cX0_digest) (maxL := 5) (ret := (some .long)) (by decide) rfl ?_
  intro p e s m args below meth c s₁ B hml hv
  obtain ⟨rfl, hP, hK⟩ := hv
  have CF : CallFix p m c cX0_digest 5 s _ AW RX0 := ⟨B.exec, B.bytes, hml, findClass_of_methodNamed B.named, fun w h => atoms_spec (ws := ws_ yX0_digest cX0_digest 5 (some .long)) B.pre w (List.mem_cons_of_mem _ h)⟩
  have hr := B.returns
  have hlocks := B.notSynchronized
  have hl := lv_entry ([.ref (ad 0)]) (n := 5) (Nat.le_of_ble_eq_true rfl)
  rw [lg_entry_eq]
  generalize (lg_sl ([.ref (ad 0)]) ++ List.replicate (5 - (lg_sl ([.ref (ad 0)])).length) Slot.unset).toArray = ls at hl ⊢
  have hl : lv_has ls 5 [(0, .ref (ad 0))] := hl
  obtain ⟨i_sp, i_cu, i_ra, i_di, i_mo, i_pu⟩ := id hI
  have hw10 := hOi.1
  refine lv_ldc2 (v := lN 1367) CF.1 CF.2.1 CF.2.2.2.1 (CF.2.2.2.2 _ (inr_20 _ (List.mem_of_getElem? (i := 18) rfl))) dX0_digest_0 ?_
  refine lv_lstore_n (lv' := [(1, .long (lN (1367))), (0, .ref (ad 0))]) CF.1 CF.2.1 dX0_digest_3 rfl hl (by decide) rfl (fun ls hl => ?_)
  refine lv_iconst (v := nI 0) CF.1 CF.2.1 dX0_digest_4 (by decide) ?_
  refine lv_istore_n (lv' := [(3, .int (nI (0))), (1, .long (lN (1367))), (0, .ref (ad 0))]) CF.1 CF.2.1 dX0_digest_5 rfl hl (by decide) rfl (fun ls hl => ?_)
  refine loop_ro (fun i => [(0, .ref (ad 0)), (1, .long (dgl (fbo b) (lN 1367) i)), (3, .int (nI (i)))]) (7) (0) (lv_sub hl [2, 1, 0] rfl) (by omega) (fun i_1 h_4 h_3 ih_2 ls hl => ?_)
  refine lv_iload_n CF.1 CF.2.1 dX0_digest_6 rfl (lv_at hl 2 rfl) ?_
  refine lv_bipush (v := nI 7) CF.1 CF.2.1 dX0_digest_7 (by decide) ?_
  refine z_icmp_ge CF (tgt := 31) (nIz (by omega)) (nIz (by omega)) dX0_digest_9 (by decide) (fun h_5 => ?_) (fun h_6 => ?_)
  · obtain rfl : i_1 = 7 := by omega
    refine lv_aload_n CF.1 CF.2.1 dX0_digest_31 rfl (lv_at hl 0 rfl) ?_
    refine lv_lload_n CF.1 CF.2.1 dX0_digest_32 rfl (lv_at hl 1 rfl) ?_
    refine c0_l CF hK hP (As := [.long (dgl (fbo b) (lN 1367) 7)]) (rest := []) (c0_digestOfMoneys l hI hR ((dgl (fbo b) (lN 1367) 7))) rfl lk_RX0_X0_digestOfMoneys rfl hl.1 ⟨Nat.le_of_ble_eq_true rfl, Nat.le_of_ble_eq_true rfl⟩ ⟨Nat.zero_le _, Nat.zero_le _⟩ (Nat.le_of_ble_eq_true rfl) rfl dX0_digest_33 (fun r_7 hr_8 => ?_)
    subst hr_8
    refine lv_lstore_n (lv' := [(1, .long (dgm b (dgl (fbo b) (lN 1367) 7) 5)), (0, .ref (ad 0)), (3, .int (nI (7)))]) CF.1 CF.2.1 dX0_digest_36 rfl hl (by decide) rfl (fun ls hl => ?_)
    refine lv_iconst (v := nI 0) CF.1 CF.2.1 dX0_digest_37 (by decide) ?_
    refine lv_istore_n (lv' := [(3, .int (nI (0))), (1, .long (dgm b (dgl (fbo b) (lN 1367) 7) 5)), (0, .ref (ad 0))]) CF.1 CF.2.1 dX0_digest_38 rfl hl (by decide) rfl (fun ls hl => ?_)
    refine loop_ro (fun i => [(0, .ref (ad 0)), (1, .long (dgl (b 6) (dgm b (dgl (fbo b) (lN 1367) 7) 5) (i * 5))), (3, .int (nI (i)))]) (b 0 2) (0) (lv_sub hl [2, 1, 0] rfl) (by omega) (fun i_9 h_12 h_11 ih_10 ls hl => ?_)
    refine lv_iload_n CF.1 CF.2.1 dX0_digest_39 rfl (lv_at hl 2 rfl) ?_
    refine lv_aload_n CF.1 CF.2.1 dX0_digest_40 rfl (lv_at hl 0 rfl) ?_
    refine x0_g_customers CF hK hP (v := (nI (b 0 2))) hR.2.2.1 dX0_digest_41 ?_
    refine z_icmp_ge CF (tgt := 83) (nIz (by omega)) (nIz (by omega)) dX0_digest_44 (by decide) (fun h_13 => ?_) (fun h_14 => ?_)
    · obtain rfl : i_9 = b 0 2 := by omega
      refine lv_iconst (v := nI 0) CF.1 CF.2.1 dX0_digest_83 (by decide) ?_
      refine lv_istore_n (lv' := [(3, .int (nI (0))), (0, .ref (ad 0)), (1, .long (dgl (b 6) (dgm b (dgl (fbo b) (lN 1367) 7) 5) ((b 0 2) * 5)))]) CF.1 CF.2.1 dX0_digest_84 rfl hl (by decide) rfl (fun ls hl => ?_)
      refine loop_ro (fun i => [(0, .ref (ad 0)), (1, .long (dgl (b 7) (dgl (b 6) (dgm b (dgl (fbo b) (lN 1367) 7) 5) (b 0 2 * 5)) (i * 5))), (3, .int (nI (i)))]) (b 0 3) (0) (lv_sub hl [1, 2, 0] rfl) (by omega) (fun i_15 h_18 h_17 ih_16 ls hl => ?_)
      refine lv_iload_n CF.1 CF.2.1 dX0_digest_85 rfl (lv_at hl 2 rfl) ?_
      refine lv_aload_n CF.1 CF.2.1 dX0_digest_86 rfl (lv_at hl 0 rfl) ?_
      refine x0_g_waiting CF hK hP (v := (nI (b 0 3))) hO.1 dX0_digest_87 ?_
      refine z_icmp_ge CF (tgt := 129) (nIz (by omega)) (nIz (by omega)) dX0_digest_90 (by decide) (fun h_19 => ?_) (fun h_20 => ?_)
      · obtain rfl : i_15 = b 0 3 := by omega
        refine lv_lload_n CF.1 CF.2.1 dX0_digest_129 rfl (lv_at hl 1 rfl) ?_
        exact W.lret CF.1 CF.2.1 hr (fun t ht hW => ⟨_, rfl, rfl, ht⟩) (fun q hq => absurd hq List.not_mem_nil) dX0_digest_130
      · refine lv_iconst (v := nI 0) CF.1 CF.2.1 dX0_digest_93 (by decide) ?_
        refine lv_istore (lv' := [(4, .int (nI (0))), (0, .ref (ad 0)), (1, .long (dgl (b 7) (dgl (b 6) (dgm b (dgl (fbo b) (lN 1367) 7) 5) (b 0 2 * 5)) (i_15 * 5))), (3, .int (nI (i_15)))]) CF.1 CF.2.1 dX0_digest_94 hl (by decide) rfl (fun ls hl => ?_)
        refine loop_ro (fun i => [(0, .ref (ad 0)), (1, .long (dgl (b 7) (dgl (b 6) (dgm b (dgl (fbo b) (lN 1367) 7) 5) (b 0 2 * 5)) (i_15 * 5 + i))), (3, .int (nI (i_15))), (4, .int (nI (i)))]) (5) (0) (lv_sub hl [1, 2, 3, 0] rfl) (by omega) (fun i_21 h_24 h_23 ih_22 ls hl => ?_)
        refine lv_iload CF.1 CF.2.1 dX0_digest_96 (lv_at hl 3 rfl) ?_
        refine lv_iconst (v := nI 5) CF.1 CF.2.1 dX0_digest_98 (by decide) ?_
        refine z_icmp_ge CF (tgt := 123) (nIz (by omega)) (nIz (by omega)) dX0_digest_99 (by decide) (fun h_25 => ?_) (fun h_26 => ?_)
        · obtain rfl : i_21 = 5 := by omega
          refine lv_iinc (v := nI (i_15 + 1)) (lv' := [(3, .int (nI (i_15 + 1))), (0, .ref (ad 0)), (1, .long (dgl (b 7) (dgl (b 6) (dgm b (dgl (fbo b) (lN 1367) 7) 5) (b 0 2 * 5)) (i_15 * 5 + 5))), (4, .int (nI (5)))]) CF.1 CF.2.1 dX0_digest_123 hl (k := 2) rfl (by first | exact nI_add _ _ | rfl) (by decide) rfl (fun ls hl => ?_)
          refine lv_goto (tgt := 85) CF.1 CF.2.1 dX0_digest_126 (by decide) ?_
          exact ih_16 ls (by omega) (lv_sub hl [1, 2, 0] (by rw [show (i_15 + 1) * 5 = i_15 * 5 + 5 by omega]; rfl))
        · refine lv_lload_n CF.1 CF.2.1 dX0_digest_102 rfl (lv_at hl 1 rfl) ?_
          refine lv_ldc2 (v := lN 31) CF.1 CF.2.1 CF.2.2.2.1 (CF.2.2.2.2 _ (inr_20 _ (List.mem_of_getElem? (i := 19) rfl))) dX0_digest_103 ?_
          refine lv_lmul CF.1 CF.2.1 dX0_digest_106 ?_
          refine lv_aload_n CF.1 CF.2.1 dX0_digest_107 rfl (lv_at hl 0 rfl) ?_
          refine lv_iload_n CF.1 CF.2.1 dX0_digest_108 rfl (lv_at hl 2 rfl) ?_
          refine lv_iload CF.1 CF.2.1 dX0_digest_109 (lv_at hl 3 rfl) ?_
          refine c0_i CF hK hP (As := [.int (nI (i_15)), .int (nI (i_21))]) (rest := [.long ((dgl (b 7) (dgl (b 6) (dgm b (dgl (fbo b) (lN 1367) 7) 5) (b 0 2 * 5)) (i_15 * 5 + i_21)) * lN (31))]) (c0_orderPart l (σ := σ) (u := i_15) (t := i_21) (by omega) (by omega)) rfl lk_RX0_X0_orderPart rfl hl.1 ⟨Nat.le_of_ble_eq_true rfl, Nat.le_of_ble_eq_true rfl⟩ ⟨Nat.zero_le _, Nat.zero_le _⟩ (Nat.le_of_ble_eq_true rfl) rfl dX0_digest_111 (fun r_27 hr_28 => ?_)
          subst hr_28
          refine tpi (show σ 7 (i_15 * 5 + i_21) = nI (b 7 (i_15 * 5 + i_21)) from hO.2.2 (i_15 * 5 + i_21) (by omega)) ?_
          refine lv_i2l CF.1 CF.2.1 dX0_digest_114 rfl ?_
          refine lv_ladd CF.1 CF.2.1 dX0_digest_115 ?_
          refine lv_lstore_n (lv' := [(1, .long (((dgl (b 7) (dgl (b 6) (dgm b (dgl (fbo b) (lN 1367) 7) 5) (b 0 2 * 5)) (i_15 * 5 + i_21)) * lN (31)) + ((nI (b 7 (i_15 * 5 + i_21))).toInt64))), (0, .ref (ad 0)), (3, .int (nI (i_15))), (4, .int (nI (i_21)))]) CF.1 CF.2.1 dX0_digest_116 rfl hl (by decide) rfl (fun ls hl => ?_)
          refine lv_iinc (v := nI (i_21 + 1)) (lv' := [(4, .int (nI (i_21 + 1))), (1, .long (((dgl (b 7) (dgl (b 6) (dgm b (dgl (fbo b) (lN 1367) 7) 5) (b 0 2 * 5)) (i_15 * 5 + i_21)) * lN (31)) + ((nI (b 7 (i_15 * 5 + i_21))).toInt64))), (0, .ref (ad 0)), (3, .int (nI (i_15)))]) CF.1 CF.2.1 dX0_digest_117 hl (k := 3) rfl (by first | exact nI_add _ _ | rfl) (by decide) rfl (fun ls hl => ?_)
          refine lv_goto (tgt := 96) CF.1 CF.2.1 dX0_digest_120 (by decide) ?_
          exact ih_22 ls (by omega) (lv_sub hl [2, 1, 3, 0] rfl)
    · refine lv_iconst (v := nI 0) CF.1 CF.2.1 dX0_digest_47 (by decide) ?_
      refine lv_istore (lv' := [(4, .int (nI (0))), (0, .ref (ad 0)), (1, .long (dgl (b 6) (dgm b (dgl (fbo b) (lN 1367) 7) 5) (i_9 * 5))), (3, .int (nI (i_9)))]) CF.1 CF.2.1 dX0_digest_48 hl (by decide) rfl (fun ls hl => ?_)
      refine loop_ro (fun i => [(0, .ref (ad 0)), (1, .long (dgl (b 6) (dgm b (dgl (fbo b) (lN 1367) 7) 5) (i_9 * 5 + i))), (3, .int (nI (i_9))), (4, .int (nI (i)))]) (5) (0) (lv_sub hl [1, 2, 3, 0] rfl) (by omega) (fun i_29 h_32 h_31 ih_30 ls hl => ?_)
      refine lv_iload CF.1 CF.2.1 dX0_digest_50 (lv_at hl 3 rfl) ?_
      refine lv_iconst (v := nI 5) CF.1 CF.2.1 dX0_digest_52 (by decide) ?_
      refine z_icmp_ge CF (tgt := 77) (nIz (by omega)) (nIz (by omega)) dX0_digest_53 (by decide) (fun h_33 => ?_) (fun h_34 => ?_)
      · obtain rfl : i_29 = 5 := by omega
        refine lv_iinc (v := nI (i_9 + 1)) (lv' := [(3, .int (nI (i_9 + 1))), (0, .ref (ad 0)), (1, .long (dgl (b 6) (dgm b (dgl (fbo b) (lN 1367) 7) 5) (i_9 * 5 + 5))), (4, .int (nI (5)))]) CF.1 CF.2.1 dX0_digest_77 hl (k := 2) rfl (by first | exact nI_add _ _ | rfl) (by decide) rfl (fun ls hl => ?_)
        refine lv_goto (tgt := 39) CF.1 CF.2.1 dX0_digest_80 (by decide) ?_
        exact ih_10 ls (by omega) (lv_sub hl [1, 2, 0] (by rw [show (i_9 + 1) * 5 = i_9 * 5 + 5 by omega]; rfl))
      · refine lv_lload_n CF.1 CF.2.1 dX0_digest_56 rfl (lv_at hl 1 rfl) ?_
        refine lv_ldc2 (v := lN 31) CF.1 CF.2.1 CF.2.2.2.1 (CF.2.2.2.2 _ (inr_20 _ (List.mem_of_getElem? (i := 19) rfl))) dX0_digest_57 ?_
        refine lv_lmul CF.1 CF.2.1 dX0_digest_60 ?_
        refine lv_aload_n CF.1 CF.2.1 dX0_digest_61 rfl (lv_at hl 0 rfl) ?_
        refine lv_iload_n CF.1 CF.2.1 dX0_digest_62 rfl (lv_at hl 2 rfl) ?_
        refine lv_iload CF.1 CF.2.1 dX0_digest_63 (lv_at hl 3 rfl) ?_
        refine c0_i CF hK hP (As := [.int (nI (i_9)), .int (nI (i_29))]) (rest := [.long ((dgl (b 6) (dgm b (dgl (fbo b) (lN 1367) 7) 5) (i_9 * 5 + i_29)) * lN (31))]) (c0_inPurse l hI hR (u := i_9) (t := i_29) (by omega) (by omega)) rfl lk_RX0_X0_inPurse rfl hl.1 ⟨Nat.le_of_ble_eq_true rfl, Nat.le_of_ble_eq_true rfl⟩ ⟨Nat.zero_le _, Nat.zero_le _⟩ (Nat.le_of_ble_eq_true rfl) rfl dX0_digest_65 (fun r_35 hr_36 => ?_)
        subst hr_36
        refine lv_i2l CF.1 CF.2.1 dX0_digest_68 rfl ?_
        refine lv_ladd CF.1 CF.2.1 dX0_digest_69 ?_
        refine lv_lstore_n (lv' := [(1, .long (((dgl (b 6) (dgm b (dgl (fbo b) (lN 1367) 7) 5) (i_9 * 5 + i_29)) * lN (31)) + ((nI (b 6 (i_9 * 5 + i_29))).toInt64))), (0, .ref (ad 0)), (3, .int (nI (i_9))), (4, .int (nI (i_29)))]) CF.1 CF.2.1 dX0_digest_70 rfl hl (by decide) rfl (fun ls hl => ?_)
        refine lv_iinc (v := nI (i_29 + 1)) (lv' := [(4, .int (nI (i_29 + 1))), (1, .long (((dgl (b 6) (dgm b (dgl (fbo b) (lN 1367) 7) 5) (i_9 * 5 + i_29)) * lN (31)) + ((nI (b 6 (i_9 * 5 + i_29))).toInt64))), (0, .ref (ad 0)), (3, .int (nI (i_9)))]) CF.1 CF.2.1 dX0_digest_71 hl (k := 3) rfl (by first | exact nI_add _ _ | rfl) (by decide) rfl (fun ls hl => ?_)
        refine lv_goto (tgt := 50) CF.1 CF.2.1 dX0_digest_74 (by decide) ?_
        exact ih_30 ls (by omega) (lv_sub hl [2, 1, 3, 0] rfl)
  · refine lv_lload_n CF.1 CF.2.1 dX0_digest_12 rfl (lv_at hl 1 rfl) ?_
    refine lv_ldc2 (v := lN 31) CF.1 CF.2.1 CF.2.2.2.1 (CF.2.2.2.2 _ (inr_20 _ (List.mem_of_getElem? (i := 19) rfl))) dX0_digest_13 ?_
    refine lv_lmul CF.1 CF.2.1 dX0_digest_16 ?_
    refine lv_aload_n CF.1 CF.2.1 dX0_digest_17 rfl (lv_at hl 0 rfl) ?_
    refine lv_iload_n CF.1 CF.2.1 dX0_digest_18 rfl (lv_at hl 2 rfl) ?_
    refine c0_i CF hK hP (As := [.int (nI (i_1))]) (rest := [.long ((dgl (fbo b) (lN 1367) i_1) * lN (31))]) (c0_factOfBooth l hI hR hO (w := i_1) (by omega)) rfl lk_RX0_X0_factOfBooth rfl hl.1 ⟨Nat.le_of_ble_eq_true rfl, Nat.le_of_ble_eq_true rfl⟩ ⟨Nat.zero_le _, Nat.zero_le _⟩ (Nat.le_of_ble_eq_true rfl) rfl dX0_digest_19 (fun r_37 hr_38 => ?_)
    subst hr_38
    refine lv_i2l CF.1 CF.2.1 dX0_digest_22 rfl ?_
    refine lv_ladd CF.1 CF.2.1 dX0_digest_23 ?_
    refine lv_lstore_n (lv' := [(1, .long (((dgl (fbo b) (lN 1367) i_1) * lN (31)) + ((nI (fbo b (i_1))).toInt64))), (0, .ref (ad 0)), (3, .int (nI (i_1)))]) CF.1 CF.2.1 dX0_digest_24 rfl hl (by decide) rfl (fun ls hl => ?_)
    refine lv_iinc (v := nI (i_1 + 1)) (lv' := [(3, .int (nI (i_1 + 1))), (1, .long (((dgl (fbo b) (lN 1367) i_1) * lN (31)) + ((nI (fbo b (i_1))).toInt64))), (0, .ref (ad 0))]) CF.1 CF.2.1 dX0_digest_25 hl (k := 2) rfl (by first | exact nI_add _ _ | rfl) (by decide) rfl (fun ls hl => ?_)
    refine lv_goto (tgt := 6) CF.1 CF.2.1 dX0_digest_28 (by decide) ?_
    exact ih_2 ls (by omega) (lv_sub hl [2, 1, 0] rfl)
end
section
def xIO : String := "java/lang/IndexOutOfBoundsException"
def xIA : String := "java/lang/IllegalArgumentException"
def xIS : String := "java/lang/IllegalStateException"
def exs : List String := ["java/lang/IndexOutOfBoundsException", "java/lang/IllegalArgumentException", "java/lang/IllegalStateException"]
def txs : List (Nat × String) := [(37, "no such money"), (44, "the moneys are the same or the rate is not 0 to 9999"), (51, "the spread is not 0 to 50"), (58, "the limit is not 0 to 99999"), (63, "what comes is not 1 to 99999"), (77, "there are 6 customers"), (83, "no such customer or money"), (85, "what is earned is not 1 to 99999"), (91, "this can not be changed"), (93, "the moneys are the same or an amount is not 1 to 99999"), (98, "10 orders wait"), (107, "no such place"), (120, "no such money or nothing to tell"), (125, "no such place or nothing to tell"), (127, "nothing to count"), (136, "the amount is not 0 to 99999"), (146, "the moneys are the same or the amount is not 0 to 99999"), (155, "the moneys are the same")]
def dcs : List String := ["java/lang/RuntimeException", "java/lang/Exception", Bundle.tN]
def nms : List String := ["java/lang/RuntimeException", "java/lang/Exception"]
/-- what a throw needs of the heap and of the tables, beside the words -/
def EX (A : Nat → Prop) (U : State) (H : Heap) : Prop := vx_Zq Bundle.tN "UNASSIGNED_STACK" Bundle.steD A U H ∧ vx_Zq Bundle.tN "SUPPRESSED_SENTINEL" Bundle.listD A U H ∧ (∀ q ∈ txs, ∃ a, vk_R RX0 q.1 q.2 a U) ∧ (∀ E ∈ exs, va_Nw (.castable E E) U) ∧ (∀ E ∈ exs, ∀ F ∈ exs, E ≠ F → va_Nc E F U) ∧ ∀ E ∈ dcs, va_Nw (.declares (Bundle.initS E)) U
theorem EX_moved {A : Nat → Prop} {s U : State} {H : Heap} (hW : s.WarmedH U.vm) (h : EX A s H) : EX A U H := by
  obtain ⟨h1, h2, h3, h4, h5, h6⟩ := h
  refine ⟨vx_Zq.moved hW.alike h1, vx_Zq.moved hW.alike h2, fun q hq => ?_, fun E hE => va_Nw.warmC hW (h4 E hE), fun E hE F hF hn => va_Nc.moved hW.alike (h5 E hE F hF hn), fun E hE => va_Nw.warmD hW (h6 E hE)⟩
  obtain ⟨a, ha⟩ := h3 q hq
  exact ⟨a, vk_R.warm hW ha⟩
theorem EX_kept {A : Nat → Prop} {s : State} {H H1 : Heap} (h : EX A s H) (hq : ∀ a : Nat, a < H.size → ¬ A a → H1[a]? = H[a]?) : EX A s H1 := ⟨h.1.kept hq, h.2.1.kept hq, h.2.2⟩
theorem EX_narrow {A B : Nat → Prop} {s : State} {H : Heap} (h : EX A s H) (hAB : ∀ q, B q → A q) : EX B s H := ⟨h.1.narrow hAB, h.2.1.narrow hAB, h.2.2⟩
def pcx (G : va_G) (cA : ClassId) (ad : Nat → Nat) (σ : RS) (av : List Value) : Array Value → State → Prop := va_Pc av (fun U => va_P G vwCl (w0 ad cA σ) U.heap ∧ KK G cA U ∧ EX (own8 ad) U U.heap)
theorem pcx_blind {G : va_G} {cA : ClassId} {ad : Nat → Nat} {σ : RS} {av : List Value} : FrameBlind (pcx G cA ad σ av) := fun a U g mk q => ⟨q.1, q.2.1, va_K.moved (u := U) (U := U.calling g mk a) (Vm.Alike.refl U.vm) q.2.2.1, EX_moved (s := U) (U := U.calling g mk a) (State.WarmedH.refl U) q.2.2.2⟩
def xcS (G : va_G) (cA : ClassId) (ad : Nat → Nat) (σ : RS) (P : String → Prop) : String → State → State → Prop := vx_X (fun σ' : RS => σ' = σ) (fun E σ' t => P E ∧ va_P G vwCl (w0 ad cA σ') t.heap) (own8 ad)
theorem ha_IO : ∀ w ∈ (vx_atS RX0 39 "java/lang/IndexOutOfBoundsException" nms).filter goodWord, w ∈ AW := fun _ h => List.mem_append_left _ (List.mem_append_left _ (List.mem_append_right _ h))
theorem hb_IO : ∀ w ∈ (vx_atS RX0 39 "java/lang/IndexOutOfBoundsException" nms).filter (fun w => !goodWord w), w ∈ [Cond.castable "java/lang/IndexOutOfBoundsException" "java/lang/IndexOutOfBoundsException", Cond.declares (Bundle.initS "java/lang/RuntimeException"), Cond.declares (Bundle.initS "java/lang/Exception"), Cond.declares (Bundle.initS Bundle.tN)] := by decide +kernel
theorem hg_IO : ∀ w ∈ Cond.classLink RX0 35 "java/lang/IndexOutOfBoundsException" :: Cond.initialized "java/lang/IndexOutOfBoundsException" :: vx_atS RX0 39 "java/lang/IndexOutOfBoundsException" nms, vx_ot w = true := by decide +kernel
theorem ha_IA : ∀ w ∈ (vx_atS RX0 46 "java/lang/IllegalArgumentException" nms).filter goodWord, w ∈ AW := fun _ h => List.mem_append_left _ (List.mem_append_right _ h)
theorem hb_IA : ∀ w ∈ (vx_atS RX0 46 "java/lang/IllegalArgumentException" nms).filter (fun w => !goodWord w), w ∈ [Cond.castable "java/lang/IllegalArgumentException" "java/lang/IllegalArgumentException", Cond.declares (Bundle.initS "java/lang/RuntimeException"), Cond.declares (Bundle.initS "java/lang/Exception"), Cond.declares (Bundle.initS Bundle.tN)] := by decide +kernel
theorem hg_IA : ∀ w ∈ Cond.classLink RX0 42 "java/lang/IllegalArgumentException" :: Cond.initialized "java/lang/IllegalArgumentException" :: vx_atS RX0 46 "java/lang/IllegalArgumentException" nms, vx_ot w = true := by decide +kernel
theorem ha_IS : ∀ w ∈ (vx_atS RX0 79 "java/lang/IllegalStateException" nms).filter goodWord, w ∈ AW := fun _ h => List.mem_append_right _ h
theorem hb_IS : ∀ w ∈ (vx_atS RX0 79 "java/lang/IllegalStateException" nms).filter (fun w => !goodWord w), w ∈ [Cond.castable "java/lang/IllegalStateException" "java/lang/IllegalStateException", Cond.declares (Bundle.initS "java/lang/RuntimeException"), Cond.declares (Bundle.initS "java/lang/Exception"), Cond.declares (Bundle.initS Bundle.tN)] := by decide +kernel
theorem hg_IS : ∀ w ∈ Cond.classLink RX0 75 "java/lang/IllegalStateException" :: Cond.initialized "java/lang/IllegalStateException" :: vx_atS RX0 79 "java/lang/IllegalStateException" nms, vx_ot w = true := by decide +kernel
section TH
variable {p : Program} {l : Launch} {e : Env} {R : Room} {s : State} {m : MethodId} {args : Array Value} {below : List Frame} {meth : Method} {c : Code} {H : Heap} {locs : List Loc} {cells slots : Nat}
variable {cc : ByteArray} {pc nL : Nat} {ls : Array Slot} {G : va_G} {cA : ClassId} {ad : Nat → Nat} {σ : RS} {own : String}
theorem thr (CF : CallFix p m c cc nL s args AW RX0) (hl : l.stackTraces = false) (hE : EX (own8 ad) s s.heap) (hP : va_P G vwCl (w0 ad cA σ) H) (hj : inj8 ad) (hS : va_S (own8 ad) s.heap H locs) (htab : ∀ x ∈ c.exceptionTable.toList, False) (hlocks : meth.locks = false) (hsz : ls.size = nL) {Qc : Array Value → State → Outcome → State → Prop} {P : String → Prop}
    {cls text : String} {ik is ic : Nat} (hfit : Bundle.fit cls = true) (hc : cls ∈ exs) (htx : (is, text) ∈ txs) (hk : Cond.classLink RX0 ik cls ∈ AW) (hini : Cond.initialized cls ∈ AW) (ha : ∀ w ∈ (vx_atS RX0 ic cls nms).filter goodWord, w ∈ AW) (hb : ∀ w ∈ (vx_atS RX0 ic cls nms).filter (fun w => !goodWord w), w ∈ [Cond.castable cls cls, Cond.declares (Bundle.initS "java/lang/RuntimeException"), Cond.declares (Bundle.initS "java/lang/Exception"), Cond.declares (Bundle.initS Bundle.tN)]) (hg : ∀ w ∈ Cond.classLink RX0 ik cls :: Cond.initialized cls :: vx_atS RX0 ic cls nms, vx_ot w = true)
    (d0 : decode cc pc = .ok (.new ik, 3)) (d3 : decode cc (pc + 3) = .ok (.dup, 1)) (d4 : decode cc (pc + 4) = .ok (.ldc is, 2)) (d6 : decode cc (pc + 6) = .ok (.invokespecial ic, 3)) (d9 : decode cc (pc + 9) = .ok (.athrow, 1))
    (hR1 : 5 < R.frames) (hR2 : 82 ≤ R.locals) (hR3 : 1 ≤ R.cells) (hR4 : 6 ≤ R.slots) (hp : P cls) :
    W p l e R s m args below meth c H locs 0 0 (vx_MQ below Qc (xcS G cA ad σ P) args s 1 6 (own8 ad)) (F0 m pc ls []) := by
  obtain ⟨sa, hsa⟩ := hE.2.2.1 _ htx
  have hca : va_Nw (.castable cls cls) s := hE.2.2.2.1 _ hc
  refine vx_throwS (names := nms) (A := own8 ad) CF.1 CF.2.1 hl CF.2.2.2.1 hfit (by decide +kernel) (CF.2.2.2.2 _ hk) (CF.2.2.2.2 _ hini) hsa (vx_hat (fun w hw => CF.2.2.2.2 w (ha w hw)) hb (vx_c (va_Nw.use (A := args) rfl hca) (vx_c (va_Nw.use (A := args) rfl (hE.2.2.2.2.2 _ (List.mem_of_getElem? (i := 0) rfl))) (vx_c (va_Nw.use (A := args) rfl (hE.2.2.2.2.2 _ (List.mem_of_getElem? (i := 1) rfl))) (vx_c (va_Nw.use (A := args) rfl (hE.2.2.2.2.2 _ (List.mem_of_getElem? (i := 2) rfl))) vx_n))))) hg hE.1 hE.2.1 hS (hsz.trans CF.2.2.1.symm) d0 d3 d4 d6 d9 (fun x hx => (htab x hx).elim) hR1 hR2 hR3 hR4 hlocks (fun t hal hz hk => ?_) hS.2.2 (Nat.le_refl _) (Nat.le_refl _)
  refine ⟨σ, rfl, ⟨hp, hP.kept (fun k q hq => hk q.1 ((hP k q hq).lt))⟩, Nat.le_trans hS.1 hz, fun q h1 h2 => ?_⟩
  rw [hk q (Nat.lt_of_lt_of_le h1 hS.1)]
  exact hS.2.1 q h1 h2
end TH
end
section
theorem InvC_up {b : BS} {k i v : Nat} (hI : InvC b) (h : (k = 0 ∧ i ≠ 1 ∧ i ≠ 2) ∨ (k = 0 ∧ i = 1 ∧ v ≤ 50) ∨ (k = 0 ∧ i = 2 ∧ v ≤ 6) ∨ (k = 1 ∧ v ≤ 9999 ∧ ∀ j, j < 5 → j * 5 + j ≠ i) ∨ (k = 2 ∧ v ≤ 999999) ∨ (k = 4 ∧ v ≤ 99999) ∨ (k = 6 ∧ v ≤ 999999) ∨ 7 ≤ k) : InvC (upN b k i v) := by
  obtain ⟨i1, i2, i3, i4, i5, i6⟩ := hI
  refine ⟨?_, ?_, fun j hj => ?_, fun j hj => ?_, fun j hj => ⟨?_, ?_, ?_, ?_⟩, fun j hj => ?_⟩
  · unfold upN; split <;> omega
  · unfold upN; split <;> omega
  · have := i3 j hj; unfold upN; split <;> omega
  · have := i4 j hj
    unfold upN
    split
    · next q =>
      rcases h with h | h | h | h | h | h | h | h <;> first | omega | exact absurd q.2 (h.2.2 j hj)
    · exact this
  · have := i5 j hj; unfold upN; split <;> omega
  · have := i5 j hj; unfold upN; split <;> omega
  · have := i5 j hj; unfold upN; split <;> omega
  · have := i5 j hj; unfold upN; split <;> omega
  · have := i6 j hj; unfold upN; split <;> omega
theorem InvO_to {b b' : BS} (hO : InvO b) (h2 : b 0 2 ≤ b' 0 2) (h3 : b' 0 3 = b 0 3) (h7 : ∀ j, b' 7 j = b 7 j) : InvO b' := by
  obtain ⟨o1, o2⟩ := hO
  refine ⟨by omega, fun p hp => ?_⟩
  have := o2 p (by omega)
  rw [h7, h7, h7, h7, h7]
  omega
theorem Ro_sm {σ σ' : RS} {b b' : BS} (hO : Ro σ b) (hM : Sm σ σ') (h3 : b' 0 3 = b 0 3) (h5 : b' 0 5 = b 0 5) (h7 : ∀ j, b' 7 j = b 7 j) : Ro σ' b' := by
  obtain ⟨o1, o2, o3⟩ := hO
  obtain ⟨m1, m2, m3⟩ := hM
  refine ⟨by rw [m2, h3]; exact o1, by rw [m3, h5]; exact o2, fun j hj => ?_⟩
  rw [h3] at hj
  rw [m1, h7]
  exact o3 j hj
def s_rate (b : BS) (f t v : Nat) : BS := lka (upN b 1 (f * 5 + t) v)
def s_spread (b : BS) (v : Nat) : BS := lka (upN b 0 1 v)
def s_nx (b : BS) : BS := fun k j => if k = 5 ∧ j < 5 then 0 else if k = 0 ∧ j = 0 then b 0 0 + 1 else b k j
def s_next (b : BS) : BS := lka (s_nx b)
def s_order (b : BS) (u f t a k : Nat) : BS := upN (upN (upN (upN (upN (upN b 7 (b 0 3 * 5) u) 7 (b 0 3 * 5 + 1) f) 7 (b 0 3 * 5 + 2) t) 7 (b 0 3 * 5 + 3) a) 7 (b 0 3 * 5 + 4) k) 0 3 (b 0 3 + 1)
theorem I_rate {b : BS} (hI : InvC b) {f t v : Nat} (hf : f < 5) (ht : t < 5) (hne : f ≠ t) (hv : v ≤ 9999) : InvC (upN b 1 (f * 5 + t) v) := InvC_up hI (Or.inr (Or.inr (Or.inr (Or.inl ⟨rfl, hv, fun j hj => by omega⟩))))
theorem I_nx {b : BS} (hI : InvC b) : InvC (s_nx b) := by
  obtain ⟨i1, i2, i3, i4, i5, i6⟩ := hI
  refine ⟨i1, i2, i3, i4, fun j hj => ?_, i6⟩
  have := i5 j hj
  exact ⟨this.1, this.2.1, this.2.2.1, by unfold s_nx; rw [if_pos ⟨rfl, hj⟩]; omega⟩
/-- given in this day is put to nothing, place by place -/
def nxI (σ : RS) (n : Nat) : RS := fun a j => if a = 5 ∧ j < n then nI 0 else σ a j
theorem nxI_0 {σ : RS} : nxI σ 0 = σ := by
  funext a j
  unfold nxI
  rw [if_neg (by omega)]
theorem nxI_s {σ : RS} {n : Nat} : up (nxI σ n) 5 n (nI 0) = nxI σ (n + 1) := by
  funext a j
  by_cases ha : a = 5
  · subst ha
    by_cases hj : j = n
    · subst hj; rw [up_s]; unfold nxI; rw [if_pos ⟨rfl, by omega⟩]
    · rw [up_i hj]; unfold nxI
      by_cases h : j < n
      · rw [if_pos ⟨rfl, h⟩, if_pos ⟨rfl, by omega⟩]
      · rw [if_neg (by omega), if_neg (by omega)]
  · rw [up_k ha]; unfold nxI; rw [if_neg (fun h => ha h.1), if_neg (fun h => ha h.1)]
theorem nx_R {σ σ1 : RS} {b : BS} (hR : Rc σ b) (hO : Ro σ b) (h1 : σ1 = up σ 0 0 (nI (b 0 0 + 1))) : Rc (nxI σ1 5) (s_nx b) ∧ Ro (nxI σ1 5) (s_nx b) := by
  obtain ⟨q1, q2, q3, q4, q5⟩ := hR
  obtain ⟨o1, o2, o3⟩ := hO
  have hne : ∀ a j, a ≠ 5 → nxI σ1 5 a j = σ1 a j := fun a j ha => by unfold nxI; rw [if_neg (fun h => ha h.1)]
  have hno : ∀ a j, a ≠ 5 → (a ≠ 0 ∨ j ≠ 0) → s_nx b a j = b a j := fun a j ha hb => by unfold s_nx; rw [if_neg (fun h => ha h.1), if_neg (by omega)]
  have h0 : ∀ a j, a ≠ 0 ∨ j ≠ 0 → σ1 a j = σ a j := fun a j hb => by
    rw [h1]
    by_cases ha : a = 0
    · subst ha; rw [up_i (by omega)]
    · rw [up_k ha]
  refine ⟨⟨?_, ?_, ?_, ?_, fun a j z1 z2 z3 => ?_⟩, ?_, ?_, fun j hj => ?_⟩
  · rw [hne _ _ (by omega), h1, up_s]; rfl
  · rw [hne _ _ (by omega), h0 _ _ (by omega), hno _ _ (by omega) (by omega)]; exact q2
  · rw [hne _ _ (by omega), h0 _ _ (by omega), hno _ _ (by omega) (by omega)]; exact q3
  · rw [hne _ _ (by omega), h0 _ _ (by omega), hno _ _ (by omega) (by omega)]; exact q4
  · by_cases ha : a = 5
    · subst ha
      unfold nxI s_nx
      have hj : j < 5 := z3
      rw [if_pos ⟨rfl, hj⟩, if_pos ⟨rfl, hj⟩]
    · rw [hne _ _ ha, h0 _ _ (by omega), hno _ _ ha (by omega)]; exact q5 a j z1 z2 z3
  · rw [hne _ _ (by omega), h0 _ _ (by omega), hno _ _ (by omega) (by omega)]; exact o1
  · rw [hne _ _ (by omega), h0 _ _ (by omega), hno _ _ (by omega) (by omega)]; exact o2
  · rw [hno _ _ (by omega) (by omega)] at hj
    rw [hne _ _ (by omega), h0 _ _ (by omega), hno _ _ (by omega) (by omega)]; exact o3 j hj
/-- an order is written behind the others -/
theorem ord_R {σ s1 s2 s3 s4 s5 s6 : RS} {b : BS} {u f t a k : Nat} (hR : Rc σ b) (hO : Ro σ b) (h1 : s1 = up σ 7 (b 0 3 * 5 + 0) (nI u)) (h2 : s2 = up s1 7 (b 0 3 * 5 + 1) (nI f)) (h3 : s3 = up s2 7 (b 0 3 * 5 + 2) (nI t)) (h4 : s4 = up s3 7 (b 0 3 * 5 + 3) (nI a)) (h5 : s5 = up s4 7 (b 0 3 * 5 + 4) (nI k)) (h6 : s6 = up s5 0 3 (nI (b 0 3 + 1))) : Rc s6 (s_order b u f t a k) ∧ Ro s6 (s_order b u f t a k) := by
  have r1 := Rc_up hR 7 (b 0 3 * 5 + 0) u
  rw [← h1] at r1
  have r2 := Rc_up r1 7 (b 0 3 * 5 + 1) f
  rw [← h2] at r2
  have r3 := Rc_up r2 7 (b 0 3 * 5 + 2) t
  rw [← h3] at r3
  have r4 := Rc_up r3 7 (b 0 3 * 5 + 3) a
  rw [← h4] at r4
  have r5 := Rc_up r4 7 (b 0 3 * 5 + 4) k
  rw [← h5] at r5
  have r6 := Rc_up r5 0 3 (b 0 3 + 1)
  rw [← h6] at r6
  obtain ⟨o1, o2, o3⟩ := hO
  have hw : s_order b u f t a k 0 3 = b 0 3 + 1 := upN_s
  refine ⟨r6, by rw [h6, up_s, hw], ?_, fun j hj => ?_⟩
  · rw [h6, up_i (by omega), h5, up_k (by omega), h4, up_k (by omega), h3, up_k (by omega), h2, up_k (by omega), h1, up_k (by omega)]
    unfold s_order
    rw [upN_i (by omega), upN_k (by omega), upN_k (by omega), upN_k (by omega), upN_k (by omega), upN_k (by omega)]
    exact o2
  · rw [hw] at hj
    rw [h6, up_k (by omega)]
    unfold s_order
    rw [upN_k (by omega)]
    rw [h5]
    by_cases c4 : j = b 0 3 * 5 + 4
    · rw [c4, up_s, upN_s]
    rw [up_i c4, upN_i c4, h4]
    by_cases c3 : j = b 0 3 * 5 + 3
    · rw [c3, up_s, upN_s]
    rw [up_i c3, upN_i c3, h3]
    by_cases c2 : j = b 0 3 * 5 + 2
    · rw [c2, up_s, upN_s]
    rw [up_i c2, upN_i c2, h2]
    by_cases c1 : j = b 0 3 * 5 + 1
    · rw [c1, up_s, upN_s]
    rw [up_i c1, upN_i c1, h1]
    by_cases c0 : j = b 0 3 * 5
    · rw [c0]
      show up σ 7 (b 0 3 * 5) (nI u) 7 (b 0 3 * 5) = _
      rw [up_s, upN_s]
    rw [up_i (by omega), upN_i c0]
    exact o3 j (by omega)
/-- orders behind a place come one nearer, one by one -/
def cnI (σ : RS) (q i : Nat) : RS := fun a j => if a = 7 ∧ q * 5 ≤ j ∧ j + 5 < i * 5 then σ 7 (j + 5) else σ a j
theorem cnI_0 {σ : RS} {q : Nat} : cnI σ q (q + 1) = σ := by
  funext a j
  unfold cnI
  rw [if_neg (by omega)]
theorem cnI_s {σ : RS} {q i : Nat} (h : q + 1 ≤ i) : mvI (cnI σ q i) i (i - 1) 5 = cnI σ q (i + 1) := by
  funext a j
  by_cases ha : a = 7
  · subst ha
    unfold mvI
    by_cases hj : 7 = 7 ∧ (i - 1) * 5 ≤ j ∧ j < (i - 1) * 5 + 5
    · rw [if_pos hj]
      unfold cnI
      rw [if_neg (by omega), if_pos ⟨rfl, by omega, by omega⟩]
      congr 1; omega
    · rw [if_neg hj]
      unfold cnI
      by_cases h2 : 7 = 7 ∧ q * 5 ≤ j ∧ j + 5 < i * 5
      · rw [if_pos h2, if_pos ⟨rfl, h2.2.1, by omega⟩]
      · rw [if_neg h2, if_neg (by omega)]
  · unfold mvI cnI
    rw [if_neg (fun h => ha h.1), if_neg (fun h => ha h.1), if_neg (fun h => ha h.1)]
theorem can_R {σ s1 s2 : RS} {b : BS} {q i : Nat} (hR : Rc σ b) (hO : Ro σ b) (hq : q < b 0 3) (hi : i = b 0 3) (h1 : s1 = cnI σ q i) (h2 : s2 = up s1 0 3 (nI (b 0 3 - 1))) : Rc s2 (takeN b q) ∧ Ro s2 (takeN b q) := by
  subst hi
  obtain ⟨q1, q2, q3, q4, q5⟩ := hR
  obtain ⟨o1, o2, o3⟩ := hO
  have hne : ∀ a j, a ≠ 7 → (a ≠ 0 ∨ j ≠ 3) → s2 a j = σ a j := fun a j ha hb => by
    rw [h2]
    by_cases h0 : a = 0
    · subst h0; rw [up_i (by omega), h1]; unfold cnI; rw [if_neg (fun h => ha h.1)]
    · rw [up_k h0, h1]; unfold cnI; rw [if_neg (fun h => ha h.1)]
  have hno : ∀ a j, a ≠ 7 → (a ≠ 0 ∨ j ≠ 3) → takeN b q a j = b a j := fun a j ha hb => takeN_k ha hb
  refine ⟨⟨?_, ?_, ?_, ?_, fun a j z1 z2 z3 => ?_⟩, ?_, ?_, fun j hj => ?_⟩
  · rw [hne _ _ (by omega) (by omega), hno _ _ (by omega) (by omega)]; exact q1
  · rw [hne _ _ (by omega) (by omega), hno _ _ (by omega) (by omega)]; exact q2
  · rw [hne _ _ (by omega) (by omega), hno _ _ (by omega) (by omega)]; exact q3
  · rw [hne _ _ (by omega) (by omega), hno _ _ (by omega) (by omega)]; exact q4
  · rw [hne _ _ (by omega) (by omega), hno _ _ (by omega) (by omega)]; exact q5 a j z1 z2 z3
  · rw [h2, up_s, takeN_w]
  · rw [hne _ _ (by omega) (by omega), hno _ _ (by omega) (by omega)]; exact o2
  · rw [takeN_w] at hj
    rw [h2, up_k (by omega), h1, takeN_7]
    unfold cnI
    by_cases c : j < q * 5
    · rw [if_neg (by omega), if_pos c]; exact o3 j (by omega)
    · rw [if_pos ⟨rfl, by omega, by omega⟩, if_neg c]; exact o3 (j + 5) (by omega)

set_option maxHeartbeats 1000000 in
set_option maxRecDepth 100000 in
theorem c0_isPlace (l : Launch) {G : va_G} {cA : ClassId} {ad : Nat → Nat} {σ : RS} {b : BS} (hI : InvC b) (hR : Rc σ b) (hO : Ro σ b) (hOi : InvO b) (x : Int32) : Met l yX0_isPlace (ws_ yX0_isPlace cX0_isPlace 2 (some .boolean)) (rmk 1 0 0) (pc0 G cA ad σ [.ref (ad 0), .int (x)]) (rqi (fun r => (r = 1 ∧ 0 ≤ x.toInt ∧ x.toInt < (b 0 3 : Nat)) ∨ (r = 0 ∧ (x.toInt < 0 ∨ ((b 0 3 : Nat) : Int) ≤ x.toInt)))) 0 0 (fun _ => False) := by
  refine Met.ofW (cc := cX0_isPlace) (maxL := 2) (ret := (some .boolean)) (by decide) rfl ?_
  intro p e s m args below meth c s₁ B hml hv
  obtain ⟨rfl, hP, hK⟩ := hv
  have CF : CallFix p m c cX0_isPlace 2 s _ AW RX0 := ⟨B.exec, B.bytes, hml, findClass_of_methodNamed B.named, fun w h => atoms_spec (ws := ws_ yX0_isPlace cX0_isPlace 2 (some .boolean)) B.pre w (List.mem_cons_of_mem _ h)⟩
  have hr := B.returns
  have hlocks := B.notSynchronized
  have hl := lv_entry ([.ref (ad 0), .int (x)]) (n := 2) (Nat.le_of_ble_eq_true rfl)
  rw [lg_entry_eq]
  generalize (lg_sl ([.ref (ad 0), .int (x)]) ++ List.replicate (2 - (lg_sl ([.ref (ad 0), .int (x)])).length) Slot.unset).toArray = ls at hl ⊢
  have hl : lv_has ls 2 [(0, .ref (ad 0)), (1, .int (x))] := hl
  have hw10 := hOi.1
  refine lv_iload_n CF.1 CF.2.1 dX0_isPlace_0 rfl (lv_at hl 1 rfl) ?_
  refine z_if_lt CF (tgt := 22) rfl dX0_isPlace_1 (by decide) (fun h_1 => ?_) (fun h_2 => ?_)
  · refine lv_iconst (v := nI 0) CF.1 CF.2.1 dX0_isPlace_22 (by decide) ?_
    exact W.zret CF.1 CF.2.1 hr rfl (fun t ht hW => ⟨_, rfl, Or.inr ⟨rfl, by omega⟩, ht⟩) (fun q hq => absurd hq List.not_mem_nil) dX0_isPlace_23
  · refine lv_iload_n CF.1 CF.2.1 dX0_isPlace_4 rfl (lv_at hl 1 rfl) ?_
    refine lv_aload_n CF.1 CF.2.1 dX0_isPlace_5 rfl (lv_at hl 0 rfl) ?_
    refine x0_g_waiting CF hK hP (v := (nI (b 0 3))) hO.1 dX0_isPlace_6 ?_
    refine z_icmp_ge CF (tgt := 22) rfl (nIz (by omega)) dX0_isPlace_9 (by decide) (fun h_3 => ?_) (fun h_4 => ?_)
    · refine lv_iconst (v := nI 0) CF.1 CF.2.1 dX0_isPlace_22 (by decide) ?_
      exact W.zret CF.1 CF.2.1 hr rfl (fun t ht hW => ⟨_, rfl, Or.inr ⟨rfl, by omega⟩, ht⟩) (fun q hq => absurd hq List.not_mem_nil) dX0_isPlace_23
    · refine lv_iload_n CF.1 CF.2.1 dX0_isPlace_12 rfl (lv_at hl 1 rfl) ?_
      refine lv_bipush (v := nI 10) CF.1 CF.2.1 dX0_isPlace_13 (by decide) ?_
      refine z_icmp_ge CF (tgt := 22) rfl (nIz (by omega)) dX0_isPlace_15 (by decide) (fun h_5 => ?_) (fun h_6 => ?_)
      · refine lv_iconst (v := nI 0) CF.1 CF.2.1 dX0_isPlace_22 (by decide) ?_
        exact W.zret CF.1 CF.2.1 hr rfl (fun t ht hW => ⟨_, rfl, Or.inr ⟨rfl, by omega⟩, ht⟩) (fun q hq => absurd hq List.not_mem_nil) dX0_isPlace_23
      · refine lv_iconst (v := nI 1) CF.1 CF.2.1 dX0_isPlace_18 (by decide) ?_
        refine lv_goto (tgt := 23) CF.1 CF.2.1 dX0_isPlace_19 (by decide) ?_
        exact W.zret CF.1 CF.2.1 hr rfl (fun t ht hW => ⟨_, rfl, Or.inl ⟨rfl, by omega, by omega⟩, ht⟩) (fun q hq => absurd hq List.not_mem_nil) dX0_isPlace_23
set_option maxHeartbeats 1000000 in
set_option maxRecDepth 100000 in
theorem c0_setRate (l : Launch) {G : va_G} {cA : ClassId} {ad : Nat → Nat} {σ : RS} (hj : inj8 ad) {b : BS} (hI : InvC b) (hR : Rc σ b) (hO : Ro σ b) (hOi : InvO b) {f t v : Nat} (hf : f < 5) (ht : t < 5) (hne : f ≠ t) (hv : v ≤ 9999) : Met l yX0_setRate (ws_ yX0_setRate cX0_setRate 4 (some .int)) (rmk 8 0 0) (pc0 G cA ad σ [.ref (ad 0), .int (nI (f)), .int (nI (t)), .int (nI (v))]) (va_Qi (fun (r : Int32) (σ' : RS) => r = nI (b 0 3 - s_rate b f t v 0 3) ∧ Rc σ' (s_rate b f t v) ∧ Ro σ' (s_rate b f t v)) (fun σ' t => va_P G vwCl (w0 ad cA σ') t.heap) (own8 ad)) 0 0 (own8 ad) := by
  refine Met.ofW (cc := cX0_setRate) (maxL := 4) (ret := (some .int)) (by decide) rfl ?_
  intro p e s m args below meth c s₁ B hml hv
  obtain ⟨rfl, hP, hK⟩ := hv
  have CF : CallFix p m c cX0_setRate 4 s _ AW RX0 := ⟨B.exec, B.bytes, hml, findClass_of_methodNamed B.named, fun w h => atoms_spec (ws := ws_ yX0_setRate cX0_setRate 4 (some .int)) B.pre w (List.mem_cons_of_mem _ h)⟩
  have hr := B.returns
  have hlocks := B.notSynchronized
  have hl := lv_entry ([.ref (ad 0), .int (nI (f)), .int (nI (t)), .int (nI (v))]) (n := 4) (Nat.le_of_ble_eq_true rfl)
  rw [lg_entry_eq]
  generalize (lg_sl ([.ref (ad 0), .int (nI (f)), .int (nI (t)), .int (nI (v))]) ++ List.replicate (4 - (lg_sl ([.ref (ad 0), .int (nI (f)), .int (nI (t)), .int (nI (v))])).length) Slot.unset).toArray = ls at hl ⊢
  have hl : lv_has ls 4 [(0, .ref (ad 0)), (1, .int (nI (f))), (2, .int (nI (t))), (3, .int (nI (v)))] := hl
  have hD : va_D (own8 ad) (w0 ad cA σ) := w0_D hj (fun _ h => h)
  have hS : va_S (own8 ad) s.heap s.heap [] := va_S.rf
  obtain ⟨i_sp, i_cu, i_ra, i_di, i_mo, i_pu⟩ := id hI
  have hw10 := hOi.1
  refine lv_iload_n CF.1 CF.2.1 dX0_setRate_0 rfl (lv_at hl 1 rfl) ?_
  refine cS_i CF (As := [.int (nI (f))]) (rest := []) (c0_isMoney l (nI (f))) lk_RX0_X0_isMoney rfl hl.1 ⟨Nat.le_of_ble_eq_true rfl, Nat.le_of_ble_eq_true rfl⟩ ⟨Nat.zero_le _, Nat.zero_le _⟩ (Nat.le_of_ble_eq_true rfl) rfl dX0_setRate_1 (fun r_1 hr_2 => ?_)
  have hxh_3 := nIz (n := f) (by omega)
  rcases hr_2 with ⟨rfl, -, -⟩ | ⟨rfl, h9⟩
  rotate_left
  · exact absurd h9 (by rw [hxh_3]; omega)
  rw [show (1 : Int32) = nI 1 by rfl]
  refine z_if_eq CF (tgt := 14) (nIz (by omega)) dX0_setRate_4 (by decide) (fun h => absurd h (by decide)) (fun _ => ?_)
  refine lv_iload_n CF.1 CF.2.1 dX0_setRate_7 rfl (lv_at hl 2 rfl) ?_
  refine cS_i CF (As := [.int (nI (t))]) (rest := []) (c0_isMoney l (nI (t))) lk_RX0_X0_isMoney rfl hl.1 ⟨Nat.le_of_ble_eq_true rfl, Nat.le_of_ble_eq_true rfl⟩ ⟨Nat.zero_le _, Nat.zero_le _⟩ (Nat.le_of_ble_eq_true rfl) rfl dX0_setRate_8 (fun r_6 hr_7 => ?_)
  have hxh_8 := nIz (n := t) (by omega)
  rcases hr_7 with ⟨rfl, -, -⟩ | ⟨rfl, h9⟩
  rotate_left
  · exact absurd h9 (by rw [hxh_8]; omega)
  rw [show (1 : Int32) = nI 1 by rfl]
  refine z_if_ne CF (tgt := 24) (nIz (by omega)) dX0_setRate_11 (by decide) (fun _ => ?_) (fun h => absurd h (by decide))
  refine lv_iload_n CF.1 CF.2.1 dX0_setRate_24 rfl (lv_at hl 1 rfl) ?_
  refine lv_iload_n CF.1 CF.2.1 dX0_setRate_25 rfl (lv_at hl 2 rfl) ?_
  refine z_icmp_eq CF (tgt := 40) (nIz (by omega)) (nIz (by omega)) dX0_setRate_26 (by decide) (fun h_11 => absurd h_11 (by omega)) (fun h_12 => ?_)
  refine lv_iload_n CF.1 CF.2.1 dX0_setRate_29 rfl (lv_at hl 3 rfl) ?_
  refine z_if_lt CF (tgt := 40) (nIz (by omega)) dX0_setRate_30 (by decide) (fun h_13 => absurd h_13 (by omega)) (fun h_14 => ?_)
  refine lv_iload_n CF.1 CF.2.1 dX0_setRate_33 rfl (lv_at hl 3 rfl) ?_
  refine lv_sipush (v := nI 9999) CF.1 CF.2.1 dX0_setRate_34 (by decide) ?_
  refine z_icmp_le CF (tgt := 50) (nIz (by omega)) (nIz (by omega)) dX0_setRate_37 (by decide) (fun h_15 => ?_) (fun h_16 => absurd h_16 (by omega))
  refine lv_aload_n CF.1 CF.2.1 dX0_setRate_50 rfl (lv_at hl 0 rfl) ?_
  refine x0_g_rates CF hK hP dX0_setRate_51 ?_
  refine lv_iload_n CF.1 CF.2.1 dX0_setRate_54 rfl (lv_at hl 1 rfl) ?_
  refine lv_iconst (v := nI 5) CF.1 CF.2.1 dX0_setRate_55 (by decide) ?_
  refine o_imul CF dX0_setRate_56 ?_
  refine lv_iload_n CF.1 CF.2.1 dX0_setRate_57 rfl (lv_at hl 2 rfl) ?_
  refine o_iadd CF dX0_setRate_58 ?_
  refine lv_iload_n CF.1 CF.2.1 dX0_setRate_59 rfl (lv_at hl 3 rfl) ?_
  refine x0_ast1 CF hK hP hD hS (i := f * 5 + t) (by omega) dX0_setRate_60 (fun σ17 H17 locs hσ17 hP17 hD17 hS17 => ?_)
  have hR17 : Rc σ17 (upN (b) 1 (f * 5 + t) (v)) := by rw [hσ17]; exact Rc_up hR 1 (f * 5 + t) (v)
  have hM17 : Sm σ σ17 := by rw [hσ17]; exact Sm_up Sm_rf ⟨by decide, Or.inl (by decide)⟩
  refine lv_aload_n CF.1 CF.2.1 dX0_setRate_61 rfl (lv_at hl 0 rfl) ?_
  refine d0_i CF hK hP17 hj (fun _ h => h) hS17 (As := []) (rest := []) (c0_lookAtOrders l hj (b := upN (b) 1 (f * 5 + t) (v)) (I_rate hI hf ht hne hv) hR17 (Ro_sm hO hM17 (by simp [upN]) (by simp [upN]) (fun j => by simp [upN])) (InvO_to hOi (by simp [upN]) (by simp [upN]) (fun j => by simp [upN]))) rfl lk_RX0_X0_lookAtOrders rfl hl.1 ⟨Nat.le_of_ble_eq_true rfl, Nat.le_of_ble_eq_true rfl⟩ ⟨Nat.zero_le _, Nat.zero_le _⟩ (Nat.le_of_ble_eq_true rfl) rfl dX0_setRate_62 (fun r_18 σ20 H20 locs hr_19 hP20 hD20 hS20 hz20 hk20 => ?_)
  obtain ⟨rfl, hr_19b, hr_19c⟩ := hr_19
  exact W.iret CF.1 CF.2.1 hr (fun t ht hW => ⟨⟨_, σ20, rfl, ⟨rfl, hr_19b, hr_19c⟩, by show va_P G vwCl (w0 ad cA σ20) t.heap; rw [ht]; exact hP20⟩, hS20.F ht⟩) hS20.2.2 dX0_setRate_65
set_option maxHeartbeats 1000000 in
set_option maxRecDepth 100000 in
theorem b0_setRate (l : Launch) (hfl : l.stackTraces = false) {G : va_G} {cA : ClassId} {ad : Nat → Nat} {σ : RS} (hj : inj8 ad) {b : BS} (hI : InvC b) (hR : Rc σ b) (hO : Ro σ b) (hOi : InvO b) (x y z : Int32) (hbad : ¬ (0 ≤ x.toInt ∧ x.toInt < 5 ∧ 0 ≤ y.toInt ∧ y.toInt < 5 ∧ x.toInt ≠ y.toInt ∧ 0 ≤ z.toInt ∧ z.toInt ≤ 9999)) : vx_Met l yX0_setRate (ws_ yX0_setRate cX0_setRate 4 (some .int)) (rmk 8 1 6) (pcx G cA ad σ [.ref (ad 0), .int (x), .int (y), .int (z)]) (va_Qi (fun (_ : Int32) (_ : RS) => False) (fun σ' t => va_P G vwCl (w0 ad cA σ') t.heap) (own8 ad)) (xcS G cA ad σ (fun E => (E = "java/lang/IndexOutOfBoundsException" ∧ (¬ (0 ≤ x.toInt ∧ x.toInt < 5 ∧ 0 ≤ y.toInt ∧ y.toInt < 5))) ∨ (E = "java/lang/IllegalArgumentException" ∧ (0 ≤ x.toInt ∧ x.toInt < 5 ∧ 0 ≤ y.toInt ∧ y.toInt < 5)))) 1 6 (own8 ad) := by
  refine vx_ofW (cc := cX0_setRate) (maxL := 4) (ret := (some .int)) (by decide) rfl ?_
  intro p e s m args below meth c s₁ B hml htab hv
  obtain ⟨rfl, hP, hK, hE⟩ := hv
  have CF : CallFix p m c cX0_setRate 4 s _ AW RX0 := ⟨B.exec, B.bytes, hml, findClass_of_methodNamed B.named, fun w h => atoms_spec (ws := ws_ yX0_setRate cX0_setRate 4 (some .int)) B.pre w (List.mem_cons_of_mem _ h)⟩
  have hr := B.returns
  have hlocks := B.notSynchronized
  have hl := lv_entry ([.ref (ad 0), .int (x), .int (y), .int (z)]) (n := 4) (Nat.le_of_ble_eq_true rfl)
  rw [lg_entry_eq]
  generalize (lg_sl ([.ref (ad 0), .int (x), .int (y), .int (z)]) ++ List.replicate (4 - (lg_sl ([.ref (ad 0), .int (x), .int (y), .int (z)])).length) Slot.unset).toArray = ls at hl ⊢
  have hl : lv_has ls 4 [(0, .ref (ad 0)), (1, .int (x)), (2, .int (y)), (3, .int (z))] := hl
  obtain ⟨i_sp, i_cu, i_ra, i_di, i_mo, i_pu⟩ := id hI
  have hw10 := hOi.1
  refine lv_iload_n CF.1 CF.2.1 dX0_setRate_0 rfl (lv_at hl 1 rfl) ?_
  refine cS_i CF (As := [.int (x)]) (rest := []) (c0_isMoney l ((x))) lk_RX0_X0_isMoney rfl hl.1 ⟨Nat.le_of_ble_eq_true rfl, Nat.le_of_ble_eq_true rfl⟩ ⟨Nat.zero_le _, Nat.zero_le _⟩ (Nat.le_of_ble_eq_true rfl) rfl dX0_setRate_1 (fun r_1 hr_2 => ?_)
  rcases hr_2 with ⟨rfl, h_5, h_6⟩ | ⟨rfl, h_7⟩
  · rw [show (1 : Int32) = nI 1 by rfl]
    obtain ⟨j_3, h_4, rfl⟩ := nI_ex (x := x) (n := 5) (by omega) (by omega)
    have hzj_3 := nIz (n := j_3) (by omega)
    refine z_if_eq CF (tgt := 14) (nIz (by omega)) dX0_setRate_4 (by decide) (fun h => absurd h (by decide)) (fun _ => ?_)
    refine lv_iload_n CF.1 CF.2.1 dX0_setRate_7 rfl (lv_at hl 2 rfl) ?_
    refine cS_i CF (As := [.int (y)]) (rest := []) (c0_isMoney l ((y))) lk_RX0_X0_isMoney rfl hl.1 ⟨Nat.le_of_ble_eq_true rfl, Nat.le_of_ble_eq_true rfl⟩ ⟨Nat.zero_le _, Nat.zero_le _⟩ (Nat.le_of_ble_eq_true rfl) rfl dX0_setRate_8 (fun r_10 hr_11 => ?_)
    rcases hr_11 with ⟨rfl, h_14, h_15⟩ | ⟨rfl, h_16⟩
    · rw [show (1 : Int32) = nI 1 by rfl]
      obtain ⟨j_12, h_13, rfl⟩ := nI_ex (x := y) (n := 5) (by omega) (by omega)
      have hzj_12 := nIz (n := j_12) (by omega)
      refine z_if_ne CF (tgt := 24) (nIz (by omega)) dX0_setRate_11 (by decide) (fun _ => ?_) (fun h => absurd h (by decide))
      refine lv_iload_n CF.1 CF.2.1 dX0_setRate_24 rfl (lv_at hl 1 rfl) ?_
      refine lv_iload_n CF.1 CF.2.1 dX0_setRate_25 rfl (lv_at hl 2 rfl) ?_
      refine z_icmp_eq CF (tgt := 40) (nIz (by omega)) (nIz (by omega)) dX0_setRate_26 (by decide) (fun h_19 => ?_) (fun h_20 => ?_)
      · exact thr CF hfl hE hP hj (va_S.rf) htab hlocks hl.1 (cls := "java/lang/IllegalArgumentException") (text := "the moneys are the same or the rate is not 0 to 9999") (by decide +kernel) (List.mem_of_getElem? (i := 1) rfl) (List.mem_of_getElem? (i := 1) rfl) (inr_2 _ (List.mem_of_getElem? (i := 21) rfl)) (inr_2 _ (List.mem_of_getElem? (i := 22) rfl)) ha_IA hb_IA hg_IA dX0_setRate_40 dX0_setRate_43 dX0_setRate_44 dX0_setRate_46 dX0_setRate_49 (Nat.le_of_ble_eq_true rfl) (Nat.le_of_ble_eq_true rfl) (Nat.le_of_ble_eq_true rfl) (Nat.le_of_ble_eq_true rfl) (Or.inr (⟨rfl, by omega⟩))
      · refine lv_iload_n CF.1 CF.2.1 dX0_setRate_29 rfl (lv_at hl 3 rfl) ?_
        refine z_if_lt CF (tgt := 40) rfl dX0_setRate_30 (by decide) (fun h_21 => ?_) (fun h_22 => ?_)
        · exact thr CF hfl hE hP hj (va_S.rf) htab hlocks hl.1 (cls := "java/lang/IllegalArgumentException") (text := "the moneys are the same or the rate is not 0 to 9999") (by decide +kernel) (List.mem_of_getElem? (i := 1) rfl) (List.mem_of_getElem? (i := 1) rfl) (inr_2 _ (List.mem_of_getElem? (i := 21) rfl)) (inr_2 _ (List.mem_of_getElem? (i := 22) rfl)) ha_IA hb_IA hg_IA dX0_setRate_40 dX0_setRate_43 dX0_setRate_44 dX0_setRate_46 dX0_setRate_49 (Nat.le_of_ble_eq_true rfl) (Nat.le_of_ble_eq_true rfl) (Nat.le_of_ble_eq_true rfl) (Nat.le_of_ble_eq_true rfl) (Or.inr (⟨rfl, by omega⟩))
        · refine lv_iload_n CF.1 CF.2.1 dX0_setRate_33 rfl (lv_at hl 3 rfl) ?_
          refine lv_sipush (v := nI 9999) CF.1 CF.2.1 dX0_setRate_34 (by decide) ?_
          refine z_icmp_le CF (tgt := 50) rfl (nIz (by omega)) dX0_setRate_37 (by decide) (fun h_23 => ?_) (fun h_24 => ?_)
          · exact (show False by omega).elim
          · exact thr CF hfl hE hP hj (va_S.rf) htab hlocks hl.1 (cls := "java/lang/IllegalArgumentException") (text := "the moneys are the same or the rate is not 0 to 9999") (by decide +kernel) (List.mem_of_getElem? (i := 1) rfl) (List.mem_of_getElem? (i := 1) rfl) (inr_2 _ (List.mem_of_getElem? (i := 21) rfl)) (inr_2 _ (List.mem_of_getElem? (i := 22) rfl)) ha_IA hb_IA hg_IA dX0_setRate_40 dX0_setRate_43 dX0_setRate_44 dX0_setRate_46 dX0_setRate_49 (Nat.le_of_ble_eq_true rfl) (Nat.le_of_ble_eq_true rfl) (Nat.le_of_ble_eq_true rfl) (Nat.le_of_ble_eq_true rfl) (Or.inr (⟨rfl, by omega⟩))
    · rw [show (0 : Int32) = nI 0 by rfl]
      refine z_if_ne CF (tgt := 24) (nIz (by omega)) dX0_setRate_11 (by decide) (fun h => absurd h (by decide)) (fun _ => ?_)
      exact thr CF hfl hE hP hj (va_S.rf) htab hlocks hl.1 (cls := "java/lang/IndexOutOfBoundsException") (text := "no such money") (by decide +kernel) (List.mem_of_getElem? (i := 0) rfl) (List.mem_of_getElem? (i := 0) rfl) (inr_2 _ (List.mem_of_getElem? (i := 19) rfl)) (inr_2 _ (List.mem_of_getElem? (i := 20) rfl)) ha_IO hb_IO hg_IO dX0_setRate_14 dX0_setRate_17 dX0_setRate_18 dX0_setRate_20 dX0_setRate_23 (Nat.le_of_ble_eq_true rfl) (Nat.le_of_ble_eq_true rfl) (Nat.le_of_ble_eq_true rfl) (Nat.le_of_ble_eq_true rfl) (Or.inl ⟨rfl, by omega⟩)
  · rw [show (0 : Int32) = nI 0 by rfl]
    refine z_if_eq CF (tgt := 14) (nIz (by omega)) dX0_setRate_4 (by decide) (fun _ => ?_) (fun h => absurd h (by decide))
    exact thr CF hfl hE hP hj (va_S.rf) htab hlocks hl.1 (cls := "java/lang/IndexOutOfBoundsException") (text := "no such money") (by decide +kernel) (List.mem_of_getElem? (i := 0) rfl) (List.mem_of_getElem? (i := 0) rfl) (inr_2 _ (List.mem_of_getElem? (i := 19) rfl)) (inr_2 _ (List.mem_of_getElem? (i := 20) rfl)) ha_IO hb_IO hg_IO dX0_setRate_14 dX0_setRate_17 dX0_setRate_18 dX0_setRate_20 dX0_setRate_23 (Nat.le_of_ble_eq_true rfl) (Nat.le_of_ble_eq_true rfl) (Nat.le_of_ble_eq_true rfl) (Nat.le_of_ble_eq_true rfl) (Or.inl ⟨rfl, by omega⟩)
set_option maxHeartbeats 1000000 in
set_option maxRecDepth 100000 in
theorem c0_setSpread (l : Launch) {G : va_G} {cA : ClassId} {ad : Nat → Nat} {σ : RS} (hj : inj8 ad) {b : BS} (hI : InvC b) (hR : Rc σ b) (hO : Ro σ b) (hOi : InvO b) {v : Nat} (hv : v ≤ 50) : Met l yX0_setSpread (ws_ yX0_setSpread cX0_setSpread 2 (some .int)) (rmk 8 0 0) (pc0 G cA ad σ [.ref (ad 0), .int (nI (v))]) (va_Qi (fun (r : Int32) (σ' : RS) => r = nI (b 0 3 - s_spread b v 0 3) ∧ Rc σ' (s_spread b v) ∧ Ro σ' (s_spread b v)) (fun σ' t => va_P G vwCl (w0 ad cA σ') t.heap) (own8 ad)) 0 0 (own8 ad) := by
  refine Met.ofW (cc := cX0_setSpread) (maxL := 2) (ret := (some .int)) (by decide) rfl ?_
  intro p e s m args below meth c s₁ B hml hv
  obtain ⟨rfl, hP, hK⟩ := hv
  have CF : CallFix p m c cX0_setSpread 2 s _ AW RX0 := ⟨B.exec, B.bytes, hml, findClass_of_methodNamed B.named, fun w h => atoms_spec (ws := ws_ yX0_setSpread cX0_setSpread 2 (some .int)) B.pre w (List.mem_cons_of_mem _ h)⟩
  have hr := B.returns
  have hlocks := B.notSynchronized
  have hl := lv_entry ([.ref (ad 0), .int (nI (v))]) (n := 2) (Nat.le_of_ble_eq_true rfl)
  rw [lg_entry_eq]
  generalize (lg_sl ([.ref (ad 0), .int (nI (v))]) ++ List.replicate (2 - (lg_sl ([.ref (ad 0), .int (nI (v))])).length) Slot.unset).toArray = ls at hl ⊢
  have hl : lv_has ls 2 [(0, .ref (ad 0)), (1, .int (nI (v)))] := hl
  have hD : va_D (own8 ad) (w0 ad cA σ) := w0_D hj (fun _ h => h)
  have hS : va_S (own8 ad) s.heap s.heap [] := va_S.rf
  obtain ⟨i_sp, i_cu, i_ra, i_di, i_mo, i_pu⟩ := id hI
  have hw10 := hOi.1
  refine lv_iload_n CF.1 CF.2.1 dX0_setSpread_0 rfl (lv_at hl 1 rfl) ?_
  refine z_if_lt CF (tgt := 10) (nIz (by omega)) dX0_setSpread_1 (by decide) (fun h_1 => absurd h_1 (by omega)) (fun h_2 => ?_)
  refine lv_iload_n CF.1 CF.2.1 dX0_setSpread_4 rfl (lv_at hl 1 rfl) ?_
  refine lv_bipush (v := nI 50) CF.1 CF.2.1 dX0_setSpread_5 (by decide) ?_
  refine z_icmp_le CF (tgt := 20) (nIz (by omega)) (nIz (by omega)) dX0_setSpread_7 (by decide) (fun h_3 => ?_) (fun h_4 => absurd h_4 (by omega))
  refine lv_aload_n CF.1 CF.2.1 dX0_setSpread_20 rfl (lv_at hl 0 rfl) ?_
  refine lv_iload_n CF.1 CF.2.1 dX0_setSpread_21 rfl (lv_at hl 1 rfl) ?_
  refine x0_p_spread CF hK hP hD hS dX0_setSpread_22 (fun σ5 H5 locs hσ5 hP5 hD5 hS5 => ?_)
  have hR5 : Rc σ5 (upN (b) 0 (1) (v)) := by rw [hσ5]; exact Rc_up hR 0 (1) (v)
  have hM5 : Sm σ σ5 := by rw [hσ5]; exact Sm_up Sm_rf ⟨by decide, Or.inr ⟨by decide, by decide⟩⟩
  refine lv_aload_n CF.1 CF.2.1 dX0_setSpread_25 rfl (lv_at hl 0 rfl) ?_
  refine d0_i CF hK hP5 hj (fun _ h => h) hS5 (As := []) (rest := []) (c0_lookAtOrders l hj (b := upN (b) 0 (1) (v)) (InvC_up hI (Or.inr (Or.inl ⟨rfl, rfl, hv⟩))) hR5 (Ro_sm hO hM5 (by simp [upN]) (by simp [upN]) (fun j => by simp [upN])) (InvO_to hOi (by simp [upN]) (by simp [upN]) (fun j => by simp [upN]))) rfl lk_RX0_X0_lookAtOrders rfl hl.1 ⟨Nat.le_of_ble_eq_true rfl, Nat.le_of_ble_eq_true rfl⟩ ⟨Nat.zero_le _, Nat.zero_le _⟩ (Nat.le_of_ble_eq_true rfl) rfl dX0_setSpread_26 (fun r_6 σ8 H8 locs hr_7 hP8 hD8 hS8 hz8 hk8 => ?_)
  obtain ⟨rfl, hr_7b, hr_7c⟩ := hr_7
  exact W.iret CF.1 CF.2.1 hr (fun t ht hW => ⟨⟨_, σ8, rfl, ⟨rfl, hr_7b, hr_7c⟩, by show va_P G vwCl (w0 ad cA σ8) t.heap; rw [ht]; exact hP8⟩, hS8.F ht⟩) hS8.2.2 dX0_setSpread_29
set_option maxHeartbeats 1000000 in
set_option maxRecDepth 100000 in
theorem b0_setSpread (l : Launch) (hfl : l.stackTraces = false) {G : va_G} {cA : ClassId} {ad : Nat → Nat} {σ : RS} (hj : inj8 ad) {b : BS} (hI : InvC b) (hR : Rc σ b) (hO : Ro σ b) (hOi : InvO b) (x : Int32) (hbad : ¬ (0 ≤ x.toInt ∧ x.toInt ≤ 50)) : vx_Met l yX0_setSpread (ws_ yX0_setSpread cX0_setSpread 2 (some .int)) (rmk 8 1 6) (pcx G cA ad σ [.ref (ad 0), .int (x)]) (va_Qi (fun (_ : Int32) (_ : RS) => False) (fun σ' t => va_P G vwCl (w0 ad cA σ') t.heap) (own8 ad)) (xcS G cA ad σ (fun E => (E = "java/lang/IllegalArgumentException" ∧ (True)))) 1 6 (own8 ad) := by
  refine vx_ofW (cc := cX0_setSpread) (maxL := 2) (ret := (some .int)) (by decide) rfl ?_
  intro p e s m args below meth c s₁ B hml htab hv
  obtain ⟨rfl, hP, hK, hE⟩ := hv
  have CF : CallFix p m c cX0_setSpread 2 s _ AW RX0 := ⟨B.exec, B.bytes, hml, findClass_of_methodNamed B.named, fun w h => atoms_spec (ws := ws_ yX0_setSpread cX0_setSpread 2 (some .int)) B.pre w (List.mem_cons_of_mem _ h)⟩
  have hr := B.returns
  have hlocks := B.notSynchronized
  have hl := lv_entry ([.ref (ad 0), .int (x)]) (n := 2) (Nat.le_of_ble_eq_true rfl)
  rw [lg_entry_eq]
  generalize (lg_sl ([.ref (ad 0), .int (x)]) ++ List.replicate (2 - (lg_sl ([.ref (ad 0), .int (x)])).length) Slot.unset).toArray = ls at hl ⊢
  have hl : lv_has ls 2 [(0, .ref (ad 0)), (1, .int (x))] := hl
  obtain ⟨i_sp, i_cu, i_ra, i_di, i_mo, i_pu⟩ := id hI
  have hw10 := hOi.1
  refine lv_iload_n CF.1 CF.2.1 dX0_setSpread_0 rfl (lv_at hl 1 rfl) ?_
  refine z_if_lt CF (tgt := 10) rfl dX0_setSpread_1 (by decide) (fun h_1 => ?_) (fun h_2 => ?_)
  · exact thr CF hfl hE hP hj (va_S.rf) htab hlocks hl.1 (cls := "java/lang/IllegalArgumentException") (text := "the spread is not 0 to 50") (by decide +kernel) (List.mem_of_getElem? (i := 1) rfl) (List.mem_of_getElem? (i := 2) rfl) (inr_2 _ (List.mem_of_getElem? (i := 21) rfl)) (inr_2 _ (List.mem_of_getElem? (i := 22) rfl)) ha_IA hb_IA hg_IA dX0_setSpread_10 dX0_setSpread_13 dX0_setSpread_14 dX0_setSpread_16 dX0_setSpread_19 (Nat.le_of_ble_eq_true rfl) (Nat.le_of_ble_eq_true rfl) (Nat.le_of_ble_eq_true rfl) (Nat.le_of_ble_eq_true rfl) (⟨rfl, trivial⟩)
  · refine lv_iload_n CF.1 CF.2.1 dX0_setSpread_4 rfl (lv_at hl 1 rfl) ?_
    refine lv_bipush (v := nI 50) CF.1 CF.2.1 dX0_setSpread_5 (by decide) ?_
    refine z_icmp_le CF (tgt := 20) rfl (nIz (by omega)) dX0_setSpread_7 (by decide) (fun h_3 => ?_) (fun h_4 => ?_)
    · exact (show False by omega).elim
    · exact thr CF hfl hE hP hj (va_S.rf) htab hlocks hl.1 (cls := "java/lang/IllegalArgumentException") (text := "the spread is not 0 to 50") (by decide +kernel) (List.mem_of_getElem? (i := 1) rfl) (List.mem_of_getElem? (i := 2) rfl) (inr_2 _ (List.mem_of_getElem? (i := 21) rfl)) (inr_2 _ (List.mem_of_getElem? (i := 22) rfl)) ha_IA hb_IA hg_IA dX0_setSpread_10 dX0_setSpread_13 dX0_setSpread_14 dX0_setSpread_16 dX0_setSpread_19 (Nat.le_of_ble_eq_true rfl) (Nat.le_of_ble_eq_true rfl) (Nat.le_of_ble_eq_true rfl) (Nat.le_of_ble_eq_true rfl) (⟨rfl, trivial⟩)
set_option maxHeartbeats 1000000 in
set_option maxRecDepth 100000 in
theorem c0_setLimit (l : Launch) {G : va_G} {cA : ClassId} {ad : Nat → Nat} {σ : RS} (hj : inj8 ad) {b : BS} (hI : InvC b) (hR : Rc σ b) (hO : Ro σ b) (hOi : InvO b) {t v : Nat} (ht : t < 5) (hv : v ≤ 99999) : Met l yX0_setLimit (ws_ yX0_setLimit cX0_setLimit 4 (some .int)) (rmk 8 0 0) (pc0 G cA ad σ [.ref (ad 0), .int (nI (t)), .int (nI (v))]) (va_Qi (fun (r : Int32) (σ' : RS) => r = nI (b 4 t) ∧ Rc σ' (upN b 4 t v) ∧ Ro σ' (upN b 4 t v)) (fun σ' t => va_P G vwCl (w0 ad cA σ') t.heap) (own8 ad)) 0 0 (own8 ad) := by
  refine Met.ofW (cc := cX0_setLimit) (maxL := 4) (ret := (some .int)) (by decide) rfl ?_
  intro p e s m args below meth c s₁ B hml hv
  obtain ⟨rfl, hP, hK⟩ := hv
  have CF : CallFix p m c cX0_setLimit 4 s _ AW RX0 := ⟨B.exec, B.bytes, hml, findClass_of_methodNamed B.named, fun w h => atoms_spec (ws := ws_ yX0_setLimit cX0_setLimit 4 (some .int)) B.pre w (List.mem_cons_of_mem _ h)⟩
  have hr := B.returns
  have hlocks := B.notSynchronized
  have hl := lv_entry ([.ref (ad 0), .int (nI (t)), .int (nI (v))]) (n := 4) (Nat.le_of_ble_eq_true rfl)
  rw [lg_entry_eq]
  generalize (lg_sl ([.ref (ad 0), .int (nI (t)), .int (nI (v))]) ++ List.replicate (4 - (lg_sl ([.ref (ad 0), .int (nI (t)), .int (nI (v))])).length) Slot.unset).toArray = ls at hl ⊢
  have hl : lv_has ls 4 [(0, .ref (ad 0)), (1, .int (nI (t))), (2, .int (nI (v)))] := hl
  have hD : va_D (own8 ad) (w0 ad cA σ) := w0_D hj (fun _ h => h)
  have hS : va_S (own8 ad) s.heap s.heap [] := va_S.rf
  obtain ⟨i_sp, i_cu, i_ra, i_di, i_mo, i_pu⟩ := id hI
  have hw10 := hOi.1
  refine lv_iload_n CF.1 CF.2.1 dX0_setLimit_0 rfl (lv_at hl 1 rfl) ?_
  refine cS_i CF (As := [.int (nI (t))]) (rest := []) (c0_isMoney l (nI (t))) lk_RX0_X0_isMoney rfl hl.1 ⟨Nat.le_of_ble_eq_true rfl, Nat.le_of_ble_eq_true rfl⟩ ⟨Nat.zero_le _, Nat.zero_le _⟩ (Nat.le_of_ble_eq_true rfl) rfl dX0_setLimit_1 (fun r_1 hr_2 => ?_)
  have hxh_3 := nIz (n := t) (by omega)
  rcases hr_2 with ⟨rfl, -, -⟩ | ⟨rfl, h9⟩
  rotate_left
  · exact absurd h9 (by rw [hxh_3]; omega)
  rw [show (1 : Int32) = nI 1 by rfl]
  refine z_if_ne CF (tgt := 17) (nIz (by omega)) dX0_setLimit_4 (by decide) (fun _ => ?_) (fun h => absurd h (by decide))
  refine lv_iload_n CF.1 CF.2.1 dX0_setLimit_17 rfl (lv_at hl 2 rfl) ?_
  refine z_if_lt CF (tgt := 27) (nIz (by omega)) dX0_setLimit_18 (by decide) (fun h_6 => absurd h_6 (by omega)) (fun h_7 => ?_)
  refine lv_iload_n CF.1 CF.2.1 dX0_setLimit_21 rfl (lv_at hl 2 rfl) ?_
  refine lv_ldc (v := nI 99999) CF.1 CF.2.1 CF.2.2.2.1 (CF.2.2.2.2 _ (inr_9 _ (List.mem_of_getElem? (i := 16) rfl))) dX0_setLimit_22 ?_
  refine z_icmp_le CF (tgt := 37) (nIz (by omega)) (nIz (by omega)) dX0_setLimit_24 (by decide) (fun h_8 => ?_) (fun h_9 => absurd h_9 (by omega))
  refine lv_aload_n CF.1 CF.2.1 dX0_setLimit_37 rfl (lv_at hl 0 rfl) ?_
  refine x0_g_limits CF hK hP dX0_setLimit_38 ?_
  refine lv_iload_n CF.1 CF.2.1 dX0_setLimit_41 rfl (lv_at hl 1 rfl) ?_
  refine x0_ald4 CF hK hP (i := t) (by omega) (v := (nI (b 4 (t)))) (hR.a4 (by omega)) dX0_setLimit_42 ?_
  refine lv_istore_n (lv' := [(3, .int (nI (b 4 (t)))), (0, .ref (ad 0)), (1, .int (nI (t))), (2, .int (nI (v)))]) CF.1 CF.2.1 dX0_setLimit_43 rfl hl (by decide) rfl (fun ls hl => ?_)
  refine lv_aload_n CF.1 CF.2.1 dX0_setLimit_44 rfl (lv_at hl 1 rfl) ?_
  refine x0_g_limits CF hK hP dX0_setLimit_45 ?_
  refine lv_iload_n CF.1 CF.2.1 dX0_setLimit_48 rfl (lv_at hl 2 rfl) ?_
  refine lv_iload_n CF.1 CF.2.1 dX0_setLimit_49 rfl (lv_at hl 3 rfl) ?_
  refine x0_ast4 CF hK hP hD hS (i := t) (by omega) dX0_setLimit_50 (fun σ10 H10 locs hσ10 hP10 hD10 hS10 => ?_)
  have hR10 : Rc σ10 (upN (b) 4 (t) (v)) := by rw [hσ10]; exact Rc_up hR 4 (t) (v)
  have hM10 : Sm σ σ10 := by rw [hσ10]; exact Sm_up Sm_rf ⟨by decide, Or.inl (by decide)⟩
  refine lv_iload_n CF.1 CF.2.1 dX0_setLimit_51 rfl (lv_at hl 0 rfl) ?_
  exact W.iret CF.1 CF.2.1 hr (fun t ht hW => ⟨⟨_, σ10, rfl, ⟨rfl, hR10, Ro_sm hO hM10 (by simp [upN]) (by simp [upN]) (fun j => by simp [upN])⟩, by show va_P G vwCl (w0 ad cA σ10) t.heap; rw [ht]; exact hP10⟩, hS10.F ht⟩) hS10.2.2 dX0_setLimit_52
set_option maxHeartbeats 1000000 in
set_option maxRecDepth 100000 in
theorem b0_setLimit (l : Launch) (hfl : l.stackTraces = false) {G : va_G} {cA : ClassId} {ad : Nat → Nat} {σ : RS} (hj : inj8 ad) {b : BS} (hI : InvC b) (hR : Rc σ b) (hO : Ro σ b) (hOi : InvO b) (x z : Int32) (hbad : ¬ (0 ≤ x.toInt ∧ x.toInt < 5 ∧ 0 ≤ z.toInt ∧ z.toInt ≤ 99999)) : vx_Met l yX0_setLimit (ws_ yX0_setLimit cX0_setLimit 4 (some .int)) (rmk 8 1 6) (pcx G cA ad σ [.ref (ad 0), .int (x), .int (z)]) (va_Qi (fun (_ : Int32) (_ : RS) => False) (fun σ' t => va_P G vwCl (w0 ad cA σ') t.heap) (own8 ad)) (xcS G cA ad σ (fun E => (E = "java/lang/IndexOutOfBoundsException" ∧ (¬ (0 ≤ x.toInt ∧ x.toInt < 5))) ∨ (E = "java/lang/IllegalArgumentException" ∧ (0 ≤ x.toInt ∧ x.toInt < 5)))) 1 6 (own8 ad) := by
  refine vx_ofW (cc := cX0_setLimit) (maxL := 4) (ret := (some .int)) (by decide) rfl ?_
  intro p e s m args below meth c s₁ B hml htab hv
  obtain ⟨rfl, hP, hK, hE⟩ := hv
  have CF : CallFix p m c cX0_setLimit 4 s _ AW RX0 := ⟨B.exec, B.bytes, hml, findClass_of_methodNamed B.named, fun w h => atoms_spec (ws := ws_ yX0_setLimit cX0_setLimit 4 (some .int)) B.pre w (List.mem_cons_of_mem _ h)⟩
  have hr := B.returns
  have hlocks := B.notSynchronized
  have hl := lv_entry ([.ref (ad 0), .int (x), .int (z)]) (n := 4) (Nat.le_of_ble_eq_true rfl)
  rw [lg_entry_eq]
  generalize (lg_sl ([.ref (ad 0), .int (x), .int (z)]) ++ List.replicate (4 - (lg_sl ([.ref (ad 0), .int (x), .int (z)])).length) Slot.unset).toArray = ls at hl ⊢
  have hl : lv_has ls 4 [(0, .ref (ad 0)), (1, .int (x)), (2, .int (z))] := hl
  obtain ⟨i_sp, i_cu, i_ra, i_di, i_mo, i_pu⟩ := id hI
  have hw10 := hOi.1
  refine lv_iload_n CF.1 CF.2.1 dX0_setLimit_0 rfl (lv_at hl 1 rfl) ?_
  refine cS_i CF (As := [.int (x)]) (rest := []) (c0_isMoney l ((x))) lk_RX0_X0_isMoney rfl hl.1 ⟨Nat.le_of_ble_eq_true rfl, Nat.le_of_ble_eq_true rfl⟩ ⟨Nat.zero_le _, Nat.zero_le _⟩ (Nat.le_of_ble_eq_true rfl) rfl dX0_setLimit_1 (fun r_1 hr_2 => ?_)
  rcases hr_2 with ⟨rfl, h_5, h_6⟩ | ⟨rfl, h_7⟩
  · rw [show (1 : Int32) = nI 1 by rfl]
    obtain ⟨j_3, h_4, rfl⟩ := nI_ex (x := x) (n := 5) (by omega) (by omega)
    have hzj_3 := nIz (n := j_3) (by omega)
    refine z_if_ne CF (tgt := 17) (nIz (by omega)) dX0_setLimit_4 (by decide) (fun _ => ?_) (fun h => absurd h (by decide))
    refine lv_iload_n CF.1 CF.2.1 dX0_setLimit_17 rfl (lv_at hl 2 rfl) ?_
    refine z_if_lt CF (tgt := 27) rfl dX0_setLimit_18 (by decide) (fun h_10 => ?_) (fun h_11 => ?_)
    · exact thr CF hfl hE hP hj (va_S.rf) htab hlocks hl.1 (cls := "java/lang/IllegalArgumentException") (text := "the limit is not 0 to 99999") (by decide +kernel) (List.mem_of_getElem? (i := 1) rfl) (List.mem_of_getElem? (i := 3) rfl) (inr_2 _ (List.mem_of_getElem? (i := 21) rfl)) (inr_2 _ (List.mem_of_getElem? (i := 22) rfl)) ha_IA hb_IA hg_IA dX0_setLimit_27 dX0_setLimit_30 dX0_setLimit_31 dX0_setLimit_33 dX0_setLimit_36 (Nat.le_of_ble_eq_true rfl) (Nat.le_of_ble_eq_true rfl) (Nat.le_of_ble_eq_true rfl) (Nat.le_of_ble_eq_true rfl) (Or.inr (⟨rfl, by omega⟩))
    · refine lv_iload_n CF.1 CF.2.1 dX0_setLimit_21 rfl (lv_at hl 2 rfl) ?_
      refine lv_ldc (v := nI 99999) CF.1 CF.2.1 CF.2.2.2.1 (CF.2.2.2.2 _ (inr_9 _ (List.mem_of_getElem? (i := 16) rfl))) dX0_setLimit_22 ?_
      refine z_icmp_le CF (tgt := 37) rfl (nIz (by omega)) dX0_setLimit_24 (by decide) (fun h_12 => ?_) (fun h_13 => ?_)
      · exact (show False by omega).elim
      · exact thr CF hfl hE hP hj (va_S.rf) htab hlocks hl.1 (cls := "java/lang/IllegalArgumentException") (text := "the limit is not 0 to 99999") (by decide +kernel) (List.mem_of_getElem? (i := 1) rfl) (List.mem_of_getElem? (i := 3) rfl) (inr_2 _ (List.mem_of_getElem? (i := 21) rfl)) (inr_2 _ (List.mem_of_getElem? (i := 22) rfl)) ha_IA hb_IA hg_IA dX0_setLimit_27 dX0_setLimit_30 dX0_setLimit_31 dX0_setLimit_33 dX0_setLimit_36 (Nat.le_of_ble_eq_true rfl) (Nat.le_of_ble_eq_true rfl) (Nat.le_of_ble_eq_true rfl) (Nat.le_of_ble_eq_true rfl) (Or.inr (⟨rfl, by omega⟩))
  · rw [show (0 : Int32) = nI 0 by rfl]
    refine z_if_ne CF (tgt := 17) (nIz (by omega)) dX0_setLimit_4 (by decide) (fun h => absurd h (by decide)) (fun _ => ?_)
    exact thr CF hfl hE hP hj (va_S.rf) htab hlocks hl.1 (cls := "java/lang/IndexOutOfBoundsException") (text := "no such money") (by decide +kernel) (List.mem_of_getElem? (i := 0) rfl) (List.mem_of_getElem? (i := 0) rfl) (inr_2 _ (List.mem_of_getElem? (i := 19) rfl)) (inr_2 _ (List.mem_of_getElem? (i := 20) rfl)) ha_IO hb_IO hg_IO dX0_setLimit_7 dX0_setLimit_10 dX0_setLimit_11 dX0_setLimit_13 dX0_setLimit_16 (Nat.le_of_ble_eq_true rfl) (Nat.le_of_ble_eq_true rfl) (Nat.le_of_ble_eq_true rfl) (Nat.le_of_ble_eq_true rfl) (Or.inl ⟨rfl, by omega⟩)
set_option maxHeartbeats 1000000 in
set_option maxRecDepth 100000 in
theorem c0_stock (l : Launch) {G : va_G} {cA : ClassId} {ad : Nat → Nat} {σ : RS} (hj : inj8 ad) {b : BS} (hI : InvC b) (hR : Rc σ b) (hO : Ro σ b) (hOi : InvO b) {t v : Nat} (ht : t < 5) (hv0 : 1 ≤ v) (hv : v ≤ 99999) : Met l yX0_stock (ws_ yX0_stock cX0_stock 3 (some .int)) (rmk 8 0 0) (pc0 G cA ad σ [.ref (ad 0), .int (nI (t)), .int (nI (v))]) (va_Qi (fun (r : Int32) (σ' : RS) => r = nI (min (b 2 t + v) 999999) ∧ Rc σ' (upN b 2 t (min (b 2 t + v) 999999)) ∧ Ro σ' (upN b 2 t (min (b 2 t + v) 999999))) (fun σ' t => va_P G vwCl (w0 ad cA σ') t.heap) (own8 ad)) 0 0 (own8 ad) := by
  refine Met.ofW (cc := cX0_stock) (maxL := 3) (ret := (some .int)) (by decide) rfl ?_
  intro p e s m args below meth c s₁ B hml hv
  obtain ⟨rfl, hP, hK⟩ := hv
  have CF : CallFix p m c cX0_stock 3 s _ AW RX0 := ⟨B.exec, B.bytes, hml, findClass_of_methodNamed B.named, fun w h => atoms_spec (ws := ws_ yX0_stock cX0_stock 3 (some .int)) B.pre w (List.mem_cons_of_mem _ h)⟩
  have hr := B.returns
  have hlocks := B.notSynchronized
  have hl := lv_entry ([.ref (ad 0), .int (nI (t)), .int (nI (v))]) (n := 3) (Nat.le_of_ble_eq_true rfl)
  rw [lg_entry_eq]
  generalize (lg_sl ([.ref (ad 0), .int (nI (t)), .int (nI (v))]) ++ List.replicate (3 - (lg_sl ([.ref (ad 0), .int (nI (t)), .int (nI (v))])).length) Slot.unset).toArray = ls at hl ⊢
  have hl : lv_has ls 3 [(0, .ref (ad 0)), (1, .int (nI (t))), (2, .int (nI (v)))] := hl
  have hD : va_D (own8 ad) (w0 ad cA σ) := w0_D hj (fun _ h => h)
  have hS : va_S (own8 ad) s.heap s.heap [] := va_S.rf
  obtain ⟨i_sp, i_cu, i_ra, i_di, i_mo, i_pu⟩ := id hI
  have hw10 := hOi.1
  have h_mo := i_mo t ht
  refine lv_iload_n CF.1 CF.2.1 dX0_stock_0 rfl (lv_at hl 1 rfl) ?_
  refine cS_i CF (As := [.int (nI (t))]) (rest := []) (c0_isMoney l (nI (t))) lk_RX0_X0_isMoney rfl hl.1 ⟨Nat.le_of_ble_eq_true rfl, Nat.le_of_ble_eq_true rfl⟩ ⟨Nat.zero_le _, Nat.zero_le _⟩ (Nat.le_of_ble_eq_true rfl) rfl dX0_stock_1 (fun r_1 hr_2 => ?_)
  have hxh_3 := nIz (n := t) (by omega)
  rcases hr_2 with ⟨rfl, -, -⟩ | ⟨rfl, h9⟩
  rotate_left
  · exact absurd h9 (by rw [hxh_3]; omega)
  rw [show (1 : Int32) = nI 1 by rfl]
  refine z_if_ne CF (tgt := 17) (nIz (by omega)) dX0_stock_4 (by decide) (fun _ => ?_) (fun h => absurd h (by decide))
  refine lv_iload_n CF.1 CF.2.1 dX0_stock_17 rfl (lv_at hl 2 rfl) ?_
  refine cS_i CF (As := [.int (nI (v))]) (rest := []) (c0_isNamedAmount l (nI (v))) lk_RX0_X0_isNamedAmount rfl hl.1 ⟨Nat.le_of_ble_eq_true rfl, Nat.le_of_ble_eq_true rfl⟩ ⟨Nat.zero_le _, Nat.zero_le _⟩ (Nat.le_of_ble_eq_true rfl) rfl dX0_stock_18 (fun r_6 hr_7 => ?_)
  have hxh_8 := nIz (n := v) (by omega)
  rcases hr_7 with ⟨rfl, -, -⟩ | ⟨rfl, h9⟩
  rotate_left
  · exact absurd h9 (by rw [hxh_8]; omega)
  rw [show (1 : Int32) = nI 1 by rfl]
  refine z_if_ne CF (tgt := 34) (nIz (by omega)) dX0_stock_21 (by decide) (fun _ => ?_) (fun h => absurd h (by decide))
  refine lv_aload_n CF.1 CF.2.1 dX0_stock_34 rfl (lv_at hl 0 rfl) ?_
  refine x0_g_stocks CF hK hP dX0_stock_35 ?_
  refine lv_iload_n CF.1 CF.2.1 dX0_stock_38 rfl (lv_at hl 1 rfl) ?_
  refine lv_aload_n CF.1 CF.2.1 dX0_stock_39 rfl (lv_at hl 0 rfl) ?_
  refine x0_g_stocks CF hK hP dX0_stock_40 ?_
  refine lv_iload_n CF.1 CF.2.1 dX0_stock_43 rfl (lv_at hl 1 rfl) ?_
  refine x0_ald2 CF hK hP (i := t) (by omega) (v := (nI (b 2 (t)))) (hR.a2 (by omega)) dX0_stock_44 ?_
  refine lv_iload_n CF.1 CF.2.1 dX0_stock_45 rfl (lv_at hl 2 rfl) ?_
  refine o_iadd CF dX0_stock_46 ?_
  refine o_i2l CF (by omega) dX0_stock_47 ?_
  refine cS_i CF (As := [.long (lN (b 2 (t) + v))]) (rest := [.int (nI (t)), .ref (ad 2)]) (c0_heldAtMost l (v := b 2 (t) + v) (by omega)) lk_RX0_X0_heldAtMost rfl hl.1 ⟨Nat.le_of_ble_eq_true rfl, Nat.le_of_ble_eq_true rfl⟩ ⟨Nat.zero_le _, Nat.zero_le _⟩ (Nat.le_of_ble_eq_true rfl) rfl dX0_stock_48 (fun r_11 hr_12 => ?_)
  subst hr_12
  refine x0_ast2 CF hK hP hD hS (i := t) (by omega) dX0_stock_51 (fun σ13 H13 locs hσ13 hP13 hD13 hS13 => ?_)
  have hR13 : Rc σ13 (upN (b) 2 (t) (min (b 2 (t) + v) 999999)) := by rw [hσ13]; exact Rc_up hR 2 (t) (min (b 2 (t) + v) 999999)
  have hM13 : Sm σ σ13 := by rw [hσ13]; exact Sm_up Sm_rf ⟨by decide, Or.inl (by decide)⟩
  refine lv_aload_n CF.1 CF.2.1 dX0_stock_52 rfl (lv_at hl 0 rfl) ?_
  refine x0_g_stocks CF hK hP13 dX0_stock_53 ?_
  refine lv_iload_n CF.1 CF.2.1 dX0_stock_56 rfl (lv_at hl 1 rfl) ?_
  refine x0_ald2 CF hK hP13 (i := t) (by omega) (v := (nI (min (b 2 (t) + v) 999999))) (by rw [hσ13, up_s]) dX0_stock_57 ?_
  exact W.iret CF.1 CF.2.1 hr (fun t ht hW => ⟨⟨_, σ13, rfl, ⟨rfl, hR13, Ro_sm hO hM13 (by simp [upN]) (by simp [upN]) (fun j => by simp [upN])⟩, by show va_P G vwCl (w0 ad cA σ13) t.heap; rw [ht]; exact hP13⟩, hS13.F ht⟩) hS13.2.2 dX0_stock_58
set_option maxHeartbeats 1000000 in
set_option maxRecDepth 100000 in
theorem b0_stock (l : Launch) (hfl : l.stackTraces = false) {G : va_G} {cA : ClassId} {ad : Nat → Nat} {σ : RS} (hj : inj8 ad) {b : BS} (hI : InvC b) (hR : Rc σ b) (hO : Ro σ b) (hOi : InvO b) (x z : Int32) (hbad : ¬ (0 ≤ x.toInt ∧ x.toInt < 5 ∧ 1 ≤ z.toInt ∧ z.toInt ≤ 99999)) : vx_Met l yX0_stock (ws_ yX0_stock cX0_stock 3 (some .int)) (rmk 8 1 6) (pcx G cA ad σ [.ref (ad 0), .int (x), .int (z)]) (va_Qi (fun (_ : Int32) (_ : RS) => False) (fun σ' t => va_P G vwCl (w0 ad cA σ') t.heap) (own8 ad)) (xcS G cA ad σ (fun E => (E = "java/lang/IndexOutOfBoundsException" ∧ (¬ (0 ≤ x.toInt ∧ x.toInt < 5))) ∨ (E = "java/lang/IllegalArgumentException" ∧ (0 ≤ x.toInt ∧ x.toInt < 5)))) 1 6 (own8 ad) := by
  refine vx_ofW (cc := cX0_stock) (maxL := 3) (ret := (some .int)) (by decide) rfl ?_
  intro p e s m args below meth c s₁ B hml htab hv
  obtain ⟨rfl, hP, hK, hE⟩ := hv
  have CF : CallFix p m c cX0_stock 3 s _ AW RX0 := ⟨B.exec, B.bytes, hml, findClass_of_methodNamed B.named, fun w h => atoms_spec (ws := ws_ yX0_stock cX0_stock 3 (some .int)) B.pre w (List.mem_cons_of_mem _ h)⟩
  have hr := B.returns
  have hlocks := B.notSynchronized
  have hl := lv_entry ([.ref (ad 0), .int (x), .int (z)]) (n := 3) (Nat.le_of_ble_eq_true rfl)
  rw [lg_entry_eq]
  generalize (lg_sl ([.ref (ad 0), .int (x), .int (z)]) ++ List.replicate (3 - (lg_sl ([.ref (ad 0), .int (x), .int (z)])).length) Slot.unset).toArray = ls at hl ⊢
  have hl : lv_has ls 3 [(0, .ref (ad 0)), (1, .int (x)), (2, .int (z))] := hl
  obtain ⟨i_sp, i_cu, i_ra, i_di, i_mo, i_pu⟩ := id hI
  have hw10 := hOi.1
  refine lv_iload_n CF.1 CF.2.1 dX0_stock_0 rfl (lv_at hl 1 rfl) ?_
  refine cS_i CF (As := [.int (x)]) (rest := []) (c0_isMoney l ((x))) lk_RX0_X0_isMoney rfl hl.1 ⟨Nat.le_of_ble_eq_true rfl, Nat.le_of_ble_eq_true rfl⟩ ⟨Nat.zero_le _, Nat.zero_le _⟩ (Nat.le_of_ble_eq_true rfl) rfl dX0_stock_1 (fun r_1 hr_2 => ?_)
  rcases hr_2 with ⟨rfl, h_5, h_6⟩ | ⟨rfl, h_7⟩
  · rw [show (1 : Int32) = nI 1 by rfl]
    obtain ⟨j_3, h_4, rfl⟩ := nI_ex (x := x) (n := 5) (by omega) (by omega)
    have hzj_3 := nIz (n := j_3) (by omega)
    refine z_if_ne CF (tgt := 17) (nIz (by omega)) dX0_stock_4 (by decide) (fun _ => ?_) (fun h => absurd h (by decide))
    refine lv_iload_n CF.1 CF.2.1 dX0_stock_17 rfl (lv_at hl 2 rfl) ?_
    refine cS_i CF (As := [.int (z)]) (rest := []) (c0_isNamedAmount l ((z))) lk_RX0_X0_isNamedAmount rfl hl.1 ⟨Nat.le_of_ble_eq_true rfl, Nat.le_of_ble_eq_true rfl⟩ ⟨Nat.zero_le _, Nat.zero_le _⟩ (Nat.le_of_ble_eq_true rfl) rfl dX0_stock_18 (fun r_10 hr_11 => ?_)
    rcases hr_11 with ⟨rfl, h_14, h_15⟩ | ⟨rfl, h_16⟩
    · rw [show (1 : Int32) = nI 1 by rfl]
      obtain ⟨j_12, h_13, rfl⟩ := nI_ex (x := z) (n := 100000) (by omega) (by omega)
      rw [nIz (by omega)] at h_14
      have hzj_12 := nIz (n := j_12) (by omega)
      refine z_if_ne CF (tgt := 34) (nIz (by omega)) dX0_stock_21 (by decide) (fun _ => ?_) (fun h => absurd h (by decide))
      exact (show False by omega).elim
    · rw [show (0 : Int32) = nI 0 by rfl]
      refine z_if_ne CF (tgt := 34) (nIz (by omega)) dX0_stock_21 (by decide) (fun h => absurd h (by decide)) (fun _ => ?_)
      exact thr CF hfl hE hP hj (va_S.rf) htab hlocks hl.1 (cls := "java/lang/IllegalArgumentException") (text := "what comes is not 1 to 99999") (by decide +kernel) (List.mem_of_getElem? (i := 1) rfl) (List.mem_of_getElem? (i := 4) rfl) (inr_2 _ (List.mem_of_getElem? (i := 21) rfl)) (inr_2 _ (List.mem_of_getElem? (i := 22) rfl)) ha_IA hb_IA hg_IA dX0_stock_24 dX0_stock_27 dX0_stock_28 dX0_stock_30 dX0_stock_33 (Nat.le_of_ble_eq_true rfl) (Nat.le_of_ble_eq_true rfl) (Nat.le_of_ble_eq_true rfl) (Nat.le_of_ble_eq_true rfl) (Or.inr (⟨rfl, by omega⟩))
  · rw [show (0 : Int32) = nI 0 by rfl]
    refine z_if_ne CF (tgt := 17) (nIz (by omega)) dX0_stock_4 (by decide) (fun h => absurd h (by decide)) (fun _ => ?_)
    exact thr CF hfl hE hP hj (va_S.rf) htab hlocks hl.1 (cls := "java/lang/IndexOutOfBoundsException") (text := "no such money") (by decide +kernel) (List.mem_of_getElem? (i := 0) rfl) (List.mem_of_getElem? (i := 0) rfl) (inr_2 _ (List.mem_of_getElem? (i := 19) rfl)) (inr_2 _ (List.mem_of_getElem? (i := 20) rfl)) ha_IO hb_IO hg_IO dX0_stock_7 dX0_stock_10 dX0_stock_11 dX0_stock_13 dX0_stock_16 (Nat.le_of_ble_eq_true rfl) (Nat.le_of_ble_eq_true rfl) (Nat.le_of_ble_eq_true rfl) (Nat.le_of_ble_eq_true rfl) (Or.inl ⟨rfl, by omega⟩)
set_option maxHeartbeats 1000000 in
set_option maxRecDepth 100000 in
theorem c0_next (l : Launch) {G : va_G} {cA : ClassId} {ad : Nat → Nat} {σ : RS} (hj : inj8 ad) {b : BS} (hI : InvC b) (hR : Rc σ b) (hO : Ro σ b) (hOi : InvO b)  : Met l yX0_next (ws_ yX0_next cX0_next 2 (some .int)) (rmk 8 0 0) (pc0 G cA ad σ [.ref (ad 0)]) (va_Qi (fun (r : Int32) (σ' : RS) => r = nI (b 0 3 - s_next b 0 3) ∧ Rc σ' (s_next b) ∧ Ro σ' (s_next b)) (fun σ' t => va_P G vwCl (w0 ad cA σ') t.heap) (own8 ad)) 0 0 (own8 ad) := by
  refine Met.ofW (cc := cX0_next) (maxL := 2) (ret := (some .int)) (by decide) rfl ?_
  intro p e s m args below meth c s₁ B hml hv
  obtain ⟨rfl, hP, hK⟩ := hv
  have CF : CallFix p m c cX0_next 2 s _ AW RX0 := ⟨B.exec, B.bytes, hml, findClass_of_methodNamed B.named, fun w h => atoms_spec (ws := ws_ yX0_next cX0_next 2 (some .int)) B.pre w (List.mem_cons_of_mem _ h)⟩
  have hr := B.returns
  have hlocks := B.notSynchronized
  have hl := lv_entry ([.ref (ad 0)]) (n := 2) (Nat.le_of_ble_eq_true rfl)
  rw [lg_entry_eq]
  generalize (lg_sl ([.ref (ad 0)]) ++ List.replicate (2 - (lg_sl ([.ref (ad 0)])).length) Slot.unset).toArray = ls at hl ⊢
  have hl : lv_has ls 2 [(0, .ref (ad 0))] := hl
  have hD : va_D (own8 ad) (w0 ad cA σ) := w0_D hj (fun _ h => h)
  have hS : va_S (own8 ad) s.heap s.heap [] := va_S.rf
  obtain ⟨i_sp, i_cu, i_ra, i_di, i_mo, i_pu⟩ := id hI
  have hw10 := hOi.1
  refine lv_aload_n CF.1 CF.2.1 dX0_next_0 rfl (lv_at hl 0 rfl) ?_
  refine lv_dup CF.1 CF.2.1 dX0_next_1 rfl ?_
  refine x0_g_day CF hK hP (v := (nI (b 0 0))) (hR.1) dX0_next_2 ?_
  refine lv_iconst (v := nI 1) CF.1 CF.2.1 dX0_next_5 (by decide) ?_
  refine o_iadd CF dX0_next_6 ?_
  refine x0_p_day CF hK hP hD hS dX0_next_7 (fun σ1 H1 locs hσ1 hP1 hD1 hS1 => ?_)
  obtain ⟨σ1, hσe⟩ : ∃ z, z = σ1 := ⟨_, rfl⟩
  have hσ1 : σ1 = up σ 0 0 (nI (b 0 0 + 1)) := by rw [hσe]; exact hσ1
  refine lv_iconst (v := nI 0) CF.1 CF.2.1 dX0_next_10 (by decide) ?_
  refine lv_istore_n (lv' := [(1, .int (nI (0))), (0, .ref (ad 0))]) CF.1 CF.2.1 dX0_next_11 rfl hl (by decide) rfl (fun ls hl => ?_)
  refine loop_rw0 (α := Unit) (fun i x => [(0, .ref (ad 0)), (1, .int (nI (i)))]) (fun i _ σ' => σ' = nxI σ1 i) (5) (0) (()) (hσe.symm.trans nxI_0.symm) hP1 hS1 (lv_sub hl [1, 0] rfl) (by omega) (fun i_2 x_2 σ2 H2 locs hj_2 hi_2 hx_2 hP2 hS2 ih_2 ls hl => ?_)
  have hD2 : va_D (own8 ad) (w0 ad cA σ2) := w0_D hj (fun _ h => h)
  have hx_2 : σ2 = nxI σ1 i_2 := hx_2
  refine lv_iload_n CF.1 CF.2.1 dX0_next_12 rfl (lv_at hl 1 rfl) ?_
  refine lv_iconst (v := nI 5) CF.1 CF.2.1 dX0_next_13 (by decide) ?_
  refine z_icmp_ge CF (tgt := 30) (nIz (by omega)) (nIz (by omega)) dX0_next_14 (by decide) (fun h_3 => ?_) (fun h_4 => ?_)
  · have hRn := nx_R hR hO hσ1
    rw [show i_2 = 5 by omega] at hx_2
    rw [← hx_2] at hRn
    refine lv_aload_n CF.1 CF.2.1 dX0_next_30 rfl (lv_at hl 0 rfl) ?_
    refine d0_i CF hK hP2 hj (fun _ h => h) hS2 (As := []) (rest := []) (c0_lookAtOrders l hj (b := s_nx b) (I_nx hI) hRn.1 hRn.2 (InvO_to hOi (Nat.le_refl _) rfl (fun j => rfl))) rfl lk_RX0_X0_lookAtOrders rfl hl.1 ⟨Nat.le_of_ble_eq_true rfl, Nat.le_of_ble_eq_true rfl⟩ ⟨Nat.zero_le _, Nat.zero_le _⟩ (Nat.le_of_ble_eq_true rfl) rfl dX0_next_31 (fun r_5 σ7 H7 locs hr_6 hP7 hD7 hS7 hz7 hk7 => ?_)
    obtain ⟨rfl, hr_6b, hr_6c⟩ := hr_6
    exact W.iret CF.1 CF.2.1 hr (fun t ht hW => ⟨⟨_, σ7, rfl, ⟨rfl, hr_6b, hr_6c⟩, by show va_P G vwCl (w0 ad cA σ7) t.heap; rw [ht]; exact hP7⟩, hS7.F ht⟩) hS7.2.2 dX0_next_34
  · refine lv_aload_n CF.1 CF.2.1 dX0_next_17 rfl (lv_at hl 0 rfl) ?_
    refine x0_g_givenToday CF hK hP2 dX0_next_18 ?_
    refine lv_iload_n CF.1 CF.2.1 dX0_next_21 rfl (lv_at hl 1 rfl) ?_
    refine lv_iconst (v := nI 0) CF.1 CF.2.1 dX0_next_22 (by decide) ?_
    refine x0_ast5 CF hK hP2 hD2 hS2 (i := i_2) (by omega) dX0_next_23 (fun σ8 H8 locs hσ8 hP8 hD8 hS8 => ?_)
    refine lv_iinc (v := nI (i_2 + 1)) (lv' := [(1, .int (nI (i_2 + 1))), (0, .ref (ad 0))]) CF.1 CF.2.1 dX0_next_24 hl (k := 1) rfl (by first | exact nI_add _ _ | rfl) (by decide) rfl (fun ls hl => ?_)
    refine lv_goto (tgt := 12) CF.1 CF.2.1 dX0_next_27 (by decide) ?_
    exact ih_2 () σ8 _ _ ls (by omega) (by show σ8 = nxI σ1 (i_2 + 1); rw [hσ8, hx_2]; exact nxI_s) hP8 hS8 (lv_sub hl [1, 0] rfl)
set_option maxHeartbeats 1000000 in
set_option maxRecDepth 100000 in
theorem c0_come (l : Launch) {G : va_G} {cA : ClassId} {ad : Nat → Nat} {σ : RS} (hj : inj8 ad) {b : BS} (hI : InvC b) (hR : Rc σ b) (hO : Ro σ b) (hOi : InvO b) (hc : b 0 2 < 6) : Met l yX0_come (ws_ yX0_come cX0_come 1 (some .int)) (rmk 8 0 0) (pc0 G cA ad σ [.ref (ad 0)]) (va_Qi (fun (r : Int32) (σ' : RS) => r = nI (b 0 2) ∧ Rc σ' (upN b 0 2 (b 0 2 + 1)) ∧ Ro σ' (upN b 0 2 (b 0 2 + 1))) (fun σ' t => va_P G vwCl (w0 ad cA σ') t.heap) (own8 ad)) 0 0 (own8 ad) := by
  refine Met.ofW (cc := cX0_come) (maxL := 1) (ret := (some .int)) (by decide) rfl ?_
  intro p e s m args below meth c s₁ B hml hv
  obtain ⟨rfl, hP, hK⟩ := hv
  have CF : CallFix p m c cX0_come 1 s _ AW RX0 := ⟨B.exec, B.bytes, hml, findClass_of_methodNamed B.named, fun w h => atoms_spec (ws := ws_ yX0_come cX0_come 1 (some .int)) B.pre w (List.mem_cons_of_mem _ h)⟩
  have hr := B.returns
  have hlocks := B.notSynchronized
  have hl := lv_entry ([.ref (ad 0)]) (n := 1) (Nat.le_of_ble_eq_true rfl)
  rw [lg_entry_eq]
  generalize (lg_sl ([.ref (ad 0)]) ++ List.replicate (1 - (lg_sl ([.ref (ad 0)])).length) Slot.unset).toArray = ls at hl ⊢
  have hl : lv_has ls 1 [(0, .ref (ad 0))] := hl
  have hD : va_D (own8 ad) (w0 ad cA σ) := w0_D hj (fun _ h => h)
  have hS : va_S (own8 ad) s.heap s.heap [] := va_S.rf
  obtain ⟨i_sp, i_cu, i_ra, i_di, i_mo, i_pu⟩ := id hI
  have hw10 := hOi.1
  refine lv_aload_n CF.1 CF.2.1 dX0_come_0 rfl (lv_at hl 0 rfl) ?_
  refine x0_g_customers CF hK hP (v := (nI (b 0 2))) (hR.2.2.1) dX0_come_1 ?_
  refine lv_bipush (v := nI 6) CF.1 CF.2.1 dX0_come_4 (by decide) ?_
  refine z_icmp_lt CF (tgt := 19) (nIz (by omega)) (nIz (by omega)) dX0_come_6 (by decide) (fun h_1 => ?_) (fun h_2 => absurd h_2 (by omega))
  refine lv_aload_n CF.1 CF.2.1 dX0_come_19 rfl (lv_at hl 0 rfl) ?_
  refine lv_dup CF.1 CF.2.1 dX0_come_20 rfl ?_
  refine x0_g_customers CF hK hP (v := (nI (b 0 2))) (hR.2.2.1) dX0_come_21 ?_
  refine lv_iconst (v := nI 1) CF.1 CF.2.1 dX0_come_24 (by decide) ?_
  refine o_iadd CF dX0_come_25 ?_
  refine x0_p_customers CF hK hP hD hS dX0_come_26 (fun σ3 H3 locs hσ3 hP3 hD3 hS3 => ?_)
  have hR3 : Rc σ3 (upN (b) 0 (2) (b 0 2 + 1)) := by rw [hσ3]; exact Rc_up hR 0 (2) (b 0 2 + 1)
  have hM3 : Sm σ σ3 := by rw [hσ3]; exact Sm_up Sm_rf ⟨by decide, Or.inr ⟨by decide, by decide⟩⟩
  refine lv_aload_n CF.1 CF.2.1 dX0_come_29 rfl (lv_at hl 0 rfl) ?_
  refine x0_g_customers CF hK hP3 (v := (nI (b 0 2 + 1))) (by rw [hσ3, up_s]) dX0_come_30 ?_
  refine lv_iconst (v := nI 1) CF.1 CF.2.1 dX0_come_33 (by decide) ?_
  refine o_isub CF (by omega) dX0_come_34 ?_
  exact W.iret CF.1 CF.2.1 hr (fun t ht hW => ⟨⟨_, σ3, rfl, ⟨by first | rfl | (congr 1), hR3, Ro_sm hO hM3 (by simp [upN]) (by simp [upN]) (fun j => by simp [upN])⟩, by show va_P G vwCl (w0 ad cA σ3) t.heap; rw [ht]; exact hP3⟩, hS3.F ht⟩) hS3.2.2 dX0_come_35
set_option maxHeartbeats 1000000 in
set_option maxRecDepth 100000 in
theorem b0_come (l : Launch) (hfl : l.stackTraces = false) {G : va_G} {cA : ClassId} {ad : Nat → Nat} {σ : RS} (hj : inj8 ad) {b : BS} (hI : InvC b) (hR : Rc σ b) (hO : Ro σ b) (hOi : InvO b)  (hbad : ¬ (b 0 2 < 6)) : vx_Met l yX0_come (ws_ yX0_come cX0_come 1 (some .int)) (rmk 8 1 6) (pcx G cA ad σ [.ref (ad 0)]) (va_Qi (fun (_ : Int32) (_ : RS) => False) (fun σ' t => va_P G vwCl (w0 ad cA σ') t.heap) (own8 ad)) (xcS G cA ad σ (fun E => (E = "java/lang/IllegalStateException" ∧ (True)))) 1 6 (own8 ad) := by
  refine vx_ofW (cc := cX0_come) (maxL := 1) (ret := (some .int)) (by decide) rfl ?_
  intro p e s m args below meth c s₁ B hml htab hv
  obtain ⟨rfl, hP, hK, hE⟩ := hv
  have CF : CallFix p m c cX0_come 1 s _ AW RX0 := ⟨B.exec, B.bytes, hml, findClass_of_methodNamed B.named, fun w h => atoms_spec (ws := ws_ yX0_come cX0_come 1 (some .int)) B.pre w (List.mem_cons_of_mem _ h)⟩
  have hr := B.returns
  have hlocks := B.notSynchronized
  have hl := lv_entry ([.ref (ad 0)]) (n := 1) (Nat.le_of_ble_eq_true rfl)
  rw [lg_entry_eq]
  generalize (lg_sl ([.ref (ad 0)]) ++ List.replicate (1 - (lg_sl ([.ref (ad 0)])).length) Slot.unset).toArray = ls at hl ⊢
  have hl : lv_has ls 1 [(0, .ref (ad 0))] := hl
  obtain ⟨i_sp, i_cu, i_ra, i_di, i_mo, i_pu⟩ := id hI
  have hw10 := hOi.1
  refine lv_aload_n CF.1 CF.2.1 dX0_come_0 rfl (lv_at hl 0 rfl) ?_
  refine x0_g_customers CF hK hP (v := (nI (b 0 2))) hR.2.2.1 dX0_come_1 ?_
  refine lv_bipush (v := nI 6) CF.1 CF.2.1 dX0_come_4 (by decide) ?_
  refine z_icmp_lt CF (tgt := 19) (nIz (by omega)) (nIz (by omega)) dX0_come_6 (by decide) (fun h_1 => ?_) (fun h_2 => ?_)
  · exact (show False by omega).elim
  · exact thr CF hfl hE hP hj (va_S.rf) htab hlocks hl.1 (cls := "java/lang/IllegalStateException") (text := "there are 6 customers") (by decide +kernel) (List.mem_of_getElem? (i := 2) rfl) (List.mem_of_getElem? (i := 5) rfl) (inr_11 _ (List.mem_of_getElem? (i := 6) rfl)) (inr_11 _ (List.mem_of_getElem? (i := 7) rfl)) ha_IS hb_IS hg_IS dX0_come_9 dX0_come_12 dX0_come_13 dX0_come_15 dX0_come_18 (Nat.le_of_ble_eq_true rfl) (Nat.le_of_ble_eq_true rfl) (Nat.le_of_ble_eq_true rfl) (Nat.le_of_ble_eq_true rfl) (⟨rfl, trivial⟩)
set_option maxHeartbeats 1000000 in
set_option maxRecDepth 100000 in
theorem c0_earn (l : Launch) {G : va_G} {cA : ClassId} {ad : Nat → Nat} {σ : RS} (hj : inj8 ad) {b : BS} (hI : InvC b) (hR : Rc σ b) (hO : Ro σ b) (hOi : InvO b) {u t v : Nat} (hu : u < b 0 2) (ht : t < 5) (hv0 : 1 ≤ v) (hv : v ≤ 99999) : Met l yX0_earn (ws_ yX0_earn cX0_earn 5 (some .int)) (rmk 8 0 0) (pc0 G cA ad σ [.ref (ad 0), .int (nI (u)), .int (nI (t)), .int (nI (v))]) (va_Qi (fun (r : Int32) (σ' : RS) => r = nI (min (b 6 (u * 5 + t) + v) 999999) ∧ Rc σ' (upN b 6 (u * 5 + t) (min (b 6 (u * 5 + t) + v) 999999)) ∧ Ro σ' (upN b 6 (u * 5 + t) (min (b 6 (u * 5 + t) + v) 999999))) (fun σ' t => va_P G vwCl (w0 ad cA σ') t.heap) (own8 ad)) 0 0 (own8 ad) := by
  refine Met.ofW (cc := cX0_earn) (maxL := 5) (ret := (some .int)) (by decide) rfl ?_
  intro p e s m args below meth c s₁ B hml hv
  obtain ⟨rfl, hP, hK⟩ := hv
  have CF : CallFix p m c cX0_earn 5 s _ AW RX0 := ⟨B.exec, B.bytes, hml, findClass_of_methodNamed B.named, fun w h => atoms_spec (ws := ws_ yX0_earn cX0_earn 5 (some .int)) B.pre w (List.mem_cons_of_mem _ h)⟩
  have hr := B.returns
  have hlocks := B.notSynchronized
  have hl := lv_entry ([.ref (ad 0), .int (nI (u)), .int (nI (t)), .int (nI (v))]) (n := 5) (Nat.le_of_ble_eq_true rfl)
  rw [lg_entry_eq]
  generalize (lg_sl ([.ref (ad 0), .int (nI (u)), .int (nI (t)), .int (nI (v))]) ++ List.replicate (5 - (lg_sl ([.ref (ad 0), .int (nI (u)), .int (nI (t)), .int (nI (v))])).length) Slot.unset).toArray = ls at hl ⊢
  have hl : lv_has ls 5 [(0, .ref (ad 0)), (1, .int (nI (u))), (2, .int (nI (t))), (3, .int (nI (v)))] := hl
  have hD : va_D (own8 ad) (w0 ad cA σ) := w0_D hj (fun _ h => h)
  have hS : va_S (own8 ad) s.heap s.heap [] := va_S.rf
  obtain ⟨i_sp, i_cu, i_ra, i_di, i_mo, i_pu⟩ := id hI
  have hw10 := hOi.1
  have h_pu := i_pu (u * 5 + t) (by omega)
  refine lv_aload_n CF.1 CF.2.1 dX0_earn_0 rfl (lv_at hl 0 rfl) ?_
  refine lv_iload_n CF.1 CF.2.1 dX0_earn_1 rfl (lv_at hl 1 rfl) ?_
  refine c0_i CF hK hP (As := [.int (nI (u))]) (rest := []) (c0_isCustomer l hI hR (nI (u))) rfl lk_RX0_X0_isCustomer rfl hl.1 ⟨Nat.le_of_ble_eq_true rfl, Nat.le_of_ble_eq_true rfl⟩ ⟨Nat.zero_le _, Nat.zero_le _⟩ (Nat.le_of_ble_eq_true rfl) rfl dX0_earn_2 (fun r_1 hr_2 => ?_)
  have hxh_3 := nIz (n := u) (by omega)
  rcases hr_2 with ⟨rfl, -, -⟩ | ⟨rfl, h9⟩
  rotate_left
  · exact absurd h9 (by rw [hxh_3]; omega)
  rw [show (1 : Int32) = nI 1 by rfl]
  refine z_if_eq CF (tgt := 15) (nIz (by omega)) dX0_earn_5 (by decide) (fun h => absurd h (by decide)) (fun _ => ?_)
  refine lv_iload_n CF.1 CF.2.1 dX0_earn_8 rfl (lv_at hl 2 rfl) ?_
  refine cS_i CF (As := [.int (nI (t))]) (rest := []) (c0_isMoney l (nI (t))) lk_RX0_X0_isMoney rfl hl.1 ⟨Nat.le_of_ble_eq_true rfl, Nat.le_of_ble_eq_true rfl⟩ ⟨Nat.zero_le _, Nat.zero_le _⟩ (Nat.le_of_ble_eq_true rfl) rfl dX0_earn_9 (fun r_6 hr_7 => ?_)
  have hxh_8 := nIz (n := t) (by omega)
  rcases hr_7 with ⟨rfl, -, -⟩ | ⟨rfl, h9⟩
  rotate_left
  · exact absurd h9 (by rw [hxh_8]; omega)
  rw [show (1 : Int32) = nI 1 by rfl]
  refine z_if_ne CF (tgt := 25) (nIz (by omega)) dX0_earn_12 (by decide) (fun _ => ?_) (fun h => absurd h (by decide))
  refine lv_iload_n CF.1 CF.2.1 dX0_earn_25 rfl (lv_at hl 3 rfl) ?_
  refine cS_i CF (As := [.int (nI (v))]) (rest := []) (c0_isNamedAmount l (nI (v))) lk_RX0_X0_isNamedAmount rfl hl.1 ⟨Nat.le_of_ble_eq_true rfl, Nat.le_of_ble_eq_true rfl⟩ ⟨Nat.zero_le _, Nat.zero_le _⟩ (Nat.le_of_ble_eq_true rfl) rfl dX0_earn_26 (fun r_11 hr_12 => ?_)
  have hxh_13 := nIz (n := v) (by omega)
  rcases hr_12 with ⟨rfl, -, -⟩ | ⟨rfl, h9⟩
  rotate_left
  · exact absurd h9 (by rw [hxh_13]; omega)
  rw [show (1 : Int32) = nI 1 by rfl]
  refine z_if_ne CF (tgt := 42) (nIz (by omega)) dX0_earn_29 (by decide) (fun _ => ?_) (fun h => absurd h (by decide))
  refine lv_iload_n CF.1 CF.2.1 dX0_earn_42 rfl (lv_at hl 1 rfl) ?_
  refine lv_iconst (v := nI 5) CF.1 CF.2.1 dX0_earn_43 (by decide) ?_
  refine o_imul CF dX0_earn_44 ?_
  refine lv_iload_n CF.1 CF.2.1 dX0_earn_45 rfl (lv_at hl 2 rfl) ?_
  refine o_iadd CF dX0_earn_46 ?_
  refine lv_istore (lv' := [(4, .int (nI (u * 5 + t))), (0, .ref (ad 0)), (1, .int (nI (u))), (2, .int (nI (t))), (3, .int (nI (v)))]) CF.1 CF.2.1 dX0_earn_47 hl (by decide) rfl (fun ls hl => ?_)
  refine lv_aload_n CF.1 CF.2.1 dX0_earn_49 rfl (lv_at hl 1 rfl) ?_
  refine x0_g_purses CF hK hP dX0_earn_50 ?_
  refine lv_iload CF.1 CF.2.1 dX0_earn_53 (lv_at hl 0 rfl) ?_
  refine lv_aload_n CF.1 CF.2.1 dX0_earn_55 rfl (lv_at hl 1 rfl) ?_
  refine x0_g_purses CF hK hP dX0_earn_56 ?_
  refine lv_iload CF.1 CF.2.1 dX0_earn_59 (lv_at hl 0 rfl) ?_
  refine x0_ald6 CF hK hP (i := u * 5 + t) (by omega) (v := (nI (b 6 (u * 5 + t)))) (hR.a6 (by omega)) dX0_earn_61 ?_
  refine lv_iload_n CF.1 CF.2.1 dX0_earn_62 rfl (lv_at hl 4 rfl) ?_
  refine o_iadd CF dX0_earn_63 ?_
  refine o_i2l CF (by omega) dX0_earn_64 ?_
  refine cS_i CF (As := [.long (lN (b 6 (u * 5 + t) + v))]) (rest := [.int (nI (u * 5 + t)), .ref (ad 6)]) (c0_heldAtMost l (v := b 6 (u * 5 + t) + v) (by omega)) lk_RX0_X0_heldAtMost rfl hl.1 ⟨Nat.le_of_ble_eq_true rfl, Nat.le_of_ble_eq_true rfl⟩ ⟨Nat.zero_le _, Nat.zero_le _⟩ (Nat.le_of_ble_eq_true rfl) rfl dX0_earn_65 (fun r_16 hr_17 => ?_)
  subst hr_17
  refine x0_ast6 CF hK hP hD hS (i := u * 5 + t) (by omega) dX0_earn_68 (fun σ18 H18 locs hσ18 hP18 hD18 hS18 => ?_)
  have hR18 : Rc σ18 (upN (b) 6 (u * 5 + t) (min (b 6 (u * 5 + t) + v) 999999)) := by rw [hσ18]; exact Rc_up hR 6 (u * 5 + t) (min (b 6 (u * 5 + t) + v) 999999)
  have hM18 : Sm σ σ18 := by rw [hσ18]; exact Sm_up Sm_rf ⟨by decide, Or.inl (by decide)⟩
  refine lv_aload_n CF.1 CF.2.1 dX0_earn_69 rfl (lv_at hl 1 rfl) ?_
  refine x0_g_purses CF hK hP18 dX0_earn_70 ?_
  refine lv_iload CF.1 CF.2.1 dX0_earn_73 (lv_at hl 0 rfl) ?_
  refine x0_ald6 CF hK hP18 (i := u * 5 + t) (by omega) (v := (nI (min (b 6 (u * 5 + t) + v) 999999))) (by rw [hσ18, up_s]) dX0_earn_75 ?_
  exact W.iret CF.1 CF.2.1 hr (fun t ht hW => ⟨⟨_, σ18, rfl, ⟨rfl, hR18, Ro_sm hO hM18 (by simp [upN]) (by simp [upN]) (fun j => by simp [upN])⟩, by show va_P G vwCl (w0 ad cA σ18) t.heap; rw [ht]; exact hP18⟩, hS18.F ht⟩) hS18.2.2 dX0_earn_76
set_option maxHeartbeats 1000000 in
set_option maxRecDepth 100000 in
theorem b0_earn (l : Launch) (hfl : l.stackTraces = false) {G : va_G} {cA : ClassId} {ad : Nat → Nat} {σ : RS} (hj : inj8 ad) {b : BS} (hI : InvC b) (hR : Rc σ b) (hO : Ro σ b) (hOi : InvO b) (x y z : Int32) (hbad : ¬ (0 ≤ x.toInt ∧ x.toInt < (b 0 2 : Nat) ∧ 0 ≤ y.toInt ∧ y.toInt < 5 ∧ 1 ≤ z.toInt ∧ z.toInt ≤ 99999)) : vx_Met l yX0_earn (ws_ yX0_earn cX0_earn 5 (some .int)) (rmk 8 1 6) (pcx G cA ad σ [.ref (ad 0), .int (x), .int (y), .int (z)]) (va_Qi (fun (_ : Int32) (_ : RS) => False) (fun σ' t => va_P G vwCl (w0 ad cA σ') t.heap) (own8 ad)) (xcS G cA ad σ (fun E => (E = "java/lang/IndexOutOfBoundsException" ∧ (¬ (0 ≤ x.toInt ∧ x.toInt < (b 0 2 : Nat) ∧ 0 ≤ y.toInt ∧ y.toInt < 5))) ∨ (E = "java/lang/IllegalArgumentException" ∧ (0 ≤ x.toInt ∧ x.toInt < (b 0 2 : Nat) ∧ 0 ≤ y.toInt ∧ y.toInt < 5)))) 1 6 (own8 ad) := by
  refine vx_ofW (cc := cX0_earn) (maxL := 5) (ret := (some .int)) (by decide) rfl ?_
  intro p e s m args below meth c s₁ B hml htab hv
  obtain ⟨rfl, hP, hK, hE⟩ := hv
  have CF : CallFix p m c cX0_earn 5 s _ AW RX0 := ⟨B.exec, B.bytes, hml, findClass_of_methodNamed B.named, fun w h => atoms_spec (ws := ws_ yX0_earn cX0_earn 5 (some .int)) B.pre w (List.mem_cons_of_mem _ h)⟩
  have hr := B.returns
  have hlocks := B.notSynchronized
  have hl := lv_entry ([.ref (ad 0), .int (x), .int (y), .int (z)]) (n := 5) (Nat.le_of_ble_eq_true rfl)
  rw [lg_entry_eq]
  generalize (lg_sl ([.ref (ad 0), .int (x), .int (y), .int (z)]) ++ List.replicate (5 - (lg_sl ([.ref (ad 0), .int (x), .int (y), .int (z)])).length) Slot.unset).toArray = ls at hl ⊢
  have hl : lv_has ls 5 [(0, .ref (ad 0)), (1, .int (x)), (2, .int (y)), (3, .int (z))] := hl
  obtain ⟨i_sp, i_cu, i_ra, i_di, i_mo, i_pu⟩ := id hI
  have hw10 := hOi.1
  refine lv_aload_n CF.1 CF.2.1 dX0_earn_0 rfl (lv_at hl 0 rfl) ?_
  refine lv_iload_n CF.1 CF.2.1 dX0_earn_1 rfl (lv_at hl 1 rfl) ?_
  refine c0_i CF hK hP (As := [.int (x)]) (rest := []) (c0_isCustomer l hI hR ((x))) rfl lk_RX0_X0_isCustomer rfl hl.1 ⟨Nat.le_of_ble_eq_true rfl, Nat.le_of_ble_eq_true rfl⟩ ⟨Nat.zero_le _, Nat.zero_le _⟩ (Nat.le_of_ble_eq_true rfl) rfl dX0_earn_2 (fun r_1 hr_2 => ?_)
  rcases hr_2 with ⟨rfl, h_5, h_6⟩ | ⟨rfl, h_7⟩
  · rw [show (1 : Int32) = nI 1 by rfl]
    obtain ⟨j_3, h_4, rfl⟩ := nI_ex (x := x) (n := b 0 2) (by omega) (by omega)
    have hzj_3 := nIz (n := j_3) (by omega)
    refine z_if_eq CF (tgt := 15) (nIz (by omega)) dX0_earn_5 (by decide) (fun h => absurd h (by decide)) (fun _ => ?_)
    refine lv_iload_n CF.1 CF.2.1 dX0_earn_8 rfl (lv_at hl 2 rfl) ?_
    refine cS_i CF (As := [.int (y)]) (rest := []) (c0_isMoney l ((y))) lk_RX0_X0_isMoney rfl hl.1 ⟨Nat.le_of_ble_eq_true rfl, Nat.le_of_ble_eq_true rfl⟩ ⟨Nat.zero_le _, Nat.zero_le _⟩ (Nat.le_of_ble_eq_true rfl) rfl dX0_earn_9 (fun r_10 hr_11 => ?_)
    rcases hr_11 with ⟨rfl, h_14, h_15⟩ | ⟨rfl, h_16⟩
    · rw [show (1 : Int32) = nI 1 by rfl]
      obtain ⟨j_12, h_13, rfl⟩ := nI_ex (x := y) (n := 5) (by omega) (by omega)
      have hzj_12 := nIz (n := j_12) (by omega)
      refine z_if_ne CF (tgt := 25) (nIz (by omega)) dX0_earn_12 (by decide) (fun _ => ?_) (fun h => absurd h (by decide))
      refine lv_iload_n CF.1 CF.2.1 dX0_earn_25 rfl (lv_at hl 3 rfl) ?_
      refine cS_i CF (As := [.int (z)]) (rest := []) (c0_isNamedAmount l ((z))) lk_RX0_X0_isNamedAmount rfl hl.1 ⟨Nat.le_of_ble_eq_true rfl, Nat.le_of_ble_eq_true rfl⟩ ⟨Nat.zero_le _, Nat.zero_le _⟩ (Nat.le_of_ble_eq_true rfl) rfl dX0_earn_26 (fun r_19 hr_20 => ?_)
      rcases hr_20 with ⟨rfl, h_23, h_24⟩ | ⟨rfl, h_25⟩
      · rw [show (1 : Int32) = nI 1 by rfl]
        obtain ⟨j_21, h_22, rfl⟩ := nI_ex (x := z) (n := 100000) (by omega) (by omega)
        rw [nIz (by omega)] at h_23
        have hzj_21 := nIz (n := j_21) (by omega)
        refine z_if_ne CF (tgt := 42) (nIz (by omega)) dX0_earn_29 (by decide) (fun _ => ?_) (fun h => absurd h (by decide))
        exact (show False by omega).elim
      · rw [show (0 : Int32) = nI 0 by rfl]
        refine z_if_ne CF (tgt := 42) (nIz (by omega)) dX0_earn_29 (by decide) (fun h => absurd h (by decide)) (fun _ => ?_)
        exact thr CF hfl hE hP hj (va_S.rf) htab hlocks hl.1 (cls := "java/lang/IllegalArgumentException") (text := "what is earned is not 1 to 99999") (by decide +kernel) (List.mem_of_getElem? (i := 1) rfl) (List.mem_of_getElem? (i := 7) rfl) (inr_2 _ (List.mem_of_getElem? (i := 21) rfl)) (inr_2 _ (List.mem_of_getElem? (i := 22) rfl)) ha_IA hb_IA hg_IA dX0_earn_32 dX0_earn_35 dX0_earn_36 dX0_earn_38 dX0_earn_41 (Nat.le_of_ble_eq_true rfl) (Nat.le_of_ble_eq_true rfl) (Nat.le_of_ble_eq_true rfl) (Nat.le_of_ble_eq_true rfl) (Or.inr (⟨rfl, by omega⟩))
    · rw [show (0 : Int32) = nI 0 by rfl]
      refine z_if_ne CF (tgt := 25) (nIz (by omega)) dX0_earn_12 (by decide) (fun h => absurd h (by decide)) (fun _ => ?_)
      exact thr CF hfl hE hP hj (va_S.rf) htab hlocks hl.1 (cls := "java/lang/IndexOutOfBoundsException") (text := "no such customer or money") (by decide +kernel) (List.mem_of_getElem? (i := 0) rfl) (List.mem_of_getElem? (i := 6) rfl) (inr_2 _ (List.mem_of_getElem? (i := 19) rfl)) (inr_2 _ (List.mem_of_getElem? (i := 20) rfl)) ha_IO hb_IO hg_IO dX0_earn_15 dX0_earn_18 dX0_earn_19 dX0_earn_21 dX0_earn_24 (Nat.le_of_ble_eq_true rfl) (Nat.le_of_ble_eq_true rfl) (Nat.le_of_ble_eq_true rfl) (Nat.le_of_ble_eq_true rfl) (Or.inl ⟨rfl, by omega⟩)
  · rw [show (0 : Int32) = nI 0 by rfl]
    refine z_if_eq CF (tgt := 15) (nIz (by omega)) dX0_earn_5 (by decide) (fun _ => ?_) (fun h => absurd h (by decide))
    exact thr CF hfl hE hP hj (va_S.rf) htab hlocks hl.1 (cls := "java/lang/IndexOutOfBoundsException") (text := "no such customer or money") (by decide +kernel) (List.mem_of_getElem? (i := 0) rfl) (List.mem_of_getElem? (i := 6) rfl) (inr_2 _ (List.mem_of_getElem? (i := 19) rfl)) (inr_2 _ (List.mem_of_getElem? (i := 20) rfl)) ha_IO hb_IO hg_IO dX0_earn_15 dX0_earn_18 dX0_earn_19 dX0_earn_21 dX0_earn_24 (Nat.le_of_ble_eq_true rfl) (Nat.le_of_ble_eq_true rfl) (Nat.le_of_ble_eq_true rfl) (Nat.le_of_ble_eq_true rfl) (Or.inl ⟨rfl, by omega⟩)
end
