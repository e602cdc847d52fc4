section
-- ===== PART A: goes FIRST, ahead of the names: the tables' words, and 'selects' of the private methods out of them =====
/-- a private method of a class that the tables say can be made, by its rows of tables_1 -/
def lw_okq (q : MethodName × Nat) : Prop := (q.1.cls ≠ "java/lang/invoke/MethodHandle" ∧ q.1.cls ≠ "java/lang/invoke/VarHandle") ∧ Cond.instantiable q.1.cls q.2 ∈ tables_1 ∧ Cond.privateMethod q.1 ∈ tables_1 ∧ Cond.instanceMethod q.1 ∈ tables_1
theorem lw_p0 : lw_okq (⟨"ClockTree$Flow", "listen", "(I)V"⟩, 15) := ⟨⟨by decide +kernel, by decide +kernel⟩, List.mem_of_getElem? (i := 119) (by decide +kernel), List.mem_of_getElem? (i := 334) (by decide +kernel), List.mem_of_getElem? (i := 335) (by decide +kernel)⟩
theorem lw_p1 : lw_okq (⟨"ClockTree$Flow", "hear", "(I)V"⟩, 15) := ⟨⟨by decide +kernel, by decide +kernel⟩, List.mem_of_getElem? (i := 119) (by decide +kernel), List.mem_of_getElem? (i := 338) (by decide +kernel), List.mem_of_getElem? (i := 339) (by decide +kernel)⟩
theorem lw_p2 : lw_okq (⟨"ClockTree$Flow", "comes", "(II)Z"⟩, 15) := ⟨⟨by decide +kernel, by decide +kernel⟩, List.mem_of_getElem? (i := 119) (by decide +kernel), List.mem_of_getElem? (i := 345) (by decide +kernel), List.mem_of_getElem? (i := 346) (by decide +kernel)⟩
theorem lw_p3 : lw_okq (⟨"ClockTree$Flow", "weigh", "(I)V"⟩, 15) := ⟨⟨by decide +kernel, by decide +kernel⟩, List.mem_of_getElem? (i := 119) (by decide +kernel), List.mem_of_getElem? (i := 358) (by decide +kernel), List.mem_of_getElem? (i := 359) (by decide +kernel)⟩
theorem lw_p4 : lw_okq (⟨"ClockTree$Flow", "countUsable", "(II)V"⟩, 15) := ⟨⟨by decide +kernel, by decide +kernel⟩, List.mem_of_getElem? (i := 119) (by decide +kernel), List.mem_of_getElem? (i := 366) (by decide +kernel), List.mem_of_getElem? (i := 367) (by decide +kernel)⟩
theorem lw_p5 : lw_okq (⟨"ClockTree$Flow", "isUsable", "(II)Z"⟩, 15) := ⟨⟨by decide +kernel, by decide +kernel⟩, List.mem_of_getElem? (i := 119) (by decide +kernel), List.mem_of_getElem? (i := 370) (by decide +kernel), List.mem_of_getElem? (i := 371) (by decide +kernel)⟩
theorem lw_p6 : lw_okq (⟨"ClockTree$Flow", "decide", "(I)V"⟩, 15) := ⟨⟨by decide +kernel, by decide +kernel⟩, List.mem_of_getElem? (i := 119) (by decide +kernel), List.mem_of_getElem? (i := 377) (by decide +kernel), List.mem_of_getElem? (i := 378) (by decide +kernel)⟩
theorem lw_p7 : lw_okq (⟨"ClockTree$Flow", "choose", "(I)I"⟩, 15) := ⟨⟨by decide +kernel, by decide +kernel⟩, List.mem_of_getElem? (i := 119) (by decide +kernel), List.mem_of_getElem? (i := 381) (by decide +kernel), List.mem_of_getElem? (i := 382) (by decide +kernel)⟩
theorem lw_p8 : lw_okq (⟨"ClockTree$Flow", "bestPort", "(II)I"⟩, 15) := ⟨⟨by decide +kernel, by decide +kernel⟩, List.mem_of_getElem? (i := 119) (by decide +kernel), List.mem_of_getElem? (i := 385) (by decide +kernel), List.mem_of_getElem? (i := 386) (by decide +kernel)⟩
theorem lw_p9 : lw_okq (⟨"ClockTree$Flow", "isBetter", "(II)Z"⟩, 15) := ⟨⟨by decide +kernel, by decide +kernel⟩, List.mem_of_getElem? (i := 119) (by decide +kernel), List.mem_of_getElem? (i := 389) (by decide +kernel), List.mem_of_getElem? (i := 390) (by decide +kernel)⟩
theorem lw_p10 : lw_okq (⟨"ClockTree$Flow", "speak", "(I)V"⟩, 15) := ⟨⟨by decide +kernel, by decide +kernel⟩, List.mem_of_getElem? (i := 119) (by decide +kernel), List.mem_of_getElem? (i := 393) (by decide +kernel), List.mem_of_getElem? (i := 394) (by decide +kernel)⟩
theorem lw_p11 : lw_okq (⟨"ClockTree", "findStarved", "(I)V"⟩, 8) := ⟨⟨by decide +kernel, by decide +kernel⟩, List.mem_of_getElem? (i := 17) (by decide +kernel), List.mem_of_getElem? (i := 397) (by decide +kernel), List.mem_of_getElem? (i := 398) (by decide +kernel)⟩
theorem lw_p12 : lw_okq (⟨"ClockTree$Flow", "reachedFrom", "(I)I"⟩, 15) := ⟨⟨by decide +kernel, by decide +kernel⟩, List.mem_of_getElem? (i := 119) (by decide +kernel), List.mem_of_getElem? (i := 409) (by decide +kernel), List.mem_of_getElem? (i := 410) (by decide +kernel)⟩
theorem lw_p13 : lw_okq (⟨"ClockTree$Flow", "across", "(II)I"⟩, 15) := ⟨⟨by decide +kernel, by decide +kernel⟩, List.mem_of_getElem? (i := 119) (by decide +kernel), List.mem_of_getElem? (i := 413) (by decide +kernel), List.mem_of_getElem? (i := 414) (by decide +kernel)⟩
theorem lw_p14 : lw_okq (⟨"ClockTree$Flow", "forget", "(I)V"⟩, 15) := ⟨⟨by decide +kernel, by decide +kernel⟩, List.mem_of_getElem? (i := 119) (by decide +kernel), List.mem_of_getElem? (i := 422) (by decide +kernel), List.mem_of_getElem? (i := 423) (by decide +kernel)⟩
theorem lw_p15 : lw_okq (⟨"java/lang/Throwable", "fillInStackTrace", "(I)Ljava/lang/Throwable;"⟩, 6) := ⟨⟨by decide +kernel, by decide +kernel⟩, List.mem_of_getElem? (i := 476) (by decide +kernel), List.mem_of_getElem? (i := 474) (by decide +kernel), List.mem_of_getElem? (i := 475) (by decide +kernel)⟩
def lw_privs_1 : List (MethodName × Nat) := [(⟨"ClockTree$Flow", "listen", "(I)V"⟩, 15), (⟨"ClockTree$Flow", "hear", "(I)V"⟩, 15), (⟨"ClockTree$Flow", "comes", "(II)Z"⟩, 15), (⟨"ClockTree$Flow", "weigh", "(I)V"⟩, 15), (⟨"ClockTree$Flow", "countUsable", "(II)V"⟩, 15), (⟨"ClockTree$Flow", "isUsable", "(II)Z"⟩, 15), (⟨"ClockTree$Flow", "decide", "(I)V"⟩, 15), (⟨"ClockTree$Flow", "choose", "(I)I"⟩, 15), (⟨"ClockTree$Flow", "bestPort", "(II)I"⟩, 15), (⟨"ClockTree$Flow", "isBetter", "(II)Z"⟩, 15), (⟨"ClockTree$Flow", "speak", "(I)V"⟩, 15), (⟨"ClockTree", "findStarved", "(I)V"⟩, 8), (⟨"ClockTree$Flow", "reachedFrom", "(I)I"⟩, 15), (⟨"ClockTree$Flow", "across", "(II)I"⟩, 15), (⟨"ClockTree$Flow", "forget", "(I)V"⟩, 15), (⟨"java/lang/Throwable", "fillInStackTrace", "(I)Ljava/lang/Throwable;"⟩, 6)]
theorem lw_r1 : ∀ q ∈ lw_privs_1, lw_okq q := List.forall_mem_cons.mpr ⟨lw_p0, List.forall_mem_cons.mpr ⟨lw_p1, List.forall_mem_cons.mpr ⟨lw_p2, List.forall_mem_cons.mpr ⟨lw_p3, List.forall_mem_cons.mpr ⟨lw_p4, List.forall_mem_cons.mpr ⟨lw_p5, List.forall_mem_cons.mpr ⟨lw_p6, List.forall_mem_cons.mpr ⟨lw_p7, List.forall_mem_cons.mpr ⟨lw_p8, List.forall_mem_cons.mpr ⟨lw_p9, List.forall_mem_cons.mpr ⟨lw_p10, List.forall_mem_cons.mpr ⟨lw_p11, List.forall_mem_cons.mpr ⟨lw_p12, List.forall_mem_cons.mpr ⟨lw_p13, List.forall_mem_cons.mpr ⟨lw_p14, List.forall_mem_cons.mpr ⟨lw_p15, fun _ h => absurd h List.not_mem_nil⟩⟩⟩⟩⟩⟩⟩⟩⟩⟩⟩⟩⟩⟩⟩⟩
theorem lw_p16 : lw_okq (⟨"ClockTree$Clocks", "offsetAfter", "(ILClockTree$Plan;LClockTree$Flow;)I"⟩, 4) := ⟨⟨by decide +kernel, by decide +kernel⟩, List.mem_of_getElem? (i := 200) (by decide +kernel), List.mem_of_getElem? (i := 632) (by decide +kernel), List.mem_of_getElem? (i := 633) (by decide +kernel)⟩
theorem lw_p17 : lw_okq (⟨"ClockTreeModel", "noPort", "(II)Z"⟩, 25) := ⟨⟨by decide +kernel, by decide +kernel⟩, List.mem_of_getElem? (i := 692) (by decide +kernel), List.mem_of_getElem? (i := 786) (by decide +kernel), List.mem_of_getElem? (i := 787) (by decide +kernel)⟩
theorem lw_p18 : lw_okq (⟨"ClockTreeModel", "noElement", "(I)Z"⟩, 25) := ⟨⟨by decide +kernel, by decide +kernel⟩, List.mem_of_getElem? (i := 692) (by decide +kernel), List.mem_of_getElem? (i := 790) (by decide +kernel), List.mem_of_getElem? (i := 791) (by decide +kernel)⟩
theorem lw_p19 : lw_okq (⟨"ClockTreeModel", "noLink", "(I)Z"⟩, 25) := ⟨⟨by decide +kernel, by decide +kernel⟩, List.mem_of_getElem? (i := 692) (by decide +kernel), List.mem_of_getElem? (i := 822) (by decide +kernel), List.mem_of_getElem? (i := 823) (by decide +kernel)⟩
theorem lw_p20 : lw_okq (⟨"ClockTreeModel", "breakDown", "(I)V"⟩, 25) := ⟨⟨by decide +kernel, by decide +kernel⟩, List.mem_of_getElem? (i := 692) (by decide +kernel), List.mem_of_getElem? (i := 830) (by decide +kernel), List.mem_of_getElem? (i := 831) (by decide +kernel)⟩
theorem lw_p21 : lw_okq (⟨"ClockTreeModel", "sentNothing", "(I)V"⟩, 25) := ⟨⟨by decide +kernel, by decide +kernel⟩, List.mem_of_getElem? (i := 692) (by decide +kernel), List.mem_of_getElem? (i := 834) (by decide +kernel), List.mem_of_getElem? (i := 835) (by decide +kernel)⟩
theorem lw_p22 : lw_okq (⟨"ClockTreeModel", "comesBack", "(I)V"⟩, 25) := ⟨⟨by decide +kernel, by decide +kernel⟩, List.mem_of_getElem? (i := 692) (by decide +kernel), List.mem_of_getElem? (i := 838) (by decide +kernel), List.mem_of_getElem? (i := 839) (by decide +kernel)⟩
theorem lw_p23 : lw_okq (⟨"ClockTreeModel", "round", "()V"⟩, 25) := ⟨⟨by decide +kernel, by decide +kernel⟩, List.mem_of_getElem? (i := 692) (by decide +kernel), List.mem_of_getElem? (i := 850) (by decide +kernel), List.mem_of_getElem? (i := 851) (by decide +kernel)⟩
theorem lw_p24 : lw_okq (⟨"ClockTreeModel", "whole", "(I)Z"⟩, 25) := ⟨⟨by decide +kernel, by decide +kernel⟩, List.mem_of_getElem? (i := 692) (by decide +kernel), List.mem_of_getElem? (i := 854) (by decide +kernel), List.mem_of_getElem? (i := 855) (by decide +kernel)⟩
theorem lw_p25 : lw_okq (⟨"ClockTreeModel", "gets", "(I)V"⟩, 25) := ⟨⟨by decide +kernel, by decide +kernel⟩, List.mem_of_getElem? (i := 692) (by decide +kernel), List.mem_of_getElem? (i := 858) (by decide +kernel), List.mem_of_getElem? (i := 859) (by decide +kernel)⟩
theorem lw_p26 : lw_okq (⟨"ClockTreeModel", "across", "(I)I"⟩, 25) := ⟨⟨by decide +kernel, by decide +kernel⟩, List.mem_of_getElem? (i := 692) (by decide +kernel), List.mem_of_getElem? (i := 862) (by decide +kernel), List.mem_of_getElem? (i := 863) (by decide +kernel)⟩
theorem lw_p27 : lw_okq (⟨"ClockTreeModel", "chooses", "(I)V"⟩, 25) := ⟨⟨by decide +kernel, by decide +kernel⟩, List.mem_of_getElem? (i := 692) (by decide +kernel), List.mem_of_getElem? (i := 866) (by decide +kernel), List.mem_of_getElem? (i := 867) (by decide +kernel)⟩
theorem lw_p28 : lw_okq (⟨"ClockTreeModel", "usable", "(I)Z"⟩, 25) := ⟨⟨by decide +kernel, by decide +kernel⟩, List.mem_of_getElem? (i := 692) (by decide +kernel), List.mem_of_getElem? (i := 870) (by decide +kernel), List.mem_of_getElem? (i := 871) (by decide +kernel)⟩
theorem lw_p29 : lw_okq (⟨"ClockTreeModel", "hasWord", "(I)Z"⟩, 25) := ⟨⟨by decide +kernel, by decide +kernel⟩, List.mem_of_getElem? (i := 692) (by decide +kernel), List.mem_of_getElem? (i := 874) (by decide +kernel), List.mem_of_getElem? (i := 875) (by decide +kernel)⟩
theorem lw_p30 : lw_okq (⟨"ClockTreeModel", "choice", "(I)I"⟩, 25) := ⟨⟨by decide +kernel, by decide +kernel⟩, List.mem_of_getElem? (i := 692) (by decide +kernel), List.mem_of_getElem? (i := 878) (by decide +kernel), List.mem_of_getElem? (i := 879) (by decide +kernel)⟩
theorem lw_p31 : lw_okq (⟨"ClockTreeModel", "bestOf", "(II)I"⟩, 25) := ⟨⟨by decide +kernel, by decide +kernel⟩, List.mem_of_getElem? (i := 692) (by decide +kernel), List.mem_of_getElem? (i := 882) (by decide +kernel), List.mem_of_getElem? (i := 883) (by decide +kernel)⟩
def lw_privs_2 : List (MethodName × Nat) := [(⟨"ClockTree$Clocks", "offsetAfter", "(ILClockTree$Plan;LClockTree$Flow;)I"⟩, 4), (⟨"ClockTreeModel", "noPort", "(II)Z"⟩, 25), (⟨"ClockTreeModel", "noElement", "(I)Z"⟩, 25), (⟨"ClockTreeModel", "noLink", "(I)Z"⟩, 25), (⟨"ClockTreeModel", "breakDown", "(I)V"⟩, 25), (⟨"ClockTreeModel", "sentNothing", "(I)V"⟩, 25), (⟨"ClockTreeModel", "comesBack", "(I)V"⟩, 25), (⟨"ClockTreeModel", "round", "()V"⟩, 25), (⟨"ClockTreeModel", "whole", "(I)Z"⟩, 25), (⟨"ClockTreeModel", "gets", "(I)V"⟩, 25), (⟨"ClockTreeModel", "across", "(I)I"⟩, 25), (⟨"ClockTreeModel", "chooses", "(I)V"⟩, 25), (⟨"ClockTreeModel", "usable", "(I)Z"⟩, 25), (⟨"ClockTreeModel", "hasWord", "(I)Z"⟩, 25), (⟨"ClockTreeModel", "choice", "(I)I"⟩, 25), (⟨"ClockTreeModel", "bestOf", "(II)I"⟩, 25)]
theorem lw_r2 : ∀ q ∈ lw_privs_2, lw_okq q := List.forall_mem_cons.mpr ⟨lw_p16, List.forall_mem_cons.mpr ⟨lw_p17, List.forall_mem_cons.mpr ⟨lw_p18, List.forall_mem_cons.mpr ⟨lw_p19, List.forall_mem_cons.mpr ⟨lw_p20, List.forall_mem_cons.mpr ⟨lw_p21, List.forall_mem_cons.mpr ⟨lw_p22, List.forall_mem_cons.mpr ⟨lw_p23, List.forall_mem_cons.mpr ⟨lw_p24, List.forall_mem_cons.mpr ⟨lw_p25, List.forall_mem_cons.mpr ⟨lw_p26, List.forall_mem_cons.mpr ⟨lw_p27, List.forall_mem_cons.mpr ⟨lw_p28, List.forall_mem_cons.mpr ⟨lw_p29, List.forall_mem_cons.mpr ⟨lw_p30, List.forall_mem_cons.mpr ⟨lw_p31, fun _ h => absurd h List.not_mem_nil⟩⟩⟩⟩⟩⟩⟩⟩⟩⟩⟩⟩⟩⟩⟩⟩
theorem lw_p32 : lw_okq (⟨"ClockTreeModel", "better", "(II)Z"⟩, 25) := ⟨⟨by decide +kernel, by decide +kernel⟩, List.mem_of_getElem? (i := 692) (by decide +kernel), List.mem_of_getElem? (i := 886) (by decide +kernel), List.mem_of_getElem? (i := 887) (by decide +kernel)⟩
theorem lw_p33 : lw_okq (⟨"ClockTreeModel", "qualityOf", "(I)I"⟩, 25) := ⟨⟨by decide +kernel, by decide +kernel⟩, List.mem_of_getElem? (i := 692) (by decide +kernel), List.mem_of_getElem? (i := 890) (by decide +kernel), List.mem_of_getElem? (i := 891) (by decide +kernel)⟩
theorem lw_p34 : lw_okq (⟨"ClockTreeModel", "hopsOf", "(I)I"⟩, 25) := ⟨⟨by decide +kernel, by decide +kernel⟩, List.mem_of_getElem? (i := 692) (by decide +kernel), List.mem_of_getElem? (i := 894) (by decide +kernel), List.mem_of_getElem? (i := 895) (by decide +kernel)⟩
theorem lw_p35 : lw_okq (⟨"ClockTreeModel", "stateOf", "(I)I"⟩, 25) := ⟨⟨by decide +kernel, by decide +kernel⟩, List.mem_of_getElem? (i := 692) (by decide +kernel), List.mem_of_getElem? (i := 898) (by decide +kernel), List.mem_of_getElem? (i := 899) (by decide +kernel)⟩
theorem lw_p36 : lw_okq (⟨"ClockTreeModel", "portOf", "(I)I"⟩, 25) := ⟨⟨by decide +kernel, by decide +kernel⟩, List.mem_of_getElem? (i := 692) (by decide +kernel), List.mem_of_getElem? (i := 902) (by decide +kernel), List.mem_of_getElem? (i := 903) (by decide +kernel)⟩
theorem lw_p37 : lw_okq (⟨"ClockTreeModel", "followed", "(I)I"⟩, 25) := ⟨⟨by decide +kernel, by decide +kernel⟩, List.mem_of_getElem? (i := 692) (by decide +kernel), List.mem_of_getElem? (i := 926) (by decide +kernel), List.mem_of_getElem? (i := 927) (by decide +kernel)⟩
theorem lw_p38 : lw_okq (⟨"ClockTreeModel", "bestFor", "(I)I"⟩, 25) := ⟨⟨by decide +kernel, by decide +kernel⟩, List.mem_of_getElem? (i := 692) (by decide +kernel), List.mem_of_getElem? (i := 938) (by decide +kernel), List.mem_of_getElem? (i := 939) (by decide +kernel)⟩
theorem lw_p39 : lw_okq (⟨"ClockTreeModel", "reached", "(I)I"⟩, 25) := ⟨⟨by decide +kernel, by decide +kernel⟩, List.mem_of_getElem? (i := 692) (by decide +kernel), List.mem_of_getElem? (i := 942) (by decide +kernel), List.mem_of_getElem? (i := 943) (by decide +kernel)⟩
theorem lw_p40 : lw_okq (⟨"ClockTreeModel", "keep", "(Z)V"⟩, 25) := ⟨⟨by decide +kernel, by decide +kernel⟩, List.mem_of_getElem? (i := 692) (by decide +kernel), List.mem_of_getElem? (i := 950) (by decide +kernel), List.mem_of_getElem? (i := 951) (by decide +kernel)⟩
theorem lw_p41 : lw_okq (⟨"ClockTreeModel", "goOn", "(I)V"⟩, 25) := ⟨⟨by decide +kernel, by decide +kernel⟩, List.mem_of_getElem? (i := 692) (by decide +kernel), List.mem_of_getElem? (i := 954) (by decide +kernel), List.mem_of_getElem? (i := 955) (by decide +kernel)⟩
def lw_privs_3 : List (MethodName × Nat) := [(⟨"ClockTreeModel", "better", "(II)Z"⟩, 25), (⟨"ClockTreeModel", "qualityOf", "(I)I"⟩, 25), (⟨"ClockTreeModel", "hopsOf", "(I)I"⟩, 25), (⟨"ClockTreeModel", "stateOf", "(I)I"⟩, 25), (⟨"ClockTreeModel", "portOf", "(I)I"⟩, 25), (⟨"ClockTreeModel", "followed", "(I)I"⟩, 25), (⟨"ClockTreeModel", "bestFor", "(I)I"⟩, 25), (⟨"ClockTreeModel", "reached", "(I)I"⟩, 25), (⟨"ClockTreeModel", "keep", "(Z)V"⟩, 25), (⟨"ClockTreeModel", "goOn", "(I)V"⟩, 25)]
theorem lw_r3 : ∀ q ∈ lw_privs_3, lw_okq q := List.forall_mem_cons.mpr ⟨lw_p32, List.forall_mem_cons.mpr ⟨lw_p33, List.forall_mem_cons.mpr ⟨lw_p34, List.forall_mem_cons.mpr ⟨lw_p35, List.forall_mem_cons.mpr ⟨lw_p36, List.forall_mem_cons.mpr ⟨lw_p37, List.forall_mem_cons.mpr ⟨lw_p38, List.forall_mem_cons.mpr ⟨lw_p39, List.forall_mem_cons.mpr ⟨lw_p40, List.forall_mem_cons.mpr ⟨lw_p41, fun _ h => absurd h List.not_mem_nil⟩⟩⟩⟩⟩⟩⟩⟩⟩⟩
def lw_privs : List (MethodName × Nat) := lw_privs_1 ++ (lw_privs_2 ++ (lw_privs_3))
def lw_tbl : List Cond := k2_sels lw_privs ++ tables_1
theorem lw_privs_ok : ∀ q ∈ lw_privs, lw_okq q := by
  show ∀ q ∈ lw_privs_1 ++ (lw_privs_2 ++ (lw_privs_3)), lw_okq q
  exact List.forall_mem_append.mpr ⟨lw_r1, List.forall_mem_append.mpr ⟨lw_r2, lw_r3⟩⟩
end
section
def R_Ca : String := "ClockTree$Calm"
def T_Ca : u_T := fun k => match k with
  | 0 => ("ClockTree$Calm", "condition", "[I", true)
  | 1 => ("ClockTree$Calm", "chosen", "[I", true)
  | _ => ("ClockTree$Calm", "rounds", "I", false)
def t_Ca : Nat → FieldType := fun k => match k with
  | 0 => .array .int
  | 1 => .array .int
  | _ => .int
theorem n_Ca : ∀ a, a < 3 → ∀ b, b < 3 → a ≠ b → (T_Ca a).2.1 ≠ (T_Ca b).2.1 := by decide +kernel
theorem to_Ca : ∀ k, k < 3 → parseFieldDescriptor (T_Ca k).2.2.1 = some (t_Ca k) := by decide +kernel
def R_Ck : String := "ClockTree$Clocks"
def T_Ck : u_T := fun k => match k with
  | 0 => ("ClockTree$Clocks", "now", "[I", true)
  | 1 => ("ClockTree$Clocks", "before", "[I", true)
  | 2 => ("ClockTree$Clocks", "next", "[I", true)
  | _ => ("ClockTree$Clocks", "sum", "[J", true)
def t_Ck : Nat → FieldType := fun k => match k with
  | 0 => .array .int
  | 1 => .array .int
  | 2 => .array .int
  | _ => .array .long
theorem n_Ck : ∀ a, a < 4 → ∀ b, b < 4 → a ≠ b → (T_Ck a).2.1 ≠ (T_Ck b).2.1 := by decide +kernel
theorem to_Ck : ∀ k, k < 4 → parseFieldDescriptor (T_Ck k).2.2.1 = some (t_Ck k) := by decide +kernel
def R_Fl : String := "ClockTree$Flow"
def T_Fl : u_T := fun k => match k with
  | 0 => ("ClockTree$Flow", "plan", "LClockTree$Plan;", true)
  | 1 => ("ClockTree$Flow", "got", "LClockTree$Words;", true)
  | 2 => ("ClockTree$Flow", "sent", "LClockTree$Words;", true)
  | 3 => ("ClockTree$Flow", "offered", "LClockTree$Words;", true)
  | 4 => ("ClockTree$Flow", "age", "[I", true)
  | 5 => ("ClockTree$Flow", "usableFor", "[I", true)
  | 6 => ("ClockTree$Flow", "condition", "[I", true)
  | 7 => ("ClockTree$Flow", "chosen", "[I", true)
  | 8 => ("ClockTree$Flow", "hops", "[I", true)
  | 9 => ("ClockTree$Flow", "quality", "[I", true)
  | 10 => ("ClockTree$Flow", "everLocked", "I", false)
  | 11 => ("ClockTree$Flow", "failedElements", "I", false)
  | 12 => ("ClockTree$Flow", "failedLinks", "I", false)
  | 13 => ("ClockTree$Flow", "lost", "J", false)
  | _ => ("ClockTree$Flow", "moved", "Z", false)
def t_Fl : Nat → FieldType := fun k => match k with
  | 0 => .object "ClockTree$Plan"
  | 1 => .object "ClockTree$Words"
  | 2 => .object "ClockTree$Words"
  | 3 => .object "ClockTree$Words"
  | 4 => .array .int
  | 5 => .array .int
  | 6 => .array .int
  | 7 => .array .int
  | 8 => .array .int
  | 9 => .array .int
  | 10 => .int
  | 11 => .int
  | 12 => .int
  | 13 => .long
  | _ => .boolean
theorem n_Fl : ∀ a, a < 15 → ∀ b, b < 15 → a ≠ b → (T_Fl a).2.1 ≠ (T_Fl b).2.1 := by decide +kernel
theorem to_Fl : ∀ k, k < 15 → parseFieldDescriptor (T_Fl k).2.2.1 = some (t_Fl k) := by decide +kernel
def R_Pl : String := "ClockTree$Plan"
def T_Pl : u_T := fun k => match k with
  | 0 => ("ClockTree$Plan", "there", "[Z", true)
  | 1 => ("ClockTree$Plan", "quality", "[I", true)
  | 2 => ("ClockTree$Plan", "offset", "[I", true)
  | 3 => ("ClockTree$Plan", "slope", "[I", true)
  | 4 => ("ClockTree$Plan", "restore", "[I", true)
  | 5 => ("ClockTree$Plan", "forced", "[I", true)
  | 6 => ("ClockTree$Plan", "manual", "[I", true)
  | 7 => ("ClockTree$Plan", "linkOf", "[I", true)
  | 8 => ("ClockTree$Plan", "peer", "[I", true)
  | 9 => ("ClockTree$Plan", "sourceQuality", "[I", true)
  | 10 => ("ClockTree$Plan", "sourceOffset", "[I", true)
  | 11 => ("ClockTree$Plan", "priority", "[I", true)
  | 12 => ("ClockTree$Plan", "lockedOut", "[Z", true)
  | 13 => ("ClockTree$Plan", "firstEnd", "[I", true)
  | 14 => ("ClockTree$Plan", "links", "I", false)
  | _ => ("ClockTree$Plan", "tracing", "Z", false)
def t_Pl : Nat → FieldType := fun k => match k with
  | 0 => .array .boolean
  | 1 => .array .int
  | 2 => .array .int
  | 3 => .array .int
  | 4 => .array .int
  | 5 => .array .int
  | 6 => .array .int
  | 7 => .array .int
  | 8 => .array .int
  | 9 => .array .int
  | 10 => .array .int
  | 11 => .array .int
  | 12 => .array .boolean
  | 13 => .array .int
  | 14 => .int
  | _ => .boolean
theorem n_Pl : ∀ a, a < 16 → ∀ b, b < 16 → a ≠ b → (T_Pl a).2.1 ≠ (T_Pl b).2.1 := by decide +kernel
theorem to_Pl : ∀ k, k < 16 → parseFieldDescriptor (T_Pl k).2.2.1 = some (t_Pl k) := by decide +kernel
def R_Wo : String := "ClockTree$Words"
def T_Wo : u_T := fun k => match k with
  | 0 => ("ClockTree$Words", "quality", "[I", true)
  | 1 => ("ClockTree$Words", "hops", "[I", true)
  | _ => ("ClockTree$Words", "trace", "[I", true)
def t_Wo : Nat → FieldType := fun k => match k with
  | 0 => .array .int
  | 1 => .array .int
  | _ => .array .int
theorem n_Wo : ∀ a, a < 3 → ∀ b, b < 3 → a ≠ b → (T_Wo a).2.1 ≠ (T_Wo b).2.1 := by decide +kernel
theorem to_Wo : ∀ k, k < 3 → parseFieldDescriptor (T_Wo k).2.2.1 = some (t_Wo k) := by decide +kernel
def R_CT : String := "ClockTree"
def T_CT : u_T := fun k => match k with
  | 0 => ("ClockTree", "plan", "LClockTree$Plan;", true)
  | 1 => ("ClockTree", "flow", "LClockTree$Flow;", true)
  | 2 => ("ClockTree", "trial", "LClockTree$Flow;", true)
  | 3 => ("ClockTree", "clocks", "LClockTree$Clocks;", true)
  | 4 => ("ClockTree", "calm", "LClockTree$Calm;", true)
  | 5 => ("ClockTree", "findingFailed", "[I", true)
  | 6 => ("ClockTree", "findingStarved", "[I", true)
  | _ => ("ClockTree", "findings", "I", false)
def t_CT : Nat → FieldType := fun k => match k with
  | 0 => .object "ClockTree$Plan"
  | 1 => .object "ClockTree$Flow"
  | 2 => .object "ClockTree$Flow"
  | 3 => .object "ClockTree$Clocks"
  | 4 => .object "ClockTree$Calm"
  | 5 => .array .int
  | 6 => .array .int
  | _ => .int
theorem n_CT : ∀ a, a < 8 → ∀ b, b < 8 → a ≠ b → (T_CT a).2.1 ≠ (T_CT b).2.1 := by decide +kernel
theorem to_CT : ∀ k, k < 8 → parseFieldDescriptor (T_CT k).2.2.1 = some (t_CT k) := by decide +kernel
def R_Mo : String := "ClockTreeModel"
def T_Mo : u_T := fun k => match k with
  | 0 => ("ClockTreeModel", "thrownCode", "I", false)
  | 1 => ("ClockTreeModel", "trace", "Z", false)
  | 2 => ("ClockTreeModel", "there", "[Z", true)
  | 3 => ("ClockTreeModel", "quality", "[I", true)
  | 4 => ("ClockTreeModel", "offset0", "[I", true)
  | 5 => ("ClockTreeModel", "slope", "[I", true)
  | 6 => ("ClockTreeModel", "restore", "[I", true)
  | 7 => ("ClockTreeModel", "forced", "[I", true)
  | 8 => ("ClockTreeModel", "manual", "[I", true)
  | 9 => ("ClockTreeModel", "source", "[I", true)
  | 10 => ("ClockTreeModel", "sourceOffset", "[I", true)
  | 11 => ("ClockTreeModel", "linkOf", "[I", true)
  | 12 => ("ClockTreeModel", "prior", "[I", true)
  | 13 => ("ClockTreeModel", "out", "[Z", true)
  | 14 => ("ClockTreeModel", "links", "I", false)
  | 15 => ("ClockTreeModel", "one", "[I", true)
  | 16 => ("ClockTreeModel", "two", "[I", true)
  | 17 => ("ClockTreeModel", "net", "[I", true)
  | 18 => ("ClockTreeModel", "kept", "[I", true)
  | 19 => ("ClockTreeModel", "phases", "[J", true)
  | 20 => ("ClockTreeModel", "keptPhases", "[J", true)
  | 21 => ("ClockTreeModel", "fresh", "[I", true)
  | 22 => ("ClockTreeModel", "findings", "I", false)
  | 23 => ("ClockTreeModel", "failedThere", "[I", true)
  | _ => ("ClockTreeModel", "starved", "[I", true)
def t_Mo : Nat → FieldType := fun k => match k with
  | 0 => .int
  | 1 => .boolean
  | 2 => .array .boolean
  | 3 => .array .int
  | 4 => .array .int
  | 5 => .array .int
  | 6 => .array .int
  | 7 => .array .int
  | 8 => .array .int
  | 9 => .array .int
  | 10 => .array .int
  | 11 => .array .int
  | 12 => .array .int
  | 13 => .array .boolean
  | 14 => .int
  | 15 => .array .int
  | 16 => .array .int
  | 17 => .array .int
  | 18 => .array .int
  | 19 => .array .long
  | 20 => .array .long
  | 21 => .array .int
  | 22 => .int
  | 23 => .array .int
  | _ => .array .int
theorem n_Mo : ∀ a, a < 25 → ∀ b, b < 25 → a ≠ b → (T_Mo a).2.1 ≠ (T_Mo b).2.1 := by decide +kernel
theorem to_Mo : ∀ k, k < 25 → parseFieldDescriptor (T_Mo k).2.2.1 = some (t_Mo k) := by decide +kernel
abbrev vwCl : List vw_C := [(R_Ca, T_Ca, 3), (R_Ck, T_Ck, 4), (R_Fl, T_Fl, 15), (R_Pl, T_Pl, 16), (R_Wo, T_Wo, 3), (R_CT, T_CT, 8), (R_Mo, T_Mo, 25)]
def y_CT_init : MethodName := ⟨"ClockTree", "<init>", "()V"⟩
def y_Pl_init : MethodName := ⟨"ClockTree$Plan", "<init>", "()V"⟩
def y_Fl_init : MethodName := ⟨"ClockTree$Flow", "<init>", "(LClockTree$Plan;)V"⟩
def y_Wo_init : MethodName := ⟨"ClockTree$Words", "<init>", "()V"⟩
def y_Ck_init : MethodName := ⟨"ClockTree$Clocks", "<init>", "()V"⟩
def y_Ca_init : MethodName := ⟨"ClockTree$Calm", "<init>", "()V"⟩
def y_CT_tracing : MethodName := ⟨"ClockTree", "tracing", "(Z)Z"⟩
def y_CT_settled : MethodName := ⟨"ClockTree", "settled", "()I"⟩
def y_CT_loop : MethodName := ⟨"ClockTree", "loop", "()Z"⟩
def y_Fl_follow : MethodName := ⟨"ClockTree$Flow", "follow", "(I)I"⟩
def y_Fl_isWhole : MethodName := ⟨"ClockTree$Flow", "isWhole", "(I)Z"⟩
def y_Fl_isLocked : MethodName := ⟨"ClockTree$Flow", "isLocked", "(I)Z"⟩
def y_CT_slotOf : MethodName := ⟨"ClockTree", "slotOf", "(II)I"⟩
def y_CT_elementOf : MethodName := ⟨"ClockTree", "elementOf", "(I)I"⟩
def y_CT_check : MethodName := ⟨"ClockTree", "check", "()I"⟩
def y_Pl_longestRestore : MethodName := ⟨"ClockTree$Plan", "longestRestore", "()I"⟩
def y_Fl_isLinkWhole : MethodName := ⟨"ClockTree$Flow", "isLinkWhole", "(I)Z"⟩
def y_Fl_copy : MethodName := ⟨"ClockTree$Flow", "copy", "(LClockTree$Flow;)V"⟩
def y_Wo_copy : MethodName := ⟨"ClockTree$Words", "copy", "(LClockTree$Words;)V"⟩
def y_Fl_setLinkFailed : MethodName := ⟨"ClockTree$Flow", "setLinkFailed", "(IZ)V"⟩
def y_Fl_passRounds : MethodName := ⟨"ClockTree$Flow", "passRounds", "(I)V"⟩
def y_Fl_passRound : MethodName := ⟨"ClockTree$Flow", "passRound", "()V"⟩
def y_Fl_listen : MethodName := ⟨"ClockTree$Flow", "listen", "(I)V"⟩
def y_Fl_hear : MethodName := ⟨"ClockTree$Flow", "hear", "(I)V"⟩
def y_Fl_comes : MethodName := ⟨"ClockTree$Flow", "comes", "(II)Z"⟩
def y_Wo_isSame : MethodName := ⟨"ClockTree$Words", "isSame", "(ILClockTree$Words;I)Z"⟩
def y_Wo_write : MethodName := ⟨"ClockTree$Words", "write", "(IIII)V"⟩
def y_Fl_weigh : MethodName := ⟨"ClockTree$Flow", "weigh", "(I)V"⟩
def y_Pl_hasSource : MethodName := ⟨"ClockTree$Plan", "hasSource", "(I)Z"⟩
def y_Fl_countUsable : MethodName := ⟨"ClockTree$Flow", "countUsable", "(II)V"⟩
def y_Fl_isUsable : MethodName := ⟨"ClockTree$Flow", "isUsable", "(II)Z"⟩
def y_CT_isWithin : MethodName := ⟨"ClockTree", "isWithin", "(III)Z"⟩
def y_Fl_decide : MethodName := ⟨"ClockTree$Flow", "decide", "(I)V"⟩
def y_Fl_choose : MethodName := ⟨"ClockTree$Flow", "choose", "(I)I"⟩
def y_Fl_bestPort : MethodName := ⟨"ClockTree$Flow", "bestPort", "(II)I"⟩
def y_Fl_isBetter : MethodName := ⟨"ClockTree$Flow", "isBetter", "(II)Z"⟩
def y_Fl_speak : MethodName := ⟨"ClockTree$Flow", "speak", "(I)V"⟩
def y_CT_findStarved : MethodName := ⟨"ClockTree", "findStarved", "(I)V"⟩
def y_Fl_isStarved : MethodName := ⟨"ClockTree$Flow", "isStarved", "(I)Z"⟩
def y_Fl_bestReached : MethodName := ⟨"ClockTree$Flow", "bestReached", "(I)I"⟩
def y_Fl_reachedFrom : MethodName := ⟨"ClockTree$Flow", "reachedFrom", "(I)I"⟩
def y_Fl_across : MethodName := ⟨"ClockTree$Flow", "across", "(II)I"⟩
def y_Fl_setElementFailed : MethodName := ⟨"ClockTree$Flow", "setElementFailed", "(IZ)V"⟩
def y_Fl_forget : MethodName := ⟨"ClockTree$Flow", "forget", "(I)V"⟩
def y_La_element : MethodName := ⟨"ClockTreeLaw", "element", "(LClockTree;IIII)I"⟩
def y_CT_element : MethodName := ⟨"ClockTree", "element", "(IIII)V"⟩
def y_CT_refuseUnless : MethodName := ⟨"ClockTree", "refuseUnless", "(Z)V"⟩
def y_Ck_start : MethodName := ⟨"ClockTree$Clocks", "start", "(II)V"⟩
def y_La_link : MethodName := ⟨"ClockTreeLaw", "link", "(LClockTree;IIII[J)I"⟩
def y_CT_link : MethodName := ⟨"ClockTree", "link", "(IIII)I"⟩
def y_Pl_isPort : MethodName := ⟨"ClockTree$Plan", "isPort", "(II)Z"⟩
def y_Pl_isThere : MethodName := ⟨"ClockTree$Plan", "isThere", "(I)Z"⟩
def y_Pl_isTaken : MethodName := ⟨"ClockTree$Plan", "isTaken", "(I)Z"⟩
def y_Pl_join : MethodName := ⟨"ClockTree$Plan", "join", "(II)I"⟩
def y_La_source : MethodName := ⟨"ClockTreeLaw", "source", "(LClockTree;IIII)I"⟩
def y_CT_source : MethodName := ⟨"ClockTree", "source", "(IIII)V"⟩
def y_La_priority : MethodName := ⟨"ClockTreeLaw", "priority", "(LClockTree;III[J)I"⟩
def y_CT_priority : MethodName := ⟨"ClockTree", "priority", "(III)I"⟩
def y_La_restore : MethodName := ⟨"ClockTreeLaw", "restore", "(LClockTree;II[J)I"⟩
def y_CT_restore : MethodName := ⟨"ClockTree", "restore", "(II)I"⟩
def y_La_command : MethodName := ⟨"ClockTreeLaw", "command", "(LClockTree;III[J)I"⟩
def y_CT_command : MethodName := ⟨"ClockTree", "command", "(III)I"⟩
def y_La_lockout : MethodName := ⟨"ClockTreeLaw", "lockout", "(LClockTree;IIZ[J)I"⟩
def y_CT_lockout : MethodName := ⟨"ClockTree", "lockout", "(IIZ)Z"⟩
def y_La_fail : MethodName := ⟨"ClockTreeLaw", "fail", "(LClockTree;IZ[J)I"⟩
def y_CT_fail : MethodName := ⟨"ClockTree", "fail", "(IZ)Z"⟩
def y_Pl_isLink : MethodName := ⟨"ClockTree$Plan", "isLink", "(I)Z"⟩
def y_La_failElement : MethodName := ⟨"ClockTreeLaw", "failElement", "(LClockTree;IZ[J)I"⟩
def y_CT_failElement : MethodName := ⟨"ClockTree", "failElement", "(IZ)Z"⟩
def y_La_lose : MethodName := ⟨"ClockTreeLaw", "lose", "(LClockTree;IZ)I"⟩
def y_CT_lose : MethodName := ⟨"ClockTree", "lose", "(IZ)V"⟩
def y_Fl_loseFrom : MethodName := ⟨"ClockTree$Flow", "loseFrom", "(I)V"⟩
def y_La_rounds : MethodName := ⟨"ClockTreeLaw", "rounds", "(LClockTree;I[J)I"⟩
def y_CT_rounds : MethodName := ⟨"ClockTree", "rounds", "(I)I"⟩
def y_Ck_passRound : MethodName := ⟨"ClockTree$Clocks", "passRound", "(LClockTree$Plan;LClockTree$Flow;)V"⟩
def y_Ck_offsetAfter : MethodName := ⟨"ClockTree$Clocks", "offsetAfter", "(ILClockTree$Plan;LClockTree$Flow;)I"⟩
def y_Ca_passRound : MethodName := ⟨"ClockTree$Calm", "passRound", "(LClockTree$Flow;)V"⟩
def y_Fl_shownCondition : MethodName := ⟨"ClockTree$Flow", "shownCondition", "(I)I"⟩
def y_La_state : MethodName := ⟨"ClockTreeLaw", "state", "(LClockTree;II[J)I"⟩
def y_CT_state : MethodName := ⟨"ClockTree", "state", "(II)I"⟩
def y_La_phase : MethodName := ⟨"ClockTreeLaw", "phase", "(LClockTree;I[J)I"⟩
def y_CT_phase : MethodName := ⟨"ClockTree", "phase", "(I)J"⟩
def y_La_sends : MethodName := ⟨"ClockTreeLaw", "sends", "(LClockTree;II[J)I"⟩
def y_CT_sends : MethodName := ⟨"ClockTree", "sends", "(II)I"⟩
def y_La_traced : MethodName := ⟨"ClockTreeLaw", "traced", "(LClockTree;I[J)I"⟩
def y_CT_traced : MethodName := ⟨"ClockTree", "traced", "(I)I"⟩
def y_La_best : MethodName := ⟨"ClockTreeLaw", "best", "(LClockTree;I[J)I"⟩
def y_CT_best : MethodName := ⟨"ClockTree", "best", "(I)I"⟩
def y_La_finding : MethodName := ⟨"ClockTreeLaw", "finding", "(LClockTree;II[J)I"⟩
def y_CT_finding : MethodName := ⟨"ClockTree", "finding", "(II)I"⟩
def y_Mo_init : MethodName := ⟨"ClockTreeModel", "<init>", "()V"⟩
def y_Mo_thrown : MethodName := ⟨"ClockTreeModel", "thrown", "()I"⟩
def y_Mo_element : MethodName := ⟨"ClockTreeModel", "element", "(IIII)V"⟩
def y_Mo_link : MethodName := ⟨"ClockTreeModel", "link", "(IIII)I"⟩
def y_Mo_noPort : MethodName := ⟨"ClockTreeModel", "noPort", "(II)Z"⟩
def y_Mo_noElement : MethodName := ⟨"ClockTreeModel", "noElement", "(I)Z"⟩
def y_Mo_source : MethodName := ⟨"ClockTreeModel", "source", "(IIII)V"⟩
def y_Mo_priority : MethodName := ⟨"ClockTreeModel", "priority", "(III)I"⟩
def y_Mo_restore : MethodName := ⟨"ClockTreeModel", "restore", "(II)I"⟩
def y_Mo_tracing : MethodName := ⟨"ClockTreeModel", "tracing", "(Z)Z"⟩
def y_Mo_command : MethodName := ⟨"ClockTreeModel", "command", "(III)I"⟩
def y_Mo_lockout : MethodName := ⟨"ClockTreeModel", "lockout", "(IIZ)Z"⟩
def y_Mo_fail : MethodName := ⟨"ClockTreeModel", "fail", "(IZ)Z"⟩
def y_Mo_noLink : MethodName := ⟨"ClockTreeModel", "noLink", "(I)Z"⟩
def y_Mo_failElement : MethodName := ⟨"ClockTreeModel", "failElement", "(IZ)Z"⟩
def y_Mo_breakDown : MethodName := ⟨"ClockTreeModel", "breakDown", "(I)V"⟩
def y_Mo_sentNothing : MethodName := ⟨"ClockTreeModel", "sentNothing", "(I)V"⟩
def y_Mo_comesBack : MethodName := ⟨"ClockTreeModel", "comesBack", "(I)V"⟩
def y_Mo_lose : MethodName := ⟨"ClockTreeModel", "lose", "(IZ)V"⟩
def y_Mo_rounds : MethodName := ⟨"ClockTreeModel", "rounds", "(I)I"⟩
def y_Mo_round : MethodName := ⟨"ClockTreeModel", "round", "()V"⟩
def y_Mo_whole : MethodName := ⟨"ClockTreeModel", "whole", "(I)Z"⟩
def y_Mo_gets : MethodName := ⟨"ClockTreeModel", "gets", "(I)V"⟩
def y_Mo_across : MethodName := ⟨"ClockTreeModel", "across", "(I)I"⟩
def y_Mo_chooses : MethodName := ⟨"ClockTreeModel", "chooses", "(I)V"⟩
def y_Mo_usable : MethodName := ⟨"ClockTreeModel", "usable", "(I)Z"⟩
def y_Mo_hasWord : MethodName := ⟨"ClockTreeModel", "hasWord", "(I)Z"⟩
def y_Mo_choice : MethodName := ⟨"ClockTreeModel", "choice", "(I)I"⟩
def y_Mo_bestOf : MethodName := ⟨"ClockTreeModel", "bestOf", "(II)I"⟩
def y_Mo_better : MethodName := ⟨"ClockTreeModel", "better", "(II)Z"⟩
def y_Mo_qualityOf : MethodName := ⟨"ClockTreeModel", "qualityOf", "(I)I"⟩
def y_Mo_hopsOf : MethodName := ⟨"ClockTreeModel", "hopsOf", "(I)I"⟩
def y_Mo_stateOf : MethodName := ⟨"ClockTreeModel", "stateOf", "(I)I"⟩
def y_Mo_portOf : MethodName := ⟨"ClockTreeModel", "portOf", "(I)I"⟩
def y_Mo_settled : MethodName := ⟨"ClockTreeModel", "settled", "()I"⟩
def y_Mo_state : MethodName := ⟨"ClockTreeModel", "state", "(II)I"⟩
def y_Mo_phase : MethodName := ⟨"ClockTreeModel", "phase", "(I)J"⟩
def y_Mo_sends : MethodName := ⟨"ClockTreeModel", "sends", "(II)I"⟩
def y_Mo_traced : MethodName := ⟨"ClockTreeModel", "traced", "(I)I"⟩
def y_Mo_followed : MethodName := ⟨"ClockTreeModel", "followed", "(I)I"⟩
def y_Mo_loop : MethodName := ⟨"ClockTreeModel", "loop", "()Z"⟩
def y_Mo_best : MethodName := ⟨"ClockTreeModel", "best", "(I)I"⟩
def y_Mo_bestFor : MethodName := ⟨"ClockTreeModel", "bestFor", "(I)I"⟩
def y_Mo_reached : MethodName := ⟨"ClockTreeModel", "reached", "(I)I"⟩
def y_Mo_check : MethodName := ⟨"ClockTreeModel", "check", "()I"⟩
def y_Mo_keep : MethodName := ⟨"ClockTreeModel", "keep", "(Z)V"⟩
def y_Mo_goOn : MethodName := ⟨"ClockTreeModel", "goOn", "(I)V"⟩
def y_Mo_finding : MethodName := ⟨"ClockTreeModel", "finding", "(II)I"⟩
abbrev zL : Type := (Bool × Nat) ⊕ (Nat ⊕ (Nat × List (Option (Option Nat))))
abbrev lay0 : List zL := [.inr (.inr (5, [(some (some 1)), (some (some 16)), (some (some 35)), (some (some 54)), (some (some 59)), (some (some 62)), (some (some 63)), none])), .inr (.inr (3, [(some (some 2)), (some (some 3)), (some (some 4)), (some (some 5)), (some (some 6)), (some (some 7)), (some (some 8)), (some (some 9)), (some (some 10)), (some (some 11)), (some (some 12)), (some (some 13)), (some (some 14)), (some (some 15)), none, none])), .inl (true, 16), .inl (false, 16), .inl (false, 16), .inl (false, 16), .inl (false, 16), .inl (false, 16), .inl (false, 16), .inl (false, 64), .inl (false, 64), .inl (false, 64), .inl (false, 64), .inl (false, 64), .inl (true, 64), .inl (false, 24), .inr (.inr (2, [(some (some 1)), (some (some 17)), (some (some 21)), (some (some 25)), (some (some 29)), (some (some 30)), (some (some 31)), (some (some 32)), (some (some 33)), (some (some 34)), none, none, none, (some none), none])), .inr (.inr (4, [(some (some 18)), (some (some 19)), (some (some 20))])), .inl (false, 64), .inl (false, 64), .inl (false, 64), .inr (.inr (4, [(some (some 22)), (some (some 23)), (some (some 24))])), .inl (false, 64), .inl (false, 64), .inl (false, 64), .inr (.inr (4, [(some (some 26)), (some (some 27)), (some (some 28))])), .inl (false, 64), .inl (false, 64), .inl (false, 64), .inl (false, 64), .inl (false, 64), .inl (false, 16), .inl (false, 16), .inl (false, 16), .inl (false, 16), .inr (.inr (2, [(some (some 1)), (some (some 36)), (some (some 40)), (some (some 44)), (some (some 48)), (some (some 49)), (some (some 50)), (some (some 51)), (some (some 52)), (some (some 53)), none, none, none, (some none), none])), .inr (.inr (4, [(some (some 37)), (some (some 38)), (some (some 39))])), .inl (false, 64), .inl (false, 64), .inl (false, 64), .inr (.inr (4, [(some (some 41)), (some (some 42)), (some (some 43))])), .inl (false, 64), .inl (false, 64), .inl (false, 64), .inr (.inr (4, [(some (some 45)), (some (some 46)), (some (some 47))])), .inl (false, 64), .inl (false, 64), .inl (false, 64), .inl (false, 64), .inl (false, 64), .inl (false, 16), .inl (false, 16), .inl (false, 16), .inl (false, 16), .inr (.inr (1, [(some (some 55)), (some (some 56)), (some (some 57)), (some (some 58))])), .inl (false, 16), .inl (false, 16), .inl (false, 16), .inr (.inl 16), .inr (.inr (0, [(some (some 60)), (some (some 61)), none])), .inl (false, 16), .inl (false, 16), .inl (false, 100), .inl (false, 100), .inr (.inr (6, [none, none, (some (some 65)), (some (some 66)), (some (some 67)), (some (some 68)), (some (some 69)), (some (some 70)), (some (some 71)), (some (some 72)), (some (some 73)), (some (some 74)), (some (some 75)), (some (some 76)), none, (some (some 77)), (some (some 78)), (some (some 79)), (some (some 80)), (some (some 81)), (some (some 82)), (some (some 83)), none, (some (some 84)), (some (some 85))])), .inl (true, 16), .inl (false, 16), .inl (false, 16), .inl (false, 16), .inl (false, 16), .inl (false, 16), .inl (false, 16), .inl (false, 64), .inl (false, 64), .inl (false, 64), .inl (false, 64), .inl (true, 64), .inl (false, 24), .inl (false, 24), .inl (false, 762), .inl (false, 762), .inr (.inl 16), .inr (.inl 16), .inl (false, 192), .inl (false, 100), .inl (false, 100), .inr (.inl 1)]
theorem lF {b : Nat} (hb : b = 16 ∨ b = 35) : lay0[b]? = some (.inr (.inr (2, [(some (some 1)), (some (some (b + 1))), (some (some (b + 5))), (some (some (b + 9))), (some (some (b + 13))), (some (some (b + 14))), (some (some (b + 15))), (some (some (b + 16))), (some (some (b + 17))), (some (some (b + 18))), none, none, none, (some none), none]))) := by rcases hb with rfl | rfl <;> rfl
theorem lF1 {b : Nat} (hb : b = 16 ∨ b = 35) : lay0[b + 1]? = some (.inr (.inr (4, [(some (some (b + 2))), (some (some (b + 3))), (some (some (b + 4)))]))) := by rcases hb with rfl | rfl <;> rfl
theorem lF2 {b : Nat} (hb : b = 16 ∨ b = 35) : lay0[b + 2]? = some (.inl (false, 64)) := by rcases hb with rfl | rfl <;> rfl
theorem lF3 {b : Nat} (hb : b = 16 ∨ b = 35) : lay0[b + 3]? = some (.inl (false, 64)) := by rcases hb with rfl | rfl <;> rfl
theorem lF4 {b : Nat} (hb : b = 16 ∨ b = 35) : lay0[b + 4]? = some (.inl (false, 64)) := by rcases hb with rfl | rfl <;> rfl
theorem lF5 {b : Nat} (hb : b = 16 ∨ b = 35) : lay0[b + 5]? = some (.inr (.inr (4, [(some (some (b + 6))), (some (some (b + 7))), (some (some (b + 8)))]))) := by rcases hb with rfl | rfl <;> rfl
theorem lF6 {b : Nat} (hb : b = 16 ∨ b = 35) : lay0[b + 6]? = some (.inl (false, 64)) := by rcases hb with rfl | rfl <;> rfl
theorem lF7 {b : Nat} (hb : b = 16 ∨ b = 35) : lay0[b + 7]? = some (.inl (false, 64)) := by rcases hb with rfl | rfl <;> rfl
theorem lF8 {b : Nat} (hb : b = 16 ∨ b = 35) : lay0[b + 8]? = some (.inl (false, 64)) := by rcases hb with rfl | rfl <;> rfl
theorem lF9 {b : Nat} (hb : b = 16 ∨ b = 35) : lay0[b + 9]? = some (.inr (.inr (4, [(some (some (b + 10))), (some (some (b + 11))), (some (some (b + 12)))]))) := by rcases hb with rfl | rfl <;> rfl
theorem lF10 {b : Nat} (hb : b = 16 ∨ b = 35) : lay0[b + 10]? = some (.inl (false, 64)) := by rcases hb with rfl | rfl <;> rfl
theorem lF11 {b : Nat} (hb : b = 16 ∨ b = 35) : lay0[b + 11]? = some (.inl (false, 64)) := by rcases hb with rfl | rfl <;> rfl
theorem lF12 {b : Nat} (hb : b = 16 ∨ b = 35) : lay0[b + 12]? = some (.inl (false, 64)) := by rcases hb with rfl | rfl <;> rfl
theorem lF13 {b : Nat} (hb : b = 16 ∨ b = 35) : lay0[b + 13]? = some (.inl (false, 64)) := by rcases hb with rfl | rfl <;> rfl
theorem lF14 {b : Nat} (hb : b = 16 ∨ b = 35) : lay0[b + 14]? = some (.inl (false, 64)) := by rcases hb with rfl | rfl <;> rfl
theorem lF15 {b : Nat} (hb : b = 16 ∨ b = 35) : lay0[b + 15]? = some (.inl (false, 16)) := by rcases hb with rfl | rfl <;> rfl
theorem lF16 {b : Nat} (hb : b = 16 ∨ b = 35) : lay0[b + 16]? = some (.inl (false, 16)) := by rcases hb with rfl | rfl <;> rfl
theorem lF17 {b : Nat} (hb : b = 16 ∨ b = 35) : lay0[b + 17]? = some (.inl (false, 16)) := by rcases hb with rfl | rfl <;> rfl
theorem lF18 {b : Nat} (hb : b = 16 ∨ b = 35) : lay0[b + 18]? = some (.inl (false, 16)) := by rcases hb with rfl | rfl <;> rfl
def isW (w : Nat) : Prop := w = 17 ∨ w = 21 ∨ w = 25 ∨ w = 36 ∨ w = 40 ∨ w = 44
theorem lW {w : Nat} (hw : isW w) : lay0[w]? = some (.inr (.inr (4, [some (some (w + 1)), some (some (w + 2)), some (some (w + 3))]))) := by rcases hw with rfl | rfl | rfl | rfl | rfl | rfl <;> rfl
theorem lW1 {w : Nat} (hw : isW w) : lay0[w + 1]? = some (.inl (false, 64)) := by rcases hw with rfl | rfl | rfl | rfl | rfl | rfl <;> rfl
theorem lW2 {w : Nat} (hw : isW w) : lay0[w + 2]? = some (.inl (false, 64)) := by rcases hw with rfl | rfl | rfl | rfl | rfl | rfl <;> rfl
theorem lW3 {w : Nat} (hw : isW w) : lay0[w + 3]? = some (.inl (false, 64)) := by rcases hw with rfl | rfl | rfl | rfl | rfl | rfl <;> rfl
theorem wF1 {b : Nat} (hb : b = 16 ∨ b = 35) : isW (b + 1) := by unfold isW; omega
theorem wF5 {b : Nat} (hb : b = 16 ∨ b = 35) : isW (b + 5) := by unfold isW; omega
theorem wF9 {b : Nat} (hb : b = 16 ∨ b = 35) : isW (b + 9) := by unfold isW; omega
def TBL : List Cond := k2_sels lw_privs ++ tables_1.filter goodWord
theorem tb0 {w : Cond} (h : w ∈ tables_1_1) (g : goodWord w = true) : w ∈ TBL := List.mem_append_right _ (List.mem_filter.mpr ⟨by unfold tables_1; exact List.mem_append_left _ h, g⟩)
theorem tb1 {w : Cond} (h : w ∈ tables_1_2) (g : goodWord w = true) : w ∈ TBL := List.mem_append_right _ (List.mem_filter.mpr ⟨by unfold tables_1; exact List.mem_append_right _ (List.mem_append_left _ h), g⟩)
theorem tb2 {w : Cond} (h : w ∈ tables_1_3) (g : goodWord w = true) : w ∈ TBL := List.mem_append_right _ (List.mem_filter.mpr ⟨by unfold tables_1; exact List.mem_append_right _ (List.mem_append_right _ (List.mem_append_left _ h)), g⟩)
theorem tb3 {w : Cond} (h : w ∈ tables_1_4) (g : goodWord w = true) : w ∈ TBL := List.mem_append_right _ (List.mem_filter.mpr ⟨by unfold tables_1; exact List.mem_append_right _ (List.mem_append_right _ (List.mem_append_right _ (List.mem_append_left _ h))), g⟩)
theorem tb4 {w : Cond} (h : w ∈ tables_1_5) (g : goodWord w = true) : w ∈ TBL := List.mem_append_right _ (List.mem_filter.mpr ⟨by unfold tables_1; exact List.mem_append_right _ (List.mem_append_right _ (List.mem_append_right _ (List.mem_append_right _ (h)))), g⟩)
theorem tbS {q : MethodName × Nat} (h : q ∈ lw_privs) : Cond.selects q.1.cls q.1 q.1 ∈ TBL := List.mem_append_left _ (List.mem_map.mpr ⟨q, h, rfl⟩)
theorem TBL_good : ∀ w ∈ TBL, (w.onTables && w.keeps) = true ∨ ∃ ty, w = .arrayClass ty := by
  intro w hw
  rcases List.mem_append.mp hw with h | h
  · obtain ⟨q, -, rfl⟩ := List.mem_map.mp h
    exact Or.inl rfl
  · exact good_of_word (List.mem_filter.mp h).2
theorem TBL_in : ∀ w ∈ TBL, w ∈ lw_tbl := by
  intro w hw
  rcases List.mem_append.mp hw with h | h
  · exact List.mem_append_left _ h
  · exact List.mem_append_right _ (List.mem_filter.mp h).1
def NEST : List Cond := [.methodLinkNest "ClockTree$Flow" 91 y_CT_slotOf "ClockTree", .methodLinkNest "ClockTree$Flow" 152 y_CT_elementOf "ClockTree", .methodLinkNest "ClockTree$Flow" 165 y_CT_isWithin "ClockTree", .methodLinkNest "ClockTree$Plan" 69 y_CT_isWithin "ClockTree", .methodLinkNest "ClockTree$Clocks" 41 y_CT_slotOf "ClockTree", .methodLinkNest "ClockTree$Clocks" 53 y_CT_elementOf "ClockTree"]
theorem NEST_is : ∀ w ∈ NEST, ∃ (a : String) (i : Nat) (x : MethodName) (h : String), w = .methodLinkNest a i x h := by
  intro w hw
  simp only [NEST, List.mem_cons, List.not_mem_nil, or_false] at hw
  rcases hw with rfl | rfl | rfl | rfl | rfl | rfl <;> exact ⟨_, _, _, _, rfl⟩
theorem ne_Fl_91 : Cond.methodLinkNest "ClockTree$Flow" 91 y_CT_slotOf "ClockTree" ∈ NEST := List.mem_of_getElem? (i := 0) rfl
theorem ne_Fl_152 : Cond.methodLinkNest "ClockTree$Flow" 152 y_CT_elementOf "ClockTree" ∈ NEST := List.mem_of_getElem? (i := 1) rfl
theorem ne_Fl_165 : Cond.methodLinkNest "ClockTree$Flow" 165 y_CT_isWithin "ClockTree" ∈ NEST := List.mem_of_getElem? (i := 2) rfl
theorem ne_Pl_69 : Cond.methodLinkNest "ClockTree$Plan" 69 y_CT_isWithin "ClockTree" ∈ NEST := List.mem_of_getElem? (i := 3) rfl
theorem ne_Ck_41 : Cond.methodLinkNest "ClockTree$Clocks" 41 y_CT_slotOf "ClockTree" ∈ NEST := List.mem_of_getElem? (i := 4) rfl
theorem ne_Ck_53 : Cond.methodLinkNest "ClockTree$Clocks" 53 y_CT_elementOf "ClockTree" ∈ NEST := List.mem_of_getElem? (i := 5) rfl
theorem u_Ca : ∀ w ∈ u_ws R_Ca T_Ca 3, w ∈ TBL := by
  intro w hw
  obtain ⟨k, hk, rfl⟩ := List.mem_map.mp hw
  have hk := List.mem_range.mp hk
  rcases (by omega : k = 0 ∨ k = 1 ∨ k = 2) with rfl | rfl | rfl
  · exact tb0 (List.mem_of_getElem? (i := 232) rfl) rfl
  · exact tb0 (List.mem_of_getElem? (i := 234) rfl) rfl
  · exact tb0 (List.mem_of_getElem? (i := 236) rfl) rfl
theorem u_Ck : ∀ w ∈ u_ws R_Ck T_Ck 4, w ∈ TBL := by
  intro w hw
  obtain ⟨k, hk, rfl⟩ := List.mem_map.mp hw
  have hk := List.mem_range.mp hk
  rcases (by omega : k = 0 ∨ k = 1 ∨ k = 2 ∨ k = 3) with rfl | rfl | rfl | rfl
  · exact tb0 (List.mem_of_getElem? (i := 211) rfl) rfl
  · exact tb0 (List.mem_of_getElem? (i := 213) rfl) rfl
  · exact tb0 (List.mem_of_getElem? (i := 215) rfl) rfl
  · exact tb0 (List.mem_of_getElem? (i := 217) rfl) rfl
theorem u_Fl : ∀ w ∈ u_ws R_Fl T_Fl 15, w ∈ TBL := by
  intro w hw
  obtain ⟨k, hk, rfl⟩ := List.mem_map.mp hw
  have hk := List.mem_range.mp hk
  rcases (by omega : k = 0 ∨ k = 1 ∨ k = 2 ∨ k = 3 ∨ k = 4 ∨ k = 5 ∨ k = 6 ∨ k = 7 ∨ k = 8 ∨ k = 9 ∨ k = 10 ∨ k = 11 ∨ k = 12 ∨ k = 13 ∨ k = 14) with rfl | rfl | rfl | rfl | rfl | rfl | rfl | rfl | rfl | rfl | rfl | rfl | rfl | rfl | rfl
  · exact tb0 (List.mem_of_getElem? (i := 168) rfl) rfl
  · exact tb0 (List.mem_of_getElem? (i := 170) rfl) rfl
  · exact tb0 (List.mem_of_getElem? (i := 172) rfl) rfl
  · exact tb0 (List.mem_of_getElem? (i := 174) rfl) rfl
  · exact tb0 (List.mem_of_getElem? (i := 176) rfl) rfl
  · exact tb0 (List.mem_of_getElem? (i := 178) rfl) rfl
  · exact tb0 (List.mem_of_getElem? (i := 180) rfl) rfl
  · exact tb0 (List.mem_of_getElem? (i := 182) rfl) rfl
  · exact tb0 (List.mem_of_getElem? (i := 184) rfl) rfl
  · exact tb0 (List.mem_of_getElem? (i := 186) rfl) rfl
  · exact tb0 (List.mem_of_getElem? (i := 188) rfl) rfl
  · exact tb0 (List.mem_of_getElem? (i := 190) rfl) rfl
  · exact tb0 (List.mem_of_getElem? (i := 192) rfl) rfl
  · exact tb0 (List.mem_of_getElem? (i := 194) rfl) rfl
  · exact tb0 (List.mem_of_getElem? (i := 196) rfl) rfl
theorem u_Pl : ∀ w ∈ u_ws R_Pl T_Pl 16, w ∈ TBL := by
  intro w hw
  obtain ⟨k, hk, rfl⟩ := List.mem_map.mp hw
  have hk := List.mem_range.mp hk
  rcases (by omega : k = 0 ∨ k = 1 ∨ k = 2 ∨ k = 3 ∨ k = 4 ∨ k = 5 ∨ k = 6 ∨ k = 7 ∨ k = 8 ∨ k = 9 ∨ k = 10 ∨ k = 11 ∨ k = 12 ∨ k = 13 ∨ k = 14 ∨ k = 15) with rfl | rfl | rfl | rfl | rfl | rfl | rfl | rfl | rfl | rfl | rfl | rfl | rfl | rfl | rfl | rfl
  · exact tb0 (List.mem_of_getElem? (i := 83) rfl) rfl
  · exact tb0 (List.mem_of_getElem? (i := 85) rfl) rfl
  · exact tb0 (List.mem_of_getElem? (i := 87) rfl) rfl
  · exact tb0 (List.mem_of_getElem? (i := 89) rfl) rfl
  · exact tb0 (List.mem_of_getElem? (i := 91) rfl) rfl
  · exact tb0 (List.mem_of_getElem? (i := 93) rfl) rfl
  · exact tb0 (List.mem_of_getElem? (i := 95) rfl) rfl
  · exact tb0 (List.mem_of_getElem? (i := 97) rfl) rfl
  · exact tb0 (List.mem_of_getElem? (i := 99) rfl) rfl
  · exact tb0 (List.mem_of_getElem? (i := 101) rfl) rfl
  · exact tb0 (List.mem_of_getElem? (i := 103) rfl) rfl
  · exact tb0 (List.mem_of_getElem? (i := 105) rfl) rfl
  · exact tb0 (List.mem_of_getElem? (i := 107) rfl) rfl
  · exact tb0 (List.mem_of_getElem? (i := 109) rfl) rfl
  · exact tb0 (List.mem_of_getElem? (i := 111) rfl) rfl
  · exact tb0 (List.mem_of_getElem? (i := 113) rfl) rfl
theorem u_Wo : ∀ w ∈ u_ws R_Wo T_Wo 3, w ∈ TBL := by
  intro w hw
  obtain ⟨k, hk, rfl⟩ := List.mem_map.mp hw
  have hk := List.mem_range.mp hk
  rcases (by omega : k = 0 ∨ k = 1 ∨ k = 2) with rfl | rfl | rfl
  · exact tb0 (List.mem_of_getElem? (i := 138) rfl) rfl
  · exact tb0 (List.mem_of_getElem? (i := 140) rfl) rfl
  · exact tb0 (List.mem_of_getElem? (i := 142) rfl) rfl
theorem u_CT : ∀ w ∈ u_ws R_CT T_CT 8, w ∈ TBL := by
  intro w hw
  obtain ⟨k, hk, rfl⟩ := List.mem_map.mp hw
  have hk := List.mem_range.mp hk
  rcases (by omega : k = 0 ∨ k = 1 ∨ k = 2 ∨ k = 3 ∨ k = 4 ∨ k = 5 ∨ k = 6 ∨ k = 7) with rfl | rfl | rfl | rfl | rfl | rfl | rfl | rfl
  · exact tb1 (List.mem_of_getElem? (i := 7) rfl) rfl
  · exact tb1 (List.mem_of_getElem? (i := 9) rfl) rfl
  · exact tb1 (List.mem_of_getElem? (i := 11) rfl) rfl
  · exact tb1 (List.mem_of_getElem? (i := 13) rfl) rfl
  · exact tb1 (List.mem_of_getElem? (i := 15) rfl) rfl
  · exact tb1 (List.mem_of_getElem? (i := 17) rfl) rfl
  · exact tb1 (List.mem_of_getElem? (i := 19) rfl) rfl
  · exact tb1 (List.mem_of_getElem? (i := 21) rfl) rfl
theorem u_Mo : ∀ w ∈ u_ws R_Mo T_Mo 25, w ∈ TBL := by
  intro w hw
  obtain ⟨k, hk, rfl⟩ := List.mem_map.mp hw
  have hk := List.mem_range.mp hk
  rcases (by omega : k = 0 ∨ k = 1 ∨ k = 2 ∨ k = 3 ∨ k = 4 ∨ k = 5 ∨ k = 6 ∨ k = 7 ∨ k = 8 ∨ k = 9 ∨ k = 10 ∨ k = 11 ∨ k = 12 ∨ k = 13 ∨ k = 14 ∨ k = 15 ∨ k = 16 ∨ k = 17 ∨ k = 18 ∨ k = 19 ∨ k = 20 ∨ k = 21 ∨ k = 22 ∨ k = 23 ∨ k = 24) with rfl | rfl | rfl | rfl | rfl | rfl | rfl | rfl | rfl | rfl | rfl | rfl | rfl | rfl | rfl | rfl | rfl | rfl | rfl | rfl | rfl | rfl | rfl | rfl | rfl
  · exact tb3 (List.mem_of_getElem? (i := 2) rfl) rfl
  · exact tb3 (List.mem_of_getElem? (i := 4) rfl) rfl
  · exact tb3 (List.mem_of_getElem? (i := 6) rfl) rfl
  · exact tb3 (List.mem_of_getElem? (i := 8) rfl) rfl
  · exact tb3 (List.mem_of_getElem? (i := 10) rfl) rfl
  · exact tb3 (List.mem_of_getElem? (i := 12) rfl) rfl
  · exact tb3 (List.mem_of_getElem? (i := 14) rfl) rfl
  · exact tb3 (List.mem_of_getElem? (i := 16) rfl) rfl
  · exact tb3 (List.mem_of_getElem? (i := 18) rfl) rfl
  · exact tb3 (List.mem_of_getElem? (i := 20) rfl) rfl
  · exact tb3 (List.mem_of_getElem? (i := 22) rfl) rfl
  · exact tb3 (List.mem_of_getElem? (i := 24) rfl) rfl
  · exact tb3 (List.mem_of_getElem? (i := 26) rfl) rfl
  · exact tb3 (List.mem_of_getElem? (i := 28) rfl) rfl
  · exact tb3 (List.mem_of_getElem? (i := 30) rfl) rfl
  · exact tb3 (List.mem_of_getElem? (i := 32) rfl) rfl
  · exact tb3 (List.mem_of_getElem? (i := 34) rfl) rfl
  · exact tb3 (List.mem_of_getElem? (i := 36) rfl) rfl
  · exact tb3 (List.mem_of_getElem? (i := 38) rfl) rfl
  · exact tb3 (List.mem_of_getElem? (i := 40) rfl) rfl
  · exact tb3 (List.mem_of_getElem? (i := 42) rfl) rfl
  · exact tb3 (List.mem_of_getElem? (i := 44) rfl) rfl
  · exact tb3 (List.mem_of_getElem? (i := 46) rfl) rfl
  · exact tb3 (List.mem_of_getElem? (i := 48) rfl) rfl
  · exact tb3 (List.mem_of_getElem? (i := 50) rfl) rfl
theorem lk_La_73 : Cond.methodLink "ClockTreeLaw" 73 y_CT_init ∈ TBL := tb0 (List.mem_of_getElem? (i := 18) rfl) rfl
theorem lk_CT_11 : Cond.methodLink "ClockTree" 11 y_Pl_init ∈ TBL := tb0 (List.mem_of_getElem? (i := 26) rfl) rfl
theorem lk_Pl_9 : Cond.fieldLink "ClockTree$Plan" 9 "ClockTree$Plan" "there" "[Z" ∈ TBL := tb0 (List.mem_of_getElem? (i := 33) rfl) rfl
theorem lk_CT_61 : Cond.fieldLink "ClockTree" 61 "ClockTree$Plan" "there" "[Z" ∈ TBL := tb0 (List.mem_of_getElem? (i := 34) rfl) rfl
theorem lk_Fl_81 : Cond.fieldLink "ClockTree$Flow" 81 "ClockTree$Plan" "there" "[Z" ∈ TBL := tb0 (List.mem_of_getElem? (i := 35) rfl) rfl
theorem lk_Pl_15 : Cond.fieldLink "ClockTree$Plan" 15 "ClockTree$Plan" "quality" "[I" ∈ TBL := tb0 (List.mem_of_getElem? (i := 36) rfl) rfl
theorem lk_CT_72 : Cond.fieldLink "ClockTree" 72 "ClockTree$Plan" "quality" "[I" ∈ TBL := tb0 (List.mem_of_getElem? (i := 37) rfl) rfl
theorem lk_Fl_199 : Cond.fieldLink "ClockTree$Flow" 199 "ClockTree$Plan" "quality" "[I" ∈ TBL := tb0 (List.mem_of_getElem? (i := 38) rfl) rfl
theorem lk_Pl_19 : Cond.fieldLink "ClockTree$Plan" 19 "ClockTree$Plan" "offset" "[I" ∈ TBL := tb0 (List.mem_of_getElem? (i := 39) rfl) rfl
theorem lk_CT_75 : Cond.fieldLink "ClockTree" 75 "ClockTree$Plan" "offset" "[I" ∈ TBL := tb0 (List.mem_of_getElem? (i := 40) rfl) rfl
theorem lk_Ck_66 : Cond.fieldLink "ClockTree$Clocks" 66 "ClockTree$Plan" "offset" "[I" ∈ TBL := tb0 (List.mem_of_getElem? (i := 41) rfl) rfl
theorem lk_Pl_22 : Cond.fieldLink "ClockTree$Plan" 22 "ClockTree$Plan" "slope" "[I" ∈ TBL := tb0 (List.mem_of_getElem? (i := 42) rfl) rfl
theorem lk_CT_78 : Cond.fieldLink "ClockTree" 78 "ClockTree$Plan" "slope" "[I" ∈ TBL := tb0 (List.mem_of_getElem? (i := 43) rfl) rfl
theorem lk_Ck_63 : Cond.fieldLink "ClockTree$Clocks" 63 "ClockTree$Plan" "slope" "[I" ∈ TBL := tb0 (List.mem_of_getElem? (i := 44) rfl) rfl
theorem lk_Pl_25 : Cond.fieldLink "ClockTree$Plan" 25 "ClockTree$Plan" "restore" "[I" ∈ TBL := tb0 (List.mem_of_getElem? (i := 45) rfl) rfl
theorem lk_CT_122 : Cond.fieldLink "ClockTree" 122 "ClockTree$Plan" "restore" "[I" ∈ TBL := tb0 (List.mem_of_getElem? (i := 46) rfl) rfl
theorem lk_Fl_184 : Cond.fieldLink "ClockTree$Flow" 184 "ClockTree$Plan" "restore" "[I" ∈ TBL := tb0 (List.mem_of_getElem? (i := 47) rfl) rfl
theorem lk_Pl_28 : Cond.fieldLink "ClockTree$Plan" 28 "ClockTree$Plan" "forced" "[I" ∈ TBL := tb0 (List.mem_of_getElem? (i := 48) rfl) rfl
theorem lk_CT_129 : Cond.fieldLink "ClockTree" 129 "ClockTree$Plan" "forced" "[I" ∈ TBL := tb0 (List.mem_of_getElem? (i := 49) rfl) rfl
theorem lk_Fl_178 : Cond.fieldLink "ClockTree$Flow" 178 "ClockTree$Plan" "forced" "[I" ∈ TBL := tb0 (List.mem_of_getElem? (i := 50) rfl) rfl
theorem lk_Pl_31 : Cond.fieldLink "ClockTree$Plan" 31 "ClockTree$Plan" "manual" "[I" ∈ TBL := tb0 (List.mem_of_getElem? (i := 51) rfl) rfl
theorem lk_CT_132 : Cond.fieldLink "ClockTree" 132 "ClockTree$Plan" "manual" "[I" ∈ TBL := tb0 (List.mem_of_getElem? (i := 52) rfl) rfl
theorem lk_Fl_181 : Cond.fieldLink "ClockTree$Flow" 181 "ClockTree$Plan" "manual" "[I" ∈ TBL := tb0 (List.mem_of_getElem? (i := 53) rfl) rfl
theorem lk_Pl_34 : Cond.fieldLink "ClockTree$Plan" 34 "ClockTree$Plan" "linkOf" "[I" ∈ TBL := tb0 (List.mem_of_getElem? (i := 54) rfl) rfl
theorem lk_Ck_45 : Cond.fieldLink "ClockTree$Clocks" 45 "ClockTree$Plan" "linkOf" "[I" ∈ TBL := tb0 (List.mem_of_getElem? (i := 55) rfl) rfl
theorem lk_CT_105 : Cond.fieldLink "ClockTree" 105 "ClockTree$Plan" "linkOf" "[I" ∈ TBL := tb0 (List.mem_of_getElem? (i := 56) rfl) rfl
theorem lk_Fl_115 : Cond.fieldLink "ClockTree$Flow" 115 "ClockTree$Plan" "linkOf" "[I" ∈ TBL := tb0 (List.mem_of_getElem? (i := 57) rfl) rfl
theorem lk_Pl_37 : Cond.fieldLink "ClockTree$Plan" 37 "ClockTree$Plan" "peer" "[I" ∈ TBL := tb0 (List.mem_of_getElem? (i := 58) rfl) rfl
theorem lk_Ck_50 : Cond.fieldLink "ClockTree$Clocks" 50 "ClockTree$Plan" "peer" "[I" ∈ TBL := tb0 (List.mem_of_getElem? (i := 59) rfl) rfl
theorem lk_CT_157 : Cond.fieldLink "ClockTree" 157 "ClockTree$Plan" "peer" "[I" ∈ TBL := tb0 (List.mem_of_getElem? (i := 60) rfl) rfl
theorem lk_Fl_128 : Cond.fieldLink "ClockTree$Flow" 128 "ClockTree$Plan" "peer" "[I" ∈ TBL := tb0 (List.mem_of_getElem? (i := 61) rfl) rfl
theorem lk_Pl_40 : Cond.fieldLink "ClockTree$Plan" 40 "ClockTree$Plan" "sourceQuality" "[I" ∈ TBL := tb0 (List.mem_of_getElem? (i := 62) rfl) rfl
theorem lk_CT_110 : Cond.fieldLink "ClockTree" 110 "ClockTree$Plan" "sourceQuality" "[I" ∈ TBL := tb0 (List.mem_of_getElem? (i := 63) rfl) rfl
theorem lk_Fl_159 : Cond.fieldLink "ClockTree$Flow" 159 "ClockTree$Plan" "sourceQuality" "[I" ∈ TBL := tb0 (List.mem_of_getElem? (i := 64) rfl) rfl
theorem lk_Pl_43 : Cond.fieldLink "ClockTree$Plan" 43 "ClockTree$Plan" "sourceOffset" "[I" ∈ TBL := tb0 (List.mem_of_getElem? (i := 65) rfl) rfl
theorem lk_Ck_57 : Cond.fieldLink "ClockTree$Clocks" 57 "ClockTree$Plan" "sourceOffset" "[I" ∈ TBL := tb0 (List.mem_of_getElem? (i := 66) rfl) rfl
theorem lk_CT_113 : Cond.fieldLink "ClockTree" 113 "ClockTree$Plan" "sourceOffset" "[I" ∈ TBL := tb0 (List.mem_of_getElem? (i := 67) rfl) rfl
theorem lk_Pl_46 : Cond.fieldLink "ClockTree$Plan" 46 "ClockTree$Plan" "priority" "[I" ∈ TBL := tb0 (List.mem_of_getElem? (i := 68) rfl) rfl
theorem lk_CT_116 : Cond.fieldLink "ClockTree" 116 "ClockTree$Plan" "priority" "[I" ∈ TBL := tb0 (List.mem_of_getElem? (i := 69) rfl) rfl
theorem lk_Fl_193 : Cond.fieldLink "ClockTree$Flow" 193 "ClockTree$Plan" "priority" "[I" ∈ TBL := tb0 (List.mem_of_getElem? (i := 70) rfl) rfl
theorem lk_Pl_49 : Cond.fieldLink "ClockTree$Plan" 49 "ClockTree$Plan" "lockedOut" "[Z" ∈ TBL := tb0 (List.mem_of_getElem? (i := 71) rfl) rfl
theorem lk_CT_135 : Cond.fieldLink "ClockTree" 135 "ClockTree$Plan" "lockedOut" "[Z" ∈ TBL := tb0 (List.mem_of_getElem? (i := 72) rfl) rfl
theorem lk_Fl_169 : Cond.fieldLink "ClockTree$Flow" 169 "ClockTree$Plan" "lockedOut" "[Z" ∈ TBL := tb0 (List.mem_of_getElem? (i := 73) rfl) rfl
theorem lk_Pl_52 : Cond.fieldLink "ClockTree$Plan" 52 "ClockTree$Plan" "firstEnd" "[I" ∈ TBL := tb0 (List.mem_of_getElem? (i := 74) rfl) rfl
theorem lk_CT_154 : Cond.fieldLink "ClockTree" 154 "ClockTree$Plan" "firstEnd" "[I" ∈ TBL := tb0 (List.mem_of_getElem? (i := 75) rfl) rfl
theorem lk_Fl_209 : Cond.fieldLink "ClockTree$Flow" 209 "ClockTree$Plan" "firstEnd" "[I" ∈ TBL := tb0 (List.mem_of_getElem? (i := 76) rfl) rfl
theorem lk_Pl_55 : Cond.fieldLink "ClockTree$Plan" 55 "ClockTree$Plan" "links" "I" ∈ TBL := tb0 (List.mem_of_getElem? (i := 77) rfl) rfl
theorem lk_CT_97 : Cond.fieldLink "ClockTree" 97 "ClockTree$Plan" "links" "I" ∈ TBL := tb0 (List.mem_of_getElem? (i := 78) rfl) rfl
theorem lk_Fl_203 : Cond.fieldLink "ClockTree$Flow" 203 "ClockTree$Plan" "links" "I" ∈ TBL := tb0 (List.mem_of_getElem? (i := 79) rfl) rfl
theorem lk_Pl_59 : Cond.fieldLink "ClockTree$Plan" 59 "ClockTree$Plan" "tracing" "Z" ∈ TBL := tb0 (List.mem_of_getElem? (i := 80) rfl) rfl
theorem lk_CT_125 : Cond.fieldLink "ClockTree" 125 "ClockTree$Plan" "tracing" "Z" ∈ TBL := tb0 (List.mem_of_getElem? (i := 81) rfl) rfl
theorem lk_Fl_172 : Cond.fieldLink "ClockTree$Flow" 172 "ClockTree$Plan" "tracing" "Z" ∈ TBL := tb0 (List.mem_of_getElem? (i := 82) rfl) rfl
theorem lk_CT_18 : Cond.methodLink "ClockTree" 18 y_Fl_init ∈ TBL := tb0 (List.mem_of_getElem? (i := 120) rfl) rfl
theorem lk_Fl_11 : Cond.methodLink "ClockTree$Flow" 11 y_Wo_init ∈ TBL := tb0 (List.mem_of_getElem? (i := 126) rfl) rfl
theorem lk_Wo_9 : Cond.fieldLink "ClockTree$Words" 9 "ClockTree$Words" "quality" "[I" ∈ TBL := tb0 (List.mem_of_getElem? (i := 131) rfl) rfl
theorem lk_Fl_144 : Cond.fieldLink "ClockTree$Flow" 144 "ClockTree$Words" "quality" "[I" ∈ TBL := tb0 (List.mem_of_getElem? (i := 132) rfl) rfl
theorem lk_CT_203 : Cond.fieldLink "ClockTree" 203 "ClockTree$Words" "quality" "[I" ∈ TBL := tb0 (List.mem_of_getElem? (i := 133) rfl) rfl
theorem lk_Wo_15 : Cond.fieldLink "ClockTree$Words" 15 "ClockTree$Words" "hops" "[I" ∈ TBL := tb0 (List.mem_of_getElem? (i := 134) rfl) rfl
theorem lk_Fl_145 : Cond.fieldLink "ClockTree$Flow" 145 "ClockTree$Words" "hops" "[I" ∈ TBL := tb0 (List.mem_of_getElem? (i := 135) rfl) rfl
theorem lk_Wo_18 : Cond.fieldLink "ClockTree$Words" 18 "ClockTree$Words" "trace" "[I" ∈ TBL := tb0 (List.mem_of_getElem? (i := 136) rfl) rfl
theorem lk_Fl_146 : Cond.fieldLink "ClockTree$Flow" 146 "ClockTree$Words" "trace" "[I" ∈ TBL := tb0 (List.mem_of_getElem? (i := 137) rfl) rfl
theorem lk_Fl_61 : Cond.fieldLink "ClockTree$Flow" 61 "ClockTree$Flow" "plan" "LClockTree$Plan;" ∈ TBL := tb0 (List.mem_of_getElem? (i := 146) rfl) rfl
theorem lk_Fl_12 : Cond.fieldLink "ClockTree$Flow" 12 "ClockTree$Flow" "got" "LClockTree$Words;" ∈ TBL := tb0 (List.mem_of_getElem? (i := 147) rfl) rfl
theorem lk_Fl_18 : Cond.fieldLink "ClockTree$Flow" 18 "ClockTree$Flow" "sent" "LClockTree$Words;" ∈ TBL := tb0 (List.mem_of_getElem? (i := 148) rfl) rfl
theorem lk_CT_199 : Cond.fieldLink "ClockTree" 199 "ClockTree$Flow" "sent" "LClockTree$Words;" ∈ TBL := tb0 (List.mem_of_getElem? (i := 149) rfl) rfl
theorem lk_Fl_21 : Cond.fieldLink "ClockTree$Flow" 21 "ClockTree$Flow" "offered" "LClockTree$Words;" ∈ TBL := tb0 (List.mem_of_getElem? (i := 150) rfl) rfl
theorem lk_Fl_24 : Cond.fieldLink "ClockTree$Flow" 24 "ClockTree$Flow" "age" "[I" ∈ TBL := tb0 (List.mem_of_getElem? (i := 151) rfl) rfl
theorem lk_Fl_28 : Cond.fieldLink "ClockTree$Flow" 28 "ClockTree$Flow" "usableFor" "[I" ∈ TBL := tb0 (List.mem_of_getElem? (i := 152) rfl) rfl
theorem lk_Fl_31 : Cond.fieldLink "ClockTree$Flow" 31 "ClockTree$Flow" "condition" "[I" ∈ TBL := tb0 (List.mem_of_getElem? (i := 153) rfl) rfl
theorem lk_Ck_60 : Cond.fieldLink "ClockTree$Clocks" 60 "ClockTree$Flow" "condition" "[I" ∈ TBL := tb0 (List.mem_of_getElem? (i := 154) rfl) rfl
theorem lk_Fl_34 : Cond.fieldLink "ClockTree$Flow" 34 "ClockTree$Flow" "chosen" "[I" ∈ TBL := tb0 (List.mem_of_getElem? (i := 155) rfl) rfl
theorem lk_Ca_34 : Cond.fieldLink "ClockTree$Calm" 34 "ClockTree$Flow" "chosen" "[I" ∈ TBL := tb0 (List.mem_of_getElem? (i := 156) rfl) rfl
theorem lk_Ck_38 : Cond.fieldLink "ClockTree$Clocks" 38 "ClockTree$Flow" "chosen" "[I" ∈ TBL := tb0 (List.mem_of_getElem? (i := 157) rfl) rfl
theorem lk_CT_180 : Cond.fieldLink "ClockTree" 180 "ClockTree$Flow" "chosen" "[I" ∈ TBL := tb0 (List.mem_of_getElem? (i := 158) rfl) rfl
theorem lk_Fl_37 : Cond.fieldLink "ClockTree$Flow" 37 "ClockTree$Flow" "hops" "[I" ∈ TBL := tb0 (List.mem_of_getElem? (i := 159) rfl) rfl
theorem lk_CT_183 : Cond.fieldLink "ClockTree" 183 "ClockTree$Flow" "hops" "[I" ∈ TBL := tb0 (List.mem_of_getElem? (i := 160) rfl) rfl
theorem lk_Fl_40 : Cond.fieldLink "ClockTree$Flow" 40 "ClockTree$Flow" "quality" "[I" ∈ TBL := tb0 (List.mem_of_getElem? (i := 161) rfl) rfl
theorem lk_CT_186 : Cond.fieldLink "ClockTree" 186 "ClockTree$Flow" "quality" "[I" ∈ TBL := tb0 (List.mem_of_getElem? (i := 162) rfl) rfl
theorem lk_Fl_43 : Cond.fieldLink "ClockTree$Flow" 43 "ClockTree$Flow" "everLocked" "I" ∈ TBL := tb0 (List.mem_of_getElem? (i := 163) rfl) rfl
theorem lk_Fl_47 : Cond.fieldLink "ClockTree$Flow" 47 "ClockTree$Flow" "failedElements" "I" ∈ TBL := tb0 (List.mem_of_getElem? (i := 164) rfl) rfl
theorem lk_Fl_50 : Cond.fieldLink "ClockTree$Flow" 50 "ClockTree$Flow" "failedLinks" "I" ∈ TBL := tb0 (List.mem_of_getElem? (i := 165) rfl) rfl
theorem lk_Fl_53 : Cond.fieldLink "ClockTree$Flow" 53 "ClockTree$Flow" "lost" "J" ∈ TBL := tb0 (List.mem_of_getElem? (i := 166) rfl) rfl
theorem lk_Fl_57 : Cond.fieldLink "ClockTree$Flow" 57 "ClockTree$Flow" "moved" "Z" ∈ TBL := tb0 (List.mem_of_getElem? (i := 167) rfl) rfl
theorem lk_Ck_9 : Cond.fieldLink "ClockTree$Clocks" 9 "ClockTree$Clocks" "now" "[I" ∈ TBL := tb0 (List.mem_of_getElem? (i := 205) rfl) rfl
theorem lk_CT_187 : Cond.fieldLink "ClockTree" 187 "ClockTree$Clocks" "now" "[I" ∈ TBL := tb0 (List.mem_of_getElem? (i := 206) rfl) rfl
theorem lk_Ck_15 : Cond.fieldLink "ClockTree$Clocks" 15 "ClockTree$Clocks" "before" "[I" ∈ TBL := tb0 (List.mem_of_getElem? (i := 207) rfl) rfl
theorem lk_Ck_18 : Cond.fieldLink "ClockTree$Clocks" 18 "ClockTree$Clocks" "next" "[I" ∈ TBL := tb0 (List.mem_of_getElem? (i := 208) rfl) rfl
theorem lk_Ck_21 : Cond.fieldLink "ClockTree$Clocks" 21 "ClockTree$Clocks" "sum" "[J" ∈ TBL := tb0 (List.mem_of_getElem? (i := 209) rfl) rfl
theorem lk_CT_195 : Cond.fieldLink "ClockTree" 195 "ClockTree$Clocks" "sum" "[J" ∈ TBL := tb0 (List.mem_of_getElem? (i := 210) rfl) rfl
theorem lk_CT_37 : Cond.methodLink "ClockTree" 37 y_Ca_init ∈ TBL := tb0 (List.mem_of_getElem? (i := 223) rfl) rfl
theorem lk_Ca_9 : Cond.fieldLink "ClockTree$Calm" 9 "ClockTree$Calm" "condition" "[I" ∈ TBL := tb0 (List.mem_of_getElem? (i := 228) rfl) rfl
theorem lk_Ca_15 : Cond.fieldLink "ClockTree$Calm" 15 "ClockTree$Calm" "chosen" "[I" ∈ TBL := tb0 (List.mem_of_getElem? (i := 229) rfl) rfl
theorem lk_Ca_18 : Cond.fieldLink "ClockTree$Calm" 18 "ClockTree$Calm" "rounds" "I" ∈ TBL := tb0 (List.mem_of_getElem? (i := 230) rfl) rfl
theorem lk_CT_173 : Cond.fieldLink "ClockTree" 173 "ClockTree$Calm" "rounds" "I" ∈ TBL := tb0 (List.mem_of_getElem? (i := 231) rfl) rfl
theorem lk_CT_12 : Cond.fieldLink "ClockTree" 12 "ClockTree" "plan" "LClockTree$Plan;" ∈ TBL := tb0 (List.mem_of_getElem? (i := 239) rfl) rfl
theorem lk_CT_21 : Cond.fieldLink "ClockTree" 21 "ClockTree" "flow" "LClockTree$Flow;" ∈ TBL := tb1 (List.mem_of_getElem? (i := 0) rfl) rfl
theorem lk_CT_25 : Cond.fieldLink "ClockTree" 25 "ClockTree" "trial" "LClockTree$Flow;" ∈ TBL := tb1 (List.mem_of_getElem? (i := 1) rfl) rfl
theorem lk_CT_31 : Cond.fieldLink "ClockTree" 31 "ClockTree" "clocks" "LClockTree$Clocks;" ∈ TBL := tb1 (List.mem_of_getElem? (i := 2) rfl) rfl
theorem lk_CT_38 : Cond.fieldLink "ClockTree" 38 "ClockTree" "calm" "LClockTree$Calm;" ∈ TBL := tb1 (List.mem_of_getElem? (i := 3) rfl) rfl
theorem lk_CT_42 : Cond.fieldLink "ClockTree" 42 "ClockTree" "findingFailed" "[I" ∈ TBL := tb1 (List.mem_of_getElem? (i := 4) rfl) rfl
theorem lk_CT_46 : Cond.fieldLink "ClockTree" 46 "ClockTree" "findingStarved" "[I" ∈ TBL := tb1 (List.mem_of_getElem? (i := 5) rfl) rfl
theorem lk_CT_49 : Cond.fieldLink "ClockTree" 49 "ClockTree" "findings" "I" ∈ TBL := tb1 (List.mem_of_getElem? (i := 6) rfl) rfl
theorem lk_La_102 : Cond.methodLink "ClockTreeLaw" 102 y_CT_tracing ∈ TBL := tb1 (List.mem_of_getElem? (i := 24) rfl) rfl
theorem lk_La_129 : Cond.methodLink "ClockTreeLaw" 129 y_CT_settled ∈ TBL := tb1 (List.mem_of_getElem? (i := 28) rfl) rfl
theorem lk_La_145 : Cond.methodLink "ClockTreeLaw" 145 y_CT_loop ∈ TBL := tb1 (List.mem_of_getElem? (i := 32) rfl) rfl
theorem lk_CT_206 : Cond.methodLink "ClockTree" 206 y_Fl_follow ∈ TBL := tb1 (List.mem_of_getElem? (i := 36) rfl) rfl
theorem lk_Fl_102 : Cond.methodLink "ClockTree$Flow" 102 y_Fl_isWhole ∈ TBL := tb1 (List.mem_of_getElem? (i := 40) rfl) rfl
theorem lk_Fl_196 : Cond.methodLink "ClockTree$Flow" 196 y_Fl_isLocked ∈ TBL := tb1 (List.mem_of_getElem? (i := 44) rfl) rfl
theorem lk_La_153 : Cond.methodLink "ClockTreeLaw" 153 y_CT_check ∈ TBL := tb1 (List.mem_of_getElem? (i := 54) rfl) rfl
theorem lk_CT_212 : Cond.methodLink "ClockTree" 212 y_Pl_longestRestore ∈ TBL := tb1 (List.mem_of_getElem? (i := 58) rfl) rfl
theorem lk_Pl_80 : Cond.methodLink "ClockTree$Plan" 80 Lib.Math.max.name ∈ TBL := tb1 (List.mem_of_getElem? (i := 62) rfl) rfl
theorem lk_CT_141 : Cond.methodLink "ClockTree" 141 y_Fl_isLinkWhole ∈ TBL := tb1 (List.mem_of_getElem? (i := 65) rfl) rfl
theorem lk_CT_216 : Cond.methodLink "ClockTree" 216 y_Fl_copy ∈ TBL := tb1 (List.mem_of_getElem? (i := 69) rfl) rfl
theorem lk_Fl_71 : Cond.methodLink "ClockTree$Flow" 71 y_Wo_copy ∈ TBL := tb1 (List.mem_of_getElem? (i := 73) rfl) rfl
theorem lk_Wo_27 : Cond.methodLink "ClockTree$Words" 27 arraycopyName ∈ TBL := tb1 (List.mem_of_getElem? (i := 77) rfl) rfl
theorem lk_Fl_75 : Cond.methodLink "ClockTree$Flow" 75 arraycopyName ∈ TBL := tb1 (List.mem_of_getElem? (i := 80) rfl) rfl
theorem lk_CT_144 : Cond.methodLink "ClockTree" 144 y_Fl_setLinkFailed ∈ TBL := tb1 (List.mem_of_getElem? (i := 81) rfl) rfl
theorem lk_CT_219 : Cond.methodLink "ClockTree" 219 y_Fl_passRounds ∈ TBL := tb1 (List.mem_of_getElem? (i := 85) rfl) rfl
theorem lk_Fl_99 : Cond.methodLink "ClockTree$Flow" 99 y_Fl_passRound ∈ TBL := tb1 (List.mem_of_getElem? (i := 89) rfl) rfl
theorem lk_Fl_106 : Cond.methodLink "ClockTree$Flow" 106 y_Fl_listen ∈ TBL := tb1 (List.mem_of_getElem? (i := 93) rfl) rfl
theorem lk_Fl_118 : Cond.methodLink "ClockTree$Flow" 118 y_Fl_hear ∈ TBL := tb1 (List.mem_of_getElem? (i := 97) rfl) rfl
theorem lk_Fl_131 : Cond.methodLink "ClockTree$Flow" 131 Lib.Math.min.name ∈ TBL := tb1 (List.mem_of_getElem? (i := 101) rfl) rfl
theorem lk_Fl_136 : Cond.methodLink "ClockTree$Flow" 136 y_Fl_comes ∈ TBL := tb1 (List.mem_of_getElem? (i := 104) rfl) rfl
theorem lk_Fl_149 : Cond.methodLink "ClockTree$Flow" 149 y_Fl_isLinkWhole ∈ TBL := tb1 (List.mem_of_getElem? (i := 108) rfl) rfl
theorem lk_Fl_140 : Cond.methodLink "ClockTree$Flow" 140 y_Wo_isSame ∈ TBL := tb1 (List.mem_of_getElem? (i := 109) rfl) rfl
theorem lk_Fl_95 : Cond.methodLink "ClockTree$Flow" 95 y_Wo_write ∈ TBL := tb1 (List.mem_of_getElem? (i := 113) rfl) rfl
theorem lk_Fl_121 : Cond.methodLink "ClockTree$Flow" 121 y_Fl_weigh ∈ TBL := tb1 (List.mem_of_getElem? (i := 117) rfl) rfl
theorem lk_Fl_156 : Cond.methodLink "ClockTree$Flow" 156 y_Pl_hasSource ∈ TBL := tb1 (List.mem_of_getElem? (i := 121) rfl) rfl
theorem lk_Fl_124 : Cond.methodLink "ClockTree$Flow" 124 y_Fl_countUsable ∈ TBL := tb1 (List.mem_of_getElem? (i := 125) rfl) rfl
theorem lk_Fl_162 : Cond.methodLink "ClockTree$Flow" 162 y_Fl_isUsable ∈ TBL := tb1 (List.mem_of_getElem? (i := 129) rfl) rfl
theorem lk_Fl_109 : Cond.methodLink "ClockTree$Flow" 109 y_Fl_decide ∈ TBL := tb1 (List.mem_of_getElem? (i := 136) rfl) rfl
theorem lk_Fl_175 : Cond.methodLink "ClockTree$Flow" 175 y_Fl_choose ∈ TBL := tb1 (List.mem_of_getElem? (i := 140) rfl) rfl
theorem lk_Fl_187 : Cond.methodLink "ClockTree$Flow" 187 y_Fl_bestPort ∈ TBL := tb1 (List.mem_of_getElem? (i := 144) rfl) rfl
theorem lk_Fl_190 : Cond.methodLink "ClockTree$Flow" 190 y_Fl_isBetter ∈ TBL := tb1 (List.mem_of_getElem? (i := 148) rfl) rfl
theorem lk_Fl_112 : Cond.methodLink "ClockTree$Flow" 112 y_Fl_speak ∈ TBL := tb1 (List.mem_of_getElem? (i := 152) rfl) rfl
theorem lk_CT_222 : Cond.methodLink "ClockTree" 222 y_CT_findStarved ∈ TBL := tb1 (List.mem_of_getElem? (i := 156) rfl) rfl
theorem lk_CT_225 : Cond.methodLink "ClockTree" 225 y_Fl_isStarved ∈ TBL := tb1 (List.mem_of_getElem? (i := 160) rfl) rfl
theorem lk_Fl_212 : Cond.methodLink "ClockTree$Flow" 212 y_Fl_bestReached ∈ TBL := tb1 (List.mem_of_getElem? (i := 164) rfl) rfl
theorem lk_Fl_200 : Cond.methodLink "ClockTree$Flow" 200 y_Fl_reachedFrom ∈ TBL := tb1 (List.mem_of_getElem? (i := 168) rfl) rfl
theorem lk_Fl_206 : Cond.methodLink "ClockTree$Flow" 206 y_Fl_across ∈ TBL := tb1 (List.mem_of_getElem? (i := 172) rfl) rfl
theorem lk_CT_148 : Cond.methodLink "ClockTree" 148 y_Fl_isWhole ∈ TBL := tb1 (List.mem_of_getElem? (i := 176) rfl) rfl
theorem lk_CT_151 : Cond.methodLink "ClockTree" 151 y_Fl_setElementFailed ∈ TBL := tb1 (List.mem_of_getElem? (i := 177) rfl) rfl
theorem lk_Fl_87 : Cond.methodLink "ClockTree$Flow" 87 y_Fl_forget ∈ TBL := tb1 (List.mem_of_getElem? (i := 181) rfl) rfl
theorem lk_La_77 : Cond.methodLink "ClockTreeLaw" 77 y_La_element ∈ TBL := tb1 (List.mem_of_getElem? (i := 185) rfl) rfl
theorem lk_La_7 : Cond.methodLink "ClockTreeLaw" 7 y_CT_element ∈ TBL := tb1 (List.mem_of_getElem? (i := 190) rfl) rfl
theorem lk_CT_53 : Cond.methodLink "ClockTree" 53 y_CT_isWithin ∈ TBL := tb1 (List.mem_of_getElem? (i := 194) rfl) rfl
theorem lk_CT_57 : Cond.methodLink "ClockTree" 57 y_CT_refuseUnless ∈ TBL := tb1 (List.mem_of_getElem? (i := 195) rfl) rfl
theorem lk_CT_81 : Cond.methodLink "ClockTree" 81 y_Ck_start ∈ TBL := tb2 (List.mem_of_getElem? (i := 41) rfl) rfl
theorem lk_La_87 : Cond.methodLink "ClockTreeLaw" 87 y_La_link ∈ TBL := tb2 (List.mem_of_getElem? (i := 45) rfl) rfl
theorem lk_La_17 : Cond.methodLink "ClockTreeLaw" 17 y_CT_link ∈ TBL := tb2 (List.mem_of_getElem? (i := 48) rfl) rfl
theorem lk_CT_85 : Cond.methodLink "ClockTree" 85 y_Pl_isPort ∈ TBL := tb2 (List.mem_of_getElem? (i := 52) rfl) rfl
theorem lk_Pl_73 : Cond.methodLink "ClockTree$Plan" 73 y_Pl_isThere ∈ TBL := tb2 (List.mem_of_getElem? (i := 56) rfl) rfl
theorem lk_CT_89 : Cond.methodLink "ClockTree" 89 y_CT_slotOf ∈ TBL := tb2 (List.mem_of_getElem? (i := 61) rfl) rfl
theorem lk_CT_93 : Cond.methodLink "ClockTree" 93 y_Pl_isTaken ∈ TBL := tb2 (List.mem_of_getElem? (i := 62) rfl) rfl
theorem lk_Pl_77 : Cond.methodLink "ClockTree$Plan" 77 y_Pl_hasSource ∈ TBL := tb2 (List.mem_of_getElem? (i := 66) rfl) rfl
theorem lk_CT_102 : Cond.methodLink "ClockTree" 102 y_Pl_join ∈ TBL := tb2 (List.mem_of_getElem? (i := 68) rfl) rfl
theorem lk_La_91 : Cond.methodLink "ClockTreeLaw" 91 y_La_source ∈ TBL := tb2 (List.mem_of_getElem? (i := 72) rfl) rfl
theorem lk_La_21 : Cond.methodLink "ClockTreeLaw" 21 y_CT_source ∈ TBL := tb2 (List.mem_of_getElem? (i := 75) rfl) rfl
theorem lk_La_94 : Cond.methodLink "ClockTreeLaw" 94 y_La_priority ∈ TBL := tb2 (List.mem_of_getElem? (i := 80) rfl) rfl
theorem lk_La_24 : Cond.methodLink "ClockTreeLaw" 24 y_CT_priority ∈ TBL := tb2 (List.mem_of_getElem? (i := 83) rfl) rfl
theorem lk_La_98 : Cond.methodLink "ClockTreeLaw" 98 y_La_restore ∈ TBL := tb2 (List.mem_of_getElem? (i := 87) rfl) rfl
theorem lk_La_28 : Cond.methodLink "ClockTreeLaw" 28 y_CT_restore ∈ TBL := tb2 (List.mem_of_getElem? (i := 90) rfl) rfl
theorem lk_CT_119 : Cond.methodLink "ClockTree" 119 y_Pl_isThere ∈ TBL := tb2 (List.mem_of_getElem? (i := 94) rfl) rfl
theorem lk_La_107 : Cond.methodLink "ClockTreeLaw" 107 y_La_command ∈ TBL := tb2 (List.mem_of_getElem? (i := 95) rfl) rfl
theorem lk_La_32 : Cond.methodLink "ClockTreeLaw" 32 y_CT_command ∈ TBL := tb2 (List.mem_of_getElem? (i := 98) rfl) rfl
theorem lk_La_110 : Cond.methodLink "ClockTreeLaw" 110 y_La_lockout ∈ TBL := tb2 (List.mem_of_getElem? (i := 102) rfl) rfl
theorem lk_La_35 : Cond.methodLink "ClockTreeLaw" 35 y_CT_lockout ∈ TBL := tb2 (List.mem_of_getElem? (i := 105) rfl) rfl
theorem lk_La_114 : Cond.methodLink "ClockTreeLaw" 114 y_La_fail ∈ TBL := tb2 (List.mem_of_getElem? (i := 109) rfl) rfl
theorem lk_La_39 : Cond.methodLink "ClockTreeLaw" 39 y_CT_fail ∈ TBL := tb2 (List.mem_of_getElem? (i := 112) rfl) rfl
theorem lk_CT_138 : Cond.methodLink "ClockTree" 138 y_Pl_isLink ∈ TBL := tb2 (List.mem_of_getElem? (i := 116) rfl) rfl
theorem lk_La_118 : Cond.methodLink "ClockTreeLaw" 118 y_La_failElement ∈ TBL := tb2 (List.mem_of_getElem? (i := 120) rfl) rfl
theorem lk_La_43 : Cond.methodLink "ClockTreeLaw" 43 y_CT_failElement ∈ TBL := tb2 (List.mem_of_getElem? (i := 123) rfl) rfl
theorem lk_La_121 : Cond.methodLink "ClockTreeLaw" 121 y_La_lose ∈ TBL := tb2 (List.mem_of_getElem? (i := 127) rfl) rfl
theorem lk_La_46 : Cond.methodLink "ClockTreeLaw" 46 y_CT_lose ∈ TBL := tb2 (List.mem_of_getElem? (i := 130) rfl) rfl
theorem lk_CT_160 : Cond.methodLink "ClockTree" 160 y_Fl_loseFrom ∈ TBL := tb2 (List.mem_of_getElem? (i := 134) rfl) rfl
theorem lk_La_125 : Cond.methodLink "ClockTreeLaw" 125 y_La_rounds ∈ TBL := tb2 (List.mem_of_getElem? (i := 138) rfl) rfl
theorem lk_La_50 : Cond.methodLink "ClockTreeLaw" 50 y_CT_rounds ∈ TBL := tb2 (List.mem_of_getElem? (i := 141) rfl) rfl
theorem lk_CT_164 : Cond.methodLink "ClockTree" 164 y_Fl_passRound ∈ TBL := tb2 (List.mem_of_getElem? (i := 145) rfl) rfl
theorem lk_CT_167 : Cond.methodLink "ClockTree" 167 y_Ck_passRound ∈ TBL := tb2 (List.mem_of_getElem? (i := 146) rfl) rfl
theorem lk_Ck_25 : Cond.methodLink "ClockTree$Clocks" 25 y_Fl_isWhole ∈ TBL := tb2 (List.mem_of_getElem? (i := 150) rfl) rfl
theorem lk_Ck_31 : Cond.methodLink "ClockTree$Clocks" 31 y_Ck_offsetAfter ∈ TBL := tb2 (List.mem_of_getElem? (i := 151) rfl) rfl
theorem lk_Ck_35 : Cond.methodLink "ClockTree$Clocks" 35 y_Fl_isLocked ∈ TBL := tb2 (List.mem_of_getElem? (i := 155) rfl) rfl
theorem lk_CT_170 : Cond.methodLink "ClockTree" 170 y_Ca_passRound ∈ TBL := tb2 (List.mem_of_getElem? (i := 158) rfl) rfl
theorem lk_Ca_28 : Cond.methodLink "ClockTree$Calm" 28 y_Fl_shownCondition ∈ TBL := tb2 (List.mem_of_getElem? (i := 162) rfl) rfl
theorem lk_La_133 : Cond.methodLink "ClockTreeLaw" 133 y_La_state ∈ TBL := tb2 (List.mem_of_getElem? (i := 166) rfl) rfl
theorem lk_La_54 : Cond.methodLink "ClockTreeLaw" 54 y_CT_state ∈ TBL := tb2 (List.mem_of_getElem? (i := 169) rfl) rfl
theorem lk_CT_176 : Cond.methodLink "ClockTree" 176 y_Fl_shownCondition ∈ TBL := tb2 (List.mem_of_getElem? (i := 173) rfl) rfl
theorem lk_La_136 : Cond.methodLink "ClockTreeLaw" 136 y_La_phase ∈ TBL := tb2 (List.mem_of_getElem? (i := 175) rfl) rfl
theorem lk_La_57 : Cond.methodLink "ClockTreeLaw" 57 y_CT_phase ∈ TBL := tb2 (List.mem_of_getElem? (i := 178) rfl) rfl
theorem lk_La_139 : Cond.methodLink "ClockTreeLaw" 139 y_La_sends ∈ TBL := tb2 (List.mem_of_getElem? (i := 182) rfl) rfl
theorem lk_La_61 : Cond.methodLink "ClockTreeLaw" 61 y_CT_sends ∈ TBL := tb2 (List.mem_of_getElem? (i := 185) rfl) rfl
theorem lk_La_142 : Cond.methodLink "ClockTreeLaw" 142 y_La_traced ∈ TBL := tb2 (List.mem_of_getElem? (i := 189) rfl) rfl
theorem lk_La_64 : Cond.methodLink "ClockTreeLaw" 64 y_CT_traced ∈ TBL := tb2 (List.mem_of_getElem? (i := 192) rfl) rfl
theorem lk_La_150 : Cond.methodLink "ClockTreeLaw" 150 y_La_best ∈ TBL := tb2 (List.mem_of_getElem? (i := 196) rfl) rfl
theorem lk_La_67 : Cond.methodLink "ClockTreeLaw" 67 y_CT_best ∈ TBL := tb2 (List.mem_of_getElem? (i := 199) rfl) rfl
theorem lk_CT_209 : Cond.methodLink "ClockTree" 209 y_Fl_bestReached ∈ TBL := tb2 (List.mem_of_getElem? (i := 203) rfl) rfl
theorem lk_La_157 : Cond.methodLink "ClockTreeLaw" 157 y_La_finding ∈ TBL := tb2 (List.mem_of_getElem? (i := 204) rfl) rfl
theorem lk_La_70 : Cond.methodLink "ClockTreeLaw" 70 y_CT_finding ∈ TBL := tb2 (List.mem_of_getElem? (i := 207) rfl) rfl
theorem lk_La_76 : Cond.methodLink "ClockTreeLaw" 76 y_Mo_init ∈ TBL := tb2 (List.mem_of_getElem? (i := 213) rfl) rfl
theorem lk_Mo_7 : Cond.fieldLink "ClockTreeModel" 7 "ClockTreeModel" "thrownCode" "I" ∈ TBL := tb2 (List.mem_of_getElem? (i := 217) rfl) rfl
theorem lk_Mo_13 : Cond.fieldLink "ClockTreeModel" 13 "ClockTreeModel" "trace" "Z" ∈ TBL := tb2 (List.mem_of_getElem? (i := 218) rfl) rfl
theorem lk_Mo_17 : Cond.fieldLink "ClockTreeModel" 17 "ClockTreeModel" "there" "[Z" ∈ TBL := tb2 (List.mem_of_getElem? (i := 219) rfl) rfl
theorem lk_Mo_21 : Cond.fieldLink "ClockTreeModel" 21 "ClockTreeModel" "quality" "[I" ∈ TBL := tb2 (List.mem_of_getElem? (i := 220) rfl) rfl
theorem lk_Mo_25 : Cond.fieldLink "ClockTreeModel" 25 "ClockTreeModel" "offset0" "[I" ∈ TBL := tb2 (List.mem_of_getElem? (i := 221) rfl) rfl
theorem lk_Mo_28 : Cond.fieldLink "ClockTreeModel" 28 "ClockTreeModel" "slope" "[I" ∈ TBL := tb2 (List.mem_of_getElem? (i := 222) rfl) rfl
theorem lk_Mo_31 : Cond.fieldLink "ClockTreeModel" 31 "ClockTreeModel" "restore" "[I" ∈ TBL := tb2 (List.mem_of_getElem? (i := 223) rfl) rfl
theorem lk_Mo_34 : Cond.fieldLink "ClockTreeModel" 34 "ClockTreeModel" "forced" "[I" ∈ TBL := tb2 (List.mem_of_getElem? (i := 224) rfl) rfl
theorem lk_Mo_37 : Cond.fieldLink "ClockTreeModel" 37 "ClockTreeModel" "manual" "[I" ∈ TBL := tb2 (List.mem_of_getElem? (i := 225) rfl) rfl
theorem lk_Mo_40 : Cond.fieldLink "ClockTreeModel" 40 "ClockTreeModel" "source" "[I" ∈ TBL := tb2 (List.mem_of_getElem? (i := 226) rfl) rfl
theorem lk_Mo_43 : Cond.fieldLink "ClockTreeModel" 43 "ClockTreeModel" "sourceOffset" "[I" ∈ TBL := tb2 (List.mem_of_getElem? (i := 227) rfl) rfl
theorem lk_Mo_46 : Cond.fieldLink "ClockTreeModel" 46 "ClockTreeModel" "linkOf" "[I" ∈ TBL := tb2 (List.mem_of_getElem? (i := 228) rfl) rfl
theorem lk_Mo_49 : Cond.fieldLink "ClockTreeModel" 49 "ClockTreeModel" "prior" "[I" ∈ TBL := tb2 (List.mem_of_getElem? (i := 229) rfl) rfl
theorem lk_Mo_52 : Cond.fieldLink "ClockTreeModel" 52 "ClockTreeModel" "out" "[Z" ∈ TBL := tb2 (List.mem_of_getElem? (i := 230) rfl) rfl
theorem lk_Mo_55 : Cond.fieldLink "ClockTreeModel" 55 "ClockTreeModel" "links" "I" ∈ TBL := tb2 (List.mem_of_getElem? (i := 231) rfl) rfl
theorem lk_Mo_58 : Cond.fieldLink "ClockTreeModel" 58 "ClockTreeModel" "one" "[I" ∈ TBL := tb2 (List.mem_of_getElem? (i := 232) rfl) rfl
theorem lk_Mo_61 : Cond.fieldLink "ClockTreeModel" 61 "ClockTreeModel" "two" "[I" ∈ TBL := tb2 (List.mem_of_getElem? (i := 233) rfl) rfl
theorem lk_Mo_64 : Cond.fieldLink "ClockTreeModel" 64 "ClockTreeModel" "net" "[I" ∈ TBL := tb2 (List.mem_of_getElem? (i := 234) rfl) rfl
theorem lk_Mo_67 : Cond.fieldLink "ClockTreeModel" 67 "ClockTreeModel" "kept" "[I" ∈ TBL := tb2 (List.mem_of_getElem? (i := 235) rfl) rfl
theorem lk_Mo_70 : Cond.fieldLink "ClockTreeModel" 70 "ClockTreeModel" "phases" "[J" ∈ TBL := tb2 (List.mem_of_getElem? (i := 236) rfl) rfl
theorem lk_Mo_74 : Cond.fieldLink "ClockTreeModel" 74 "ClockTreeModel" "keptPhases" "[J" ∈ TBL := tb2 (List.mem_of_getElem? (i := 237) rfl) rfl
theorem lk_Mo_77 : Cond.fieldLink "ClockTreeModel" 77 "ClockTreeModel" "fresh" "[I" ∈ TBL := tb2 (List.mem_of_getElem? (i := 238) rfl) rfl
theorem lk_Mo_80 : Cond.fieldLink "ClockTreeModel" 80 "ClockTreeModel" "findings" "I" ∈ TBL := tb2 (List.mem_of_getElem? (i := 239) rfl) rfl
theorem lk_Mo_83 : Cond.fieldLink "ClockTreeModel" 83 "ClockTreeModel" "failedThere" "[I" ∈ TBL := tb3 (List.mem_of_getElem? (i := 0) rfl) rfl
theorem lk_Mo_86 : Cond.fieldLink "ClockTreeModel" 86 "ClockTreeModel" "starved" "[I" ∈ TBL := tb3 (List.mem_of_getElem? (i := 1) rfl) rfl
theorem lk_La_83 : Cond.methodLink "ClockTreeLaw" 83 y_Mo_thrown ∈ TBL := tb3 (List.mem_of_getElem? (i := 53) rfl) rfl
theorem lk_La_82 : Cond.methodLink "ClockTreeLaw" 82 y_Mo_element ∈ TBL := tb3 (List.mem_of_getElem? (i := 57) rfl) rfl
theorem lk_La_90 : Cond.methodLink "ClockTreeLaw" 90 y_Mo_link ∈ TBL := tb3 (List.mem_of_getElem? (i := 61) rfl) rfl
theorem lk_Mo_152 : Cond.methodLink "ClockTreeModel" 152 y_Mo_noPort ∈ TBL := tb3 (List.mem_of_getElem? (i := 65) rfl) rfl
theorem lk_Mo_149 : Cond.methodLink "ClockTreeModel" 149 y_Mo_noElement ∈ TBL := tb3 (List.mem_of_getElem? (i := 69) rfl) rfl
theorem lk_La_93 : Cond.methodLink "ClockTreeLaw" 93 y_Mo_source ∈ TBL := tb3 (List.mem_of_getElem? (i := 73) rfl) rfl
theorem lk_La_97 : Cond.methodLink "ClockTreeLaw" 97 y_Mo_priority ∈ TBL := tb3 (List.mem_of_getElem? (i := 77) rfl) rfl
theorem lk_La_101 : Cond.methodLink "ClockTreeLaw" 101 y_Mo_restore ∈ TBL := tb3 (List.mem_of_getElem? (i := 81) rfl) rfl
theorem lk_La_106 : Cond.methodLink "ClockTreeLaw" 106 y_Mo_tracing ∈ TBL := tb3 (List.mem_of_getElem? (i := 85) rfl) rfl
theorem lk_La_109 : Cond.methodLink "ClockTreeLaw" 109 y_Mo_command ∈ TBL := tb3 (List.mem_of_getElem? (i := 89) rfl) rfl
theorem lk_La_113 : Cond.methodLink "ClockTreeLaw" 113 y_Mo_lockout ∈ TBL := tb3 (List.mem_of_getElem? (i := 93) rfl) rfl
theorem lk_La_117 : Cond.methodLink "ClockTreeLaw" 117 y_Mo_fail ∈ TBL := tb3 (List.mem_of_getElem? (i := 97) rfl) rfl
theorem lk_Mo_155 : Cond.methodLink "ClockTreeModel" 155 y_Mo_noLink ∈ TBL := tb3 (List.mem_of_getElem? (i := 101) rfl) rfl
theorem lk_La_120 : Cond.methodLink "ClockTreeLaw" 120 y_Mo_failElement ∈ TBL := tb3 (List.mem_of_getElem? (i := 105) rfl) rfl
theorem lk_Mo_158 : Cond.methodLink "ClockTreeModel" 158 y_Mo_breakDown ∈ TBL := tb3 (List.mem_of_getElem? (i := 109) rfl) rfl
theorem lk_Mo_133 : Cond.methodLink "ClockTreeModel" 133 y_Mo_sentNothing ∈ TBL := tb3 (List.mem_of_getElem? (i := 113) rfl) rfl
theorem lk_Mo_161 : Cond.methodLink "ClockTreeModel" 161 y_Mo_comesBack ∈ TBL := tb3 (List.mem_of_getElem? (i := 117) rfl) rfl
theorem lk_La_124 : Cond.methodLink "ClockTreeLaw" 124 y_Mo_lose ∈ TBL := tb3 (List.mem_of_getElem? (i := 121) rfl) rfl
theorem lk_La_128 : Cond.methodLink "ClockTreeLaw" 128 y_Mo_rounds ∈ TBL := tb3 (List.mem_of_getElem? (i := 125) rfl) rfl
theorem lk_Mo_139 : Cond.methodLink "ClockTreeModel" 139 y_Mo_round ∈ TBL := tb3 (List.mem_of_getElem? (i := 129) rfl) rfl
theorem lk_Mo_93 : Cond.methodLink "ClockTreeModel" 93 y_Mo_whole ∈ TBL := tb3 (List.mem_of_getElem? (i := 133) rfl) rfl
theorem lk_Mo_120 : Cond.methodLink "ClockTreeModel" 120 y_Mo_gets ∈ TBL := tb3 (List.mem_of_getElem? (i := 137) rfl) rfl
theorem lk_Mo_89 : Cond.methodLink "ClockTreeModel" 89 y_Mo_across ∈ TBL := tb3 (List.mem_of_getElem? (i := 141) rfl) rfl
theorem lk_Mo_124 : Cond.methodLink "ClockTreeModel" 124 y_Mo_chooses ∈ TBL := tb3 (List.mem_of_getElem? (i := 145) rfl) rfl
theorem lk_Mo_114 : Cond.methodLink "ClockTreeModel" 114 y_Mo_usable ∈ TBL := tb3 (List.mem_of_getElem? (i := 149) rfl) rfl
theorem lk_Mo_97 : Cond.methodLink "ClockTreeModel" 97 y_Mo_hasWord ∈ TBL := tb3 (List.mem_of_getElem? (i := 153) rfl) rfl
theorem lk_Mo_117 : Cond.methodLink "ClockTreeModel" 117 y_Mo_choice ∈ TBL := tb3 (List.mem_of_getElem? (i := 157) rfl) rfl
theorem lk_Mo_110 : Cond.methodLink "ClockTreeModel" 110 y_Mo_bestOf ∈ TBL := tb3 (List.mem_of_getElem? (i := 161) rfl) rfl
theorem lk_Mo_106 : Cond.methodLink "ClockTreeModel" 106 y_Mo_better ∈ TBL := tb3 (List.mem_of_getElem? (i := 165) rfl) rfl
theorem lk_Mo_100 : Cond.methodLink "ClockTreeModel" 100 y_Mo_qualityOf ∈ TBL := tb3 (List.mem_of_getElem? (i := 169) rfl) rfl
theorem lk_Mo_103 : Cond.methodLink "ClockTreeModel" 103 y_Mo_hopsOf ∈ TBL := tb3 (List.mem_of_getElem? (i := 173) rfl) rfl
theorem lk_Mo_127 : Cond.methodLink "ClockTreeModel" 127 y_Mo_stateOf ∈ TBL := tb3 (List.mem_of_getElem? (i := 177) rfl) rfl
theorem lk_Mo_130 : Cond.methodLink "ClockTreeModel" 130 y_Mo_portOf ∈ TBL := tb3 (List.mem_of_getElem? (i := 181) rfl) rfl
theorem lk_La_132 : Cond.methodLink "ClockTreeLaw" 132 y_Mo_settled ∈ TBL := tb3 (List.mem_of_getElem? (i := 185) rfl) rfl
theorem lk_La_135 : Cond.methodLink "ClockTreeLaw" 135 y_Mo_state ∈ TBL := tb3 (List.mem_of_getElem? (i := 189) rfl) rfl
theorem lk_La_138 : Cond.methodLink "ClockTreeLaw" 138 y_Mo_phase ∈ TBL := tb3 (List.mem_of_getElem? (i := 193) rfl) rfl
theorem lk_La_141 : Cond.methodLink "ClockTreeLaw" 141 y_Mo_sends ∈ TBL := tb3 (List.mem_of_getElem? (i := 197) rfl) rfl
theorem lk_La_144 : Cond.methodLink "ClockTreeLaw" 144 y_Mo_traced ∈ TBL := tb3 (List.mem_of_getElem? (i := 201) rfl) rfl
theorem lk_Mo_164 : Cond.methodLink "ClockTreeModel" 164 y_Mo_followed ∈ TBL := tb3 (List.mem_of_getElem? (i := 205) rfl) rfl
theorem lk_La_149 : Cond.methodLink "ClockTreeLaw" 149 y_Mo_loop ∈ TBL := tb3 (List.mem_of_getElem? (i := 209) rfl) rfl
theorem lk_La_152 : Cond.methodLink "ClockTreeLaw" 152 y_Mo_best ∈ TBL := tb3 (List.mem_of_getElem? (i := 213) rfl) rfl
theorem lk_Mo_142 : Cond.methodLink "ClockTreeModel" 142 y_Mo_bestFor ∈ TBL := tb3 (List.mem_of_getElem? (i := 217) rfl) rfl
theorem lk_Mo_136 : Cond.methodLink "ClockTreeModel" 136 y_Mo_reached ∈ TBL := tb3 (List.mem_of_getElem? (i := 221) rfl) rfl
theorem lk_La_156 : Cond.methodLink "ClockTreeLaw" 156 y_Mo_check ∈ TBL := tb3 (List.mem_of_getElem? (i := 225) rfl) rfl
theorem lk_Mo_145 : Cond.methodLink "ClockTreeModel" 145 y_Mo_keep ∈ TBL := tb3 (List.mem_of_getElem? (i := 229) rfl) rfl
theorem lk_Mo_167 : Cond.methodLink "ClockTreeModel" 167 y_Mo_goOn ∈ TBL := tb3 (List.mem_of_getElem? (i := 233) rfl) rfl
theorem lk_La_159 : Cond.methodLink "ClockTreeLaw" 159 y_Mo_finding ∈ TBL := tb3 (List.mem_of_getElem? (i := 237) rfl) rfl
theorem m_CT_tracing : Cond.instanceMethod y_CT_tracing ∈ TBL ∧ Cond.selects y_CT_tracing.cls y_CT_tracing y_CT_tracing ∈ TBL ∧ Cond.initialized y_CT_tracing.cls ∈ TBL ∧ Cond.code y_CT_tracing prog_1_method_7_code 3 (some .boolean) ∈ TBL ∧ y_CT_tracing.cls ≠ "java/lang/invoke/MethodHandle" ∧ y_CT_tracing.cls ≠ "java/lang/invoke/VarHandle" ∧ (parseMethodDescriptor y_CT_tracing.desc).map (fun d => d.parameters.length) = some 1 := ⟨tb1 (List.mem_of_getElem? (i := 25) rfl) rfl, tb1 (List.mem_of_getElem? (i := 26) rfl) rfl, tb0 (List.mem_of_getElem? (i := 1) rfl) rfl, tb1 (List.mem_of_getElem? (i := 27) rfl) rfl, by decide, by decide, by decide +kernel⟩
theorem m_CT_settled : Cond.instanceMethod y_CT_settled ∈ TBL ∧ Cond.selects y_CT_settled.cls y_CT_settled y_CT_settled ∈ TBL ∧ Cond.initialized y_CT_settled.cls ∈ TBL ∧ Cond.code y_CT_settled prog_1_method_14_code 1 (some .int) ∈ TBL ∧ y_CT_settled.cls ≠ "java/lang/invoke/MethodHandle" ∧ y_CT_settled.cls ≠ "java/lang/invoke/VarHandle" ∧ (parseMethodDescriptor y_CT_settled.desc).map (fun d => d.parameters.length) = some 0 := ⟨tb1 (List.mem_of_getElem? (i := 29) rfl) rfl, tb1 (List.mem_of_getElem? (i := 30) rfl) rfl, tb0 (List.mem_of_getElem? (i := 1) rfl) rfl, tb1 (List.mem_of_getElem? (i := 31) rfl) rfl, by decide, by decide, by decide +kernel⟩
theorem m_CT_loop : Cond.instanceMethod y_CT_loop ∈ TBL ∧ Cond.selects y_CT_loop.cls y_CT_loop y_CT_loop ∈ TBL ∧ Cond.initialized y_CT_loop.cls ∈ TBL ∧ Cond.code y_CT_loop prog_1_method_19_code 2 (some .boolean) ∈ TBL ∧ y_CT_loop.cls ≠ "java/lang/invoke/MethodHandle" ∧ y_CT_loop.cls ≠ "java/lang/invoke/VarHandle" ∧ (parseMethodDescriptor y_CT_loop.desc).map (fun d => d.parameters.length) = some 0 := ⟨tb1 (List.mem_of_getElem? (i := 33) rfl) rfl, tb1 (List.mem_of_getElem? (i := 34) rfl) rfl, tb0 (List.mem_of_getElem? (i := 1) rfl) rfl, tb1 (List.mem_of_getElem? (i := 35) rfl) rfl, by decide, by decide, by decide +kernel⟩
theorem m_Fl_follow : Cond.instanceMethod y_Fl_follow ∈ TBL ∧ Cond.selects y_Fl_follow.cls y_Fl_follow y_Fl_follow ∈ TBL ∧ Cond.initialized y_Fl_follow.cls ∈ TBL ∧ Cond.code y_Fl_follow prog_4_method_24_code 5 (some .int) ∈ TBL ∧ y_Fl_follow.cls ≠ "java/lang/invoke/MethodHandle" ∧ y_Fl_follow.cls ≠ "java/lang/invoke/VarHandle" ∧ (parseMethodDescriptor y_Fl_follow.desc).map (fun d => d.parameters.length) = some 1 := ⟨tb1 (List.mem_of_getElem? (i := 37) rfl) rfl, tb1 (List.mem_of_getElem? (i := 38) rfl) rfl, tb0 (List.mem_of_getElem? (i := 4) rfl) rfl, tb1 (List.mem_of_getElem? (i := 39) rfl) rfl, by decide, by decide, by decide +kernel⟩
theorem m_Fl_isWhole : Cond.instanceMethod y_Fl_isWhole ∈ TBL ∧ Cond.selects y_Fl_isWhole.cls y_Fl_isWhole y_Fl_isWhole ∈ TBL ∧ Cond.initialized y_Fl_isWhole.cls ∈ TBL ∧ Cond.code y_Fl_isWhole prog_4_method_3_code 2 (some .boolean) ∈ TBL ∧ y_Fl_isWhole.cls ≠ "java/lang/invoke/MethodHandle" ∧ y_Fl_isWhole.cls ≠ "java/lang/invoke/VarHandle" ∧ (parseMethodDescriptor y_Fl_isWhole.desc).map (fun d => d.parameters.length) = some 1 := ⟨tb1 (List.mem_of_getElem? (i := 41) rfl) rfl, tb1 (List.mem_of_getElem? (i := 42) rfl) rfl, tb0 (List.mem_of_getElem? (i := 4) rfl) rfl, tb1 (List.mem_of_getElem? (i := 43) rfl) rfl, by decide, by decide, by decide +kernel⟩
theorem m_Fl_isLocked : Cond.instanceMethod y_Fl_isLocked ∈ TBL ∧ Cond.selects y_Fl_isLocked.cls y_Fl_isLocked y_Fl_isLocked ∈ TBL ∧ Cond.initialized y_Fl_isLocked.cls ∈ TBL ∧ Cond.code y_Fl_isLocked prog_4_method_5_code 2 (some .boolean) ∈ TBL ∧ y_Fl_isLocked.cls ≠ "java/lang/invoke/MethodHandle" ∧ y_Fl_isLocked.cls ≠ "java/lang/invoke/VarHandle" ∧ (parseMethodDescriptor y_Fl_isLocked.desc).map (fun d => d.parameters.length) = some 1 := ⟨tb1 (List.mem_of_getElem? (i := 45) rfl) rfl, tb1 (List.mem_of_getElem? (i := 46) rfl) rfl, tb0 (List.mem_of_getElem? (i := 4) rfl) rfl, tb1 (List.mem_of_getElem? (i := 47) rfl) rfl, by decide, by decide, by decide +kernel⟩
theorem m_CT_slotOf : Cond.static y_CT_slotOf ∈ TBL ∧ Cond.initialized y_CT_slotOf.cls ∈ TBL ∧ Cond.code y_CT_slotOf prog_1_method_26_code 2 (some .int) ∈ TBL ∧ y_CT_slotOf.cls ≠ "java/lang/invoke/MethodHandle" ∧ y_CT_slotOf.cls ≠ "java/lang/invoke/VarHandle" ∧ (parseMethodDescriptor y_CT_slotOf.desc).map (fun d => d.parameters.length) = some 2 := ⟨tb1 (List.mem_of_getElem? (i := 49) rfl) rfl, tb0 (List.mem_of_getElem? (i := 1) rfl) rfl, tb1 (List.mem_of_getElem? (i := 50) rfl) rfl, by decide, by decide, by decide +kernel⟩
theorem m_CT_elementOf : Cond.static y_CT_elementOf ∈ TBL ∧ Cond.initialized y_CT_elementOf.cls ∈ TBL ∧ Cond.code y_CT_elementOf prog_1_method_27_code 1 (some .int) ∈ TBL ∧ y_CT_elementOf.cls ≠ "java/lang/invoke/MethodHandle" ∧ y_CT_elementOf.cls ≠ "java/lang/invoke/VarHandle" ∧ (parseMethodDescriptor y_CT_elementOf.desc).map (fun d => d.parameters.length) = some 1 := ⟨tb1 (List.mem_of_getElem? (i := 52) rfl) rfl, tb0 (List.mem_of_getElem? (i := 1) rfl) rfl, tb1 (List.mem_of_getElem? (i := 53) rfl) rfl, by decide, by decide, by decide +kernel⟩
theorem m_CT_check : Cond.instanceMethod y_CT_check ∈ TBL ∧ Cond.selects y_CT_check.cls y_CT_check y_CT_check ∈ TBL ∧ Cond.initialized y_CT_check.cls ∈ TBL ∧ Cond.code y_CT_check prog_1_method_21_code 3 (some .int) ∈ TBL ∧ y_CT_check.cls ≠ "java/lang/invoke/MethodHandle" ∧ y_CT_check.cls ≠ "java/lang/invoke/VarHandle" ∧ (parseMethodDescriptor y_CT_check.desc).map (fun d => d.parameters.length) = some 0 := ⟨tb1 (List.mem_of_getElem? (i := 55) rfl) rfl, tb1 (List.mem_of_getElem? (i := 56) rfl) rfl, tb0 (List.mem_of_getElem? (i := 1) rfl) rfl, tb1 (List.mem_of_getElem? (i := 57) rfl) rfl, by decide, by decide, by decide +kernel⟩
theorem m_Pl_longestRestore : Cond.instanceMethod y_Pl_longestRestore ∈ TBL ∧ Cond.selects y_Pl_longestRestore.cls y_Pl_longestRestore y_Pl_longestRestore ∈ TBL ∧ Cond.initialized y_Pl_longestRestore.cls ∈ TBL ∧ Cond.code y_Pl_longestRestore prog_5_method_8_code 3 (some .int) ∈ TBL ∧ y_Pl_longestRestore.cls ≠ "java/lang/invoke/MethodHandle" ∧ y_Pl_longestRestore.cls ≠ "java/lang/invoke/VarHandle" ∧ (parseMethodDescriptor y_Pl_longestRestore.desc).map (fun d => d.parameters.length) = some 0 := ⟨tb1 (List.mem_of_getElem? (i := 59) rfl) rfl, tb1 (List.mem_of_getElem? (i := 60) rfl) rfl, tb0 (List.mem_of_getElem? (i := 2) rfl) rfl, tb1 (List.mem_of_getElem? (i := 61) rfl) rfl, by decide, by decide, by decide +kernel⟩
theorem m_Fl_isLinkWhole : Cond.instanceMethod y_Fl_isLinkWhole ∈ TBL ∧ Cond.selects y_Fl_isLinkWhole.cls y_Fl_isLinkWhole y_Fl_isLinkWhole ∈ TBL ∧ Cond.initialized y_Fl_isLinkWhole.cls ∈ TBL ∧ Cond.code y_Fl_isLinkWhole prog_4_method_4_code 2 (some .boolean) ∈ TBL ∧ y_Fl_isLinkWhole.cls ≠ "java/lang/invoke/MethodHandle" ∧ y_Fl_isLinkWhole.cls ≠ "java/lang/invoke/VarHandle" ∧ (parseMethodDescriptor y_Fl_isLinkWhole.desc).map (fun d => d.parameters.length) = some 1 := ⟨tb1 (List.mem_of_getElem? (i := 66) rfl) rfl, tb1 (List.mem_of_getElem? (i := 67) rfl) rfl, tb0 (List.mem_of_getElem? (i := 4) rfl) rfl, tb1 (List.mem_of_getElem? (i := 68) rfl) rfl, by decide, by decide, by decide +kernel⟩
theorem m_Fl_copy : Cond.instanceMethod y_Fl_copy ∈ TBL ∧ Cond.selects y_Fl_copy.cls y_Fl_copy y_Fl_copy ∈ TBL ∧ Cond.initialized y_Fl_copy.cls ∈ TBL ∧ Cond.code y_Fl_copy prog_4_method_2_code 2 none ∈ TBL ∧ y_Fl_copy.cls ≠ "java/lang/invoke/MethodHandle" ∧ y_Fl_copy.cls ≠ "java/lang/invoke/VarHandle" ∧ (parseMethodDescriptor y_Fl_copy.desc).map (fun d => d.parameters.length) = some 1 := ⟨tb1 (List.mem_of_getElem? (i := 70) rfl) rfl, tb1 (List.mem_of_getElem? (i := 71) rfl) rfl, tb0 (List.mem_of_getElem? (i := 4) rfl) rfl, tb1 (List.mem_of_getElem? (i := 72) rfl) rfl, by decide, by decide, by decide +kernel⟩
theorem m_Wo_copy : Cond.instanceMethod y_Wo_copy ∈ TBL ∧ Cond.selects y_Wo_copy.cls y_Wo_copy y_Wo_copy ∈ TBL ∧ Cond.initialized y_Wo_copy.cls ∈ TBL ∧ Cond.code y_Wo_copy prog_6_method_4_code 2 none ∈ TBL ∧ y_Wo_copy.cls ≠ "java/lang/invoke/MethodHandle" ∧ y_Wo_copy.cls ≠ "java/lang/invoke/VarHandle" ∧ (parseMethodDescriptor y_Wo_copy.desc).map (fun d => d.parameters.length) = some 1 := ⟨tb1 (List.mem_of_getElem? (i := 74) rfl) rfl, tb1 (List.mem_of_getElem? (i := 75) rfl) rfl, tb0 (List.mem_of_getElem? (i := 5) rfl) rfl, tb1 (List.mem_of_getElem? (i := 76) rfl) rfl, by decide, by decide, by decide +kernel⟩
theorem m_Fl_setLinkFailed : Cond.instanceMethod y_Fl_setLinkFailed ∈ TBL ∧ Cond.selects y_Fl_setLinkFailed.cls y_Fl_setLinkFailed y_Fl_setLinkFailed ∈ TBL ∧ Cond.initialized y_Fl_setLinkFailed.cls ∈ TBL ∧ Cond.code y_Fl_setLinkFailed prog_4_method_7_code 3 none ∈ TBL ∧ y_Fl_setLinkFailed.cls ≠ "java/lang/invoke/MethodHandle" ∧ y_Fl_setLinkFailed.cls ≠ "java/lang/invoke/VarHandle" ∧ (parseMethodDescriptor y_Fl_setLinkFailed.desc).map (fun d => d.parameters.length) = some 2 := ⟨tb1 (List.mem_of_getElem? (i := 82) rfl) rfl, tb1 (List.mem_of_getElem? (i := 83) rfl) rfl, tb0 (List.mem_of_getElem? (i := 4) rfl) rfl, tb1 (List.mem_of_getElem? (i := 84) rfl) rfl, by decide, by decide, by decide +kernel⟩
theorem m_Fl_passRounds : Cond.instanceMethod y_Fl_passRounds ∈ TBL ∧ Cond.selects y_Fl_passRounds.cls y_Fl_passRounds y_Fl_passRounds ∈ TBL ∧ Cond.initialized y_Fl_passRounds.cls ∈ TBL ∧ Cond.code y_Fl_passRounds prog_4_method_11_code 3 none ∈ TBL ∧ y_Fl_passRounds.cls ≠ "java/lang/invoke/MethodHandle" ∧ y_Fl_passRounds.cls ≠ "java/lang/invoke/VarHandle" ∧ (parseMethodDescriptor y_Fl_passRounds.desc).map (fun d => d.parameters.length) = some 1 := ⟨tb1 (List.mem_of_getElem? (i := 86) rfl) rfl, tb1 (List.mem_of_getElem? (i := 87) rfl) rfl, tb0 (List.mem_of_getElem? (i := 4) rfl) rfl, tb1 (List.mem_of_getElem? (i := 88) rfl) rfl, by decide, by decide, by decide +kernel⟩
theorem m_Fl_passRound : Cond.instanceMethod y_Fl_passRound ∈ TBL ∧ Cond.selects y_Fl_passRound.cls y_Fl_passRound y_Fl_passRound ∈ TBL ∧ Cond.initialized y_Fl_passRound.cls ∈ TBL ∧ Cond.code y_Fl_passRound prog_4_method_12_code 2 none ∈ TBL ∧ y_Fl_passRound.cls ≠ "java/lang/invoke/MethodHandle" ∧ y_Fl_passRound.cls ≠ "java/lang/invoke/VarHandle" ∧ (parseMethodDescriptor y_Fl_passRound.desc).map (fun d => d.parameters.length) = some 0 := ⟨tb1 (List.mem_of_getElem? (i := 90) rfl) rfl, tb1 (List.mem_of_getElem? (i := 91) rfl) rfl, tb0 (List.mem_of_getElem? (i := 4) rfl) rfl, tb1 (List.mem_of_getElem? (i := 92) rfl) rfl, by decide, by decide, by decide +kernel⟩
theorem m_Fl_listen : Cond.instanceMethod y_Fl_listen ∈ TBL ∧ Cond.selects y_Fl_listen.cls y_Fl_listen y_Fl_listen ∈ TBL ∧ Cond.initialized y_Fl_listen.cls ∈ TBL ∧ Cond.code y_Fl_listen prog_4_method_13_code 4 none ∈ TBL ∧ y_Fl_listen.cls ≠ "java/lang/invoke/MethodHandle" ∧ y_Fl_listen.cls ≠ "java/lang/invoke/VarHandle" ∧ (parseMethodDescriptor y_Fl_listen.desc).map (fun d => d.parameters.length) = some 1 := ⟨tb1 (List.mem_of_getElem? (i := 95) rfl) rfl, tbS (q := (y_Fl_listen, 15)) (List.mem_append_left _ (List.mem_of_getElem? (i := 0) rfl)), tb0 (List.mem_of_getElem? (i := 4) rfl) rfl, tb1 (List.mem_of_getElem? (i := 96) rfl) rfl, by decide, by decide, by decide +kernel⟩
theorem m_Fl_hear : Cond.instanceMethod y_Fl_hear ∈ TBL ∧ Cond.selects y_Fl_hear.cls y_Fl_hear y_Fl_hear ∈ TBL ∧ Cond.initialized y_Fl_hear.cls ∈ TBL ∧ Cond.code y_Fl_hear prog_4_method_14_code 4 none ∈ TBL ∧ y_Fl_hear.cls ≠ "java/lang/invoke/MethodHandle" ∧ y_Fl_hear.cls ≠ "java/lang/invoke/VarHandle" ∧ (parseMethodDescriptor y_Fl_hear.desc).map (fun d => d.parameters.length) = some 1 := ⟨tb1 (List.mem_of_getElem? (i := 99) rfl) rfl, tbS (q := (y_Fl_hear, 15)) (List.mem_append_left _ (List.mem_of_getElem? (i := 1) rfl)), tb0 (List.mem_of_getElem? (i := 4) rfl) rfl, tb1 (List.mem_of_getElem? (i := 100) rfl) rfl, by decide, by decide, by decide +kernel⟩
theorem m_Fl_comes : Cond.instanceMethod y_Fl_comes ∈ TBL ∧ Cond.selects y_Fl_comes.cls y_Fl_comes y_Fl_comes ∈ TBL ∧ Cond.initialized y_Fl_comes.cls ∈ TBL ∧ Cond.code y_Fl_comes prog_4_method_15_code 3 (some .boolean) ∈ TBL ∧ y_Fl_comes.cls ≠ "java/lang/invoke/MethodHandle" ∧ y_Fl_comes.cls ≠ "java/lang/invoke/VarHandle" ∧ (parseMethodDescriptor y_Fl_comes.desc).map (fun d => d.parameters.length) = some 2 := ⟨tb1 (List.mem_of_getElem? (i := 106) rfl) rfl, tbS (q := (y_Fl_comes, 15)) (List.mem_append_left _ (List.mem_of_getElem? (i := 2) rfl)), tb0 (List.mem_of_getElem? (i := 4) rfl) rfl, tb1 (List.mem_of_getElem? (i := 107) rfl) rfl, by decide, by decide, by decide +kernel⟩
theorem m_Wo_isSame : Cond.instanceMethod y_Wo_isSame ∈ TBL ∧ Cond.selects y_Wo_isSame.cls y_Wo_isSame y_Wo_isSame ∈ TBL ∧ Cond.initialized y_Wo_isSame.cls ∈ TBL ∧ Cond.code y_Wo_isSame prog_6_method_3_code 4 (some .boolean) ∈ TBL ∧ y_Wo_isSame.cls ≠ "java/lang/invoke/MethodHandle" ∧ y_Wo_isSame.cls ≠ "java/lang/invoke/VarHandle" ∧ (parseMethodDescriptor y_Wo_isSame.desc).map (fun d => d.parameters.length) = some 3 := ⟨tb1 (List.mem_of_getElem? (i := 110) rfl) rfl, tb1 (List.mem_of_getElem? (i := 111) rfl) rfl, tb0 (List.mem_of_getElem? (i := 5) rfl) rfl, tb1 (List.mem_of_getElem? (i := 112) rfl) rfl, by decide, by decide, by decide +kernel⟩
theorem m_Wo_write : Cond.instanceMethod y_Wo_write ∈ TBL ∧ Cond.selects y_Wo_write.cls y_Wo_write y_Wo_write ∈ TBL ∧ Cond.initialized y_Wo_write.cls ∈ TBL ∧ Cond.code y_Wo_write prog_6_method_2_code 5 none ∈ TBL ∧ y_Wo_write.cls ≠ "java/lang/invoke/MethodHandle" ∧ y_Wo_write.cls ≠ "java/lang/invoke/VarHandle" ∧ (parseMethodDescriptor y_Wo_write.desc).map (fun d => d.parameters.length) = some 4 := ⟨tb1 (List.mem_of_getElem? (i := 114) rfl) rfl, tb1 (List.mem_of_getElem? (i := 115) rfl) rfl, tb0 (List.mem_of_getElem? (i := 5) rfl) rfl, tb1 (List.mem_of_getElem? (i := 116) rfl) rfl, by decide, by decide, by decide +kernel⟩
theorem m_Fl_weigh : Cond.instanceMethod y_Fl_weigh ∈ TBL ∧ Cond.selects y_Fl_weigh.cls y_Fl_weigh y_Fl_weigh ∈ TBL ∧ Cond.initialized y_Fl_weigh.cls ∈ TBL ∧ Cond.code y_Fl_weigh prog_4_method_16_code 2 none ∈ TBL ∧ y_Fl_weigh.cls ≠ "java/lang/invoke/MethodHandle" ∧ y_Fl_weigh.cls ≠ "java/lang/invoke/VarHandle" ∧ (parseMethodDescriptor y_Fl_weigh.desc).map (fun d => d.parameters.length) = some 1 := ⟨tb1 (List.mem_of_getElem? (i := 119) rfl) rfl, tbS (q := (y_Fl_weigh, 15)) (List.mem_append_left _ (List.mem_of_getElem? (i := 3) rfl)), tb0 (List.mem_of_getElem? (i := 4) rfl) rfl, tb1 (List.mem_of_getElem? (i := 120) rfl) rfl, by decide, by decide, by decide +kernel⟩
theorem m_Pl_hasSource : Cond.instanceMethod y_Pl_hasSource ∈ TBL ∧ Cond.selects y_Pl_hasSource.cls y_Pl_hasSource y_Pl_hasSource ∈ TBL ∧ Cond.initialized y_Pl_hasSource.cls ∈ TBL ∧ Cond.code y_Pl_hasSource prog_5_method_6_code 2 (some .boolean) ∈ TBL ∧ y_Pl_hasSource.cls ≠ "java/lang/invoke/MethodHandle" ∧ y_Pl_hasSource.cls ≠ "java/lang/invoke/VarHandle" ∧ (parseMethodDescriptor y_Pl_hasSource.desc).map (fun d => d.parameters.length) = some 1 := ⟨tb1 (List.mem_of_getElem? (i := 122) rfl) rfl, tb1 (List.mem_of_getElem? (i := 123) rfl) rfl, tb0 (List.mem_of_getElem? (i := 2) rfl) rfl, tb1 (List.mem_of_getElem? (i := 124) rfl) rfl, by decide, by decide, by decide +kernel⟩
theorem m_Fl_countUsable : Cond.instanceMethod y_Fl_countUsable ∈ TBL ∧ Cond.selects y_Fl_countUsable.cls y_Fl_countUsable y_Fl_countUsable ∈ TBL ∧ Cond.initialized y_Fl_countUsable.cls ∈ TBL ∧ Cond.code y_Fl_countUsable prog_4_method_17_code 4 none ∈ TBL ∧ y_Fl_countUsable.cls ≠ "java/lang/invoke/MethodHandle" ∧ y_Fl_countUsable.cls ≠ "java/lang/invoke/VarHandle" ∧ (parseMethodDescriptor y_Fl_countUsable.desc).map (fun d => d.parameters.length) = some 2 := ⟨tb1 (List.mem_of_getElem? (i := 127) rfl) rfl, tbS (q := (y_Fl_countUsable, 15)) (List.mem_append_left _ (List.mem_of_getElem? (i := 4) rfl)), tb0 (List.mem_of_getElem? (i := 4) rfl) rfl, tb1 (List.mem_of_getElem? (i := 128) rfl) rfl, by decide, by decide, by decide +kernel⟩
theorem m_Fl_isUsable : Cond.instanceMethod y_Fl_isUsable ∈ TBL ∧ Cond.selects y_Fl_isUsable.cls y_Fl_isUsable y_Fl_isUsable ∈ TBL ∧ Cond.initialized y_Fl_isUsable.cls ∈ TBL ∧ Cond.code y_Fl_isUsable prog_4_method_18_code 5 (some .boolean) ∈ TBL ∧ y_Fl_isUsable.cls ≠ "java/lang/invoke/MethodHandle" ∧ y_Fl_isUsable.cls ≠ "java/lang/invoke/VarHandle" ∧ (parseMethodDescriptor y_Fl_isUsable.desc).map (fun d => d.parameters.length) = some 2 := ⟨tb1 (List.mem_of_getElem? (i := 131) rfl) rfl, tbS (q := (y_Fl_isUsable, 15)) (List.mem_append_left _ (List.mem_of_getElem? (i := 5) rfl)), tb0 (List.mem_of_getElem? (i := 4) rfl) rfl, tb1 (List.mem_of_getElem? (i := 132) rfl) rfl, by decide, by decide, by decide +kernel⟩
theorem m_CT_isWithin : Cond.static y_CT_isWithin ∈ TBL ∧ Cond.initialized y_CT_isWithin.cls ∈ TBL ∧ Cond.code y_CT_isWithin prog_1_method_25_code 3 (some .boolean) ∈ TBL ∧ y_CT_isWithin.cls ≠ "java/lang/invoke/MethodHandle" ∧ y_CT_isWithin.cls ≠ "java/lang/invoke/VarHandle" ∧ (parseMethodDescriptor y_CT_isWithin.desc).map (fun d => d.parameters.length) = some 3 := ⟨tb1 (List.mem_of_getElem? (i := 134) rfl) rfl, tb0 (List.mem_of_getElem? (i := 1) rfl) rfl, tb1 (List.mem_of_getElem? (i := 135) rfl) rfl, by decide, by decide, by decide +kernel⟩
theorem m_Fl_decide : Cond.instanceMethod y_Fl_decide ∈ TBL ∧ Cond.selects y_Fl_decide.cls y_Fl_decide y_Fl_decide ∈ TBL ∧ Cond.initialized y_Fl_decide.cls ∈ TBL ∧ Cond.code y_Fl_decide prog_4_method_19_code 4 none ∈ TBL ∧ y_Fl_decide.cls ≠ "java/lang/invoke/MethodHandle" ∧ y_Fl_decide.cls ≠ "java/lang/invoke/VarHandle" ∧ (parseMethodDescriptor y_Fl_decide.desc).map (fun d => d.parameters.length) = some 1 := ⟨tb1 (List.mem_of_getElem? (i := 138) rfl) rfl, tbS (q := (y_Fl_decide, 15)) (List.mem_append_left _ (List.mem_of_getElem? (i := 6) rfl)), tb0 (List.mem_of_getElem? (i := 4) rfl) rfl, tb1 (List.mem_of_getElem? (i := 139) rfl) rfl, by decide, by decide, by decide +kernel⟩
theorem m_Fl_choose : Cond.instanceMethod y_Fl_choose ∈ TBL ∧ Cond.selects y_Fl_choose.cls y_Fl_choose y_Fl_choose ∈ TBL ∧ Cond.initialized y_Fl_choose.cls ∈ TBL ∧ Cond.code y_Fl_choose prog_4_method_20_code 4 (some .int) ∈ TBL ∧ y_Fl_choose.cls ≠ "java/lang/invoke/MethodHandle" ∧ y_Fl_choose.cls ≠ "java/lang/invoke/VarHandle" ∧ (parseMethodDescriptor y_Fl_choose.desc).map (fun d => d.parameters.length) = some 1 := ⟨tb1 (List.mem_of_getElem? (i := 142) rfl) rfl, tbS (q := (y_Fl_choose, 15)) (List.mem_append_left _ (List.mem_of_getElem? (i := 7) rfl)), tb0 (List.mem_of_getElem? (i := 4) rfl) rfl, tb1 (List.mem_of_getElem? (i := 143) rfl) rfl, by decide, by decide, by decide +kernel⟩
theorem m_Fl_bestPort : Cond.instanceMethod y_Fl_bestPort ∈ TBL ∧ Cond.selects y_Fl_bestPort.cls y_Fl_bestPort y_Fl_bestPort ∈ TBL ∧ Cond.initialized y_Fl_bestPort.cls ∈ TBL ∧ Cond.code y_Fl_bestPort prog_4_method_21_code 6 (some .int) ∈ TBL ∧ y_Fl_bestPort.cls ≠ "java/lang/invoke/MethodHandle" ∧ y_Fl_bestPort.cls ≠ "java/lang/invoke/VarHandle" ∧ (parseMethodDescriptor y_Fl_bestPort.desc).map (fun d => d.parameters.length) = some 2 := ⟨tb1 (List.mem_of_getElem? (i := 146) rfl) rfl, tbS (q := (y_Fl_bestPort, 15)) (List.mem_append_left _ (List.mem_of_getElem? (i := 8) rfl)), tb0 (List.mem_of_getElem? (i := 4) rfl) rfl, tb1 (List.mem_of_getElem? (i := 147) rfl) rfl, by decide, by decide, by decide +kernel⟩
theorem m_Fl_isBetter : Cond.instanceMethod y_Fl_isBetter ∈ TBL ∧ Cond.selects y_Fl_isBetter.cls y_Fl_isBetter y_Fl_isBetter ∈ TBL ∧ Cond.initialized y_Fl_isBetter.cls ∈ TBL ∧ Cond.code y_Fl_isBetter prog_4_method_22_code 3 (some .boolean) ∈ TBL ∧ y_Fl_isBetter.cls ≠ "java/lang/invoke/MethodHandle" ∧ y_Fl_isBetter.cls ≠ "java/lang/invoke/VarHandle" ∧ (parseMethodDescriptor y_Fl_isBetter.desc).map (fun d => d.parameters.length) = some 2 := ⟨tb1 (List.mem_of_getElem? (i := 150) rfl) rfl, tbS (q := (y_Fl_isBetter, 15)) (List.mem_append_left _ (List.mem_of_getElem? (i := 9) rfl)), tb0 (List.mem_of_getElem? (i := 4) rfl) rfl, tb1 (List.mem_of_getElem? (i := 151) rfl) rfl, by decide, by decide, by decide +kernel⟩
theorem m_Fl_speak : Cond.instanceMethod y_Fl_speak ∈ TBL ∧ Cond.selects y_Fl_speak.cls y_Fl_speak y_Fl_speak ∈ TBL ∧ Cond.initialized y_Fl_speak.cls ∈ TBL ∧ Cond.code y_Fl_speak prog_4_method_23_code 5 none ∈ TBL ∧ y_Fl_speak.cls ≠ "java/lang/invoke/MethodHandle" ∧ y_Fl_speak.cls ≠ "java/lang/invoke/VarHandle" ∧ (parseMethodDescriptor y_Fl_speak.desc).map (fun d => d.parameters.length) = some 1 := ⟨tb1 (List.mem_of_getElem? (i := 154) rfl) rfl, tbS (q := (y_Fl_speak, 15)) (List.mem_append_left _ (List.mem_of_getElem? (i := 10) rfl)), tb0 (List.mem_of_getElem? (i := 4) rfl) rfl, tb1 (List.mem_of_getElem? (i := 155) rfl) rfl, by decide, by decide, by decide +kernel⟩
theorem m_CT_findStarved : Cond.instanceMethod y_CT_findStarved ∈ TBL ∧ Cond.selects y_CT_findStarved.cls y_CT_findStarved y_CT_findStarved ∈ TBL ∧ Cond.initialized y_CT_findStarved.cls ∈ TBL ∧ Cond.code y_CT_findStarved prog_1_method_23_code 3 none ∈ TBL ∧ y_CT_findStarved.cls ≠ "java/lang/invoke/MethodHandle" ∧ y_CT_findStarved.cls ≠ "java/lang/invoke/VarHandle" ∧ (parseMethodDescriptor y_CT_findStarved.desc).map (fun d => d.parameters.length) = some 1 := ⟨tb1 (List.mem_of_getElem? (i := 158) rfl) rfl, tbS (q := (y_CT_findStarved, 8)) (List.mem_append_left _ (List.mem_of_getElem? (i := 11) rfl)), tb0 (List.mem_of_getElem? (i := 1) rfl) rfl, tb1 (List.mem_of_getElem? (i := 159) rfl) rfl, by decide, by decide, by decide +kernel⟩
theorem m_Fl_isStarved : Cond.instanceMethod y_Fl_isStarved ∈ TBL ∧ Cond.selects y_Fl_isStarved.cls y_Fl_isStarved y_Fl_isStarved ∈ TBL ∧ Cond.initialized y_Fl_isStarved.cls ∈ TBL ∧ Cond.code y_Fl_isStarved prog_4_method_28_code 2 (some .boolean) ∈ TBL ∧ y_Fl_isStarved.cls ≠ "java/lang/invoke/MethodHandle" ∧ y_Fl_isStarved.cls ≠ "java/lang/invoke/VarHandle" ∧ (parseMethodDescriptor y_Fl_isStarved.desc).map (fun d => d.parameters.length) = some 1 := ⟨tb1 (List.mem_of_getElem? (i := 161) rfl) rfl, tb1 (List.mem_of_getElem? (i := 162) rfl) rfl, tb0 (List.mem_of_getElem? (i := 4) rfl) rfl, tb1 (List.mem_of_getElem? (i := 163) rfl) rfl, by decide, by decide, by decide +kernel⟩
theorem m_Fl_bestReached : Cond.instanceMethod y_Fl_bestReached ∈ TBL ∧ Cond.selects y_Fl_bestReached.cls y_Fl_bestReached y_Fl_bestReached ∈ TBL ∧ Cond.initialized y_Fl_bestReached.cls ∈ TBL ∧ Cond.code y_Fl_bestReached prog_4_method_25_code 5 (some .int) ∈ TBL ∧ y_Fl_bestReached.cls ≠ "java/lang/invoke/MethodHandle" ∧ y_Fl_bestReached.cls ≠ "java/lang/invoke/VarHandle" ∧ (parseMethodDescriptor y_Fl_bestReached.desc).map (fun d => d.parameters.length) = some 1 := ⟨tb1 (List.mem_of_getElem? (i := 165) rfl) rfl, tb1 (List.mem_of_getElem? (i := 166) rfl) rfl, tb0 (List.mem_of_getElem? (i := 4) rfl) rfl, tb1 (List.mem_of_getElem? (i := 167) rfl) rfl, by decide, by decide, by decide +kernel⟩
theorem m_Fl_reachedFrom : Cond.instanceMethod y_Fl_reachedFrom ∈ TBL ∧ Cond.selects y_Fl_reachedFrom.cls y_Fl_reachedFrom y_Fl_reachedFrom ∈ TBL ∧ Cond.initialized y_Fl_reachedFrom.cls ∈ TBL ∧ Cond.code y_Fl_reachedFrom prog_4_method_26_code 6 (some .int) ∈ TBL ∧ y_Fl_reachedFrom.cls ≠ "java/lang/invoke/MethodHandle" ∧ y_Fl_reachedFrom.cls ≠ "java/lang/invoke/VarHandle" ∧ (parseMethodDescriptor y_Fl_reachedFrom.desc).map (fun d => d.parameters.length) = some 1 := ⟨tb1 (List.mem_of_getElem? (i := 170) rfl) rfl, tbS (q := (y_Fl_reachedFrom, 15)) (List.mem_append_left _ (List.mem_of_getElem? (i := 12) rfl)), tb0 (List.mem_of_getElem? (i := 4) rfl) rfl, tb1 (List.mem_of_getElem? (i := 171) rfl) rfl, by decide, by decide, by decide +kernel⟩
theorem m_Fl_across : Cond.instanceMethod y_Fl_across ∈ TBL ∧ Cond.selects y_Fl_across.cls y_Fl_across y_Fl_across ∈ TBL ∧ Cond.initialized y_Fl_across.cls ∈ TBL ∧ Cond.code y_Fl_across prog_4_method_27_code 7 (some .int) ∈ TBL ∧ y_Fl_across.cls ≠ "java/lang/invoke/MethodHandle" ∧ y_Fl_across.cls ≠ "java/lang/invoke/VarHandle" ∧ (parseMethodDescriptor y_Fl_across.desc).map (fun d => d.parameters.length) = some 2 := ⟨tb1 (List.mem_of_getElem? (i := 174) rfl) rfl, tbS (q := (y_Fl_across, 15)) (List.mem_append_left _ (List.mem_of_getElem? (i := 13) rfl)), tb0 (List.mem_of_getElem? (i := 4) rfl) rfl, tb1 (List.mem_of_getElem? (i := 175) rfl) rfl, by decide, by decide, by decide +kernel⟩
theorem m_Fl_setElementFailed : Cond.instanceMethod y_Fl_setElementFailed ∈ TBL ∧ Cond.selects y_Fl_setElementFailed.cls y_Fl_setElementFailed y_Fl_setElementFailed ∈ TBL ∧ Cond.initialized y_Fl_setElementFailed.cls ∈ TBL ∧ Cond.code y_Fl_setElementFailed prog_4_method_8_code 3 none ∈ TBL ∧ y_Fl_setElementFailed.cls ≠ "java/lang/invoke/MethodHandle" ∧ y_Fl_setElementFailed.cls ≠ "java/lang/invoke/VarHandle" ∧ (parseMethodDescriptor y_Fl_setElementFailed.desc).map (fun d => d.parameters.length) = some 2 := ⟨tb1 (List.mem_of_getElem? (i := 178) rfl) rfl, tb1 (List.mem_of_getElem? (i := 179) rfl) rfl, tb0 (List.mem_of_getElem? (i := 4) rfl) rfl, tb1 (List.mem_of_getElem? (i := 180) rfl) rfl, by decide, by decide, by decide +kernel⟩
theorem m_Fl_forget : Cond.instanceMethod y_Fl_forget ∈ TBL ∧ Cond.selects y_Fl_forget.cls y_Fl_forget y_Fl_forget ∈ TBL ∧ Cond.initialized y_Fl_forget.cls ∈ TBL ∧ Cond.code y_Fl_forget prog_4_method_10_code 4 none ∈ TBL ∧ y_Fl_forget.cls ≠ "java/lang/invoke/MethodHandle" ∧ y_Fl_forget.cls ≠ "java/lang/invoke/VarHandle" ∧ (parseMethodDescriptor y_Fl_forget.desc).map (fun d => d.parameters.length) = some 1 := ⟨tb1 (List.mem_of_getElem? (i := 183) rfl) rfl, tbS (q := (y_Fl_forget, 15)) (List.mem_append_left _ (List.mem_of_getElem? (i := 14) rfl)), tb0 (List.mem_of_getElem? (i := 4) rfl) rfl, tb1 (List.mem_of_getElem? (i := 184) rfl) rfl, by decide, by decide, by decide +kernel⟩
theorem m_CT_element : Cond.instanceMethod y_CT_element ∈ TBL ∧ Cond.selects y_CT_element.cls y_CT_element y_CT_element ∈ TBL ∧ Cond.initialized y_CT_element.cls ∈ TBL ∧ Cond.code y_CT_element prog_1_method_2_code 5 none ∈ TBL ∧ y_CT_element.cls ≠ "java/lang/invoke/MethodHandle" ∧ y_CT_element.cls ≠ "java/lang/invoke/VarHandle" ∧ (parseMethodDescriptor y_CT_element.desc).map (fun d => d.parameters.length) = some 4 := ⟨tb1 (List.mem_of_getElem? (i := 191) rfl) rfl, tb1 (List.mem_of_getElem? (i := 192) rfl) rfl, tb0 (List.mem_of_getElem? (i := 1) rfl) rfl, tb1 (List.mem_of_getElem? (i := 193) rfl) rfl, by decide, by decide, by decide +kernel⟩
theorem m_CT_refuseUnless : Cond.static y_CT_refuseUnless ∈ TBL ∧ Cond.initialized y_CT_refuseUnless.cls ∈ TBL ∧ Cond.code y_CT_refuseUnless prog_1_method_24_code 1 none ∈ TBL ∧ y_CT_refuseUnless.cls ≠ "java/lang/invoke/MethodHandle" ∧ y_CT_refuseUnless.cls ≠ "java/lang/invoke/VarHandle" ∧ (parseMethodDescriptor y_CT_refuseUnless.desc).map (fun d => d.parameters.length) = some 1 := ⟨tb1 (List.mem_of_getElem? (i := 196) rfl) rfl, tb0 (List.mem_of_getElem? (i := 1) rfl) rfl, tb1 (List.mem_of_getElem? (i := 197) rfl) rfl, by decide, by decide, by decide +kernel⟩
theorem m_Ck_start : Cond.instanceMethod y_Ck_start ∈ TBL ∧ Cond.selects y_Ck_start.cls y_Ck_start y_Ck_start ∈ TBL ∧ Cond.initialized y_Ck_start.cls ∈ TBL ∧ Cond.code y_Ck_start prog_3_method_2_code 3 none ∈ TBL ∧ y_Ck_start.cls ≠ "java/lang/invoke/MethodHandle" ∧ y_Ck_start.cls ≠ "java/lang/invoke/VarHandle" ∧ (parseMethodDescriptor y_Ck_start.desc).map (fun d => d.parameters.length) = some 2 := ⟨tb2 (List.mem_of_getElem? (i := 42) rfl) rfl, tb2 (List.mem_of_getElem? (i := 43) rfl) rfl, tb0 (List.mem_of_getElem? (i := 6) rfl) rfl, tb2 (List.mem_of_getElem? (i := 44) rfl) rfl, by decide, by decide, by decide +kernel⟩
theorem m_CT_link : Cond.instanceMethod y_CT_link ∈ TBL ∧ Cond.selects y_CT_link.cls y_CT_link y_CT_link ∈ TBL ∧ Cond.initialized y_CT_link.cls ∈ TBL ∧ Cond.code y_CT_link prog_1_method_3_code 7 (some .int) ∈ TBL ∧ y_CT_link.cls ≠ "java/lang/invoke/MethodHandle" ∧ y_CT_link.cls ≠ "java/lang/invoke/VarHandle" ∧ (parseMethodDescriptor y_CT_link.desc).map (fun d => d.parameters.length) = some 4 := ⟨tb2 (List.mem_of_getElem? (i := 49) rfl) rfl, tb2 (List.mem_of_getElem? (i := 50) rfl) rfl, tb0 (List.mem_of_getElem? (i := 1) rfl) rfl, tb2 (List.mem_of_getElem? (i := 51) rfl) rfl, by decide, by decide, by decide +kernel⟩
theorem m_Pl_isPort : Cond.instanceMethod y_Pl_isPort ∈ TBL ∧ Cond.selects y_Pl_isPort.cls y_Pl_isPort y_Pl_isPort ∈ TBL ∧ Cond.initialized y_Pl_isPort.cls ∈ TBL ∧ Cond.code y_Pl_isPort prog_5_method_3_code 3 (some .boolean) ∈ TBL ∧ y_Pl_isPort.cls ≠ "java/lang/invoke/MethodHandle" ∧ y_Pl_isPort.cls ≠ "java/lang/invoke/VarHandle" ∧ (parseMethodDescriptor y_Pl_isPort.desc).map (fun d => d.parameters.length) = some 2 := ⟨tb2 (List.mem_of_getElem? (i := 53) rfl) rfl, tb2 (List.mem_of_getElem? (i := 54) rfl) rfl, tb0 (List.mem_of_getElem? (i := 2) rfl) rfl, tb2 (List.mem_of_getElem? (i := 55) rfl) rfl, by decide, by decide, by decide +kernel⟩
theorem m_Pl_isThere : Cond.instanceMethod y_Pl_isThere ∈ TBL ∧ Cond.selects y_Pl_isThere.cls y_Pl_isThere y_Pl_isThere ∈ TBL ∧ Cond.initialized y_Pl_isThere.cls ∈ TBL ∧ Cond.code y_Pl_isThere prog_5_method_2_code 2 (some .boolean) ∈ TBL ∧ y_Pl_isThere.cls ≠ "java/lang/invoke/MethodHandle" ∧ y_Pl_isThere.cls ≠ "java/lang/invoke/VarHandle" ∧ (parseMethodDescriptor y_Pl_isThere.desc).map (fun d => d.parameters.length) = some 1 := ⟨tb2 (List.mem_of_getElem? (i := 57) rfl) rfl, tb2 (List.mem_of_getElem? (i := 58) rfl) rfl, tb0 (List.mem_of_getElem? (i := 2) rfl) rfl, tb2 (List.mem_of_getElem? (i := 59) rfl) rfl, by decide, by decide, by decide +kernel⟩
theorem m_Pl_isTaken : Cond.instanceMethod y_Pl_isTaken ∈ TBL ∧ Cond.selects y_Pl_isTaken.cls y_Pl_isTaken y_Pl_isTaken ∈ TBL ∧ Cond.initialized y_Pl_isTaken.cls ∈ TBL ∧ Cond.code y_Pl_isTaken prog_5_method_5_code 2 (some .boolean) ∈ TBL ∧ y_Pl_isTaken.cls ≠ "java/lang/invoke/MethodHandle" ∧ y_Pl_isTaken.cls ≠ "java/lang/invoke/VarHandle" ∧ (parseMethodDescriptor y_Pl_isTaken.desc).map (fun d => d.parameters.length) = some 1 := ⟨tb2 (List.mem_of_getElem? (i := 63) rfl) rfl, tb2 (List.mem_of_getElem? (i := 64) rfl) rfl, tb0 (List.mem_of_getElem? (i := 2) rfl) rfl, tb2 (List.mem_of_getElem? (i := 65) rfl) rfl, by decide, by decide, by decide +kernel⟩
theorem m_Pl_join : Cond.instanceMethod y_Pl_join ∈ TBL ∧ Cond.selects y_Pl_join.cls y_Pl_join y_Pl_join ∈ TBL ∧ Cond.initialized y_Pl_join.cls ∈ TBL ∧ Cond.code y_Pl_join prog_5_method_7_code 4 (some .int) ∈ TBL ∧ y_Pl_join.cls ≠ "java/lang/invoke/MethodHandle" ∧ y_Pl_join.cls ≠ "java/lang/invoke/VarHandle" ∧ (parseMethodDescriptor y_Pl_join.desc).map (fun d => d.parameters.length) = some 2 := ⟨tb2 (List.mem_of_getElem? (i := 69) rfl) rfl, tb2 (List.mem_of_getElem? (i := 70) rfl) rfl, tb0 (List.mem_of_getElem? (i := 2) rfl) rfl, tb2 (List.mem_of_getElem? (i := 71) rfl) rfl, by decide, by decide, by decide +kernel⟩
theorem m_CT_source : Cond.instanceMethod y_CT_source ∈ TBL ∧ Cond.selects y_CT_source.cls y_CT_source y_CT_source ∈ TBL ∧ Cond.initialized y_CT_source.cls ∈ TBL ∧ Cond.code y_CT_source prog_1_method_4_code 6 none ∈ TBL ∧ y_CT_source.cls ≠ "java/lang/invoke/MethodHandle" ∧ y_CT_source.cls ≠ "java/lang/invoke/VarHandle" ∧ (parseMethodDescriptor y_CT_source.desc).map (fun d => d.parameters.length) = some 4 := ⟨tb2 (List.mem_of_getElem? (i := 76) rfl) rfl, tb2 (List.mem_of_getElem? (i := 77) rfl) rfl, tb0 (List.mem_of_getElem? (i := 1) rfl) rfl, tb2 (List.mem_of_getElem? (i := 78) rfl) rfl, by decide, by decide, by decide +kernel⟩
theorem m_CT_priority : Cond.instanceMethod y_CT_priority ∈ TBL ∧ Cond.selects y_CT_priority.cls y_CT_priority y_CT_priority ∈ TBL ∧ Cond.initialized y_CT_priority.cls ∈ TBL ∧ Cond.code y_CT_priority prog_1_method_5_code 6 (some .int) ∈ TBL ∧ y_CT_priority.cls ≠ "java/lang/invoke/MethodHandle" ∧ y_CT_priority.cls ≠ "java/lang/invoke/VarHandle" ∧ (parseMethodDescriptor y_CT_priority.desc).map (fun d => d.parameters.length) = some 3 := ⟨tb2 (List.mem_of_getElem? (i := 84) rfl) rfl, tb2 (List.mem_of_getElem? (i := 85) rfl) rfl, tb0 (List.mem_of_getElem? (i := 1) rfl) rfl, tb2 (List.mem_of_getElem? (i := 86) rfl) rfl, by decide, by decide, by decide +kernel⟩
theorem m_CT_restore : Cond.instanceMethod y_CT_restore ∈ TBL ∧ Cond.selects y_CT_restore.cls y_CT_restore y_CT_restore ∈ TBL ∧ Cond.initialized y_CT_restore.cls ∈ TBL ∧ Cond.code y_CT_restore prog_1_method_6_code 4 (some .int) ∈ TBL ∧ y_CT_restore.cls ≠ "java/lang/invoke/MethodHandle" ∧ y_CT_restore.cls ≠ "java/lang/invoke/VarHandle" ∧ (parseMethodDescriptor y_CT_restore.desc).map (fun d => d.parameters.length) = some 2 := ⟨tb2 (List.mem_of_getElem? (i := 91) rfl) rfl, tb2 (List.mem_of_getElem? (i := 92) rfl) rfl, tb0 (List.mem_of_getElem? (i := 1) rfl) rfl, tb2 (List.mem_of_getElem? (i := 93) rfl) rfl, by decide, by decide, by decide +kernel⟩
theorem m_CT_command : Cond.instanceMethod y_CT_command ∈ TBL ∧ Cond.selects y_CT_command.cls y_CT_command y_CT_command ∈ TBL ∧ Cond.initialized y_CT_command.cls ∈ TBL ∧ Cond.code y_CT_command prog_1_method_8_code 6 (some .int) ∈ TBL ∧ y_CT_command.cls ≠ "java/lang/invoke/MethodHandle" ∧ y_CT_command.cls ≠ "java/lang/invoke/VarHandle" ∧ (parseMethodDescriptor y_CT_command.desc).map (fun d => d.parameters.length) = some 3 := ⟨tb2 (List.mem_of_getElem? (i := 99) rfl) rfl, tb2 (List.mem_of_getElem? (i := 100) rfl) rfl, tb0 (List.mem_of_getElem? (i := 1) rfl) rfl, tb2 (List.mem_of_getElem? (i := 101) rfl) rfl, by decide, by decide, by decide +kernel⟩
theorem m_CT_lockout : Cond.instanceMethod y_CT_lockout ∈ TBL ∧ Cond.selects y_CT_lockout.cls y_CT_lockout y_CT_lockout ∈ TBL ∧ Cond.initialized y_CT_lockout.cls ∈ TBL ∧ Cond.code y_CT_lockout prog_1_method_9_code 6 (some .boolean) ∈ TBL ∧ y_CT_lockout.cls ≠ "java/lang/invoke/MethodHandle" ∧ y_CT_lockout.cls ≠ "java/lang/invoke/VarHandle" ∧ (parseMethodDescriptor y_CT_lockout.desc).map (fun d => d.parameters.length) = some 3 := ⟨tb2 (List.mem_of_getElem? (i := 106) rfl) rfl, tb2 (List.mem_of_getElem? (i := 107) rfl) rfl, tb0 (List.mem_of_getElem? (i := 1) rfl) rfl, tb2 (List.mem_of_getElem? (i := 108) rfl) rfl, by decide, by decide, by decide +kernel⟩
theorem m_CT_fail : Cond.instanceMethod y_CT_fail ∈ TBL ∧ Cond.selects y_CT_fail.cls y_CT_fail y_CT_fail ∈ TBL ∧ Cond.initialized y_CT_fail.cls ∈ TBL ∧ Cond.code y_CT_fail prog_1_method_10_code 4 (some .boolean) ∈ TBL ∧ y_CT_fail.cls ≠ "java/lang/invoke/MethodHandle" ∧ y_CT_fail.cls ≠ "java/lang/invoke/VarHandle" ∧ (parseMethodDescriptor y_CT_fail.desc).map (fun d => d.parameters.length) = some 2 := ⟨tb2 (List.mem_of_getElem? (i := 113) rfl) rfl, tb2 (List.mem_of_getElem? (i := 114) rfl) rfl, tb0 (List.mem_of_getElem? (i := 1) rfl) rfl, tb2 (List.mem_of_getElem? (i := 115) rfl) rfl, by decide, by decide, by decide +kernel⟩
theorem m_Pl_isLink : Cond.instanceMethod y_Pl_isLink ∈ TBL ∧ Cond.selects y_Pl_isLink.cls y_Pl_isLink y_Pl_isLink ∈ TBL ∧ Cond.initialized y_Pl_isLink.cls ∈ TBL ∧ Cond.code y_Pl_isLink prog_5_method_4_code 2 (some .boolean) ∈ TBL ∧ y_Pl_isLink.cls ≠ "java/lang/invoke/MethodHandle" ∧ y_Pl_isLink.cls ≠ "java/lang/invoke/VarHandle" ∧ (parseMethodDescriptor y_Pl_isLink.desc).map (fun d => d.parameters.length) = some 1 := ⟨tb2 (List.mem_of_getElem? (i := 117) rfl) rfl, tb2 (List.mem_of_getElem? (i := 118) rfl) rfl, tb0 (List.mem_of_getElem? (i := 2) rfl) rfl, tb2 (List.mem_of_getElem? (i := 119) rfl) rfl, by decide, by decide, by decide +kernel⟩
theorem m_CT_failElement : Cond.instanceMethod y_CT_failElement ∈ TBL ∧ Cond.selects y_CT_failElement.cls y_CT_failElement y_CT_failElement ∈ TBL ∧ Cond.initialized y_CT_failElement.cls ∈ TBL ∧ Cond.code y_CT_failElement prog_1_method_11_code 4 (some .boolean) ∈ TBL ∧ y_CT_failElement.cls ≠ "java/lang/invoke/MethodHandle" ∧ y_CT_failElement.cls ≠ "java/lang/invoke/VarHandle" ∧ (parseMethodDescriptor y_CT_failElement.desc).map (fun d => d.parameters.length) = some 2 := ⟨tb2 (List.mem_of_getElem? (i := 124) rfl) rfl, tb2 (List.mem_of_getElem? (i := 125) rfl) rfl, tb0 (List.mem_of_getElem? (i := 1) rfl) rfl, tb2 (List.mem_of_getElem? (i := 126) rfl) rfl, by decide, by decide, by decide +kernel⟩
theorem m_CT_lose : Cond.instanceMethod y_CT_lose ∈ TBL ∧ Cond.selects y_CT_lose.cls y_CT_lose y_CT_lose ∈ TBL ∧ Cond.initialized y_CT_lose.cls ∈ TBL ∧ Cond.code y_CT_lose prog_1_method_12_code 4 none ∈ TBL ∧ y_CT_lose.cls ≠ "java/lang/invoke/MethodHandle" ∧ y_CT_lose.cls ≠ "java/lang/invoke/VarHandle" ∧ (parseMethodDescriptor y_CT_lose.desc).map (fun d => d.parameters.length) = some 2 := ⟨tb2 (List.mem_of_getElem? (i := 131) rfl) rfl, tb2 (List.mem_of_getElem? (i := 132) rfl) rfl, tb0 (List.mem_of_getElem? (i := 1) rfl) rfl, tb2 (List.mem_of_getElem? (i := 133) rfl) rfl, by decide, by decide, by decide +kernel⟩
theorem m_Fl_loseFrom : Cond.instanceMethod y_Fl_loseFrom ∈ TBL ∧ Cond.selects y_Fl_loseFrom.cls y_Fl_loseFrom y_Fl_loseFrom ∈ TBL ∧ Cond.initialized y_Fl_loseFrom.cls ∈ TBL ∧ Cond.code y_Fl_loseFrom prog_4_method_9_code 2 none ∈ TBL ∧ y_Fl_loseFrom.cls ≠ "java/lang/invoke/MethodHandle" ∧ y_Fl_loseFrom.cls ≠ "java/lang/invoke/VarHandle" ∧ (parseMethodDescriptor y_Fl_loseFrom.desc).map (fun d => d.parameters.length) = some 1 := ⟨tb2 (List.mem_of_getElem? (i := 135) rfl) rfl, tb2 (List.mem_of_getElem? (i := 136) rfl) rfl, tb0 (List.mem_of_getElem? (i := 4) rfl) rfl, tb2 (List.mem_of_getElem? (i := 137) rfl) rfl, by decide, by decide, by decide +kernel⟩
theorem m_CT_rounds : Cond.instanceMethod y_CT_rounds ∈ TBL ∧ Cond.selects y_CT_rounds.cls y_CT_rounds y_CT_rounds ∈ TBL ∧ Cond.initialized y_CT_rounds.cls ∈ TBL ∧ Cond.code y_CT_rounds prog_1_method_13_code 3 (some .int) ∈ TBL ∧ y_CT_rounds.cls ≠ "java/lang/invoke/MethodHandle" ∧ y_CT_rounds.cls ≠ "java/lang/invoke/VarHandle" ∧ (parseMethodDescriptor y_CT_rounds.desc).map (fun d => d.parameters.length) = some 1 := ⟨tb2 (List.mem_of_getElem? (i := 142) rfl) rfl, tb2 (List.mem_of_getElem? (i := 143) rfl) rfl, tb0 (List.mem_of_getElem? (i := 1) rfl) rfl, tb2 (List.mem_of_getElem? (i := 144) rfl) rfl, by decide, by decide, by decide +kernel⟩
theorem m_Ck_passRound : Cond.instanceMethod y_Ck_passRound ∈ TBL ∧ Cond.selects y_Ck_passRound.cls y_Ck_passRound y_Ck_passRound ∈ TBL ∧ Cond.initialized y_Ck_passRound.cls ∈ TBL ∧ Cond.code y_Ck_passRound prog_3_method_3_code 4 none ∈ TBL ∧ y_Ck_passRound.cls ≠ "java/lang/invoke/MethodHandle" ∧ y_Ck_passRound.cls ≠ "java/lang/invoke/VarHandle" ∧ (parseMethodDescriptor y_Ck_passRound.desc).map (fun d => d.parameters.length) = some 2 := ⟨tb2 (List.mem_of_getElem? (i := 147) rfl) rfl, tb2 (List.mem_of_getElem? (i := 148) rfl) rfl, tb0 (List.mem_of_getElem? (i := 6) rfl) rfl, tb2 (List.mem_of_getElem? (i := 149) rfl) rfl, by decide, by decide, by decide +kernel⟩
theorem m_Ck_offsetAfter : Cond.instanceMethod y_Ck_offsetAfter ∈ TBL ∧ Cond.selects y_Ck_offsetAfter.cls y_Ck_offsetAfter y_Ck_offsetAfter ∈ TBL ∧ Cond.initialized y_Ck_offsetAfter.cls ∈ TBL ∧ Cond.code y_Ck_offsetAfter prog_3_method_4_code 6 (some .int) ∈ TBL ∧ y_Ck_offsetAfter.cls ≠ "java/lang/invoke/MethodHandle" ∧ y_Ck_offsetAfter.cls ≠ "java/lang/invoke/VarHandle" ∧ (parseMethodDescriptor y_Ck_offsetAfter.desc).map (fun d => d.parameters.length) = some 3 := ⟨tb2 (List.mem_of_getElem? (i := 153) rfl) rfl, tbS (q := (y_Ck_offsetAfter, 4)) (List.mem_append_right _ (List.mem_append_left _ (List.mem_of_getElem? (i := 0) rfl))), tb0 (List.mem_of_getElem? (i := 6) rfl) rfl, tb2 (List.mem_of_getElem? (i := 154) rfl) rfl, by decide, by decide, by decide +kernel⟩
theorem m_Ca_passRound : Cond.instanceMethod y_Ca_passRound ∈ TBL ∧ Cond.selects y_Ca_passRound.cls y_Ca_passRound y_Ca_passRound ∈ TBL ∧ Cond.initialized y_Ca_passRound.cls ∈ TBL ∧ Cond.code y_Ca_passRound prog_2_method_2_code 4 none ∈ TBL ∧ y_Ca_passRound.cls ≠ "java/lang/invoke/MethodHandle" ∧ y_Ca_passRound.cls ≠ "java/lang/invoke/VarHandle" ∧ (parseMethodDescriptor y_Ca_passRound.desc).map (fun d => d.parameters.length) = some 1 := ⟨tb2 (List.mem_of_getElem? (i := 159) rfl) rfl, tb2 (List.mem_of_getElem? (i := 160) rfl) rfl, tb0 (List.mem_of_getElem? (i := 7) rfl) rfl, tb2 (List.mem_of_getElem? (i := 161) rfl) rfl, by decide, by decide, by decide +kernel⟩
theorem m_Fl_shownCondition : Cond.instanceMethod y_Fl_shownCondition ∈ TBL ∧ Cond.selects y_Fl_shownCondition.cls y_Fl_shownCondition y_Fl_shownCondition ∈ TBL ∧ Cond.initialized y_Fl_shownCondition.cls ∈ TBL ∧ Cond.code y_Fl_shownCondition prog_4_method_6_code 2 (some .int) ∈ TBL ∧ y_Fl_shownCondition.cls ≠ "java/lang/invoke/MethodHandle" ∧ y_Fl_shownCondition.cls ≠ "java/lang/invoke/VarHandle" ∧ (parseMethodDescriptor y_Fl_shownCondition.desc).map (fun d => d.parameters.length) = some 1 := ⟨tb2 (List.mem_of_getElem? (i := 163) rfl) rfl, tb2 (List.mem_of_getElem? (i := 164) rfl) rfl, tb0 (List.mem_of_getElem? (i := 4) rfl) rfl, tb2 (List.mem_of_getElem? (i := 165) rfl) rfl, by decide, by decide, by decide +kernel⟩
theorem m_CT_state : Cond.instanceMethod y_CT_state ∈ TBL ∧ Cond.selects y_CT_state.cls y_CT_state y_CT_state ∈ TBL ∧ Cond.initialized y_CT_state.cls ∈ TBL ∧ Cond.code y_CT_state prog_1_method_15_code 3 (some .int) ∈ TBL ∧ y_CT_state.cls ≠ "java/lang/invoke/MethodHandle" ∧ y_CT_state.cls ≠ "java/lang/invoke/VarHandle" ∧ (parseMethodDescriptor y_CT_state.desc).map (fun d => d.parameters.length) = some 2 := ⟨tb2 (List.mem_of_getElem? (i := 170) rfl) rfl, tb2 (List.mem_of_getElem? (i := 171) rfl) rfl, tb0 (List.mem_of_getElem? (i := 1) rfl) rfl, tb2 (List.mem_of_getElem? (i := 172) rfl) rfl, by decide, by decide, by decide +kernel⟩
theorem m_CT_phase : Cond.instanceMethod y_CT_phase ∈ TBL ∧ Cond.selects y_CT_phase.cls y_CT_phase y_CT_phase ∈ TBL ∧ Cond.initialized y_CT_phase.cls ∈ TBL ∧ Cond.code y_CT_phase prog_1_method_16_code 2 (some .long) ∈ TBL ∧ y_CT_phase.cls ≠ "java/lang/invoke/MethodHandle" ∧ y_CT_phase.cls ≠ "java/lang/invoke/VarHandle" ∧ (parseMethodDescriptor y_CT_phase.desc).map (fun d => d.parameters.length) = some 1 := ⟨tb2 (List.mem_of_getElem? (i := 179) rfl) rfl, tb2 (List.mem_of_getElem? (i := 180) rfl) rfl, tb0 (List.mem_of_getElem? (i := 1) rfl) rfl, tb2 (List.mem_of_getElem? (i := 181) rfl) rfl, by decide, by decide, by decide +kernel⟩
theorem m_CT_sends : Cond.instanceMethod y_CT_sends ∈ TBL ∧ Cond.selects y_CT_sends.cls y_CT_sends y_CT_sends ∈ TBL ∧ Cond.initialized y_CT_sends.cls ∈ TBL ∧ Cond.code y_CT_sends prog_1_method_17_code 3 (some .int) ∈ TBL ∧ y_CT_sends.cls ≠ "java/lang/invoke/MethodHandle" ∧ y_CT_sends.cls ≠ "java/lang/invoke/VarHandle" ∧ (parseMethodDescriptor y_CT_sends.desc).map (fun d => d.parameters.length) = some 2 := ⟨tb2 (List.mem_of_getElem? (i := 186) rfl) rfl, tb2 (List.mem_of_getElem? (i := 187) rfl) rfl, tb0 (List.mem_of_getElem? (i := 1) rfl) rfl, tb2 (List.mem_of_getElem? (i := 188) rfl) rfl, by decide, by decide, by decide +kernel⟩
theorem m_CT_traced : Cond.instanceMethod y_CT_traced ∈ TBL ∧ Cond.selects y_CT_traced.cls y_CT_traced y_CT_traced ∈ TBL ∧ Cond.initialized y_CT_traced.cls ∈ TBL ∧ Cond.code y_CT_traced prog_1_method_18_code 3 (some .int) ∈ TBL ∧ y_CT_traced.cls ≠ "java/lang/invoke/MethodHandle" ∧ y_CT_traced.cls ≠ "java/lang/invoke/VarHandle" ∧ (parseMethodDescriptor y_CT_traced.desc).map (fun d => d.parameters.length) = some 1 := ⟨tb2 (List.mem_of_getElem? (i := 193) rfl) rfl, tb2 (List.mem_of_getElem? (i := 194) rfl) rfl, tb0 (List.mem_of_getElem? (i := 1) rfl) rfl, tb2 (List.mem_of_getElem? (i := 195) rfl) rfl, by decide, by decide, by decide +kernel⟩
theorem m_CT_best : Cond.instanceMethod y_CT_best ∈ TBL ∧ Cond.selects y_CT_best.cls y_CT_best y_CT_best ∈ TBL ∧ Cond.initialized y_CT_best.cls ∈ TBL ∧ Cond.code y_CT_best prog_1_method_20_code 2 (some .int) ∈ TBL ∧ y_CT_best.cls ≠ "java/lang/invoke/MethodHandle" ∧ y_CT_best.cls ≠ "java/lang/invoke/VarHandle" ∧ (parseMethodDescriptor y_CT_best.desc).map (fun d => d.parameters.length) = some 1 := ⟨tb2 (List.mem_of_getElem? (i := 200) rfl) rfl, tb2 (List.mem_of_getElem? (i := 201) rfl) rfl, tb0 (List.mem_of_getElem? (i := 1) rfl) rfl, tb2 (List.mem_of_getElem? (i := 202) rfl) rfl, by decide, by decide, by decide +kernel⟩
theorem m_CT_finding : Cond.instanceMethod y_CT_finding ∈ TBL ∧ Cond.selects y_CT_finding.cls y_CT_finding y_CT_finding ∈ TBL ∧ Cond.initialized y_CT_finding.cls ∈ TBL ∧ Cond.code y_CT_finding prog_1_method_22_code 3 (some .int) ∈ TBL ∧ y_CT_finding.cls ≠ "java/lang/invoke/MethodHandle" ∧ y_CT_finding.cls ≠ "java/lang/invoke/VarHandle" ∧ (parseMethodDescriptor y_CT_finding.desc).map (fun d => d.parameters.length) = some 2 := ⟨tb2 (List.mem_of_getElem? (i := 208) rfl) rfl, tb2 (List.mem_of_getElem? (i := 209) rfl) rfl, tb0 (List.mem_of_getElem? (i := 1) rfl) rfl, tb2 (List.mem_of_getElem? (i := 210) rfl) rfl, by decide, by decide, by decide +kernel⟩
theorem m_Mo_thrown : Cond.instanceMethod y_Mo_thrown ∈ TBL ∧ Cond.selects y_Mo_thrown.cls y_Mo_thrown y_Mo_thrown ∈ TBL ∧ Cond.initialized y_Mo_thrown.cls ∈ TBL ∧ Cond.code y_Mo_thrown prog_8_method_24_code 1 (some .int) ∈ TBL ∧ y_Mo_thrown.cls ≠ "java/lang/invoke/MethodHandle" ∧ y_Mo_thrown.cls ≠ "java/lang/invoke/VarHandle" ∧ (parseMethodDescriptor y_Mo_thrown.desc).map (fun d => d.parameters.length) = some 0 := ⟨tb3 (List.mem_of_getElem? (i := 54) rfl) rfl, tb3 (List.mem_of_getElem? (i := 55) rfl) rfl, tb0 (List.mem_of_getElem? (i := 8) rfl) rfl, tb3 (List.mem_of_getElem? (i := 56) rfl) rfl, by decide, by decide, by decide +kernel⟩
theorem m_Mo_element : Cond.instanceMethod y_Mo_element ∈ TBL ∧ Cond.selects y_Mo_element.cls y_Mo_element y_Mo_element ∈ TBL ∧ Cond.initialized y_Mo_element.cls ∈ TBL ∧ Cond.code y_Mo_element prog_8_method_28_code 6 none ∈ TBL ∧ y_Mo_element.cls ≠ "java/lang/invoke/MethodHandle" ∧ y_Mo_element.cls ≠ "java/lang/invoke/VarHandle" ∧ (parseMethodDescriptor y_Mo_element.desc).map (fun d => d.parameters.length) = some 4 := ⟨tb3 (List.mem_of_getElem? (i := 58) rfl) rfl, tb3 (List.mem_of_getElem? (i := 59) rfl) rfl, tb0 (List.mem_of_getElem? (i := 8) rfl) rfl, tb3 (List.mem_of_getElem? (i := 60) rfl) rfl, by decide, by decide, by decide +kernel⟩
theorem m_Mo_link : Cond.instanceMethod y_Mo_link ∈ TBL ∧ Cond.selects y_Mo_link.cls y_Mo_link y_Mo_link ∈ TBL ∧ Cond.initialized y_Mo_link.cls ∈ TBL ∧ Cond.code y_Mo_link prog_8_method_29_code 7 (some .int) ∈ TBL ∧ y_Mo_link.cls ≠ "java/lang/invoke/MethodHandle" ∧ y_Mo_link.cls ≠ "java/lang/invoke/VarHandle" ∧ (parseMethodDescriptor y_Mo_link.desc).map (fun d => d.parameters.length) = some 4 := ⟨tb3 (List.mem_of_getElem? (i := 62) rfl) rfl, tb3 (List.mem_of_getElem? (i := 63) rfl) rfl, tb0 (List.mem_of_getElem? (i := 8) rfl) rfl, tb3 (List.mem_of_getElem? (i := 64) rfl) rfl, by decide, by decide, by decide +kernel⟩
theorem m_Mo_noPort : Cond.instanceMethod y_Mo_noPort ∈ TBL ∧ Cond.selects y_Mo_noPort.cls y_Mo_noPort y_Mo_noPort ∈ TBL ∧ Cond.initialized y_Mo_noPort.cls ∈ TBL ∧ Cond.code y_Mo_noPort prog_8_method_26_code 3 (some .boolean) ∈ TBL ∧ y_Mo_noPort.cls ≠ "java/lang/invoke/MethodHandle" ∧ y_Mo_noPort.cls ≠ "java/lang/invoke/VarHandle" ∧ (parseMethodDescriptor y_Mo_noPort.desc).map (fun d => d.parameters.length) = some 2 := ⟨tb3 (List.mem_of_getElem? (i := 67) rfl) rfl, tbS (q := (y_Mo_noPort, 25)) (List.mem_append_right _ (List.mem_append_left _ (List.mem_of_getElem? (i := 1) rfl))), tb0 (List.mem_of_getElem? (i := 8) rfl) rfl, tb3 (List.mem_of_getElem? (i := 68) rfl) rfl, by decide, by decide, by decide +kernel⟩
theorem m_Mo_noElement : Cond.instanceMethod y_Mo_noElement ∈ TBL ∧ Cond.selects y_Mo_noElement.cls y_Mo_noElement y_Mo_noElement ∈ TBL ∧ Cond.initialized y_Mo_noElement.cls ∈ TBL ∧ Cond.code y_Mo_noElement prog_8_method_25_code 2 (some .boolean) ∈ TBL ∧ y_Mo_noElement.cls ≠ "java/lang/invoke/MethodHandle" ∧ y_Mo_noElement.cls ≠ "java/lang/invoke/VarHandle" ∧ (parseMethodDescriptor y_Mo_noElement.desc).map (fun d => d.parameters.length) = some 1 := ⟨tb3 (List.mem_of_getElem? (i := 71) rfl) rfl, tbS (q := (y_Mo_noElement, 25)) (List.mem_append_right _ (List.mem_append_left _ (List.mem_of_getElem? (i := 2) rfl))), tb0 (List.mem_of_getElem? (i := 8) rfl) rfl, tb3 (List.mem_of_getElem? (i := 72) rfl) rfl, by decide, by decide, by decide +kernel⟩
theorem m_Mo_source : Cond.instanceMethod y_Mo_source ∈ TBL ∧ Cond.selects y_Mo_source.cls y_Mo_source y_Mo_source ∈ TBL ∧ Cond.initialized y_Mo_source.cls ∈ TBL ∧ Cond.code y_Mo_source prog_8_method_30_code 5 none ∈ TBL ∧ y_Mo_source.cls ≠ "java/lang/invoke/MethodHandle" ∧ y_Mo_source.cls ≠ "java/lang/invoke/VarHandle" ∧ (parseMethodDescriptor y_Mo_source.desc).map (fun d => d.parameters.length) = some 4 := ⟨tb3 (List.mem_of_getElem? (i := 74) rfl) rfl, tb3 (List.mem_of_getElem? (i := 75) rfl) rfl, tb0 (List.mem_of_getElem? (i := 8) rfl) rfl, tb3 (List.mem_of_getElem? (i := 76) rfl) rfl, by decide, by decide, by decide +kernel⟩
theorem m_Mo_priority : Cond.instanceMethod y_Mo_priority ∈ TBL ∧ Cond.selects y_Mo_priority.cls y_Mo_priority y_Mo_priority ∈ TBL ∧ Cond.initialized y_Mo_priority.cls ∈ TBL ∧ Cond.code y_Mo_priority prog_8_method_31_code 5 (some .int) ∈ TBL ∧ y_Mo_priority.cls ≠ "java/lang/invoke/MethodHandle" ∧ y_Mo_priority.cls ≠ "java/lang/invoke/VarHandle" ∧ (parseMethodDescriptor y_Mo_priority.desc).map (fun d => d.parameters.length) = some 3 := ⟨tb3 (List.mem_of_getElem? (i := 78) rfl) rfl, tb3 (List.mem_of_getElem? (i := 79) rfl) rfl, tb0 (List.mem_of_getElem? (i := 8) rfl) rfl, tb3 (List.mem_of_getElem? (i := 80) rfl) rfl, by decide, by decide, by decide +kernel⟩
theorem m_Mo_restore : Cond.instanceMethod y_Mo_restore ∈ TBL ∧ Cond.selects y_Mo_restore.cls y_Mo_restore y_Mo_restore ∈ TBL ∧ Cond.initialized y_Mo_restore.cls ∈ TBL ∧ Cond.code y_Mo_restore prog_8_method_32_code 4 (some .int) ∈ TBL ∧ y_Mo_restore.cls ≠ "java/lang/invoke/MethodHandle" ∧ y_Mo_restore.cls ≠ "java/lang/invoke/VarHandle" ∧ (parseMethodDescriptor y_Mo_restore.desc).map (fun d => d.parameters.length) = some 2 := ⟨tb3 (List.mem_of_getElem? (i := 82) rfl) rfl, tb3 (List.mem_of_getElem? (i := 83) rfl) rfl, tb0 (List.mem_of_getElem? (i := 8) rfl) rfl, tb3 (List.mem_of_getElem? (i := 84) rfl) rfl, by decide, by decide, by decide +kernel⟩
theorem m_Mo_tracing : Cond.instanceMethod y_Mo_tracing ∈ TBL ∧ Cond.selects y_Mo_tracing.cls y_Mo_tracing y_Mo_tracing ∈ TBL ∧ Cond.initialized y_Mo_tracing.cls ∈ TBL ∧ Cond.code y_Mo_tracing prog_8_method_33_code 3 (some .boolean) ∈ TBL ∧ y_Mo_tracing.cls ≠ "java/lang/invoke/MethodHandle" ∧ y_Mo_tracing.cls ≠ "java/lang/invoke/VarHandle" ∧ (parseMethodDescriptor y_Mo_tracing.desc).map (fun d => d.parameters.length) = some 1 := ⟨tb3 (List.mem_of_getElem? (i := 86) rfl) rfl, tb3 (List.mem_of_getElem? (i := 87) rfl) rfl, tb0 (List.mem_of_getElem? (i := 8) rfl) rfl, tb3 (List.mem_of_getElem? (i := 88) rfl) rfl, by decide, by decide, by decide +kernel⟩
theorem m_Mo_command : Cond.instanceMethod y_Mo_command ∈ TBL ∧ Cond.selects y_Mo_command.cls y_Mo_command y_Mo_command ∈ TBL ∧ Cond.initialized y_Mo_command.cls ∈ TBL ∧ Cond.code y_Mo_command prog_8_method_34_code 5 (some .int) ∈ TBL ∧ y_Mo_command.cls ≠ "java/lang/invoke/MethodHandle" ∧ y_Mo_command.cls ≠ "java/lang/invoke/VarHandle" ∧ (parseMethodDescriptor y_Mo_command.desc).map (fun d => d.parameters.length) = some 3 := ⟨tb3 (List.mem_of_getElem? (i := 90) rfl) rfl, tb3 (List.mem_of_getElem? (i := 91) rfl) rfl, tb0 (List.mem_of_getElem? (i := 8) rfl) rfl, tb3 (List.mem_of_getElem? (i := 92) rfl) rfl, by decide, by decide, by decide +kernel⟩
theorem m_Mo_lockout : Cond.instanceMethod y_Mo_lockout ∈ TBL ∧ Cond.selects y_Mo_lockout.cls y_Mo_lockout y_Mo_lockout ∈ TBL ∧ Cond.initialized y_Mo_lockout.cls ∈ TBL ∧ Cond.code y_Mo_lockout prog_8_method_35_code 5 (some .boolean) ∈ TBL ∧ y_Mo_lockout.cls ≠ "java/lang/invoke/MethodHandle" ∧ y_Mo_lockout.cls ≠ "java/lang/invoke/VarHandle" ∧ (parseMethodDescriptor y_Mo_lockout.desc).map (fun d => d.parameters.length) = some 3 := ⟨tb3 (List.mem_of_getElem? (i := 94) rfl) rfl, tb3 (List.mem_of_getElem? (i := 95) rfl) rfl, tb0 (List.mem_of_getElem? (i := 8) rfl) rfl, tb3 (List.mem_of_getElem? (i := 96) rfl) rfl, by decide, by decide, by decide +kernel⟩
theorem m_Mo_fail : Cond.instanceMethod y_Mo_fail ∈ TBL ∧ Cond.selects y_Mo_fail.cls y_Mo_fail y_Mo_fail ∈ TBL ∧ Cond.initialized y_Mo_fail.cls ∈ TBL ∧ Cond.code y_Mo_fail prog_8_method_36_code 4 (some .boolean) ∈ TBL ∧ y_Mo_fail.cls ≠ "java/lang/invoke/MethodHandle" ∧ y_Mo_fail.cls ≠ "java/lang/invoke/VarHandle" ∧ (parseMethodDescriptor y_Mo_fail.desc).map (fun d => d.parameters.length) = some 2 := ⟨tb3 (List.mem_of_getElem? (i := 98) rfl) rfl, tb3 (List.mem_of_getElem? (i := 99) rfl) rfl, tb0 (List.mem_of_getElem? (i := 8) rfl) rfl, tb3 (List.mem_of_getElem? (i := 100) rfl) rfl, by decide, by decide, by decide +kernel⟩
theorem m_Mo_noLink : Cond.instanceMethod y_Mo_noLink ∈ TBL ∧ Cond.selects y_Mo_noLink.cls y_Mo_noLink y_Mo_noLink ∈ TBL ∧ Cond.initialized y_Mo_noLink.cls ∈ TBL ∧ Cond.code y_Mo_noLink prog_8_method_27_code 2 (some .boolean) ∈ TBL ∧ y_Mo_noLink.cls ≠ "java/lang/invoke/MethodHandle" ∧ y_Mo_noLink.cls ≠ "java/lang/invoke/VarHandle" ∧ (parseMethodDescriptor y_Mo_noLink.desc).map (fun d => d.parameters.length) = some 1 := ⟨tb3 (List.mem_of_getElem? (i := 103) rfl) rfl, tbS (q := (y_Mo_noLink, 25)) (List.mem_append_right _ (List.mem_append_left _ (List.mem_of_getElem? (i := 3) rfl))), tb0 (List.mem_of_getElem? (i := 8) rfl) rfl, tb3 (List.mem_of_getElem? (i := 104) rfl) rfl, by decide, by decide, by decide +kernel⟩
theorem m_Mo_failElement : Cond.instanceMethod y_Mo_failElement ∈ TBL ∧ Cond.selects y_Mo_failElement.cls y_Mo_failElement y_Mo_failElement ∈ TBL ∧ Cond.initialized y_Mo_failElement.cls ∈ TBL ∧ Cond.code y_Mo_failElement prog_8_method_37_code 4 (some .boolean) ∈ TBL ∧ y_Mo_failElement.cls ≠ "java/lang/invoke/MethodHandle" ∧ y_Mo_failElement.cls ≠ "java/lang/invoke/VarHandle" ∧ (parseMethodDescriptor y_Mo_failElement.desc).map (fun d => d.parameters.length) = some 2 := ⟨tb3 (List.mem_of_getElem? (i := 106) rfl) rfl, tb3 (List.mem_of_getElem? (i := 107) rfl) rfl, tb0 (List.mem_of_getElem? (i := 8) rfl) rfl, tb3 (List.mem_of_getElem? (i := 108) rfl) rfl, by decide, by decide, by decide +kernel⟩
theorem m_Mo_breakDown : Cond.instanceMethod y_Mo_breakDown ∈ TBL ∧ Cond.selects y_Mo_breakDown.cls y_Mo_breakDown y_Mo_breakDown ∈ TBL ∧ Cond.initialized y_Mo_breakDown.cls ∈ TBL ∧ Cond.code y_Mo_breakDown prog_8_method_17_code 2 none ∈ TBL ∧ y_Mo_breakDown.cls ≠ "java/lang/invoke/MethodHandle" ∧ y_Mo_breakDown.cls ≠ "java/lang/invoke/VarHandle" ∧ (parseMethodDescriptor y_Mo_breakDown.desc).map (fun d => d.parameters.length) = some 1 := ⟨tb3 (List.mem_of_getElem? (i := 111) rfl) rfl, tbS (q := (y_Mo_breakDown, 25)) (List.mem_append_right _ (List.mem_append_left _ (List.mem_of_getElem? (i := 4) rfl))), tb0 (List.mem_of_getElem? (i := 8) rfl) rfl, tb3 (List.mem_of_getElem? (i := 112) rfl) rfl, by decide, by decide, by decide +kernel⟩
theorem m_Mo_sentNothing : Cond.instanceMethod y_Mo_sentNothing ∈ TBL ∧ Cond.selects y_Mo_sentNothing.cls y_Mo_sentNothing y_Mo_sentNothing ∈ TBL ∧ Cond.initialized y_Mo_sentNothing.cls ∈ TBL ∧ Cond.code y_Mo_sentNothing prog_8_method_16_code 3 none ∈ TBL ∧ y_Mo_sentNothing.cls ≠ "java/lang/invoke/MethodHandle" ∧ y_Mo_sentNothing.cls ≠ "java/lang/invoke/VarHandle" ∧ (parseMethodDescriptor y_Mo_sentNothing.desc).map (fun d => d.parameters.length) = some 1 := ⟨tb3 (List.mem_of_getElem? (i := 115) rfl) rfl, tbS (q := (y_Mo_sentNothing, 25)) (List.mem_append_right _ (List.mem_append_left _ (List.mem_of_getElem? (i := 5) rfl))), tb0 (List.mem_of_getElem? (i := 8) rfl) rfl, tb3 (List.mem_of_getElem? (i := 116) rfl) rfl, by decide, by decide, by decide +kernel⟩
theorem m_Mo_comesBack : Cond.instanceMethod y_Mo_comesBack ∈ TBL ∧ Cond.selects y_Mo_comesBack.cls y_Mo_comesBack y_Mo_comesBack ∈ TBL ∧ Cond.initialized y_Mo_comesBack.cls ∈ TBL ∧ Cond.code y_Mo_comesBack prog_8_method_18_code 3 none ∈ TBL ∧ y_Mo_comesBack.cls ≠ "java/lang/invoke/MethodHandle" ∧ y_Mo_comesBack.cls ≠ "java/lang/invoke/VarHandle" ∧ (parseMethodDescriptor y_Mo_comesBack.desc).map (fun d => d.parameters.length) = some 1 := ⟨tb3 (List.mem_of_getElem? (i := 119) rfl) rfl, tbS (q := (y_Mo_comesBack, 25)) (List.mem_append_right _ (List.mem_append_left _ (List.mem_of_getElem? (i := 6) rfl))), tb0 (List.mem_of_getElem? (i := 8) rfl) rfl, tb3 (List.mem_of_getElem? (i := 120) rfl) rfl, by decide, by decide, by decide +kernel⟩
theorem m_Mo_lose : Cond.instanceMethod y_Mo_lose ∈ TBL ∧ Cond.selects y_Mo_lose.cls y_Mo_lose y_Mo_lose ∈ TBL ∧ Cond.initialized y_Mo_lose.cls ∈ TBL ∧ Cond.code y_Mo_lose prog_8_method_38_code 3 none ∈ TBL ∧ y_Mo_lose.cls ≠ "java/lang/invoke/MethodHandle" ∧ y_Mo_lose.cls ≠ "java/lang/invoke/VarHandle" ∧ (parseMethodDescriptor y_Mo_lose.desc).map (fun d => d.parameters.length) = some 2 := ⟨tb3 (List.mem_of_getElem? (i := 122) rfl) rfl, tb3 (List.mem_of_getElem? (i := 123) rfl) rfl, tb0 (List.mem_of_getElem? (i := 8) rfl) rfl, tb3 (List.mem_of_getElem? (i := 124) rfl) rfl, by decide, by decide, by decide +kernel⟩
theorem m_Mo_rounds : Cond.instanceMethod y_Mo_rounds ∈ TBL ∧ Cond.selects y_Mo_rounds.cls y_Mo_rounds y_Mo_rounds ∈ TBL ∧ Cond.initialized y_Mo_rounds.cls ∈ TBL ∧ Cond.code y_Mo_rounds prog_8_method_39_code 3 (some .int) ∈ TBL ∧ y_Mo_rounds.cls ≠ "java/lang/invoke/MethodHandle" ∧ y_Mo_rounds.cls ≠ "java/lang/invoke/VarHandle" ∧ (parseMethodDescriptor y_Mo_rounds.desc).map (fun d => d.parameters.length) = some 1 := ⟨tb3 (List.mem_of_getElem? (i := 126) rfl) rfl, tb3 (List.mem_of_getElem? (i := 127) rfl) rfl, tb0 (List.mem_of_getElem? (i := 8) rfl) rfl, tb3 (List.mem_of_getElem? (i := 128) rfl) rfl, by decide, by decide, by decide +kernel⟩
theorem m_Mo_round : Cond.instanceMethod y_Mo_round ∈ TBL ∧ Cond.selects y_Mo_round.cls y_Mo_round y_Mo_round ∈ TBL ∧ Cond.initialized y_Mo_round.cls ∈ TBL ∧ Cond.code y_Mo_round prog_8_method_13_code 5 none ∈ TBL ∧ y_Mo_round.cls ≠ "java/lang/invoke/MethodHandle" ∧ y_Mo_round.cls ≠ "java/lang/invoke/VarHandle" ∧ (parseMethodDescriptor y_Mo_round.desc).map (fun d => d.parameters.length) = some 0 := ⟨tb3 (List.mem_of_getElem? (i := 131) rfl) rfl, tbS (q := (y_Mo_round, 25)) (List.mem_append_right _ (List.mem_append_left _ (List.mem_of_getElem? (i := 7) rfl))), tb0 (List.mem_of_getElem? (i := 8) rfl) rfl, tb3 (List.mem_of_getElem? (i := 132) rfl) rfl, by decide, by decide, by decide +kernel⟩
theorem m_Mo_whole : Cond.instanceMethod y_Mo_whole ∈ TBL ∧ Cond.selects y_Mo_whole.cls y_Mo_whole y_Mo_whole ∈ TBL ∧ Cond.initialized y_Mo_whole.cls ∈ TBL ∧ Cond.code y_Mo_whole prog_8_method_2_code 2 (some .boolean) ∈ TBL ∧ y_Mo_whole.cls ≠ "java/lang/invoke/MethodHandle" ∧ y_Mo_whole.cls ≠ "java/lang/invoke/VarHandle" ∧ (parseMethodDescriptor y_Mo_whole.desc).map (fun d => d.parameters.length) = some 1 := ⟨tb3 (List.mem_of_getElem? (i := 135) rfl) rfl, tbS (q := (y_Mo_whole, 25)) (List.mem_append_right _ (List.mem_append_left _ (List.mem_of_getElem? (i := 8) rfl))), tb0 (List.mem_of_getElem? (i := 8) rfl) rfl, tb3 (List.mem_of_getElem? (i := 136) rfl) rfl, by decide, by decide, by decide +kernel⟩
theorem m_Mo_gets : Cond.instanceMethod y_Mo_gets ∈ TBL ∧ Cond.selects y_Mo_gets.cls y_Mo_gets y_Mo_gets ∈ TBL ∧ Cond.initialized y_Mo_gets.cls ∈ TBL ∧ Cond.code y_Mo_gets prog_8_method_4_code 5 none ∈ TBL ∧ y_Mo_gets.cls ≠ "java/lang/invoke/MethodHandle" ∧ y_Mo_gets.cls ≠ "java/lang/invoke/VarHandle" ∧ (parseMethodDescriptor y_Mo_gets.desc).map (fun d => d.parameters.length) = some 1 := ⟨tb3 (List.mem_of_getElem? (i := 139) rfl) rfl, tbS (q := (y_Mo_gets, 25)) (List.mem_append_right _ (List.mem_append_left _ (List.mem_of_getElem? (i := 9) rfl))), tb0 (List.mem_of_getElem? (i := 8) rfl) rfl, tb3 (List.mem_of_getElem? (i := 140) rfl) rfl, by decide, by decide, by decide +kernel⟩
theorem m_Mo_across : Cond.instanceMethod y_Mo_across ∈ TBL ∧ Cond.selects y_Mo_across.cls y_Mo_across y_Mo_across ∈ TBL ∧ Cond.initialized y_Mo_across.cls ∈ TBL ∧ Cond.code y_Mo_across prog_8_method_3_code 3 (some .int) ∈ TBL ∧ y_Mo_across.cls ≠ "java/lang/invoke/MethodHandle" ∧ y_Mo_across.cls ≠ "java/lang/invoke/VarHandle" ∧ (parseMethodDescriptor y_Mo_across.desc).map (fun d => d.parameters.length) = some 1 := ⟨tb3 (List.mem_of_getElem? (i := 143) rfl) rfl, tbS (q := (y_Mo_across, 25)) (List.mem_append_right _ (List.mem_append_left _ (List.mem_of_getElem? (i := 10) rfl))), tb0 (List.mem_of_getElem? (i := 8) rfl) rfl, tb3 (List.mem_of_getElem? (i := 144) rfl) rfl, by decide, by decide, by decide +kernel⟩
theorem m_Mo_chooses : Cond.instanceMethod y_Mo_chooses ∈ TBL ∧ Cond.selects y_Mo_chooses.cls y_Mo_chooses y_Mo_chooses ∈ TBL ∧ Cond.initialized y_Mo_chooses.cls ∈ TBL ∧ Cond.code y_Mo_chooses prog_8_method_12_code 6 none ∈ TBL ∧ y_Mo_chooses.cls ≠ "java/lang/invoke/MethodHandle" ∧ y_Mo_chooses.cls ≠ "java/lang/invoke/VarHandle" ∧ (parseMethodDescriptor y_Mo_chooses.desc).map (fun d => d.parameters.length) = some 1 := ⟨tb3 (List.mem_of_getElem? (i := 147) rfl) rfl, tbS (q := (y_Mo_chooses, 25)) (List.mem_append_right _ (List.mem_append_left _ (List.mem_of_getElem? (i := 11) rfl))), tb0 (List.mem_of_getElem? (i := 8) rfl) rfl, tb3 (List.mem_of_getElem? (i := 148) rfl) rfl, by decide, by decide, by decide +kernel⟩
theorem m_Mo_usable : Cond.instanceMethod y_Mo_usable ∈ TBL ∧ Cond.selects y_Mo_usable.cls y_Mo_usable y_Mo_usable ∈ TBL ∧ Cond.initialized y_Mo_usable.cls ∈ TBL ∧ Cond.code y_Mo_usable prog_8_method_6_code 3 (some .boolean) ∈ TBL ∧ y_Mo_usable.cls ≠ "java/lang/invoke/MethodHandle" ∧ y_Mo_usable.cls ≠ "java/lang/invoke/VarHandle" ∧ (parseMethodDescriptor y_Mo_usable.desc).map (fun d => d.parameters.length) = some 1 := ⟨tb3 (List.mem_of_getElem? (i := 151) rfl) rfl, tbS (q := (y_Mo_usable, 25)) (List.mem_append_right _ (List.mem_append_left _ (List.mem_of_getElem? (i := 12) rfl))), tb0 (List.mem_of_getElem? (i := 8) rfl) rfl, tb3 (List.mem_of_getElem? (i := 152) rfl) rfl, by decide, by decide, by decide +kernel⟩
theorem m_Mo_hasWord : Cond.instanceMethod y_Mo_hasWord ∈ TBL ∧ Cond.selects y_Mo_hasWord.cls y_Mo_hasWord y_Mo_hasWord ∈ TBL ∧ Cond.initialized y_Mo_hasWord.cls ∈ TBL ∧ Cond.code y_Mo_hasWord prog_8_method_5_code 2 (some .boolean) ∈ TBL ∧ y_Mo_hasWord.cls ≠ "java/lang/invoke/MethodHandle" ∧ y_Mo_hasWord.cls ≠ "java/lang/invoke/VarHandle" ∧ (parseMethodDescriptor y_Mo_hasWord.desc).map (fun d => d.parameters.length) = some 1 := ⟨tb3 (List.mem_of_getElem? (i := 155) rfl) rfl, tbS (q := (y_Mo_hasWord, 25)) (List.mem_append_right _ (List.mem_append_left _ (List.mem_of_getElem? (i := 13) rfl))), tb0 (List.mem_of_getElem? (i := 8) rfl) rfl, tb3 (List.mem_of_getElem? (i := 156) rfl) rfl, by decide, by decide, by decide +kernel⟩
theorem m_Mo_choice : Cond.instanceMethod y_Mo_choice ∈ TBL ∧ Cond.selects y_Mo_choice.cls y_Mo_choice y_Mo_choice ∈ TBL ∧ Cond.initialized y_Mo_choice.cls ∈ TBL ∧ Cond.code y_Mo_choice prog_8_method_11_code 3 (some .int) ∈ TBL ∧ y_Mo_choice.cls ≠ "java/lang/invoke/MethodHandle" ∧ y_Mo_choice.cls ≠ "java/lang/invoke/VarHandle" ∧ (parseMethodDescriptor y_Mo_choice.desc).map (fun d => d.parameters.length) = some 1 := ⟨tb3 (List.mem_of_getElem? (i := 159) rfl) rfl, tbS (q := (y_Mo_choice, 25)) (List.mem_append_right _ (List.mem_append_left _ (List.mem_of_getElem? (i := 14) rfl))), tb0 (List.mem_of_getElem? (i := 8) rfl) rfl, tb3 (List.mem_of_getElem? (i := 160) rfl) rfl, by decide, by decide, by decide +kernel⟩
theorem m_Mo_bestOf : Cond.instanceMethod y_Mo_bestOf ∈ TBL ∧ Cond.selects y_Mo_bestOf.cls y_Mo_bestOf y_Mo_bestOf ∈ TBL ∧ Cond.initialized y_Mo_bestOf.cls ∈ TBL ∧ Cond.code y_Mo_bestOf prog_8_method_10_code 5 (some .int) ∈ TBL ∧ y_Mo_bestOf.cls ≠ "java/lang/invoke/MethodHandle" ∧ y_Mo_bestOf.cls ≠ "java/lang/invoke/VarHandle" ∧ (parseMethodDescriptor y_Mo_bestOf.desc).map (fun d => d.parameters.length) = some 2 := ⟨tb3 (List.mem_of_getElem? (i := 163) rfl) rfl, tbS (q := (y_Mo_bestOf, 25)) (List.mem_append_right _ (List.mem_append_left _ (List.mem_of_getElem? (i := 15) rfl))), tb0 (List.mem_of_getElem? (i := 8) rfl) rfl, tb3 (List.mem_of_getElem? (i := 164) rfl) rfl, by decide, by decide, by decide +kernel⟩
theorem m_Mo_better : Cond.instanceMethod y_Mo_better ∈ TBL ∧ Cond.selects y_Mo_better.cls y_Mo_better y_Mo_better ∈ TBL ∧ Cond.initialized y_Mo_better.cls ∈ TBL ∧ Cond.code y_Mo_better prog_8_method_9_code 3 (some .boolean) ∈ TBL ∧ y_Mo_better.cls ≠ "java/lang/invoke/MethodHandle" ∧ y_Mo_better.cls ≠ "java/lang/invoke/VarHandle" ∧ (parseMethodDescriptor y_Mo_better.desc).map (fun d => d.parameters.length) = some 2 := ⟨tb3 (List.mem_of_getElem? (i := 167) rfl) rfl, tbS (q := (y_Mo_better, 25)) (List.mem_append_right _ (List.mem_append_right _ ((List.mem_of_getElem? (i := 0) rfl)))), tb0 (List.mem_of_getElem? (i := 8) rfl) rfl, tb3 (List.mem_of_getElem? (i := 168) rfl) rfl, by decide, by decide, by decide +kernel⟩
theorem m_Mo_qualityOf : Cond.instanceMethod y_Mo_qualityOf ∈ TBL ∧ Cond.selects y_Mo_qualityOf.cls y_Mo_qualityOf y_Mo_qualityOf ∈ TBL ∧ Cond.initialized y_Mo_qualityOf.cls ∈ TBL ∧ Cond.code y_Mo_qualityOf prog_8_method_7_code 2 (some .int) ∈ TBL ∧ y_Mo_qualityOf.cls ≠ "java/lang/invoke/MethodHandle" ∧ y_Mo_qualityOf.cls ≠ "java/lang/invoke/VarHandle" ∧ (parseMethodDescriptor y_Mo_qualityOf.desc).map (fun d => d.parameters.length) = some 1 := ⟨tb3 (List.mem_of_getElem? (i := 171) rfl) rfl, tbS (q := (y_Mo_qualityOf, 25)) (List.mem_append_right _ (List.mem_append_right _ ((List.mem_of_getElem? (i := 1) rfl)))), tb0 (List.mem_of_getElem? (i := 8) rfl) rfl, tb3 (List.mem_of_getElem? (i := 172) rfl) rfl, by decide, by decide, by decide +kernel⟩
theorem m_Mo_hopsOf : Cond.instanceMethod y_Mo_hopsOf ∈ TBL ∧ Cond.selects y_Mo_hopsOf.cls y_Mo_hopsOf y_Mo_hopsOf ∈ TBL ∧ Cond.initialized y_Mo_hopsOf.cls ∈ TBL ∧ Cond.code y_Mo_hopsOf prog_8_method_8_code 2 (some .int) ∈ TBL ∧ y_Mo_hopsOf.cls ≠ "java/lang/invoke/MethodHandle" ∧ y_Mo_hopsOf.cls ≠ "java/lang/invoke/VarHandle" ∧ (parseMethodDescriptor y_Mo_hopsOf.desc).map (fun d => d.parameters.length) = some 1 := ⟨tb3 (List.mem_of_getElem? (i := 175) rfl) rfl, tbS (q := (y_Mo_hopsOf, 25)) (List.mem_append_right _ (List.mem_append_right _ ((List.mem_of_getElem? (i := 2) rfl)))), tb0 (List.mem_of_getElem? (i := 8) rfl) rfl, tb3 (List.mem_of_getElem? (i := 176) rfl) rfl, by decide, by decide, by decide +kernel⟩
theorem m_Mo_stateOf : Cond.instanceMethod y_Mo_stateOf ∈ TBL ∧ Cond.selects y_Mo_stateOf.cls y_Mo_stateOf y_Mo_stateOf ∈ TBL ∧ Cond.initialized y_Mo_stateOf.cls ∈ TBL ∧ Cond.code y_Mo_stateOf prog_8_method_14_code 2 (some .int) ∈ TBL ∧ y_Mo_stateOf.cls ≠ "java/lang/invoke/MethodHandle" ∧ y_Mo_stateOf.cls ≠ "java/lang/invoke/VarHandle" ∧ (parseMethodDescriptor y_Mo_stateOf.desc).map (fun d => d.parameters.length) = some 1 := ⟨tb3 (List.mem_of_getElem? (i := 179) rfl) rfl, tbS (q := (y_Mo_stateOf, 25)) (List.mem_append_right _ (List.mem_append_right _ ((List.mem_of_getElem? (i := 3) rfl)))), tb0 (List.mem_of_getElem? (i := 8) rfl) rfl, tb3 (List.mem_of_getElem? (i := 180) rfl) rfl, by decide, by decide, by decide +kernel⟩
theorem m_Mo_portOf : Cond.instanceMethod y_Mo_portOf ∈ TBL ∧ Cond.selects y_Mo_portOf.cls y_Mo_portOf y_Mo_portOf ∈ TBL ∧ Cond.initialized y_Mo_portOf.cls ∈ TBL ∧ Cond.code y_Mo_portOf prog_8_method_15_code 2 (some .int) ∈ TBL ∧ y_Mo_portOf.cls ≠ "java/lang/invoke/MethodHandle" ∧ y_Mo_portOf.cls ≠ "java/lang/invoke/VarHandle" ∧ (parseMethodDescriptor y_Mo_portOf.desc).map (fun d => d.parameters.length) = some 1 := ⟨tb3 (List.mem_of_getElem? (i := 183) rfl) rfl, tbS (q := (y_Mo_portOf, 25)) (List.mem_append_right _ (List.mem_append_right _ ((List.mem_of_getElem? (i := 4) rfl)))), tb0 (List.mem_of_getElem? (i := 8) rfl) rfl, tb3 (List.mem_of_getElem? (i := 184) rfl) rfl, by decide, by decide, by decide +kernel⟩
theorem m_Mo_settled : Cond.instanceMethod y_Mo_settled ∈ TBL ∧ Cond.selects y_Mo_settled.cls y_Mo_settled y_Mo_settled ∈ TBL ∧ Cond.initialized y_Mo_settled.cls ∈ TBL ∧ Cond.code y_Mo_settled prog_8_method_40_code 1 (some .int) ∈ TBL ∧ y_Mo_settled.cls ≠ "java/lang/invoke/MethodHandle" ∧ y_Mo_settled.cls ≠ "java/lang/invoke/VarHandle" ∧ (parseMethodDescriptor y_Mo_settled.desc).map (fun d => d.parameters.length) = some 0 := ⟨tb3 (List.mem_of_getElem? (i := 186) rfl) rfl, tb3 (List.mem_of_getElem? (i := 187) rfl) rfl, tb0 (List.mem_of_getElem? (i := 8) rfl) rfl, tb3 (List.mem_of_getElem? (i := 188) rfl) rfl, by decide, by decide, by decide +kernel⟩
theorem m_Mo_state : Cond.instanceMethod y_Mo_state ∈ TBL ∧ Cond.selects y_Mo_state.cls y_Mo_state y_Mo_state ∈ TBL ∧ Cond.initialized y_Mo_state.cls ∈ TBL ∧ Cond.code y_Mo_state prog_8_method_41_code 3 (some .int) ∈ TBL ∧ y_Mo_state.cls ≠ "java/lang/invoke/MethodHandle" ∧ y_Mo_state.cls ≠ "java/lang/invoke/VarHandle" ∧ (parseMethodDescriptor y_Mo_state.desc).map (fun d => d.parameters.length) = some 2 := ⟨tb3 (List.mem_of_getElem? (i := 190) rfl) rfl, tb3 (List.mem_of_getElem? (i := 191) rfl) rfl, tb0 (List.mem_of_getElem? (i := 8) rfl) rfl, tb3 (List.mem_of_getElem? (i := 192) rfl) rfl, by decide, by decide, by decide +kernel⟩
theorem m_Mo_phase : Cond.instanceMethod y_Mo_phase ∈ TBL ∧ Cond.selects y_Mo_phase.cls y_Mo_phase y_Mo_phase ∈ TBL ∧ Cond.initialized y_Mo_phase.cls ∈ TBL ∧ Cond.code y_Mo_phase prog_8_method_42_code 2 (some .long) ∈ TBL ∧ y_Mo_phase.cls ≠ "java/lang/invoke/MethodHandle" ∧ y_Mo_phase.cls ≠ "java/lang/invoke/VarHandle" ∧ (parseMethodDescriptor y_Mo_phase.desc).map (fun d => d.parameters.length) = some 1 := ⟨tb3 (List.mem_of_getElem? (i := 194) rfl) rfl, tb3 (List.mem_of_getElem? (i := 195) rfl) rfl, tb0 (List.mem_of_getElem? (i := 8) rfl) rfl, tb3 (List.mem_of_getElem? (i := 196) rfl) rfl, by decide, by decide, by decide +kernel⟩
theorem m_Mo_sends : Cond.instanceMethod y_Mo_sends ∈ TBL ∧ Cond.selects y_Mo_sends.cls y_Mo_sends y_Mo_sends ∈ TBL ∧ Cond.initialized y_Mo_sends.cls ∈ TBL ∧ Cond.code y_Mo_sends prog_8_method_43_code 3 (some .int) ∈ TBL ∧ y_Mo_sends.cls ≠ "java/lang/invoke/MethodHandle" ∧ y_Mo_sends.cls ≠ "java/lang/invoke/VarHandle" ∧ (parseMethodDescriptor y_Mo_sends.desc).map (fun d => d.parameters.length) = some 2 := ⟨tb3 (List.mem_of_getElem? (i := 198) rfl) rfl, tb3 (List.mem_of_getElem? (i := 199) rfl) rfl, tb0 (List.mem_of_getElem? (i := 8) rfl) rfl, tb3 (List.mem_of_getElem? (i := 200) rfl) rfl, by decide, by decide, by decide +kernel⟩
theorem m_Mo_traced : Cond.instanceMethod y_Mo_traced ∈ TBL ∧ Cond.selects y_Mo_traced.cls y_Mo_traced y_Mo_traced ∈ TBL ∧ Cond.initialized y_Mo_traced.cls ∈ TBL ∧ Cond.code y_Mo_traced prog_8_method_44_code 4 (some .int) ∈ TBL ∧ y_Mo_traced.cls ≠ "java/lang/invoke/MethodHandle" ∧ y_Mo_traced.cls ≠ "java/lang/invoke/VarHandle" ∧ (parseMethodDescriptor y_Mo_traced.desc).map (fun d => d.parameters.length) = some 1 := ⟨tb3 (List.mem_of_getElem? (i := 202) rfl) rfl, tb3 (List.mem_of_getElem? (i := 203) rfl) rfl, tb0 (List.mem_of_getElem? (i := 8) rfl) rfl, tb3 (List.mem_of_getElem? (i := 204) rfl) rfl, by decide, by decide, by decide +kernel⟩
theorem m_Mo_followed : Cond.instanceMethod y_Mo_followed ∈ TBL ∧ Cond.selects y_Mo_followed.cls y_Mo_followed y_Mo_followed ∈ TBL ∧ Cond.initialized y_Mo_followed.cls ∈ TBL ∧ Cond.code y_Mo_followed prog_8_method_21_code 3 (some .int) ∈ TBL ∧ y_Mo_followed.cls ≠ "java/lang/invoke/MethodHandle" ∧ y_Mo_followed.cls ≠ "java/lang/invoke/VarHandle" ∧ (parseMethodDescriptor y_Mo_followed.desc).map (fun d => d.parameters.length) = some 1 := ⟨tb3 (List.mem_of_getElem? (i := 207) rfl) rfl, tbS (q := (y_Mo_followed, 25)) (List.mem_append_right _ (List.mem_append_right _ ((List.mem_of_getElem? (i := 5) rfl)))), tb0 (List.mem_of_getElem? (i := 8) rfl) rfl, tb3 (List.mem_of_getElem? (i := 208) rfl) rfl, by decide, by decide, by decide +kernel⟩
theorem m_Mo_loop : Cond.instanceMethod y_Mo_loop ∈ TBL ∧ Cond.selects y_Mo_loop.cls y_Mo_loop y_Mo_loop ∈ TBL ∧ Cond.initialized y_Mo_loop.cls ∈ TBL ∧ Cond.code y_Mo_loop prog_8_method_45_code 5 (some .boolean) ∈ TBL ∧ y_Mo_loop.cls ≠ "java/lang/invoke/MethodHandle" ∧ y_Mo_loop.cls ≠ "java/lang/invoke/VarHandle" ∧ (parseMethodDescriptor y_Mo_loop.desc).map (fun d => d.parameters.length) = some 0 := ⟨tb3 (List.mem_of_getElem? (i := 210) rfl) rfl, tb3 (List.mem_of_getElem? (i := 211) rfl) rfl, tb0 (List.mem_of_getElem? (i := 8) rfl) rfl, tb3 (List.mem_of_getElem? (i := 212) rfl) rfl, by decide, by decide, by decide +kernel⟩
theorem m_Mo_best : Cond.instanceMethod y_Mo_best ∈ TBL ∧ Cond.selects y_Mo_best.cls y_Mo_best y_Mo_best ∈ TBL ∧ Cond.initialized y_Mo_best.cls ∈ TBL ∧ Cond.code y_Mo_best prog_8_method_46_code 2 (some .int) ∈ TBL ∧ y_Mo_best.cls ≠ "java/lang/invoke/MethodHandle" ∧ y_Mo_best.cls ≠ "java/lang/invoke/VarHandle" ∧ (parseMethodDescriptor y_Mo_best.desc).map (fun d => d.parameters.length) = some 1 := ⟨tb3 (List.mem_of_getElem? (i := 214) rfl) rfl, tb3 (List.mem_of_getElem? (i := 215) rfl) rfl, tb0 (List.mem_of_getElem? (i := 8) rfl) rfl, tb3 (List.mem_of_getElem? (i := 216) rfl) rfl, by decide, by decide, by decide +kernel⟩
theorem m_Mo_bestFor : Cond.instanceMethod y_Mo_bestFor ∈ TBL ∧ Cond.selects y_Mo_bestFor.cls y_Mo_bestFor y_Mo_bestFor ∈ TBL ∧ Cond.initialized y_Mo_bestFor.cls ∈ TBL ∧ Cond.code y_Mo_bestFor prog_8_method_20_code 5 (some .int) ∈ TBL ∧ y_Mo_bestFor.cls ≠ "java/lang/invoke/MethodHandle" ∧ y_Mo_bestFor.cls ≠ "java/lang/invoke/VarHandle" ∧ (parseMethodDescriptor y_Mo_bestFor.desc).map (fun d => d.parameters.length) = some 1 := ⟨tb3 (List.mem_of_getElem? (i := 219) rfl) rfl, tbS (q := (y_Mo_bestFor, 25)) (List.mem_append_right _ (List.mem_append_right _ ((List.mem_of_getElem? (i := 6) rfl)))), tb0 (List.mem_of_getElem? (i := 8) rfl) rfl, tb3 (List.mem_of_getElem? (i := 220) rfl) rfl, by decide, by decide, by decide +kernel⟩
theorem m_Mo_reached : Cond.instanceMethod y_Mo_reached ∈ TBL ∧ Cond.selects y_Mo_reached.cls y_Mo_reached y_Mo_reached ∈ TBL ∧ Cond.initialized y_Mo_reached.cls ∈ TBL ∧ Cond.code y_Mo_reached prog_8_method_19_code 8 (some .int) ∈ TBL ∧ y_Mo_reached.cls ≠ "java/lang/invoke/MethodHandle" ∧ y_Mo_reached.cls ≠ "java/lang/invoke/VarHandle" ∧ (parseMethodDescriptor y_Mo_reached.desc).map (fun d => d.parameters.length) = some 1 := ⟨tb3 (List.mem_of_getElem? (i := 223) rfl) rfl, tbS (q := (y_Mo_reached, 25)) (List.mem_append_right _ (List.mem_append_right _ ((List.mem_of_getElem? (i := 7) rfl)))), tb0 (List.mem_of_getElem? (i := 8) rfl) rfl, tb3 (List.mem_of_getElem? (i := 224) rfl) rfl, by decide, by decide, by decide +kernel⟩
theorem m_Mo_check : Cond.instanceMethod y_Mo_check ∈ TBL ∧ Cond.selects y_Mo_check.cls y_Mo_check y_Mo_check ∈ TBL ∧ Cond.initialized y_Mo_check.cls ∈ TBL ∧ Cond.code y_Mo_check prog_8_method_47_code 2 (some .int) ∈ TBL ∧ y_Mo_check.cls ≠ "java/lang/invoke/MethodHandle" ∧ y_Mo_check.cls ≠ "java/lang/invoke/VarHandle" ∧ (parseMethodDescriptor y_Mo_check.desc).map (fun d => d.parameters.length) = some 0 := ⟨tb3 (List.mem_of_getElem? (i := 226) rfl) rfl, tb3 (List.mem_of_getElem? (i := 227) rfl) rfl, tb0 (List.mem_of_getElem? (i := 8) rfl) rfl, tb3 (List.mem_of_getElem? (i := 228) rfl) rfl, by decide, by decide, by decide +kernel⟩
theorem m_Mo_keep : Cond.instanceMethod y_Mo_keep ∈ TBL ∧ Cond.selects y_Mo_keep.cls y_Mo_keep y_Mo_keep ∈ TBL ∧ Cond.initialized y_Mo_keep.cls ∈ TBL ∧ Cond.code y_Mo_keep prog_8_method_22_code 3 none ∈ TBL ∧ y_Mo_keep.cls ≠ "java/lang/invoke/MethodHandle" ∧ y_Mo_keep.cls ≠ "java/lang/invoke/VarHandle" ∧ (parseMethodDescriptor y_Mo_keep.desc).map (fun d => d.parameters.length) = some 1 := ⟨tb3 (List.mem_of_getElem? (i := 231) rfl) rfl, tbS (q := (y_Mo_keep, 25)) (List.mem_append_right _ (List.mem_append_right _ ((List.mem_of_getElem? (i := 8) rfl)))), tb0 (List.mem_of_getElem? (i := 8) rfl) rfl, tb3 (List.mem_of_getElem? (i := 232) rfl) rfl, by decide, by decide, by decide +kernel⟩
theorem m_Mo_goOn : Cond.instanceMethod y_Mo_goOn ∈ TBL ∧ Cond.selects y_Mo_goOn.cls y_Mo_goOn y_Mo_goOn ∈ TBL ∧ Cond.initialized y_Mo_goOn.cls ∈ TBL ∧ Cond.code y_Mo_goOn prog_8_method_23_code 4 none ∈ TBL ∧ y_Mo_goOn.cls ≠ "java/lang/invoke/MethodHandle" ∧ y_Mo_goOn.cls ≠ "java/lang/invoke/VarHandle" ∧ (parseMethodDescriptor y_Mo_goOn.desc).map (fun d => d.parameters.length) = some 1 := ⟨tb3 (List.mem_of_getElem? (i := 235) rfl) rfl, tbS (q := (y_Mo_goOn, 25)) (List.mem_append_right _ (List.mem_append_right _ ((List.mem_of_getElem? (i := 9) rfl)))), tb0 (List.mem_of_getElem? (i := 8) rfl) rfl, tb3 (List.mem_of_getElem? (i := 236) rfl) rfl, by decide, by decide, by decide +kernel⟩
theorem m_Mo_finding : Cond.instanceMethod y_Mo_finding ∈ TBL ∧ Cond.selects y_Mo_finding.cls y_Mo_finding y_Mo_finding ∈ TBL ∧ Cond.initialized y_Mo_finding.cls ∈ TBL ∧ Cond.code y_Mo_finding prog_8_method_48_code 3 (some .int) ∈ TBL ∧ y_Mo_finding.cls ≠ "java/lang/invoke/MethodHandle" ∧ y_Mo_finding.cls ≠ "java/lang/invoke/VarHandle" ∧ (parseMethodDescriptor y_Mo_finding.desc).map (fun d => d.parameters.length) = some 2 := ⟨tb3 (List.mem_of_getElem? (i := 238) rfl) rfl, tb3 (List.mem_of_getElem? (i := 239) rfl) rfl, tb0 (List.mem_of_getElem? (i := 8) rfl) rfl, tb4 (List.mem_of_getElem? (i := 0) rfl) rfl, by decide, by decide, by decide +kernel⟩
theorem m_min : Cond.static Lib.Math.min.name ∈ TBL ∧ Cond.initialized "java/lang/Math" ∈ TBL ∧ Cond.code Lib.Math.min.name Lib.Math.min.code 2 (some .int) ∈ TBL := ⟨tb1 (List.mem_of_getElem? (i := 102) rfl) rfl, tb0 (List.mem_of_getElem? (i := 14) rfl) rfl, tb1 (List.mem_of_getElem? (i := 103) rfl) rfl⟩
theorem m_max : Cond.static Lib.Math.max.name ∈ TBL ∧ Cond.initialized "java/lang/Math" ∈ TBL ∧ Cond.code Lib.Math.max.name Lib.Math.max.code 2 (some .int) ∈ TBL := ⟨tb1 (List.mem_of_getElem? (i := 63) rfl) rfl, tb0 (List.mem_of_getElem? (i := 14) rfl) rfl, tb1 (List.mem_of_getElem? (i := 64) rfl) rfl⟩
theorem m_copy : Cond.native arraycopyName ∈ TBL ∧ Cond.static arraycopyName ∈ TBL ∧ Cond.initialized "java/lang/System" ∈ TBL := ⟨tb1 (List.mem_of_getElem? (i := 79) rfl) rfl, tb1 (List.mem_of_getElem? (i := 78) rfl) rfl, tb0 (List.mem_of_getElem? (i := 15) rfl) rfl⟩
end
section
theorem d_CT_tracing_0 : decode prog_1_method_7_code 0 = .ok (.aload_n 0, 1) := by decide +kernel
theorem d_CT_tracing_1 : decode prog_1_method_7_code 1 = .ok (.getfield 12, 3) := by decide +kernel
theorem d_CT_tracing_4 : decode prog_1_method_7_code 4 = .ok (.getfield 125, 3) := by decide +kernel
theorem d_CT_tracing_7 : decode prog_1_method_7_code 7 = .ok (.istore_n 2, 1) := by decide +kernel
theorem d_CT_tracing_8 : decode prog_1_method_7_code 8 = .ok (.aload_n 0, 1) := by decide +kernel
theorem d_CT_tracing_9 : decode prog_1_method_7_code 9 = .ok (.getfield 12, 3) := by decide +kernel
theorem d_CT_tracing_12 : decode prog_1_method_7_code 12 = .ok (.iload_n 1, 1) := by decide +kernel
theorem d_CT_tracing_13 : decode prog_1_method_7_code 13 = .ok (.putfield 125, 3) := by decide +kernel
theorem d_CT_tracing_16 : decode prog_1_method_7_code 16 = .ok (.iload_n 2, 1) := by decide +kernel
theorem d_CT_tracing_17 : decode prog_1_method_7_code 17 = .ok (.ireturn, 1) := by decide +kernel
theorem d_CT_settled_0 : decode prog_1_method_14_code 0 = .ok (.aload_n 0, 1) := by decide +kernel
theorem d_CT_settled_1 : decode prog_1_method_14_code 1 = .ok (.getfield 38, 3) := by decide +kernel
theorem d_CT_settled_4 : decode prog_1_method_14_code 4 = .ok (.getfield 173, 3) := by decide +kernel
theorem d_CT_settled_7 : decode prog_1_method_14_code 7 = .ok (.ireturn, 1) := by decide +kernel
theorem d_CT_loop_0 : decode prog_1_method_19_code 0 = .ok (.iconst 0, 1) := by decide +kernel
theorem d_CT_loop_1 : decode prog_1_method_19_code 1 = .ok (.istore_n 1, 1) := by decide +kernel
theorem d_CT_loop_2 : decode prog_1_method_19_code 2 = .ok (.iload_n 1, 1) := by decide +kernel
theorem d_CT_loop_3 : decode prog_1_method_19_code 3 = .ok (.bipush 16, 2) := by decide +kernel
theorem d_CT_loop_5 : decode prog_1_method_19_code 5 = .ok (.if_icmp .ge 24, 3) := by decide +kernel
theorem d_CT_loop_8 : decode prog_1_method_19_code 8 = .ok (.aload_n 0, 1) := by decide +kernel
theorem d_CT_loop_9 : decode prog_1_method_19_code 9 = .ok (.getfield 21, 3) := by decide +kernel
theorem d_CT_loop_12 : decode prog_1_method_19_code 12 = .ok (.iload_n 1, 1) := by decide +kernel
theorem d_CT_loop_13 : decode prog_1_method_19_code 13 = .ok (.invokevirtual 206, 3) := by decide +kernel
theorem d_CT_loop_16 : decode prog_1_method_19_code 16 = .ok (.bipush (-2), 2) := by decide +kernel
theorem d_CT_loop_18 : decode prog_1_method_19_code 18 = .ok (.if_icmp .ne 5, 3) := by decide +kernel
theorem d_CT_loop_21 : decode prog_1_method_19_code 21 = .ok (.iconst 1, 1) := by decide +kernel
theorem d_CT_loop_22 : decode prog_1_method_19_code 22 = .ok (.ireturn, 1) := by decide +kernel
theorem d_CT_loop_23 : decode prog_1_method_19_code 23 = .ok (.iinc 1 1, 3) := by decide +kernel
theorem d_CT_loop_26 : decode prog_1_method_19_code 26 = .ok (.goto (-24), 3) := by decide +kernel
theorem d_CT_loop_29 : decode prog_1_method_19_code 29 = .ok (.iconst 0, 1) := by decide +kernel
theorem d_CT_loop_30 : decode prog_1_method_19_code 30 = .ok (.ireturn, 1) := by decide +kernel
theorem d_Fl_follow_0 : decode prog_4_method_24_code 0 = .ok (.iload_n 1, 1) := by decide +kernel
theorem d_Fl_follow_1 : decode prog_4_method_24_code 1 = .ok (.istore_n 2, 1) := by decide +kernel
theorem d_Fl_follow_2 : decode prog_4_method_24_code 2 = .ok (.iconst 0, 1) := by decide +kernel
theorem d_Fl_follow_3 : decode prog_4_method_24_code 3 = .ok (.istore_n 3, 1) := by decide +kernel
theorem d_Fl_follow_4 : decode prog_4_method_24_code 4 = .ok (.iload_n 3, 1) := by decide +kernel
theorem d_Fl_follow_5 : decode prog_4_method_24_code 5 = .ok (.bipush 16, 2) := by decide +kernel
theorem d_Fl_follow_7 : decode prog_4_method_24_code 7 = .ok (.if_icmp .ge 70, 3) := by decide +kernel
theorem d_Fl_follow_10 : decode prog_4_method_24_code 10 = .ok (.aload_n 0, 1) := by decide +kernel
theorem d_Fl_follow_11 : decode prog_4_method_24_code 11 = .ok (.iload_n 2, 1) := by decide +kernel
theorem d_Fl_follow_12 : decode prog_4_method_24_code 12 = .ok (.invokevirtual 102, 3) := by decide +kernel
theorem d_Fl_follow_15 : decode prog_4_method_24_code 15 = .ok (.ifCond .eq 11, 3) := by decide +kernel
theorem d_Fl_follow_18 : decode prog_4_method_24_code 18 = .ok (.aload_n 0, 1) := by decide +kernel
theorem d_Fl_follow_19 : decode prog_4_method_24_code 19 = .ok (.iload_n 2, 1) := by decide +kernel
theorem d_Fl_follow_20 : decode prog_4_method_24_code 20 = .ok (.invokevirtual 196, 3) := by decide +kernel
theorem d_Fl_follow_23 : decode prog_4_method_24_code 23 = .ok (.ifCond .ne 5, 3) := by decide +kernel
theorem d_Fl_follow_26 : decode prog_4_method_24_code 26 = .ok (.iconst (-1), 1) := by decide +kernel
theorem d_Fl_follow_27 : decode prog_4_method_24_code 27 = .ok (.ireturn, 1) := by decide +kernel
theorem d_Fl_follow_28 : decode prog_4_method_24_code 28 = .ok (.iload_n 2, 1) := by decide +kernel
theorem d_Fl_follow_29 : decode prog_4_method_24_code 29 = .ok (.aload_n 0, 1) := by decide +kernel
theorem d_Fl_follow_30 : decode prog_4_method_24_code 30 = .ok (.getfield 34, 3) := by decide +kernel
theorem d_Fl_follow_33 : decode prog_4_method_24_code 33 = .ok (.iload_n 2, 1) := by decide +kernel
theorem d_Fl_follow_34 : decode prog_4_method_24_code 34 = .ok (.iaload, 1) := by decide +kernel
theorem d_Fl_follow_35 : decode prog_4_method_24_code 35 = .ok (.invokestatic 91, 3) := by decide +kernel
theorem d_Fl_follow_38 : decode prog_4_method_24_code 38 = .ok (.istore 4, 2) := by decide +kernel
theorem d_Fl_follow_40 : decode prog_4_method_24_code 40 = .ok (.aload_n 0, 1) := by decide +kernel
theorem d_Fl_follow_41 : decode prog_4_method_24_code 41 = .ok (.getfield 61, 3) := by decide +kernel
theorem d_Fl_follow_44 : decode prog_4_method_24_code 44 = .ok (.getfield 115, 3) := by decide +kernel
theorem d_Fl_follow_47 : decode prog_4_method_24_code 47 = .ok (.iload 4, 2) := by decide +kernel
theorem d_Fl_follow_49 : decode prog_4_method_24_code 49 = .ok (.iaload, 1) := by decide +kernel
theorem d_Fl_follow_50 : decode prog_4_method_24_code 50 = .ok (.iconst (-1), 1) := by decide +kernel
theorem d_Fl_follow_51 : decode prog_4_method_24_code 51 = .ok (.if_icmp .ne 6, 3) := by decide +kernel
theorem d_Fl_follow_54 : decode prog_4_method_24_code 54 = .ok (.iload 4, 2) := by decide +kernel
theorem d_Fl_follow_56 : decode prog_4_method_24_code 56 = .ok (.ireturn, 1) := by decide +kernel
theorem d_Fl_follow_57 : decode prog_4_method_24_code 57 = .ok (.aload_n 0, 1) := by decide +kernel
theorem d_Fl_follow_58 : decode prog_4_method_24_code 58 = .ok (.getfield 61, 3) := by decide +kernel
theorem d_Fl_follow_61 : decode prog_4_method_24_code 61 = .ok (.getfield 128, 3) := by decide +kernel
theorem d_Fl_follow_64 : decode prog_4_method_24_code 64 = .ok (.iload 4, 2) := by decide +kernel
theorem d_Fl_follow_66 : decode prog_4_method_24_code 66 = .ok (.iaload, 1) := by decide +kernel
theorem d_Fl_follow_67 : decode prog_4_method_24_code 67 = .ok (.invokestatic 152, 3) := by decide +kernel
theorem d_Fl_follow_70 : decode prog_4_method_24_code 70 = .ok (.istore_n 2, 1) := by decide +kernel
theorem d_Fl_follow_71 : decode prog_4_method_24_code 71 = .ok (.iinc 3 1, 3) := by decide +kernel
theorem d_Fl_follow_74 : decode prog_4_method_24_code 74 = .ok (.goto (-70), 3) := by decide +kernel
theorem d_Fl_follow_77 : decode prog_4_method_24_code 77 = .ok (.bipush (-2), 2) := by decide +kernel
theorem d_Fl_follow_79 : decode prog_4_method_24_code 79 = .ok (.ireturn, 1) := by decide +kernel
theorem d_Fl_isWhole_0 : decode prog_4_method_3_code 0 = .ok (.aload_n 0, 1) := by decide +kernel
theorem d_Fl_isWhole_1 : decode prog_4_method_3_code 1 = .ok (.getfield 61, 3) := by decide +kernel
theorem d_Fl_isWhole_4 : decode prog_4_method_3_code 4 = .ok (.getfield 81, 3) := by decide +kernel
theorem d_Fl_isWhole_7 : decode prog_4_method_3_code 7 = .ok (.iload_n 1, 1) := by decide +kernel
theorem d_Fl_isWhole_8 : decode prog_4_method_3_code 8 = .ok (.baload, 1) := by decide +kernel
theorem d_Fl_isWhole_9 : decode prog_4_method_3_code 9 = .ok (.ifCond .eq 18, 3) := by decide +kernel
theorem d_Fl_isWhole_12 : decode prog_4_method_3_code 12 = .ok (.aload_n 0, 1) := by decide +kernel
theorem d_Fl_isWhole_13 : decode prog_4_method_3_code 13 = .ok (.getfield 47, 3) := by decide +kernel
theorem d_Fl_isWhole_16 : decode prog_4_method_3_code 16 = .ok (.iload_n 1, 1) := by decide +kernel
theorem d_Fl_isWhole_17 : decode prog_4_method_3_code 17 = .ok (.ishr, 1) := by decide +kernel
theorem d_Fl_isWhole_18 : decode prog_4_method_3_code 18 = .ok (.iconst 1, 1) := by decide +kernel
theorem d_Fl_isWhole_19 : decode prog_4_method_3_code 19 = .ok (.iand, 1) := by decide +kernel
theorem d_Fl_isWhole_20 : decode prog_4_method_3_code 20 = .ok (.ifCond .ne 7, 3) := by decide +kernel
theorem d_Fl_isWhole_23 : decode prog_4_method_3_code 23 = .ok (.iconst 1, 1) := by decide +kernel
theorem d_Fl_isWhole_24 : decode prog_4_method_3_code 24 = .ok (.goto 4, 3) := by decide +kernel
theorem d_Fl_isWhole_27 : decode prog_4_method_3_code 27 = .ok (.iconst 0, 1) := by decide +kernel
theorem d_Fl_isWhole_28 : decode prog_4_method_3_code 28 = .ok (.ireturn, 1) := by decide +kernel
theorem d_Fl_isLocked_0 : decode prog_4_method_5_code 0 = .ok (.aload_n 0, 1) := by decide +kernel
theorem d_Fl_isLocked_1 : decode prog_4_method_5_code 1 = .ok (.getfield 31, 3) := by decide +kernel
theorem d_Fl_isLocked_4 : decode prog_4_method_5_code 4 = .ok (.iload_n 1, 1) := by decide +kernel
theorem d_Fl_isLocked_5 : decode prog_4_method_5_code 5 = .ok (.iaload, 1) := by decide +kernel
theorem d_Fl_isLocked_6 : decode prog_4_method_5_code 6 = .ok (.iconst 1, 1) := by decide +kernel
theorem d_Fl_isLocked_7 : decode prog_4_method_5_code 7 = .ok (.if_icmp .ne 7, 3) := by decide +kernel
theorem d_Fl_isLocked_10 : decode prog_4_method_5_code 10 = .ok (.iconst 1, 1) := by decide +kernel
theorem d_Fl_isLocked_11 : decode prog_4_method_5_code 11 = .ok (.goto 4, 3) := by decide +kernel
theorem d_Fl_isLocked_14 : decode prog_4_method_5_code 14 = .ok (.iconst 0, 1) := by decide +kernel
theorem d_Fl_isLocked_15 : decode prog_4_method_5_code 15 = .ok (.ireturn, 1) := by decide +kernel
theorem d_CT_slotOf_0 : decode prog_1_method_26_code 0 = .ok (.iload_n 0, 1) := by decide +kernel
theorem d_CT_slotOf_1 : decode prog_1_method_26_code 1 = .ok (.iconst 4, 1) := by decide +kernel
theorem d_CT_slotOf_2 : decode prog_1_method_26_code 2 = .ok (.imul, 1) := by decide +kernel
theorem d_CT_slotOf_3 : decode prog_1_method_26_code 3 = .ok (.iload_n 1, 1) := by decide +kernel
theorem d_CT_slotOf_4 : decode prog_1_method_26_code 4 = .ok (.iadd, 1) := by decide +kernel
theorem d_CT_slotOf_5 : decode prog_1_method_26_code 5 = .ok (.ireturn, 1) := by decide +kernel
theorem d_CT_elementOf_0 : decode prog_1_method_27_code 0 = .ok (.iload_n 0, 1) := by decide +kernel
theorem d_CT_elementOf_1 : decode prog_1_method_27_code 1 = .ok (.iconst 4, 1) := by decide +kernel
theorem d_CT_elementOf_2 : decode prog_1_method_27_code 2 = .ok (.idiv, 1) := by decide +kernel
theorem d_CT_elementOf_3 : decode prog_1_method_27_code 3 = .ok (.ireturn, 1) := by decide +kernel
theorem d_CT_check_0 : decode prog_1_method_21_code 0 = .ok (.aload_n 0, 1) := by decide +kernel
theorem d_CT_check_1 : decode prog_1_method_21_code 1 = .ok (.iconst 0, 1) := by decide +kernel
theorem d_CT_check_2 : decode prog_1_method_21_code 2 = .ok (.putfield 49, 3) := by decide +kernel
theorem d_CT_check_5 : decode prog_1_method_21_code 5 = .ok (.iconst 4, 1) := by decide +kernel
theorem d_CT_check_6 : decode prog_1_method_21_code 6 = .ok (.bipush 24, 2) := by decide +kernel
theorem d_CT_check_8 : decode prog_1_method_21_code 8 = .ok (.aload_n 0, 1) := by decide +kernel
theorem d_CT_check_9 : decode prog_1_method_21_code 9 = .ok (.getfield 12, 3) := by decide +kernel
theorem d_CT_check_12 : decode prog_1_method_21_code 12 = .ok (.invokevirtual 212, 3) := by decide +kernel
theorem d_CT_check_15 : decode prog_1_method_21_code 15 = .ok (.iadd, 1) := by decide +kernel
theorem d_CT_check_16 : decode prog_1_method_21_code 16 = .ok (.imul, 1) := by decide +kernel
theorem d_CT_check_17 : decode prog_1_method_21_code 17 = .ok (.istore_n 1, 1) := by decide +kernel
theorem d_CT_check_18 : decode prog_1_method_21_code 18 = .ok (.iconst 0, 1) := by decide +kernel
theorem d_CT_check_19 : decode prog_1_method_21_code 19 = .ok (.istore_n 2, 1) := by decide +kernel
theorem d_CT_check_20 : decode prog_1_method_21_code 20 = .ok (.iload_n 2, 1) := by decide +kernel
theorem d_CT_check_21 : decode prog_1_method_21_code 21 = .ok (.aload_n 0, 1) := by decide +kernel
theorem d_CT_check_22 : decode prog_1_method_21_code 22 = .ok (.getfield 12, 3) := by decide +kernel
theorem d_CT_check_25 : decode prog_1_method_21_code 25 = .ok (.getfield 97, 3) := by decide +kernel
theorem d_CT_check_28 : decode prog_1_method_21_code 28 = .ok (.if_icmp .ge 62, 3) := by decide +kernel
theorem d_CT_check_31 : decode prog_1_method_21_code 31 = .ok (.aload_n 0, 1) := by decide +kernel
theorem d_CT_check_32 : decode prog_1_method_21_code 32 = .ok (.getfield 49, 3) := by decide +kernel
theorem d_CT_check_35 : decode prog_1_method_21_code 35 = .ok (.bipush 100, 2) := by decide +kernel
theorem d_CT_check_37 : decode prog_1_method_21_code 37 = .ok (.if_icmp .ge 53, 3) := by decide +kernel
theorem d_CT_check_40 : decode prog_1_method_21_code 40 = .ok (.aload_n 0, 1) := by decide +kernel
theorem d_CT_check_41 : decode prog_1_method_21_code 41 = .ok (.getfield 21, 3) := by decide +kernel
theorem d_CT_check_44 : decode prog_1_method_21_code 44 = .ok (.iload_n 2, 1) := by decide +kernel
theorem d_CT_check_45 : decode prog_1_method_21_code 45 = .ok (.invokevirtual 141, 3) := by decide +kernel
theorem d_CT_check_48 : decode prog_1_method_21_code 48 = .ok (.ifCond .eq 36, 3) := by decide +kernel
theorem d_CT_check_51 : decode prog_1_method_21_code 51 = .ok (.aload_n 0, 1) := by decide +kernel
theorem d_CT_check_52 : decode prog_1_method_21_code 52 = .ok (.getfield 25, 3) := by decide +kernel
theorem d_CT_check_55 : decode prog_1_method_21_code 55 = .ok (.aload_n 0, 1) := by decide +kernel
theorem d_CT_check_56 : decode prog_1_method_21_code 56 = .ok (.getfield 21, 3) := by decide +kernel
theorem d_CT_check_59 : decode prog_1_method_21_code 59 = .ok (.invokevirtual 216, 3) := by decide +kernel
theorem d_CT_check_62 : decode prog_1_method_21_code 62 = .ok (.aload_n 0, 1) := by decide +kernel
theorem d_CT_check_63 : decode prog_1_method_21_code 63 = .ok (.getfield 25, 3) := by decide +kernel
theorem d_CT_check_66 : decode prog_1_method_21_code 66 = .ok (.iload_n 2, 1) := by decide +kernel
theorem d_CT_check_67 : decode prog_1_method_21_code 67 = .ok (.iconst 1, 1) := by decide +kernel
theorem d_CT_check_68 : decode prog_1_method_21_code 68 = .ok (.invokevirtual 144, 3) := by decide +kernel
theorem d_CT_check_71 : decode prog_1_method_21_code 71 = .ok (.aload_n 0, 1) := by decide +kernel
theorem d_CT_check_72 : decode prog_1_method_21_code 72 = .ok (.getfield 25, 3) := by decide +kernel
theorem d_CT_check_75 : decode prog_1_method_21_code 75 = .ok (.iload_n 1, 1) := by decide +kernel
theorem d_CT_check_76 : decode prog_1_method_21_code 76 = .ok (.invokevirtual 219, 3) := by decide +kernel
theorem d_CT_check_79 : decode prog_1_method_21_code 79 = .ok (.aload_n 0, 1) := by decide +kernel
theorem d_CT_check_80 : decode prog_1_method_21_code 80 = .ok (.iload_n 2, 1) := by decide +kernel
theorem d_CT_check_81 : decode prog_1_method_21_code 81 = .ok (.invokevirtual 222, 3) := by decide +kernel
theorem d_CT_check_84 : decode prog_1_method_21_code 84 = .ok (.iinc 2 1, 3) := by decide +kernel
theorem d_CT_check_87 : decode prog_1_method_21_code 87 = .ok (.goto (-67), 3) := by decide +kernel
theorem d_CT_check_90 : decode prog_1_method_21_code 90 = .ok (.iconst 0, 1) := by decide +kernel
theorem d_CT_check_91 : decode prog_1_method_21_code 91 = .ok (.istore_n 2, 1) := by decide +kernel
theorem d_CT_check_92 : decode prog_1_method_21_code 92 = .ok (.iload_n 2, 1) := by decide +kernel
theorem d_CT_check_93 : decode prog_1_method_21_code 93 = .ok (.bipush 16, 2) := by decide +kernel
theorem d_CT_check_95 : decode prog_1_method_21_code 95 = .ok (.if_icmp .ge 65, 3) := by decide +kernel
theorem d_CT_check_98 : decode prog_1_method_21_code 98 = .ok (.aload_n 0, 1) := by decide +kernel
theorem d_CT_check_99 : decode prog_1_method_21_code 99 = .ok (.getfield 49, 3) := by decide +kernel
theorem d_CT_check_102 : decode prog_1_method_21_code 102 = .ok (.bipush 100, 2) := by decide +kernel
theorem d_CT_check_104 : decode prog_1_method_21_code 104 = .ok (.if_icmp .ge 56, 3) := by decide +kernel
theorem d_CT_check_107 : decode prog_1_method_21_code 107 = .ok (.aload_n 0, 1) := by decide +kernel
theorem d_CT_check_108 : decode prog_1_method_21_code 108 = .ok (.getfield 21, 3) := by decide +kernel
theorem d_CT_check_111 : decode prog_1_method_21_code 111 = .ok (.iload_n 2, 1) := by decide +kernel
theorem d_CT_check_112 : decode prog_1_method_21_code 112 = .ok (.invokevirtual 148, 3) := by decide +kernel
theorem d_CT_check_115 : decode prog_1_method_21_code 115 = .ok (.ifCond .eq 39, 3) := by decide +kernel
theorem d_CT_check_118 : decode prog_1_method_21_code 118 = .ok (.aload_n 0, 1) := by decide +kernel
theorem d_CT_check_119 : decode prog_1_method_21_code 119 = .ok (.getfield 25, 3) := by decide +kernel
theorem d_CT_check_122 : decode prog_1_method_21_code 122 = .ok (.aload_n 0, 1) := by decide +kernel
theorem d_CT_check_123 : decode prog_1_method_21_code 123 = .ok (.getfield 21, 3) := by decide +kernel
theorem d_CT_check_126 : decode prog_1_method_21_code 126 = .ok (.invokevirtual 216, 3) := by decide +kernel
theorem d_CT_check_129 : decode prog_1_method_21_code 129 = .ok (.aload_n 0, 1) := by decide +kernel
theorem d_CT_check_130 : decode prog_1_method_21_code 130 = .ok (.getfield 25, 3) := by decide +kernel
theorem d_CT_check_133 : decode prog_1_method_21_code 133 = .ok (.iload_n 2, 1) := by decide +kernel
theorem d_CT_check_134 : decode prog_1_method_21_code 134 = .ok (.iconst 1, 1) := by decide +kernel
theorem d_CT_check_135 : decode prog_1_method_21_code 135 = .ok (.invokevirtual 151, 3) := by decide +kernel
theorem d_CT_check_138 : decode prog_1_method_21_code 138 = .ok (.aload_n 0, 1) := by decide +kernel
theorem d_CT_check_139 : decode prog_1_method_21_code 139 = .ok (.getfield 25, 3) := by decide +kernel
theorem d_CT_check_142 : decode prog_1_method_21_code 142 = .ok (.iload_n 1, 1) := by decide +kernel
theorem d_CT_check_143 : decode prog_1_method_21_code 143 = .ok (.invokevirtual 219, 3) := by decide +kernel
theorem d_CT_check_146 : decode prog_1_method_21_code 146 = .ok (.aload_n 0, 1) := by decide +kernel
theorem d_CT_check_147 : decode prog_1_method_21_code 147 = .ok (.bipush 100, 2) := by decide +kernel
theorem d_CT_check_149 : decode prog_1_method_21_code 149 = .ok (.iload_n 2, 1) := by decide +kernel
theorem d_CT_check_150 : decode prog_1_method_21_code 150 = .ok (.iadd, 1) := by decide +kernel
theorem d_CT_check_151 : decode prog_1_method_21_code 151 = .ok (.invokevirtual 222, 3) := by decide +kernel
theorem d_CT_check_154 : decode prog_1_method_21_code 154 = .ok (.iinc 2 1, 3) := by decide +kernel
theorem d_CT_check_157 : decode prog_1_method_21_code 157 = .ok (.goto (-65), 3) := by decide +kernel
theorem d_CT_check_160 : decode prog_1_method_21_code 160 = .ok (.aload_n 0, 1) := by decide +kernel
theorem d_CT_check_161 : decode prog_1_method_21_code 161 = .ok (.getfield 49, 3) := by decide +kernel
theorem d_CT_check_164 : decode prog_1_method_21_code 164 = .ok (.ireturn, 1) := by decide +kernel
theorem d_Pl_longestRestore_0 : decode prog_5_method_8_code 0 = .ok (.iconst 0, 1) := by decide +kernel
theorem d_Pl_longestRestore_1 : decode prog_5_method_8_code 1 = .ok (.istore_n 1, 1) := by decide +kernel
theorem d_Pl_longestRestore_2 : decode prog_5_method_8_code 2 = .ok (.iconst 0, 1) := by decide +kernel
theorem d_Pl_longestRestore_3 : decode prog_5_method_8_code 3 = .ok (.istore_n 2, 1) := by decide +kernel
theorem d_Pl_longestRestore_4 : decode prog_5_method_8_code 4 = .ok (.iload_n 2, 1) := by decide +kernel
theorem d_Pl_longestRestore_5 : decode prog_5_method_8_code 5 = .ok (.bipush 16, 2) := by decide +kernel
theorem d_Pl_longestRestore_7 : decode prog_5_method_8_code 7 = .ok (.if_icmp .ge 20, 3) := by decide +kernel
theorem d_Pl_longestRestore_10 : decode prog_5_method_8_code 10 = .ok (.iload_n 1, 1) := by decide +kernel
theorem d_Pl_longestRestore_11 : decode prog_5_method_8_code 11 = .ok (.aload_n 0, 1) := by decide +kernel
theorem d_Pl_longestRestore_12 : decode prog_5_method_8_code 12 = .ok (.getfield 25, 3) := by decide +kernel
theorem d_Pl_longestRestore_15 : decode prog_5_method_8_code 15 = .ok (.iload_n 2, 1) := by decide +kernel
theorem d_Pl_longestRestore_16 : decode prog_5_method_8_code 16 = .ok (.iaload, 1) := by decide +kernel
theorem d_Pl_longestRestore_17 : decode prog_5_method_8_code 17 = .ok (.invokestatic 80, 3) := by decide +kernel
theorem d_Pl_longestRestore_20 : decode prog_5_method_8_code 20 = .ok (.istore_n 1, 1) := by decide +kernel
theorem d_Pl_longestRestore_21 : decode prog_5_method_8_code 21 = .ok (.iinc 2 1, 3) := by decide +kernel
theorem d_Pl_longestRestore_24 : decode prog_5_method_8_code 24 = .ok (.goto (-20), 3) := by decide +kernel
theorem d_Pl_longestRestore_27 : decode prog_5_method_8_code 27 = .ok (.iload_n 1, 1) := by decide +kernel
theorem d_Pl_longestRestore_28 : decode prog_5_method_8_code 28 = .ok (.ireturn, 1) := by decide +kernel
theorem d_Fl_isLinkWhole_0 : decode prog_4_method_4_code 0 = .ok (.aload_n 0, 1) := by decide +kernel
theorem d_Fl_isLinkWhole_1 : decode prog_4_method_4_code 1 = .ok (.getfield 50, 3) := by decide +kernel
theorem d_Fl_isLinkWhole_4 : decode prog_4_method_4_code 4 = .ok (.iload_n 1, 1) := by decide +kernel
theorem d_Fl_isLinkWhole_5 : decode prog_4_method_4_code 5 = .ok (.ishr, 1) := by decide +kernel
theorem d_Fl_isLinkWhole_6 : decode prog_4_method_4_code 6 = .ok (.iconst 1, 1) := by decide +kernel
theorem d_Fl_isLinkWhole_7 : decode prog_4_method_4_code 7 = .ok (.iand, 1) := by decide +kernel
theorem d_Fl_isLinkWhole_8 : decode prog_4_method_4_code 8 = .ok (.ifCond .ne 7, 3) := by decide +kernel
theorem d_Fl_isLinkWhole_11 : decode prog_4_method_4_code 11 = .ok (.iconst 1, 1) := by decide +kernel
theorem d_Fl_isLinkWhole_12 : decode prog_4_method_4_code 12 = .ok (.goto 4, 3) := by decide +kernel
theorem d_Fl_isLinkWhole_15 : decode prog_4_method_4_code 15 = .ok (.iconst 0, 1) := by decide +kernel
theorem d_Fl_isLinkWhole_16 : decode prog_4_method_4_code 16 = .ok (.ireturn, 1) := by decide +kernel
theorem d_Fl_copy_0 : decode prog_4_method_2_code 0 = .ok (.aload_n 0, 1) := by decide +kernel
theorem d_Fl_copy_1 : decode prog_4_method_2_code 1 = .ok (.getfield 12, 3) := by decide +kernel
theorem d_Fl_copy_4 : decode prog_4_method_2_code 4 = .ok (.aload_n 1, 1) := by decide +kernel
theorem d_Fl_copy_5 : decode prog_4_method_2_code 5 = .ok (.getfield 12, 3) := by decide +kernel
theorem d_Fl_copy_8 : decode prog_4_method_2_code 8 = .ok (.invokevirtual 71, 3) := by decide +kernel
theorem d_Fl_copy_11 : decode prog_4_method_2_code 11 = .ok (.aload_n 0, 1) := by decide +kernel
theorem d_Fl_copy_12 : decode prog_4_method_2_code 12 = .ok (.getfield 18, 3) := by decide +kernel
theorem d_Fl_copy_15 : decode prog_4_method_2_code 15 = .ok (.aload_n 1, 1) := by decide +kernel
theorem d_Fl_copy_16 : decode prog_4_method_2_code 16 = .ok (.getfield 18, 3) := by decide +kernel
theorem d_Fl_copy_19 : decode prog_4_method_2_code 19 = .ok (.invokevirtual 71, 3) := by decide +kernel
theorem d_Fl_copy_22 : decode prog_4_method_2_code 22 = .ok (.aload_n 1, 1) := by decide +kernel
theorem d_Fl_copy_23 : decode prog_4_method_2_code 23 = .ok (.getfield 24, 3) := by decide +kernel
theorem d_Fl_copy_26 : decode prog_4_method_2_code 26 = .ok (.iconst 0, 1) := by decide +kernel
theorem d_Fl_copy_27 : decode prog_4_method_2_code 27 = .ok (.aload_n 0, 1) := by decide +kernel
theorem d_Fl_copy_28 : decode prog_4_method_2_code 28 = .ok (.getfield 24, 3) := by decide +kernel
theorem d_Fl_copy_31 : decode prog_4_method_2_code 31 = .ok (.iconst 0, 1) := by decide +kernel
theorem d_Fl_copy_32 : decode prog_4_method_2_code 32 = .ok (.bipush 64, 2) := by decide +kernel
theorem d_Fl_copy_34 : decode prog_4_method_2_code 34 = .ok (.invokestatic 75, 3) := by decide +kernel
theorem d_Fl_copy_37 : decode prog_4_method_2_code 37 = .ok (.aload_n 1, 1) := by decide +kernel
theorem d_Fl_copy_38 : decode prog_4_method_2_code 38 = .ok (.getfield 28, 3) := by decide +kernel
theorem d_Fl_copy_41 : decode prog_4_method_2_code 41 = .ok (.iconst 0, 1) := by decide +kernel
theorem d_Fl_copy_42 : decode prog_4_method_2_code 42 = .ok (.aload_n 0, 1) := by decide +kernel
theorem d_Fl_copy_43 : decode prog_4_method_2_code 43 = .ok (.getfield 28, 3) := by decide +kernel
theorem d_Fl_copy_46 : decode prog_4_method_2_code 46 = .ok (.iconst 0, 1) := by decide +kernel
theorem d_Fl_copy_47 : decode prog_4_method_2_code 47 = .ok (.bipush 64, 2) := by decide +kernel
theorem d_Fl_copy_49 : decode prog_4_method_2_code 49 = .ok (.invokestatic 75, 3) := by decide +kernel
theorem d_Fl_copy_52 : decode prog_4_method_2_code 52 = .ok (.aload_n 1, 1) := by decide +kernel
theorem d_Fl_copy_53 : decode prog_4_method_2_code 53 = .ok (.getfield 31, 3) := by decide +kernel
theorem d_Fl_copy_56 : decode prog_4_method_2_code 56 = .ok (.iconst 0, 1) := by decide +kernel
theorem d_Fl_copy_57 : decode prog_4_method_2_code 57 = .ok (.aload_n 0, 1) := by decide +kernel
theorem d_Fl_copy_58 : decode prog_4_method_2_code 58 = .ok (.getfield 31, 3) := by decide +kernel
theorem d_Fl_copy_61 : decode prog_4_method_2_code 61 = .ok (.iconst 0, 1) := by decide +kernel
theorem d_Fl_copy_62 : decode prog_4_method_2_code 62 = .ok (.bipush 16, 2) := by decide +kernel
theorem d_Fl_copy_64 : decode prog_4_method_2_code 64 = .ok (.invokestatic 75, 3) := by decide +kernel
theorem d_Fl_copy_67 : decode prog_4_method_2_code 67 = .ok (.aload_n 1, 1) := by decide +kernel
theorem d_Fl_copy_68 : decode prog_4_method_2_code 68 = .ok (.getfield 34, 3) := by decide +kernel
theorem d_Fl_copy_71 : decode prog_4_method_2_code 71 = .ok (.iconst 0, 1) := by decide +kernel
theorem d_Fl_copy_72 : decode prog_4_method_2_code 72 = .ok (.aload_n 0, 1) := by decide +kernel
theorem d_Fl_copy_73 : decode prog_4_method_2_code 73 = .ok (.getfield 34, 3) := by decide +kernel
theorem d_Fl_copy_76 : decode prog_4_method_2_code 76 = .ok (.iconst 0, 1) := by decide +kernel
theorem d_Fl_copy_77 : decode prog_4_method_2_code 77 = .ok (.bipush 16, 2) := by decide +kernel
theorem d_Fl_copy_79 : decode prog_4_method_2_code 79 = .ok (.invokestatic 75, 3) := by decide +kernel
theorem d_Fl_copy_82 : decode prog_4_method_2_code 82 = .ok (.aload_n 1, 1) := by decide +kernel
theorem d_Fl_copy_83 : decode prog_4_method_2_code 83 = .ok (.getfield 37, 3) := by decide +kernel
theorem d_Fl_copy_86 : decode prog_4_method_2_code 86 = .ok (.iconst 0, 1) := by decide +kernel
theorem d_Fl_copy_87 : decode prog_4_method_2_code 87 = .ok (.aload_n 0, 1) := by decide +kernel
theorem d_Fl_copy_88 : decode prog_4_method_2_code 88 = .ok (.getfield 37, 3) := by decide +kernel
theorem d_Fl_copy_91 : decode prog_4_method_2_code 91 = .ok (.iconst 0, 1) := by decide +kernel
theorem d_Fl_copy_92 : decode prog_4_method_2_code 92 = .ok (.bipush 16, 2) := by decide +kernel
theorem d_Fl_copy_94 : decode prog_4_method_2_code 94 = .ok (.invokestatic 75, 3) := by decide +kernel
theorem d_Fl_copy_97 : decode prog_4_method_2_code 97 = .ok (.aload_n 1, 1) := by decide +kernel
theorem d_Fl_copy_98 : decode prog_4_method_2_code 98 = .ok (.getfield 40, 3) := by decide +kernel
theorem d_Fl_copy_101 : decode prog_4_method_2_code 101 = .ok (.iconst 0, 1) := by decide +kernel
theorem d_Fl_copy_102 : decode prog_4_method_2_code 102 = .ok (.aload_n 0, 1) := by decide +kernel
theorem d_Fl_copy_103 : decode prog_4_method_2_code 103 = .ok (.getfield 40, 3) := by decide +kernel
theorem d_Fl_copy_106 : decode prog_4_method_2_code 106 = .ok (.iconst 0, 1) := by decide +kernel
theorem d_Fl_copy_107 : decode prog_4_method_2_code 107 = .ok (.bipush 16, 2) := by decide +kernel
theorem d_Fl_copy_109 : decode prog_4_method_2_code 109 = .ok (.invokestatic 75, 3) := by decide +kernel
theorem d_Fl_copy_112 : decode prog_4_method_2_code 112 = .ok (.aload_n 0, 1) := by decide +kernel
theorem d_Fl_copy_113 : decode prog_4_method_2_code 113 = .ok (.aload_n 1, 1) := by decide +kernel
theorem d_Fl_copy_114 : decode prog_4_method_2_code 114 = .ok (.getfield 43, 3) := by decide +kernel
theorem d_Fl_copy_117 : decode prog_4_method_2_code 117 = .ok (.putfield 43, 3) := by decide +kernel
theorem d_Fl_copy_120 : decode prog_4_method_2_code 120 = .ok (.aload_n 0, 1) := by decide +kernel
theorem d_Fl_copy_121 : decode prog_4_method_2_code 121 = .ok (.aload_n 1, 1) := by decide +kernel
theorem d_Fl_copy_122 : decode prog_4_method_2_code 122 = .ok (.getfield 47, 3) := by decide +kernel
theorem d_Fl_copy_125 : decode prog_4_method_2_code 125 = .ok (.putfield 47, 3) := by decide +kernel
theorem d_Fl_copy_128 : decode prog_4_method_2_code 128 = .ok (.aload_n 0, 1) := by decide +kernel
theorem d_Fl_copy_129 : decode prog_4_method_2_code 129 = .ok (.aload_n 1, 1) := by decide +kernel
theorem d_Fl_copy_130 : decode prog_4_method_2_code 130 = .ok (.getfield 50, 3) := by decide +kernel
theorem d_Fl_copy_133 : decode prog_4_method_2_code 133 = .ok (.putfield 50, 3) := by decide +kernel
theorem d_Fl_copy_136 : decode prog_4_method_2_code 136 = .ok (.aload_n 0, 1) := by decide +kernel
theorem d_Fl_copy_137 : decode prog_4_method_2_code 137 = .ok (.aload_n 1, 1) := by decide +kernel
theorem d_Fl_copy_138 : decode prog_4_method_2_code 138 = .ok (.getfield 53, 3) := by decide +kernel
theorem d_Fl_copy_141 : decode prog_4_method_2_code 141 = .ok (.putfield 53, 3) := by decide +kernel
theorem d_Fl_copy_144 : decode prog_4_method_2_code 144 = .ok (.return_, 1) := by decide +kernel
theorem d_Wo_copy_0 : decode prog_6_method_4_code 0 = .ok (.aload_n 1, 1) := by decide +kernel
theorem d_Wo_copy_1 : decode prog_6_method_4_code 1 = .ok (.getfield 9, 3) := by decide +kernel
theorem d_Wo_copy_4 : decode prog_6_method_4_code 4 = .ok (.iconst 0, 1) := by decide +kernel
theorem d_Wo_copy_5 : decode prog_6_method_4_code 5 = .ok (.aload_n 0, 1) := by decide +kernel
theorem d_Wo_copy_6 : decode prog_6_method_4_code 6 = .ok (.getfield 9, 3) := by decide +kernel
theorem d_Wo_copy_9 : decode prog_6_method_4_code 9 = .ok (.iconst 0, 1) := by decide +kernel
theorem d_Wo_copy_10 : decode prog_6_method_4_code 10 = .ok (.bipush 64, 2) := by decide +kernel
theorem d_Wo_copy_12 : decode prog_6_method_4_code 12 = .ok (.invokestatic 27, 3) := by decide +kernel
theorem d_Wo_copy_15 : decode prog_6_method_4_code 15 = .ok (.aload_n 1, 1) := by decide +kernel
theorem d_Wo_copy_16 : decode prog_6_method_4_code 16 = .ok (.getfield 15, 3) := by decide +kernel
theorem d_Wo_copy_19 : decode prog_6_method_4_code 19 = .ok (.iconst 0, 1) := by decide +kernel
theorem d_Wo_copy_20 : decode prog_6_method_4_code 20 = .ok (.aload_n 0, 1) := by decide +kernel
theorem d_Wo_copy_21 : decode prog_6_method_4_code 21 = .ok (.getfield 15, 3) := by decide +kernel
theorem d_Wo_copy_24 : decode prog_6_method_4_code 24 = .ok (.iconst 0, 1) := by decide +kernel
theorem d_Wo_copy_25 : decode prog_6_method_4_code 25 = .ok (.bipush 64, 2) := by decide +kernel
theorem d_Wo_copy_27 : decode prog_6_method_4_code 27 = .ok (.invokestatic 27, 3) := by decide +kernel
theorem d_Wo_copy_30 : decode prog_6_method_4_code 30 = .ok (.aload_n 1, 1) := by decide +kernel
theorem d_Wo_copy_31 : decode prog_6_method_4_code 31 = .ok (.getfield 18, 3) := by decide +kernel
theorem d_Wo_copy_34 : decode prog_6_method_4_code 34 = .ok (.iconst 0, 1) := by decide +kernel
theorem d_Wo_copy_35 : decode prog_6_method_4_code 35 = .ok (.aload_n 0, 1) := by decide +kernel
theorem d_Wo_copy_36 : decode prog_6_method_4_code 36 = .ok (.getfield 18, 3) := by decide +kernel
theorem d_Wo_copy_39 : decode prog_6_method_4_code 39 = .ok (.iconst 0, 1) := by decide +kernel
theorem d_Wo_copy_40 : decode prog_6_method_4_code 40 = .ok (.bipush 64, 2) := by decide +kernel
theorem d_Wo_copy_42 : decode prog_6_method_4_code 42 = .ok (.invokestatic 27, 3) := by decide +kernel
theorem d_Wo_copy_45 : decode prog_6_method_4_code 45 = .ok (.return_, 1) := by decide +kernel
theorem d_Fl_setLinkFailed_0 : decode prog_4_method_7_code 0 = .ok (.aload_n 0, 1) := by decide +kernel
theorem d_Fl_setLinkFailed_1 : decode prog_4_method_7_code 1 = .ok (.iload_n 2, 1) := by decide +kernel
theorem d_Fl_setLinkFailed_2 : decode prog_4_method_7_code 2 = .ok (.ifCond .eq 14, 3) := by decide +kernel
theorem d_Fl_setLinkFailed_5 : decode prog_4_method_7_code 5 = .ok (.aload_n 0, 1) := by decide +kernel
theorem d_Fl_setLinkFailed_6 : decode prog_4_method_7_code 6 = .ok (.getfield 50, 3) := by decide +kernel
theorem d_Fl_setLinkFailed_9 : decode prog_4_method_7_code 9 = .ok (.iconst 1, 1) := by decide +kernel
theorem d_Fl_setLinkFailed_10 : decode prog_4_method_7_code 10 = .ok (.iload_n 1, 1) := by decide +kernel
theorem d_Fl_setLinkFailed_11 : decode prog_4_method_7_code 11 = .ok (.ishl, 1) := by decide +kernel
theorem d_Fl_setLinkFailed_12 : decode prog_4_method_7_code 12 = .ok (.ior, 1) := by decide +kernel
theorem d_Fl_setLinkFailed_13 : decode prog_4_method_7_code 13 = .ok (.goto 13, 3) := by decide +kernel
theorem d_Fl_setLinkFailed_16 : decode prog_4_method_7_code 16 = .ok (.aload_n 0, 1) := by decide +kernel
theorem d_Fl_setLinkFailed_17 : decode prog_4_method_7_code 17 = .ok (.getfield 50, 3) := by decide +kernel
theorem d_Fl_setLinkFailed_20 : decode prog_4_method_7_code 20 = .ok (.iconst 1, 1) := by decide +kernel
theorem d_Fl_setLinkFailed_21 : decode prog_4_method_7_code 21 = .ok (.iload_n 1, 1) := by decide +kernel
theorem d_Fl_setLinkFailed_22 : decode prog_4_method_7_code 22 = .ok (.ishl, 1) := by decide +kernel
theorem d_Fl_setLinkFailed_23 : decode prog_4_method_7_code 23 = .ok (.iconst (-1), 1) := by decide +kernel
theorem d_Fl_setLinkFailed_24 : decode prog_4_method_7_code 24 = .ok (.ixor, 1) := by decide +kernel
theorem d_Fl_setLinkFailed_25 : decode prog_4_method_7_code 25 = .ok (.iand, 1) := by decide +kernel
theorem d_Fl_setLinkFailed_26 : decode prog_4_method_7_code 26 = .ok (.putfield 50, 3) := by decide +kernel
theorem d_Fl_setLinkFailed_29 : decode prog_4_method_7_code 29 = .ok (.return_, 1) := by decide +kernel
theorem d_Fl_passRounds_0 : decode prog_4_method_11_code 0 = .ok (.iconst 0, 1) := by decide +kernel
theorem d_Fl_passRounds_1 : decode prog_4_method_11_code 1 = .ok (.istore_n 2, 1) := by decide +kernel
theorem d_Fl_passRounds_2 : decode prog_4_method_11_code 2 = .ok (.iload_n 2, 1) := by decide +kernel
theorem d_Fl_passRounds_3 : decode prog_4_method_11_code 3 = .ok (.iload_n 1, 1) := by decide +kernel
theorem d_Fl_passRounds_4 : decode prog_4_method_11_code 4 = .ok (.if_icmp .ge 25, 3) := by decide +kernel
theorem d_Fl_passRounds_7 : decode prog_4_method_11_code 7 = .ok (.iload_n 2, 1) := by decide +kernel
theorem d_Fl_passRounds_8 : decode prog_4_method_11_code 8 = .ok (.iconst 2, 1) := by decide +kernel
theorem d_Fl_passRounds_9 : decode prog_4_method_11_code 9 = .ok (.if_icmp .lt 10, 3) := by decide +kernel
theorem d_Fl_passRounds_12 : decode prog_4_method_11_code 12 = .ok (.aload_n 0, 1) := by decide +kernel
theorem d_Fl_passRounds_13 : decode prog_4_method_11_code 13 = .ok (.getfield 57, 3) := by decide +kernel
theorem d_Fl_passRounds_16 : decode prog_4_method_11_code 16 = .ok (.ifCond .eq 13, 3) := by decide +kernel
theorem d_Fl_passRounds_19 : decode prog_4_method_11_code 19 = .ok (.aload_n 0, 1) := by decide +kernel
theorem d_Fl_passRounds_20 : decode prog_4_method_11_code 20 = .ok (.invokevirtual 99, 3) := by decide +kernel
theorem d_Fl_passRounds_23 : decode prog_4_method_11_code 23 = .ok (.iinc 2 1, 3) := by decide +kernel
theorem d_Fl_passRounds_26 : decode prog_4_method_11_code 26 = .ok (.goto (-24), 3) := by decide +kernel
theorem d_Fl_passRounds_29 : decode prog_4_method_11_code 29 = .ok (.return_, 1) := by decide +kernel
theorem d_Fl_passRound_0 : decode prog_4_method_12_code 0 = .ok (.aload_n 0, 1) := by decide +kernel
theorem d_Fl_passRound_1 : decode prog_4_method_12_code 1 = .ok (.iconst 0, 1) := by decide +kernel
theorem d_Fl_passRound_2 : decode prog_4_method_12_code 2 = .ok (.putfield 57, 3) := by decide +kernel
theorem d_Fl_passRound_5 : decode prog_4_method_12_code 5 = .ok (.iconst 0, 1) := by decide +kernel
theorem d_Fl_passRound_6 : decode prog_4_method_12_code 6 = .ok (.istore_n 1, 1) := by decide +kernel
theorem d_Fl_passRound_7 : decode prog_4_method_12_code 7 = .ok (.iload_n 1, 1) := by decide +kernel
theorem d_Fl_passRound_8 : decode prog_4_method_12_code 8 = .ok (.bipush 16, 2) := by decide +kernel
theorem d_Fl_passRound_10 : decode prog_4_method_12_code 10 = .ok (.if_icmp .ge 22, 3) := by decide +kernel
theorem d_Fl_passRound_13 : decode prog_4_method_12_code 13 = .ok (.aload_n 0, 1) := by decide +kernel
theorem d_Fl_passRound_14 : decode prog_4_method_12_code 14 = .ok (.iload_n 1, 1) := by decide +kernel
theorem d_Fl_passRound_15 : decode prog_4_method_12_code 15 = .ok (.invokevirtual 102, 3) := by decide +kernel
theorem d_Fl_passRound_18 : decode prog_4_method_12_code 18 = .ok (.ifCond .eq 8, 3) := by decide +kernel
theorem d_Fl_passRound_21 : decode prog_4_method_12_code 21 = .ok (.aload_n 0, 1) := by decide +kernel
theorem d_Fl_passRound_22 : decode prog_4_method_12_code 22 = .ok (.iload_n 1, 1) := by decide +kernel
theorem d_Fl_passRound_23 : decode prog_4_method_12_code 23 = .ok (.invokevirtual 106, 3) := by decide +kernel
theorem d_Fl_passRound_26 : decode prog_4_method_12_code 26 = .ok (.iinc 1 1, 3) := by decide +kernel
theorem d_Fl_passRound_29 : decode prog_4_method_12_code 29 = .ok (.goto (-22), 3) := by decide +kernel
theorem d_Fl_passRound_32 : decode prog_4_method_12_code 32 = .ok (.aload_n 0, 1) := by decide +kernel
theorem d_Fl_passRound_33 : decode prog_4_method_12_code 33 = .ok (.lconst 0, 1) := by decide +kernel
theorem d_Fl_passRound_34 : decode prog_4_method_12_code 34 = .ok (.putfield 53, 3) := by decide +kernel
theorem d_Fl_passRound_37 : decode prog_4_method_12_code 37 = .ok (.iconst 0, 1) := by decide +kernel
theorem d_Fl_passRound_38 : decode prog_4_method_12_code 38 = .ok (.istore_n 1, 1) := by decide +kernel
theorem d_Fl_passRound_39 : decode prog_4_method_12_code 39 = .ok (.iload_n 1, 1) := by decide +kernel
theorem d_Fl_passRound_40 : decode prog_4_method_12_code 40 = .ok (.bipush 16, 2) := by decide +kernel
theorem d_Fl_passRound_42 : decode prog_4_method_12_code 42 = .ok (.if_icmp .ge 27, 3) := by decide +kernel
theorem d_Fl_passRound_45 : decode prog_4_method_12_code 45 = .ok (.aload_n 0, 1) := by decide +kernel
theorem d_Fl_passRound_46 : decode prog_4_method_12_code 46 = .ok (.iload_n 1, 1) := by decide +kernel
theorem d_Fl_passRound_47 : decode prog_4_method_12_code 47 = .ok (.invokevirtual 102, 3) := by decide +kernel
theorem d_Fl_passRound_50 : decode prog_4_method_12_code 50 = .ok (.ifCond .eq 13, 3) := by decide +kernel
theorem d_Fl_passRound_53 : decode prog_4_method_12_code 53 = .ok (.aload_n 0, 1) := by decide +kernel
theorem d_Fl_passRound_54 : decode prog_4_method_12_code 54 = .ok (.iload_n 1, 1) := by decide +kernel
theorem d_Fl_passRound_55 : decode prog_4_method_12_code 55 = .ok (.invokevirtual 109, 3) := by decide +kernel
theorem d_Fl_passRound_58 : decode prog_4_method_12_code 58 = .ok (.aload_n 0, 1) := by decide +kernel
theorem d_Fl_passRound_59 : decode prog_4_method_12_code 59 = .ok (.iload_n 1, 1) := by decide +kernel
theorem d_Fl_passRound_60 : decode prog_4_method_12_code 60 = .ok (.invokevirtual 112, 3) := by decide +kernel
theorem d_Fl_passRound_63 : decode prog_4_method_12_code 63 = .ok (.iinc 1 1, 3) := by decide +kernel
theorem d_Fl_passRound_66 : decode prog_4_method_12_code 66 = .ok (.goto (-27), 3) := by decide +kernel
theorem d_Fl_passRound_69 : decode prog_4_method_12_code 69 = .ok (.return_, 1) := by decide +kernel
theorem d_Fl_listen_0 : decode prog_4_method_13_code 0 = .ok (.iconst 0, 1) := by decide +kernel
theorem d_Fl_listen_1 : decode prog_4_method_13_code 1 = .ok (.istore_n 2, 1) := by decide +kernel
theorem d_Fl_listen_2 : decode prog_4_method_13_code 2 = .ok (.iload_n 2, 1) := by decide +kernel
theorem d_Fl_listen_3 : decode prog_4_method_13_code 3 = .ok (.iconst 4, 1) := by decide +kernel
theorem d_Fl_listen_4 : decode prog_4_method_13_code 4 = .ok (.if_icmp .ge 44, 3) := by decide +kernel
theorem d_Fl_listen_7 : decode prog_4_method_13_code 7 = .ok (.iload_n 1, 1) := by decide +kernel
theorem d_Fl_listen_8 : decode prog_4_method_13_code 8 = .ok (.iload_n 2, 1) := by decide +kernel
theorem d_Fl_listen_9 : decode prog_4_method_13_code 9 = .ok (.invokestatic 91, 3) := by decide +kernel
theorem d_Fl_listen_12 : decode prog_4_method_13_code 12 = .ok (.istore_n 3, 1) := by decide +kernel
theorem d_Fl_listen_13 : decode prog_4_method_13_code 13 = .ok (.aload_n 0, 1) := by decide +kernel
theorem d_Fl_listen_14 : decode prog_4_method_13_code 14 = .ok (.getfield 61, 3) := by decide +kernel
theorem d_Fl_listen_17 : decode prog_4_method_13_code 17 = .ok (.getfield 115, 3) := by decide +kernel
theorem d_Fl_listen_20 : decode prog_4_method_13_code 20 = .ok (.iload_n 3, 1) := by decide +kernel
theorem d_Fl_listen_21 : decode prog_4_method_13_code 21 = .ok (.iaload, 1) := by decide +kernel
theorem d_Fl_listen_22 : decode prog_4_method_13_code 22 = .ok (.iconst (-1), 1) := by decide +kernel
theorem d_Fl_listen_23 : decode prog_4_method_13_code 23 = .ok (.if_icmp .eq 8, 3) := by decide +kernel
theorem d_Fl_listen_26 : decode prog_4_method_13_code 26 = .ok (.aload_n 0, 1) := by decide +kernel
theorem d_Fl_listen_27 : decode prog_4_method_13_code 27 = .ok (.iload_n 3, 1) := by decide +kernel
theorem d_Fl_listen_28 : decode prog_4_method_13_code 28 = .ok (.invokevirtual 118, 3) := by decide +kernel
theorem d_Fl_listen_31 : decode prog_4_method_13_code 31 = .ok (.aload_n 0, 1) := by decide +kernel
theorem d_Fl_listen_32 : decode prog_4_method_13_code 32 = .ok (.iload_n 3, 1) := by decide +kernel
theorem d_Fl_listen_33 : decode prog_4_method_13_code 33 = .ok (.invokevirtual 121, 3) := by decide +kernel
theorem d_Fl_listen_36 : decode prog_4_method_13_code 36 = .ok (.aload_n 0, 1) := by decide +kernel
theorem d_Fl_listen_37 : decode prog_4_method_13_code 37 = .ok (.iload_n 1, 1) := by decide +kernel
theorem d_Fl_listen_38 : decode prog_4_method_13_code 38 = .ok (.iload_n 3, 1) := by decide +kernel
theorem d_Fl_listen_39 : decode prog_4_method_13_code 39 = .ok (.invokevirtual 124, 3) := by decide +kernel
theorem d_Fl_listen_42 : decode prog_4_method_13_code 42 = .ok (.iinc 2 1, 3) := by decide +kernel
theorem d_Fl_listen_45 : decode prog_4_method_13_code 45 = .ok (.goto (-43), 3) := by decide +kernel
theorem d_Fl_listen_48 : decode prog_4_method_13_code 48 = .ok (.return_, 1) := by decide +kernel
theorem d_Fl_hear_0 : decode prog_4_method_14_code 0 = .ok (.aload_n 0, 1) := by decide +kernel
theorem d_Fl_hear_1 : decode prog_4_method_14_code 1 = .ok (.getfield 61, 3) := by decide +kernel
theorem d_Fl_hear_4 : decode prog_4_method_14_code 4 = .ok (.getfield 128, 3) := by decide +kernel
theorem d_Fl_hear_7 : decode prog_4_method_14_code 7 = .ok (.iload_n 1, 1) := by decide +kernel
theorem d_Fl_hear_8 : decode prog_4_method_14_code 8 = .ok (.iaload, 1) := by decide +kernel
theorem d_Fl_hear_9 : decode prog_4_method_14_code 9 = .ok (.istore_n 2, 1) := by decide +kernel
theorem d_Fl_hear_10 : decode prog_4_method_14_code 10 = .ok (.aload_n 0, 1) := by decide +kernel
theorem d_Fl_hear_11 : decode prog_4_method_14_code 11 = .ok (.getfield 24, 3) := by decide +kernel
theorem d_Fl_hear_14 : decode prog_4_method_14_code 14 = .ok (.iload_n 1, 1) := by decide +kernel
theorem d_Fl_hear_15 : decode prog_4_method_14_code 15 = .ok (.iaload, 1) := by decide +kernel
theorem d_Fl_hear_16 : decode prog_4_method_14_code 16 = .ok (.iconst 1, 1) := by decide +kernel
theorem d_Fl_hear_17 : decode prog_4_method_14_code 17 = .ok (.iadd, 1) := by decide +kernel
theorem d_Fl_hear_18 : decode prog_4_method_14_code 18 = .ok (.iconst 3, 1) := by decide +kernel
theorem d_Fl_hear_19 : decode prog_4_method_14_code 19 = .ok (.invokestatic 131, 3) := by decide +kernel
theorem d_Fl_hear_22 : decode prog_4_method_14_code 22 = .ok (.istore_n 3, 1) := by decide +kernel
theorem d_Fl_hear_23 : decode prog_4_method_14_code 23 = .ok (.aload_n 0, 1) := by decide +kernel
theorem d_Fl_hear_24 : decode prog_4_method_14_code 24 = .ok (.iload_n 1, 1) := by decide +kernel
theorem d_Fl_hear_25 : decode prog_4_method_14_code 25 = .ok (.iload_n 2, 1) := by decide +kernel
theorem d_Fl_hear_26 : decode prog_4_method_14_code 26 = .ok (.invokevirtual 136, 3) := by decide +kernel
theorem d_Fl_hear_29 : decode prog_4_method_14_code 29 = .ok (.ifCond .eq 72, 3) := by decide +kernel
theorem d_Fl_hear_32 : decode prog_4_method_14_code 32 = .ok (.aload_n 0, 1) := by decide +kernel
theorem d_Fl_hear_33 : decode prog_4_method_14_code 33 = .ok (.aload_n 0, 1) := by decide +kernel
theorem d_Fl_hear_34 : decode prog_4_method_14_code 34 = .ok (.getfield 57, 3) := by decide +kernel
theorem d_Fl_hear_37 : decode prog_4_method_14_code 37 = .ok (.ifCond .ne 19, 3) := by decide +kernel
theorem d_Fl_hear_40 : decode prog_4_method_14_code 40 = .ok (.aload_n 0, 1) := by decide +kernel
theorem d_Fl_hear_41 : decode prog_4_method_14_code 41 = .ok (.getfield 12, 3) := by decide +kernel
theorem d_Fl_hear_44 : decode prog_4_method_14_code 44 = .ok (.iload_n 1, 1) := by decide +kernel
theorem d_Fl_hear_45 : decode prog_4_method_14_code 45 = .ok (.aload_n 0, 1) := by decide +kernel
theorem d_Fl_hear_46 : decode prog_4_method_14_code 46 = .ok (.getfield 18, 3) := by decide +kernel
theorem d_Fl_hear_49 : decode prog_4_method_14_code 49 = .ok (.iload_n 2, 1) := by decide +kernel
theorem d_Fl_hear_50 : decode prog_4_method_14_code 50 = .ok (.invokevirtual 140, 3) := by decide +kernel
theorem d_Fl_hear_53 : decode prog_4_method_14_code 53 = .ok (.ifCond .ne 7, 3) := by decide +kernel
theorem d_Fl_hear_56 : decode prog_4_method_14_code 56 = .ok (.iconst 1, 1) := by decide +kernel
theorem d_Fl_hear_57 : decode prog_4_method_14_code 57 = .ok (.goto 4, 3) := by decide +kernel
theorem d_Fl_hear_60 : decode prog_4_method_14_code 60 = .ok (.iconst 0, 1) := by decide +kernel
theorem d_Fl_hear_61 : decode prog_4_method_14_code 61 = .ok (.putfield 57, 3) := by decide +kernel
theorem d_Fl_hear_64 : decode prog_4_method_14_code 64 = .ok (.aload_n 0, 1) := by decide +kernel
theorem d_Fl_hear_65 : decode prog_4_method_14_code 65 = .ok (.getfield 12, 3) := by decide +kernel
theorem d_Fl_hear_68 : decode prog_4_method_14_code 68 = .ok (.iload_n 1, 1) := by decide +kernel
theorem d_Fl_hear_69 : decode prog_4_method_14_code 69 = .ok (.aload_n 0, 1) := by decide +kernel
theorem d_Fl_hear_70 : decode prog_4_method_14_code 70 = .ok (.getfield 18, 3) := by decide +kernel
theorem d_Fl_hear_73 : decode prog_4_method_14_code 73 = .ok (.getfield 144, 3) := by decide +kernel
theorem d_Fl_hear_76 : decode prog_4_method_14_code 76 = .ok (.iload_n 2, 1) := by decide +kernel
theorem d_Fl_hear_77 : decode prog_4_method_14_code 77 = .ok (.iaload, 1) := by decide +kernel
theorem d_Fl_hear_78 : decode prog_4_method_14_code 78 = .ok (.aload_n 0, 1) := by decide +kernel
theorem d_Fl_hear_79 : decode prog_4_method_14_code 79 = .ok (.getfield 18, 3) := by decide +kernel
theorem d_Fl_hear_82 : decode prog_4_method_14_code 82 = .ok (.getfield 145, 3) := by decide +kernel
theorem d_Fl_hear_85 : decode prog_4_method_14_code 85 = .ok (.iload_n 2, 1) := by decide +kernel
theorem d_Fl_hear_86 : decode prog_4_method_14_code 86 = .ok (.iaload, 1) := by decide +kernel
theorem d_Fl_hear_87 : decode prog_4_method_14_code 87 = .ok (.aload_n 0, 1) := by decide +kernel
theorem d_Fl_hear_88 : decode prog_4_method_14_code 88 = .ok (.getfield 18, 3) := by decide +kernel
theorem d_Fl_hear_91 : decode prog_4_method_14_code 91 = .ok (.getfield 146, 3) := by decide +kernel
theorem d_Fl_hear_94 : decode prog_4_method_14_code 94 = .ok (.iload_n 2, 1) := by decide +kernel
theorem d_Fl_hear_95 : decode prog_4_method_14_code 95 = .ok (.iaload, 1) := by decide +kernel
theorem d_Fl_hear_96 : decode prog_4_method_14_code 96 = .ok (.invokevirtual 95, 3) := by decide +kernel
theorem d_Fl_hear_99 : decode prog_4_method_14_code 99 = .ok (.iconst 0, 1) := by decide +kernel
theorem d_Fl_hear_100 : decode prog_4_method_14_code 100 = .ok (.istore_n 3, 1) := by decide +kernel
theorem d_Fl_hear_101 : decode prog_4_method_14_code 101 = .ok (.aload_n 0, 1) := by decide +kernel
theorem d_Fl_hear_102 : decode prog_4_method_14_code 102 = .ok (.aload_n 0, 1) := by decide +kernel
theorem d_Fl_hear_103 : decode prog_4_method_14_code 103 = .ok (.getfield 57, 3) := by decide +kernel
theorem d_Fl_hear_106 : decode prog_4_method_14_code 106 = .ok (.ifCond .ne 13, 3) := by decide +kernel
theorem d_Fl_hear_109 : decode prog_4_method_14_code 109 = .ok (.iload_n 3, 1) := by decide +kernel
theorem d_Fl_hear_110 : decode prog_4_method_14_code 110 = .ok (.aload_n 0, 1) := by decide +kernel
theorem d_Fl_hear_111 : decode prog_4_method_14_code 111 = .ok (.getfield 24, 3) := by decide +kernel
theorem d_Fl_hear_114 : decode prog_4_method_14_code 114 = .ok (.iload_n 1, 1) := by decide +kernel
theorem d_Fl_hear_115 : decode prog_4_method_14_code 115 = .ok (.iaload, 1) := by decide +kernel
theorem d_Fl_hear_116 : decode prog_4_method_14_code 116 = .ok (.if_icmp .eq 7, 3) := by decide +kernel
theorem d_Fl_hear_119 : decode prog_4_method_14_code 119 = .ok (.iconst 1, 1) := by decide +kernel
theorem d_Fl_hear_120 : decode prog_4_method_14_code 120 = .ok (.goto 4, 3) := by decide +kernel
theorem d_Fl_hear_123 : decode prog_4_method_14_code 123 = .ok (.iconst 0, 1) := by decide +kernel
theorem d_Fl_hear_124 : decode prog_4_method_14_code 124 = .ok (.putfield 57, 3) := by decide +kernel
theorem d_Fl_hear_127 : decode prog_4_method_14_code 127 = .ok (.aload_n 0, 1) := by decide +kernel
theorem d_Fl_hear_128 : decode prog_4_method_14_code 128 = .ok (.getfield 24, 3) := by decide +kernel
theorem d_Fl_hear_131 : decode prog_4_method_14_code 131 = .ok (.iload_n 1, 1) := by decide +kernel
theorem d_Fl_hear_132 : decode prog_4_method_14_code 132 = .ok (.iload_n 3, 1) := by decide +kernel
theorem d_Fl_hear_133 : decode prog_4_method_14_code 133 = .ok (.iastore, 1) := by decide +kernel
theorem d_Fl_hear_134 : decode prog_4_method_14_code 134 = .ok (.return_, 1) := by decide +kernel
theorem d_Fl_comes_0 : decode prog_4_method_15_code 0 = .ok (.aload_n 0, 1) := by decide +kernel
theorem d_Fl_comes_1 : decode prog_4_method_15_code 1 = .ok (.aload_n 0, 1) := by decide +kernel
theorem d_Fl_comes_2 : decode prog_4_method_15_code 2 = .ok (.getfield 61, 3) := by decide +kernel
theorem d_Fl_comes_5 : decode prog_4_method_15_code 5 = .ok (.getfield 115, 3) := by decide +kernel
theorem d_Fl_comes_8 : decode prog_4_method_15_code 8 = .ok (.iload_n 1, 1) := by decide +kernel
theorem d_Fl_comes_9 : decode prog_4_method_15_code 9 = .ok (.iaload, 1) := by decide +kernel
theorem d_Fl_comes_10 : decode prog_4_method_15_code 10 = .ok (.invokevirtual 149, 3) := by decide +kernel
theorem d_Fl_comes_13 : decode prog_4_method_15_code 13 = .ok (.ifCond .eq 44, 3) := by decide +kernel
theorem d_Fl_comes_16 : decode prog_4_method_15_code 16 = .ok (.aload_n 0, 1) := by decide +kernel
theorem d_Fl_comes_17 : decode prog_4_method_15_code 17 = .ok (.iload_n 2, 1) := by decide +kernel
theorem d_Fl_comes_18 : decode prog_4_method_15_code 18 = .ok (.invokestatic 152, 3) := by decide +kernel
theorem d_Fl_comes_21 : decode prog_4_method_15_code 21 = .ok (.invokevirtual 102, 3) := by decide +kernel
theorem d_Fl_comes_24 : decode prog_4_method_15_code 24 = .ok (.ifCond .eq 33, 3) := by decide +kernel
theorem d_Fl_comes_27 : decode prog_4_method_15_code 27 = .ok (.aload_n 0, 1) := by decide +kernel
theorem d_Fl_comes_28 : decode prog_4_method_15_code 28 = .ok (.getfield 18, 3) := by decide +kernel
theorem d_Fl_comes_31 : decode prog_4_method_15_code 31 = .ok (.getfield 144, 3) := by decide +kernel
theorem d_Fl_comes_34 : decode prog_4_method_15_code 34 = .ok (.iload_n 2, 1) := by decide +kernel
theorem d_Fl_comes_35 : decode prog_4_method_15_code 35 = .ok (.iaload, 1) := by decide +kernel
theorem d_Fl_comes_36 : decode prog_4_method_15_code 36 = .ok (.iconst (-1), 1) := by decide +kernel
theorem d_Fl_comes_37 : decode prog_4_method_15_code 37 = .ok (.if_icmp .eq 20, 3) := by decide +kernel
theorem d_Fl_comes_40 : decode prog_4_method_15_code 40 = .ok (.aload_n 0, 1) := by decide +kernel
theorem d_Fl_comes_41 : decode prog_4_method_15_code 41 = .ok (.getfield 53, 3) := by decide +kernel
theorem d_Fl_comes_44 : decode prog_4_method_15_code 44 = .ok (.iload_n 2, 1) := by decide +kernel
theorem d_Fl_comes_45 : decode prog_4_method_15_code 45 = .ok (.lshr, 1) := by decide +kernel
theorem d_Fl_comes_46 : decode prog_4_method_15_code 46 = .ok (.lconst 1, 1) := by decide +kernel
theorem d_Fl_comes_47 : decode prog_4_method_15_code 47 = .ok (.land, 1) := by decide +kernel
theorem d_Fl_comes_48 : decode prog_4_method_15_code 48 = .ok (.lconst 0, 1) := by decide +kernel
theorem d_Fl_comes_49 : decode prog_4_method_15_code 49 = .ok (.lcmp, 1) := by decide +kernel
theorem d_Fl_comes_50 : decode prog_4_method_15_code 50 = .ok (.ifCond .ne 7, 3) := by decide +kernel
theorem d_Fl_comes_53 : decode prog_4_method_15_code 53 = .ok (.iconst 1, 1) := by decide +kernel
theorem d_Fl_comes_54 : decode prog_4_method_15_code 54 = .ok (.goto 4, 3) := by decide +kernel
theorem d_Fl_comes_57 : decode prog_4_method_15_code 57 = .ok (.iconst 0, 1) := by decide +kernel
theorem d_Fl_comes_58 : decode prog_4_method_15_code 58 = .ok (.ireturn, 1) := by decide +kernel
theorem d_Wo_isSame_0 : decode prog_6_method_3_code 0 = .ok (.aload_n 0, 1) := by decide +kernel
theorem d_Wo_isSame_1 : decode prog_6_method_3_code 1 = .ok (.getfield 9, 3) := by decide +kernel
theorem d_Wo_isSame_4 : decode prog_6_method_3_code 4 = .ok (.iload_n 1, 1) := by decide +kernel
theorem d_Wo_isSame_5 : decode prog_6_method_3_code 5 = .ok (.iaload, 1) := by decide +kernel
theorem d_Wo_isSame_6 : decode prog_6_method_3_code 6 = .ok (.aload_n 2, 1) := by decide +kernel
theorem d_Wo_isSame_7 : decode prog_6_method_3_code 7 = .ok (.getfield 9, 3) := by decide +kernel
theorem d_Wo_isSame_10 : decode prog_6_method_3_code 10 = .ok (.iload_n 3, 1) := by decide +kernel
theorem d_Wo_isSame_11 : decode prog_6_method_3_code 11 = .ok (.iaload, 1) := by decide +kernel
theorem d_Wo_isSame_12 : decode prog_6_method_3_code 12 = .ok (.if_icmp .ne 37, 3) := by decide +kernel
theorem d_Wo_isSame_15 : decode prog_6_method_3_code 15 = .ok (.aload_n 0, 1) := by decide +kernel
theorem d_Wo_isSame_16 : decode prog_6_method_3_code 16 = .ok (.getfield 15, 3) := by decide +kernel
theorem d_Wo_isSame_19 : decode prog_6_method_3_code 19 = .ok (.iload_n 1, 1) := by decide +kernel
theorem d_Wo_isSame_20 : decode prog_6_method_3_code 20 = .ok (.iaload, 1) := by decide +kernel
theorem d_Wo_isSame_21 : decode prog_6_method_3_code 21 = .ok (.aload_n 2, 1) := by decide +kernel
theorem d_Wo_isSame_22 : decode prog_6_method_3_code 22 = .ok (.getfield 15, 3) := by decide +kernel
theorem d_Wo_isSame_25 : decode prog_6_method_3_code 25 = .ok (.iload_n 3, 1) := by decide +kernel
theorem d_Wo_isSame_26 : decode prog_6_method_3_code 26 = .ok (.iaload, 1) := by decide +kernel
theorem d_Wo_isSame_27 : decode prog_6_method_3_code 27 = .ok (.if_icmp .ne 22, 3) := by decide +kernel
theorem d_Wo_isSame_30 : decode prog_6_method_3_code 30 = .ok (.aload_n 0, 1) := by decide +kernel
theorem d_Wo_isSame_31 : decode prog_6_method_3_code 31 = .ok (.getfield 18, 3) := by decide +kernel
theorem d_Wo_isSame_34 : decode prog_6_method_3_code 34 = .ok (.iload_n 1, 1) := by decide +kernel
theorem d_Wo_isSame_35 : decode prog_6_method_3_code 35 = .ok (.iaload, 1) := by decide +kernel
theorem d_Wo_isSame_36 : decode prog_6_method_3_code 36 = .ok (.aload_n 2, 1) := by decide +kernel
theorem d_Wo_isSame_37 : decode prog_6_method_3_code 37 = .ok (.getfield 18, 3) := by decide +kernel
theorem d_Wo_isSame_40 : decode prog_6_method_3_code 40 = .ok (.iload_n 3, 1) := by decide +kernel
theorem d_Wo_isSame_41 : decode prog_6_method_3_code 41 = .ok (.iaload, 1) := by decide +kernel
theorem d_Wo_isSame_42 : decode prog_6_method_3_code 42 = .ok (.if_icmp .ne 7, 3) := by decide +kernel
theorem d_Wo_isSame_45 : decode prog_6_method_3_code 45 = .ok (.iconst 1, 1) := by decide +kernel
theorem d_Wo_isSame_46 : decode prog_6_method_3_code 46 = .ok (.goto 4, 3) := by decide +kernel
theorem d_Wo_isSame_49 : decode prog_6_method_3_code 49 = .ok (.iconst 0, 1) := by decide +kernel
theorem d_Wo_isSame_50 : decode prog_6_method_3_code 50 = .ok (.ireturn, 1) := by decide +kernel
theorem d_Wo_write_0 : decode prog_6_method_2_code 0 = .ok (.aload_n 0, 1) := by decide +kernel
theorem d_Wo_write_1 : decode prog_6_method_2_code 1 = .ok (.getfield 9, 3) := by decide +kernel
theorem d_Wo_write_4 : decode prog_6_method_2_code 4 = .ok (.iload_n 1, 1) := by decide +kernel
theorem d_Wo_write_5 : decode prog_6_method_2_code 5 = .ok (.iload_n 2, 1) := by decide +kernel
theorem d_Wo_write_6 : decode prog_6_method_2_code 6 = .ok (.iastore, 1) := by decide +kernel
theorem d_Wo_write_7 : decode prog_6_method_2_code 7 = .ok (.aload_n 0, 1) := by decide +kernel
theorem d_Wo_write_8 : decode prog_6_method_2_code 8 = .ok (.getfield 15, 3) := by decide +kernel
theorem d_Wo_write_11 : decode prog_6_method_2_code 11 = .ok (.iload_n 1, 1) := by decide +kernel
theorem d_Wo_write_12 : decode prog_6_method_2_code 12 = .ok (.iload_n 3, 1) := by decide +kernel
theorem d_Wo_write_13 : decode prog_6_method_2_code 13 = .ok (.iastore, 1) := by decide +kernel
theorem d_Wo_write_14 : decode prog_6_method_2_code 14 = .ok (.aload_n 0, 1) := by decide +kernel
theorem d_Wo_write_15 : decode prog_6_method_2_code 15 = .ok (.getfield 18, 3) := by decide +kernel
theorem d_Wo_write_18 : decode prog_6_method_2_code 18 = .ok (.iload_n 1, 1) := by decide +kernel
theorem d_Wo_write_19 : decode prog_6_method_2_code 19 = .ok (.iload 4, 2) := by decide +kernel
theorem d_Wo_write_21 : decode prog_6_method_2_code 21 = .ok (.iastore, 1) := by decide +kernel
theorem d_Wo_write_22 : decode prog_6_method_2_code 22 = .ok (.return_, 1) := by decide +kernel
theorem d_Fl_weigh_0 : decode prog_4_method_16_code 0 = .ok (.aload_n 0, 1) := by decide +kernel
theorem d_Fl_weigh_1 : decode prog_4_method_16_code 1 = .ok (.getfield 61, 3) := by decide +kernel
theorem d_Fl_weigh_4 : decode prog_4_method_16_code 4 = .ok (.iload_n 1, 1) := by decide +kernel
theorem d_Fl_weigh_5 : decode prog_4_method_16_code 5 = .ok (.invokevirtual 156, 3) := by decide +kernel
theorem d_Fl_weigh_8 : decode prog_4_method_16_code 8 = .ok (.ifCond .eq 25, 3) := by decide +kernel
theorem d_Fl_weigh_11 : decode prog_4_method_16_code 11 = .ok (.aload_n 0, 1) := by decide +kernel
theorem d_Fl_weigh_12 : decode prog_4_method_16_code 12 = .ok (.getfield 21, 3) := by decide +kernel
theorem d_Fl_weigh_15 : decode prog_4_method_16_code 15 = .ok (.iload_n 1, 1) := by decide +kernel
theorem d_Fl_weigh_16 : decode prog_4_method_16_code 16 = .ok (.aload_n 0, 1) := by decide +kernel
theorem d_Fl_weigh_17 : decode prog_4_method_16_code 17 = .ok (.getfield 61, 3) := by decide +kernel
theorem d_Fl_weigh_20 : decode prog_4_method_16_code 20 = .ok (.getfield 159, 3) := by decide +kernel
theorem d_Fl_weigh_23 : decode prog_4_method_16_code 23 = .ok (.iload_n 1, 1) := by decide +kernel
theorem d_Fl_weigh_24 : decode prog_4_method_16_code 24 = .ok (.iaload, 1) := by decide +kernel
theorem d_Fl_weigh_25 : decode prog_4_method_16_code 25 = .ok (.iconst 0, 1) := by decide +kernel
theorem d_Fl_weigh_26 : decode prog_4_method_16_code 26 = .ok (.iconst 0, 1) := by decide +kernel
theorem d_Fl_weigh_27 : decode prog_4_method_16_code 27 = .ok (.invokevirtual 95, 3) := by decide +kernel
theorem d_Fl_weigh_30 : decode prog_4_method_16_code 30 = .ok (.goto 62, 3) := by decide +kernel
theorem d_Fl_weigh_33 : decode prog_4_method_16_code 33 = .ok (.aload_n 0, 1) := by decide +kernel
theorem d_Fl_weigh_34 : decode prog_4_method_16_code 34 = .ok (.getfield 24, 3) := by decide +kernel
theorem d_Fl_weigh_37 : decode prog_4_method_16_code 37 = .ok (.iload_n 1, 1) := by decide +kernel
theorem d_Fl_weigh_38 : decode prog_4_method_16_code 38 = .ok (.iaload, 1) := by decide +kernel
theorem d_Fl_weigh_39 : decode prog_4_method_16_code 39 = .ok (.iconst 3, 1) := by decide +kernel
theorem d_Fl_weigh_40 : decode prog_4_method_16_code 40 = .ok (.if_icmp .ge 41, 3) := by decide +kernel
theorem d_Fl_weigh_43 : decode prog_4_method_16_code 43 = .ok (.aload_n 0, 1) := by decide +kernel
theorem d_Fl_weigh_44 : decode prog_4_method_16_code 44 = .ok (.getfield 21, 3) := by decide +kernel
theorem d_Fl_weigh_47 : decode prog_4_method_16_code 47 = .ok (.iload_n 1, 1) := by decide +kernel
theorem d_Fl_weigh_48 : decode prog_4_method_16_code 48 = .ok (.aload_n 0, 1) := by decide +kernel
theorem d_Fl_weigh_49 : decode prog_4_method_16_code 49 = .ok (.getfield 12, 3) := by decide +kernel
theorem d_Fl_weigh_52 : decode prog_4_method_16_code 52 = .ok (.getfield 144, 3) := by decide +kernel
theorem d_Fl_weigh_55 : decode prog_4_method_16_code 55 = .ok (.iload_n 1, 1) := by decide +kernel
theorem d_Fl_weigh_56 : decode prog_4_method_16_code 56 = .ok (.iaload, 1) := by decide +kernel
theorem d_Fl_weigh_57 : decode prog_4_method_16_code 57 = .ok (.aload_n 0, 1) := by decide +kernel
theorem d_Fl_weigh_58 : decode prog_4_method_16_code 58 = .ok (.getfield 12, 3) := by decide +kernel
theorem d_Fl_weigh_61 : decode prog_4_method_16_code 61 = .ok (.getfield 145, 3) := by decide +kernel
theorem d_Fl_weigh_64 : decode prog_4_method_16_code 64 = .ok (.iload_n 1, 1) := by decide +kernel
theorem d_Fl_weigh_65 : decode prog_4_method_16_code 65 = .ok (.iaload, 1) := by decide +kernel
theorem d_Fl_weigh_66 : decode prog_4_method_16_code 66 = .ok (.aload_n 0, 1) := by decide +kernel
theorem d_Fl_weigh_67 : decode prog_4_method_16_code 67 = .ok (.getfield 12, 3) := by decide +kernel
theorem d_Fl_weigh_70 : decode prog_4_method_16_code 70 = .ok (.getfield 146, 3) := by decide +kernel
theorem d_Fl_weigh_73 : decode prog_4_method_16_code 73 = .ok (.iload_n 1, 1) := by decide +kernel
theorem d_Fl_weigh_74 : decode prog_4_method_16_code 74 = .ok (.iaload, 1) := by decide +kernel
theorem d_Fl_weigh_75 : decode prog_4_method_16_code 75 = .ok (.invokevirtual 95, 3) := by decide +kernel
theorem d_Fl_weigh_78 : decode prog_4_method_16_code 78 = .ok (.goto 14, 3) := by decide +kernel
theorem d_Fl_weigh_81 : decode prog_4_method_16_code 81 = .ok (.aload_n 0, 1) := by decide +kernel
theorem d_Fl_weigh_82 : decode prog_4_method_16_code 82 = .ok (.getfield 21, 3) := by decide +kernel
theorem d_Fl_weigh_85 : decode prog_4_method_16_code 85 = .ok (.iload_n 1, 1) := by decide +kernel
theorem d_Fl_weigh_86 : decode prog_4_method_16_code 86 = .ok (.iconst (-1), 1) := by decide +kernel
theorem d_Fl_weigh_87 : decode prog_4_method_16_code 87 = .ok (.iconst 0, 1) := by decide +kernel
theorem d_Fl_weigh_88 : decode prog_4_method_16_code 88 = .ok (.iconst 0, 1) := by decide +kernel
theorem d_Fl_weigh_89 : decode prog_4_method_16_code 89 = .ok (.invokevirtual 95, 3) := by decide +kernel
theorem d_Fl_weigh_92 : decode prog_4_method_16_code 92 = .ok (.return_, 1) := by decide +kernel
theorem d_Pl_hasSource_0 : decode prog_5_method_6_code 0 = .ok (.aload_n 0, 1) := by decide +kernel
theorem d_Pl_hasSource_1 : decode prog_5_method_6_code 1 = .ok (.getfield 40, 3) := by decide +kernel
theorem d_Pl_hasSource_4 : decode prog_5_method_6_code 4 = .ok (.iload_n 1, 1) := by decide +kernel
theorem d_Pl_hasSource_5 : decode prog_5_method_6_code 5 = .ok (.iaload, 1) := by decide +kernel
theorem d_Pl_hasSource_6 : decode prog_5_method_6_code 6 = .ok (.iconst (-1), 1) := by decide +kernel
theorem d_Pl_hasSource_7 : decode prog_5_method_6_code 7 = .ok (.if_icmp .eq 7, 3) := by decide +kernel
theorem d_Pl_hasSource_10 : decode prog_5_method_6_code 10 = .ok (.iconst 1, 1) := by decide +kernel
theorem d_Pl_hasSource_11 : decode prog_5_method_6_code 11 = .ok (.goto 4, 3) := by decide +kernel
theorem d_Pl_hasSource_14 : decode prog_5_method_6_code 14 = .ok (.iconst 0, 1) := by decide +kernel
theorem d_Pl_hasSource_15 : decode prog_5_method_6_code 15 = .ok (.ireturn, 1) := by decide +kernel
theorem d_Fl_countUsable_0 : decode prog_4_method_17_code 0 = .ok (.aload_n 0, 1) := by decide +kernel
theorem d_Fl_countUsable_1 : decode prog_4_method_17_code 1 = .ok (.iload_n 1, 1) := by decide +kernel
theorem d_Fl_countUsable_2 : decode prog_4_method_17_code 2 = .ok (.iload_n 2, 1) := by decide +kernel
theorem d_Fl_countUsable_3 : decode prog_4_method_17_code 3 = .ok (.invokevirtual 162, 3) := by decide +kernel
theorem d_Fl_countUsable_6 : decode prog_4_method_17_code 6 = .ok (.ifCond .eq 19, 3) := by decide +kernel
theorem d_Fl_countUsable_9 : decode prog_4_method_17_code 9 = .ok (.aload_n 0, 1) := by decide +kernel
theorem d_Fl_countUsable_10 : decode prog_4_method_17_code 10 = .ok (.getfield 28, 3) := by decide +kernel
theorem d_Fl_countUsable_13 : decode prog_4_method_17_code 13 = .ok (.iload_n 2, 1) := by decide +kernel
theorem d_Fl_countUsable_14 : decode prog_4_method_17_code 14 = .ok (.iaload, 1) := by decide +kernel
theorem d_Fl_countUsable_15 : decode prog_4_method_17_code 15 = .ok (.iconst 1, 1) := by decide +kernel
theorem d_Fl_countUsable_16 : decode prog_4_method_17_code 16 = .ok (.iadd, 1) := by decide +kernel
theorem d_Fl_countUsable_17 : decode prog_4_method_17_code 17 = .ok (.bipush 11, 2) := by decide +kernel
theorem d_Fl_countUsable_19 : decode prog_4_method_17_code 19 = .ok (.invokestatic 131, 3) := by decide +kernel
theorem d_Fl_countUsable_22 : decode prog_4_method_17_code 22 = .ok (.goto 4, 3) := by decide +kernel
theorem d_Fl_countUsable_25 : decode prog_4_method_17_code 25 = .ok (.iconst 0, 1) := by decide +kernel
theorem d_Fl_countUsable_26 : decode prog_4_method_17_code 26 = .ok (.istore_n 3, 1) := by decide +kernel
theorem d_Fl_countUsable_27 : decode prog_4_method_17_code 27 = .ok (.aload_n 0, 1) := by decide +kernel
theorem d_Fl_countUsable_28 : decode prog_4_method_17_code 28 = .ok (.aload_n 0, 1) := by decide +kernel
theorem d_Fl_countUsable_29 : decode prog_4_method_17_code 29 = .ok (.getfield 57, 3) := by decide +kernel
theorem d_Fl_countUsable_32 : decode prog_4_method_17_code 32 = .ok (.ifCond .ne 13, 3) := by decide +kernel
theorem d_Fl_countUsable_35 : decode prog_4_method_17_code 35 = .ok (.iload_n 3, 1) := by decide +kernel
theorem d_Fl_countUsable_36 : decode prog_4_method_17_code 36 = .ok (.aload_n 0, 1) := by decide +kernel
theorem d_Fl_countUsable_37 : decode prog_4_method_17_code 37 = .ok (.getfield 28, 3) := by decide +kernel
theorem d_Fl_countUsable_40 : decode prog_4_method_17_code 40 = .ok (.iload_n 2, 1) := by decide +kernel
theorem d_Fl_countUsable_41 : decode prog_4_method_17_code 41 = .ok (.iaload, 1) := by decide +kernel
theorem d_Fl_countUsable_42 : decode prog_4_method_17_code 42 = .ok (.if_icmp .eq 7, 3) := by decide +kernel
theorem d_Fl_countUsable_45 : decode prog_4_method_17_code 45 = .ok (.iconst 1, 1) := by decide +kernel
theorem d_Fl_countUsable_46 : decode prog_4_method_17_code 46 = .ok (.goto 4, 3) := by decide +kernel
theorem d_Fl_countUsable_49 : decode prog_4_method_17_code 49 = .ok (.iconst 0, 1) := by decide +kernel
theorem d_Fl_countUsable_50 : decode prog_4_method_17_code 50 = .ok (.putfield 57, 3) := by decide +kernel
theorem d_Fl_countUsable_53 : decode prog_4_method_17_code 53 = .ok (.aload_n 0, 1) := by decide +kernel
theorem d_Fl_countUsable_54 : decode prog_4_method_17_code 54 = .ok (.getfield 28, 3) := by decide +kernel
theorem d_Fl_countUsable_57 : decode prog_4_method_17_code 57 = .ok (.iload_n 2, 1) := by decide +kernel
theorem d_Fl_countUsable_58 : decode prog_4_method_17_code 58 = .ok (.iload_n 3, 1) := by decide +kernel
theorem d_Fl_countUsable_59 : decode prog_4_method_17_code 59 = .ok (.iastore, 1) := by decide +kernel
theorem d_Fl_countUsable_60 : decode prog_4_method_17_code 60 = .ok (.return_, 1) := by decide +kernel
theorem d_Fl_isUsable_0 : decode prog_4_method_18_code 0 = .ok (.aload_n 0, 1) := by decide +kernel
theorem d_Fl_isUsable_1 : decode prog_4_method_18_code 1 = .ok (.getfield 21, 3) := by decide +kernel
theorem d_Fl_isUsable_4 : decode prog_4_method_18_code 4 = .ok (.getfield 144, 3) := by decide +kernel
theorem d_Fl_isUsable_7 : decode prog_4_method_18_code 7 = .ok (.iload_n 2, 1) := by decide +kernel
theorem d_Fl_isUsable_8 : decode prog_4_method_18_code 8 = .ok (.iaload, 1) := by decide +kernel
theorem d_Fl_isUsable_9 : decode prog_4_method_18_code 9 = .ok (.iconst 0, 1) := by decide +kernel
theorem d_Fl_isUsable_10 : decode prog_4_method_18_code 10 = .ok (.bipush 6, 2) := by decide +kernel
theorem d_Fl_isUsable_12 : decode prog_4_method_18_code 12 = .ok (.invokestatic 165, 3) := by decide +kernel
theorem d_Fl_isUsable_15 : decode prog_4_method_18_code 15 = .ok (.istore_n 3, 1) := by decide +kernel
theorem d_Fl_isUsable_16 : decode prog_4_method_18_code 16 = .ok (.aload_n 0, 1) := by decide +kernel
theorem d_Fl_isUsable_17 : decode prog_4_method_18_code 17 = .ok (.getfield 21, 3) := by decide +kernel
theorem d_Fl_isUsable_20 : decode prog_4_method_18_code 20 = .ok (.getfield 146, 3) := by decide +kernel
theorem d_Fl_isUsable_23 : decode prog_4_method_18_code 23 = .ok (.iload_n 2, 1) := by decide +kernel
theorem d_Fl_isUsable_24 : decode prog_4_method_18_code 24 = .ok (.iaload, 1) := by decide +kernel
theorem d_Fl_isUsable_25 : decode prog_4_method_18_code 25 = .ok (.iload_n 1, 1) := by decide +kernel
theorem d_Fl_isUsable_26 : decode prog_4_method_18_code 26 = .ok (.ishr, 1) := by decide +kernel
theorem d_Fl_isUsable_27 : decode prog_4_method_18_code 27 = .ok (.iconst 1, 1) := by decide +kernel
theorem d_Fl_isUsable_28 : decode prog_4_method_18_code 28 = .ok (.iand, 1) := by decide +kernel
theorem d_Fl_isUsable_29 : decode prog_4_method_18_code 29 = .ok (.iconst 1, 1) := by decide +kernel
theorem d_Fl_isUsable_30 : decode prog_4_method_18_code 30 = .ok (.if_icmp .ne 7, 3) := by decide +kernel
theorem d_Fl_isUsable_33 : decode prog_4_method_18_code 33 = .ok (.iconst 1, 1) := by decide +kernel
theorem d_Fl_isUsable_34 : decode prog_4_method_18_code 34 = .ok (.goto 4, 3) := by decide +kernel
theorem d_Fl_isUsable_37 : decode prog_4_method_18_code 37 = .ok (.iconst 0, 1) := by decide +kernel
theorem d_Fl_isUsable_38 : decode prog_4_method_18_code 38 = .ok (.istore 4, 2) := by decide +kernel
theorem d_Fl_isUsable_40 : decode prog_4_method_18_code 40 = .ok (.iload_n 3, 1) := by decide +kernel
theorem d_Fl_isUsable_41 : decode prog_4_method_18_code 41 = .ok (.ifCond .eq 34, 3) := by decide +kernel
theorem d_Fl_isUsable_44 : decode prog_4_method_18_code 44 = .ok (.aload_n 0, 1) := by decide +kernel
theorem d_Fl_isUsable_45 : decode prog_4_method_18_code 45 = .ok (.getfield 61, 3) := by decide +kernel
theorem d_Fl_isUsable_48 : decode prog_4_method_18_code 48 = .ok (.getfield 169, 3) := by decide +kernel
theorem d_Fl_isUsable_51 : decode prog_4_method_18_code 51 = .ok (.iload_n 2, 1) := by decide +kernel
theorem d_Fl_isUsable_52 : decode prog_4_method_18_code 52 = .ok (.baload, 1) := by decide +kernel
theorem d_Fl_isUsable_53 : decode prog_4_method_18_code 53 = .ok (.ifCond .ne 22, 3) := by decide +kernel
theorem d_Fl_isUsable_56 : decode prog_4_method_18_code 56 = .ok (.aload_n 0, 1) := by decide +kernel
theorem d_Fl_isUsable_57 : decode prog_4_method_18_code 57 = .ok (.getfield 61, 3) := by decide +kernel
theorem d_Fl_isUsable_60 : decode prog_4_method_18_code 60 = .ok (.getfield 172, 3) := by decide +kernel
theorem d_Fl_isUsable_63 : decode prog_4_method_18_code 63 = .ok (.ifCond .eq 8, 3) := by decide +kernel
theorem d_Fl_isUsable_66 : decode prog_4_method_18_code 66 = .ok (.iload 4, 2) := by decide +kernel
theorem d_Fl_isUsable_68 : decode prog_4_method_18_code 68 = .ok (.ifCond .ne 7, 3) := by decide +kernel
theorem d_Fl_isUsable_71 : decode prog_4_method_18_code 71 = .ok (.iconst 1, 1) := by decide +kernel
theorem d_Fl_isUsable_72 : decode prog_4_method_18_code 72 = .ok (.goto 4, 3) := by decide +kernel
theorem d_Fl_isUsable_75 : decode prog_4_method_18_code 75 = .ok (.iconst 0, 1) := by decide +kernel
theorem d_Fl_isUsable_76 : decode prog_4_method_18_code 76 = .ok (.ireturn, 1) := by decide +kernel
theorem d_CT_isWithin_0 : decode prog_1_method_25_code 0 = .ok (.iload_n 1, 1) := by decide +kernel
theorem d_CT_isWithin_1 : decode prog_1_method_25_code 1 = .ok (.iload_n 0, 1) := by decide +kernel
theorem d_CT_isWithin_2 : decode prog_1_method_25_code 2 = .ok (.if_icmp .gt 12, 3) := by decide +kernel
theorem d_CT_isWithin_5 : decode prog_1_method_25_code 5 = .ok (.iload_n 0, 1) := by decide +kernel
theorem d_CT_isWithin_6 : decode prog_1_method_25_code 6 = .ok (.iload_n 2, 1) := by decide +kernel
theorem d_CT_isWithin_7 : decode prog_1_method_25_code 7 = .ok (.if_icmp .gt 7, 3) := by decide +kernel
theorem d_CT_isWithin_10 : decode prog_1_method_25_code 10 = .ok (.iconst 1, 1) := by decide +kernel
theorem d_CT_isWithin_11 : decode prog_1_method_25_code 11 = .ok (.goto 4, 3) := by decide +kernel
theorem d_CT_isWithin_14 : decode prog_1_method_25_code 14 = .ok (.iconst 0, 1) := by decide +kernel
theorem d_CT_isWithin_15 : decode prog_1_method_25_code 15 = .ok (.ireturn, 1) := by decide +kernel
theorem d_Fl_decide_0 : decode prog_4_method_19_code 0 = .ok (.aload_n 0, 1) := by decide +kernel
theorem d_Fl_decide_1 : decode prog_4_method_19_code 1 = .ok (.iload_n 1, 1) := by decide +kernel
theorem d_Fl_decide_2 : decode prog_4_method_19_code 2 = .ok (.invokevirtual 175, 3) := by decide +kernel
theorem d_Fl_decide_5 : decode prog_4_method_19_code 5 = .ok (.istore_n 2, 1) := by decide +kernel
theorem d_Fl_decide_6 : decode prog_4_method_19_code 6 = .ok (.aload_n 0, 1) := by decide +kernel
theorem d_Fl_decide_7 : decode prog_4_method_19_code 7 = .ok (.getfield 34, 3) := by decide +kernel
theorem d_Fl_decide_10 : decode prog_4_method_19_code 10 = .ok (.iload_n 1, 1) := by decide +kernel
theorem d_Fl_decide_11 : decode prog_4_method_19_code 11 = .ok (.iload_n 2, 1) := by decide +kernel
theorem d_Fl_decide_12 : decode prog_4_method_19_code 12 = .ok (.iastore, 1) := by decide +kernel
theorem d_Fl_decide_13 : decode prog_4_method_19_code 13 = .ok (.iload_n 2, 1) := by decide +kernel
theorem d_Fl_decide_14 : decode prog_4_method_19_code 14 = .ok (.iconst (-1), 1) := by decide +kernel
theorem d_Fl_decide_15 : decode prog_4_method_19_code 15 = .ok (.if_icmp .eq 74, 3) := by decide +kernel
theorem d_Fl_decide_18 : decode prog_4_method_19_code 18 = .ok (.aload_n 0, 1) := by decide +kernel
theorem d_Fl_decide_19 : decode prog_4_method_19_code 19 = .ok (.getfield 28, 3) := by decide +kernel
theorem d_Fl_decide_22 : decode prog_4_method_19_code 22 = .ok (.iload_n 1, 1) := by decide +kernel
theorem d_Fl_decide_23 : decode prog_4_method_19_code 23 = .ok (.iload_n 2, 1) := by decide +kernel
theorem d_Fl_decide_24 : decode prog_4_method_19_code 24 = .ok (.invokestatic 91, 3) := by decide +kernel
theorem d_Fl_decide_27 : decode prog_4_method_19_code 27 = .ok (.iaload, 1) := by decide +kernel
theorem d_Fl_decide_28 : decode prog_4_method_19_code 28 = .ok (.ifCond .le 61, 3) := by decide +kernel
theorem d_Fl_decide_31 : decode prog_4_method_19_code 31 = .ok (.iload_n 1, 1) := by decide +kernel
theorem d_Fl_decide_32 : decode prog_4_method_19_code 32 = .ok (.iload_n 2, 1) := by decide +kernel
theorem d_Fl_decide_33 : decode prog_4_method_19_code 33 = .ok (.invokestatic 91, 3) := by decide +kernel
theorem d_Fl_decide_36 : decode prog_4_method_19_code 36 = .ok (.istore_n 3, 1) := by decide +kernel
theorem d_Fl_decide_37 : decode prog_4_method_19_code 37 = .ok (.aload_n 0, 1) := by decide +kernel
theorem d_Fl_decide_38 : decode prog_4_method_19_code 38 = .ok (.getfield 31, 3) := by decide +kernel
theorem d_Fl_decide_41 : decode prog_4_method_19_code 41 = .ok (.iload_n 1, 1) := by decide +kernel
theorem d_Fl_decide_42 : decode prog_4_method_19_code 42 = .ok (.iconst 1, 1) := by decide +kernel
theorem d_Fl_decide_43 : decode prog_4_method_19_code 43 = .ok (.iastore, 1) := by decide +kernel
theorem d_Fl_decide_44 : decode prog_4_method_19_code 44 = .ok (.aload_n 0, 1) := by decide +kernel
theorem d_Fl_decide_45 : decode prog_4_method_19_code 45 = .ok (.dup, 1) := by decide +kernel
theorem d_Fl_decide_46 : decode prog_4_method_19_code 46 = .ok (.getfield 43, 3) := by decide +kernel
theorem d_Fl_decide_49 : decode prog_4_method_19_code 49 = .ok (.iconst 1, 1) := by decide +kernel
theorem d_Fl_decide_50 : decode prog_4_method_19_code 50 = .ok (.iload_n 1, 1) := by decide +kernel
theorem d_Fl_decide_51 : decode prog_4_method_19_code 51 = .ok (.ishl, 1) := by decide +kernel
theorem d_Fl_decide_52 : decode prog_4_method_19_code 52 = .ok (.ior, 1) := by decide +kernel
theorem d_Fl_decide_53 : decode prog_4_method_19_code 53 = .ok (.putfield 43, 3) := by decide +kernel
theorem d_Fl_decide_56 : decode prog_4_method_19_code 56 = .ok (.aload_n 0, 1) := by decide +kernel
theorem d_Fl_decide_57 : decode prog_4_method_19_code 57 = .ok (.getfield 40, 3) := by decide +kernel
theorem d_Fl_decide_60 : decode prog_4_method_19_code 60 = .ok (.iload_n 1, 1) := by decide +kernel
theorem d_Fl_decide_61 : decode prog_4_method_19_code 61 = .ok (.aload_n 0, 1) := by decide +kernel
theorem d_Fl_decide_62 : decode prog_4_method_19_code 62 = .ok (.getfield 21, 3) := by decide +kernel
theorem d_Fl_decide_65 : decode prog_4_method_19_code 65 = .ok (.getfield 144, 3) := by decide +kernel
theorem d_Fl_decide_68 : decode prog_4_method_19_code 68 = .ok (.iload_n 3, 1) := by decide +kernel
theorem d_Fl_decide_69 : decode prog_4_method_19_code 69 = .ok (.iaload, 1) := by decide +kernel
theorem d_Fl_decide_70 : decode prog_4_method_19_code 70 = .ok (.iastore, 1) := by decide +kernel
theorem d_Fl_decide_71 : decode prog_4_method_19_code 71 = .ok (.aload_n 0, 1) := by decide +kernel
theorem d_Fl_decide_72 : decode prog_4_method_19_code 72 = .ok (.getfield 37, 3) := by decide +kernel
theorem d_Fl_decide_75 : decode prog_4_method_19_code 75 = .ok (.iload_n 1, 1) := by decide +kernel
theorem d_Fl_decide_76 : decode prog_4_method_19_code 76 = .ok (.aload_n 0, 1) := by decide +kernel
theorem d_Fl_decide_77 : decode prog_4_method_19_code 77 = .ok (.getfield 21, 3) := by decide +kernel
theorem d_Fl_decide_80 : decode prog_4_method_19_code 80 = .ok (.getfield 145, 3) := by decide +kernel
theorem d_Fl_decide_83 : decode prog_4_method_19_code 83 = .ok (.iload_n 3, 1) := by decide +kernel
theorem d_Fl_decide_84 : decode prog_4_method_19_code 84 = .ok (.iaload, 1) := by decide +kernel
theorem d_Fl_decide_85 : decode prog_4_method_19_code 85 = .ok (.iastore, 1) := by decide +kernel
theorem d_Fl_decide_86 : decode prog_4_method_19_code 86 = .ok (.goto 40, 3) := by decide +kernel
theorem d_Fl_decide_89 : decode prog_4_method_19_code 89 = .ok (.aload_n 0, 1) := by decide +kernel
theorem d_Fl_decide_90 : decode prog_4_method_19_code 90 = .ok (.getfield 31, 3) := by decide +kernel
theorem d_Fl_decide_93 : decode prog_4_method_19_code 93 = .ok (.iload_n 1, 1) := by decide +kernel
theorem d_Fl_decide_94 : decode prog_4_method_19_code 94 = .ok (.aload_n 0, 1) := by decide +kernel
theorem d_Fl_decide_95 : decode prog_4_method_19_code 95 = .ok (.getfield 43, 3) := by decide +kernel
theorem d_Fl_decide_98 : decode prog_4_method_19_code 98 = .ok (.iload_n 1, 1) := by decide +kernel
theorem d_Fl_decide_99 : decode prog_4_method_19_code 99 = .ok (.ishr, 1) := by decide +kernel
theorem d_Fl_decide_100 : decode prog_4_method_19_code 100 = .ok (.iconst 1, 1) := by decide +kernel
theorem d_Fl_decide_101 : decode prog_4_method_19_code 101 = .ok (.iand, 1) := by decide +kernel
theorem d_Fl_decide_102 : decode prog_4_method_19_code 102 = .ok (.iconst 1, 1) := by decide +kernel
theorem d_Fl_decide_103 : decode prog_4_method_19_code 103 = .ok (.if_icmp .ne 7, 3) := by decide +kernel
theorem d_Fl_decide_106 : decode prog_4_method_19_code 106 = .ok (.iconst 2, 1) := by decide +kernel
theorem d_Fl_decide_107 : decode prog_4_method_19_code 107 = .ok (.goto 4, 3) := by decide +kernel
theorem d_Fl_decide_110 : decode prog_4_method_19_code 110 = .ok (.iconst 0, 1) := by decide +kernel
theorem d_Fl_decide_111 : decode prog_4_method_19_code 111 = .ok (.iastore, 1) := by decide +kernel
theorem d_Fl_decide_112 : decode prog_4_method_19_code 112 = .ok (.aload_n 0, 1) := by decide +kernel
theorem d_Fl_decide_113 : decode prog_4_method_19_code 113 = .ok (.getfield 40, 3) := by decide +kernel
theorem d_Fl_decide_116 : decode prog_4_method_19_code 116 = .ok (.iload_n 1, 1) := by decide +kernel
theorem d_Fl_decide_117 : decode prog_4_method_19_code 117 = .ok (.iconst (-1), 1) := by decide +kernel
theorem d_Fl_decide_118 : decode prog_4_method_19_code 118 = .ok (.iastore, 1) := by decide +kernel
theorem d_Fl_decide_119 : decode prog_4_method_19_code 119 = .ok (.aload_n 0, 1) := by decide +kernel
theorem d_Fl_decide_120 : decode prog_4_method_19_code 120 = .ok (.getfield 37, 3) := by decide +kernel
theorem d_Fl_decide_123 : decode prog_4_method_19_code 123 = .ok (.iload_n 1, 1) := by decide +kernel
theorem d_Fl_decide_124 : decode prog_4_method_19_code 124 = .ok (.iconst (-1), 1) := by decide +kernel
theorem d_Fl_decide_125 : decode prog_4_method_19_code 125 = .ok (.iastore, 1) := by decide +kernel
theorem d_Fl_decide_126 : decode prog_4_method_19_code 126 = .ok (.return_, 1) := by decide +kernel
theorem d_Fl_choose_0 : decode prog_4_method_20_code 0 = .ok (.aload_n 0, 1) := by decide +kernel
theorem d_Fl_choose_1 : decode prog_4_method_20_code 1 = .ok (.getfield 61, 3) := by decide +kernel
theorem d_Fl_choose_4 : decode prog_4_method_20_code 4 = .ok (.getfield 178, 3) := by decide +kernel
theorem d_Fl_choose_7 : decode prog_4_method_20_code 7 = .ok (.iload_n 1, 1) := by decide +kernel
theorem d_Fl_choose_8 : decode prog_4_method_20_code 8 = .ok (.iaload, 1) := by decide +kernel
theorem d_Fl_choose_9 : decode prog_4_method_20_code 9 = .ok (.iconst (-1), 1) := by decide +kernel
theorem d_Fl_choose_10 : decode prog_4_method_20_code 10 = .ok (.if_icmp .eq 13, 3) := by decide +kernel
theorem d_Fl_choose_13 : decode prog_4_method_20_code 13 = .ok (.aload_n 0, 1) := by decide +kernel
theorem d_Fl_choose_14 : decode prog_4_method_20_code 14 = .ok (.getfield 61, 3) := by decide +kernel
theorem d_Fl_choose_17 : decode prog_4_method_20_code 17 = .ok (.getfield 178, 3) := by decide +kernel
theorem d_Fl_choose_20 : decode prog_4_method_20_code 20 = .ok (.iload_n 1, 1) := by decide +kernel
theorem d_Fl_choose_21 : decode prog_4_method_20_code 21 = .ok (.iaload, 1) := by decide +kernel
theorem d_Fl_choose_22 : decode prog_4_method_20_code 22 = .ok (.ireturn, 1) := by decide +kernel
theorem d_Fl_choose_23 : decode prog_4_method_20_code 23 = .ok (.aload_n 0, 1) := by decide +kernel
theorem d_Fl_choose_24 : decode prog_4_method_20_code 24 = .ok (.getfield 61, 3) := by decide +kernel
theorem d_Fl_choose_27 : decode prog_4_method_20_code 27 = .ok (.getfield 181, 3) := by decide +kernel
theorem d_Fl_choose_30 : decode prog_4_method_20_code 30 = .ok (.iload_n 1, 1) := by decide +kernel
theorem d_Fl_choose_31 : decode prog_4_method_20_code 31 = .ok (.iaload, 1) := by decide +kernel
theorem d_Fl_choose_32 : decode prog_4_method_20_code 32 = .ok (.istore_n 2, 1) := by decide +kernel
theorem d_Fl_choose_33 : decode prog_4_method_20_code 33 = .ok (.iload_n 2, 1) := by decide +kernel
theorem d_Fl_choose_34 : decode prog_4_method_20_code 34 = .ok (.iconst (-1), 1) := by decide +kernel
theorem d_Fl_choose_35 : decode prog_4_method_20_code 35 = .ok (.if_icmp .eq 18, 3) := by decide +kernel
theorem d_Fl_choose_38 : decode prog_4_method_20_code 38 = .ok (.aload_n 0, 1) := by decide +kernel
theorem d_Fl_choose_39 : decode prog_4_method_20_code 39 = .ok (.getfield 28, 3) := by decide +kernel
theorem d_Fl_choose_42 : decode prog_4_method_20_code 42 = .ok (.iload_n 1, 1) := by decide +kernel
theorem d_Fl_choose_43 : decode prog_4_method_20_code 43 = .ok (.iload_n 2, 1) := by decide +kernel
theorem d_Fl_choose_44 : decode prog_4_method_20_code 44 = .ok (.invokestatic 91, 3) := by decide +kernel
theorem d_Fl_choose_47 : decode prog_4_method_20_code 47 = .ok (.iaload, 1) := by decide +kernel
theorem d_Fl_choose_48 : decode prog_4_method_20_code 48 = .ok (.ifCond .le 5, 3) := by decide +kernel
theorem d_Fl_choose_51 : decode prog_4_method_20_code 51 = .ok (.iload_n 2, 1) := by decide +kernel
theorem d_Fl_choose_52 : decode prog_4_method_20_code 52 = .ok (.ireturn, 1) := by decide +kernel
theorem d_Fl_choose_53 : decode prog_4_method_20_code 53 = .ok (.aload_n 0, 1) := by decide +kernel
theorem d_Fl_choose_54 : decode prog_4_method_20_code 54 = .ok (.iload_n 1, 1) := by decide +kernel
theorem d_Fl_choose_55 : decode prog_4_method_20_code 55 = .ok (.aload_n 0, 1) := by decide +kernel
theorem d_Fl_choose_56 : decode prog_4_method_20_code 56 = .ok (.getfield 61, 3) := by decide +kernel
theorem d_Fl_choose_59 : decode prog_4_method_20_code 59 = .ok (.getfield 184, 3) := by decide +kernel
theorem d_Fl_choose_62 : decode prog_4_method_20_code 62 = .ok (.iload_n 1, 1) := by decide +kernel
theorem d_Fl_choose_63 : decode prog_4_method_20_code 63 = .ok (.iaload, 1) := by decide +kernel
theorem d_Fl_choose_64 : decode prog_4_method_20_code 64 = .ok (.iconst 1, 1) := by decide +kernel
theorem d_Fl_choose_65 : decode prog_4_method_20_code 65 = .ok (.iadd, 1) := by decide +kernel
theorem d_Fl_choose_66 : decode prog_4_method_20_code 66 = .ok (.invokevirtual 187, 3) := by decide +kernel
theorem d_Fl_choose_69 : decode prog_4_method_20_code 69 = .ok (.istore_n 3, 1) := by decide +kernel
theorem d_Fl_choose_70 : decode prog_4_method_20_code 70 = .ok (.iload_n 3, 1) := by decide +kernel
theorem d_Fl_choose_71 : decode prog_4_method_20_code 71 = .ok (.iconst (-1), 1) := by decide +kernel
theorem d_Fl_choose_72 : decode prog_4_method_20_code 72 = .ok (.if_icmp .eq 7, 3) := by decide +kernel
theorem d_Fl_choose_75 : decode prog_4_method_20_code 75 = .ok (.iload_n 3, 1) := by decide +kernel
theorem d_Fl_choose_76 : decode prog_4_method_20_code 76 = .ok (.goto 9, 3) := by decide +kernel
theorem d_Fl_choose_79 : decode prog_4_method_20_code 79 = .ok (.aload_n 0, 1) := by decide +kernel
theorem d_Fl_choose_80 : decode prog_4_method_20_code 80 = .ok (.iload_n 1, 1) := by decide +kernel
theorem d_Fl_choose_81 : decode prog_4_method_20_code 81 = .ok (.iconst 1, 1) := by decide +kernel
theorem d_Fl_choose_82 : decode prog_4_method_20_code 82 = .ok (.invokevirtual 187, 3) := by decide +kernel
theorem d_Fl_choose_85 : decode prog_4_method_20_code 85 = .ok (.ireturn, 1) := by decide +kernel
theorem d_Fl_bestPort_0 : decode prog_4_method_21_code 0 = .ok (.iconst (-1), 1) := by decide +kernel
theorem d_Fl_bestPort_1 : decode prog_4_method_21_code 1 = .ok (.istore_n 3, 1) := by decide +kernel
theorem d_Fl_bestPort_2 : decode prog_4_method_21_code 2 = .ok (.iconst 0, 1) := by decide +kernel
theorem d_Fl_bestPort_3 : decode prog_4_method_21_code 3 = .ok (.istore 4, 2) := by decide +kernel
theorem d_Fl_bestPort_5 : decode prog_4_method_21_code 5 = .ok (.iload 4, 2) := by decide +kernel
theorem d_Fl_bestPort_7 : decode prog_4_method_21_code 7 = .ok (.iconst 4, 1) := by decide +kernel
theorem d_Fl_bestPort_8 : decode prog_4_method_21_code 8 = .ok (.if_icmp .ge 50, 3) := by decide +kernel
theorem d_Fl_bestPort_11 : decode prog_4_method_21_code 11 = .ok (.iload_n 1, 1) := by decide +kernel
theorem d_Fl_bestPort_12 : decode prog_4_method_21_code 12 = .ok (.iload 4, 2) := by decide +kernel
theorem d_Fl_bestPort_14 : decode prog_4_method_21_code 14 = .ok (.invokestatic 91, 3) := by decide +kernel
theorem d_Fl_bestPort_17 : decode prog_4_method_21_code 17 = .ok (.istore 5, 2) := by decide +kernel
theorem d_Fl_bestPort_19 : decode prog_4_method_21_code 19 = .ok (.aload_n 0, 1) := by decide +kernel
theorem d_Fl_bestPort_20 : decode prog_4_method_21_code 20 = .ok (.getfield 28, 3) := by decide +kernel
theorem d_Fl_bestPort_23 : decode prog_4_method_21_code 23 = .ok (.iload 5, 2) := by decide +kernel
theorem d_Fl_bestPort_25 : decode prog_4_method_21_code 25 = .ok (.iaload, 1) := by decide +kernel
theorem d_Fl_bestPort_26 : decode prog_4_method_21_code 26 = .ok (.iload_n 2, 1) := by decide +kernel
theorem d_Fl_bestPort_27 : decode prog_4_method_21_code 27 = .ok (.if_icmp .lt 25, 3) := by decide +kernel
theorem d_Fl_bestPort_30 : decode prog_4_method_21_code 30 = .ok (.iload_n 3, 1) := by decide +kernel
theorem d_Fl_bestPort_31 : decode prog_4_method_21_code 31 = .ok (.iconst (-1), 1) := by decide +kernel
theorem d_Fl_bestPort_32 : decode prog_4_method_21_code 32 = .ok (.if_icmp .eq 17, 3) := by decide +kernel
theorem d_Fl_bestPort_35 : decode prog_4_method_21_code 35 = .ok (.aload_n 0, 1) := by decide +kernel
theorem d_Fl_bestPort_36 : decode prog_4_method_21_code 36 = .ok (.iload 5, 2) := by decide +kernel
theorem d_Fl_bestPort_38 : decode prog_4_method_21_code 38 = .ok (.iload_n 1, 1) := by decide +kernel
theorem d_Fl_bestPort_39 : decode prog_4_method_21_code 39 = .ok (.iload_n 3, 1) := by decide +kernel
theorem d_Fl_bestPort_40 : decode prog_4_method_21_code 40 = .ok (.invokestatic 91, 3) := by decide +kernel
theorem d_Fl_bestPort_43 : decode prog_4_method_21_code 43 = .ok (.invokevirtual 190, 3) := by decide +kernel
theorem d_Fl_bestPort_46 : decode prog_4_method_21_code 46 = .ok (.ifCond .eq 6, 3) := by decide +kernel
theorem d_Fl_bestPort_49 : decode prog_4_method_21_code 49 = .ok (.iload 4, 2) := by decide +kernel
theorem d_Fl_bestPort_51 : decode prog_4_method_21_code 51 = .ok (.istore_n 3, 1) := by decide +kernel
theorem d_Fl_bestPort_52 : decode prog_4_method_21_code 52 = .ok (.iinc 4 1, 3) := by decide +kernel
theorem d_Fl_bestPort_55 : decode prog_4_method_21_code 55 = .ok (.goto (-50), 3) := by decide +kernel
theorem d_Fl_bestPort_58 : decode prog_4_method_21_code 58 = .ok (.iload_n 3, 1) := by decide +kernel
theorem d_Fl_bestPort_59 : decode prog_4_method_21_code 59 = .ok (.ireturn, 1) := by decide +kernel
theorem d_Fl_isBetter_0 : decode prog_4_method_22_code 0 = .ok (.aload_n 0, 1) := by decide +kernel
theorem d_Fl_isBetter_1 : decode prog_4_method_22_code 1 = .ok (.getfield 21, 3) := by decide +kernel
theorem d_Fl_isBetter_4 : decode prog_4_method_22_code 4 = .ok (.getfield 144, 3) := by decide +kernel
theorem d_Fl_isBetter_7 : decode prog_4_method_22_code 7 = .ok (.iload_n 1, 1) := by decide +kernel
theorem d_Fl_isBetter_8 : decode prog_4_method_22_code 8 = .ok (.iaload, 1) := by decide +kernel
theorem d_Fl_isBetter_9 : decode prog_4_method_22_code 9 = .ok (.aload_n 0, 1) := by decide +kernel
theorem d_Fl_isBetter_10 : decode prog_4_method_22_code 10 = .ok (.getfield 21, 3) := by decide +kernel
theorem d_Fl_isBetter_13 : decode prog_4_method_22_code 13 = .ok (.getfield 144, 3) := by decide +kernel
theorem d_Fl_isBetter_16 : decode prog_4_method_22_code 16 = .ok (.iload_n 2, 1) := by decide +kernel
theorem d_Fl_isBetter_17 : decode prog_4_method_22_code 17 = .ok (.iaload, 1) := by decide +kernel
theorem d_Fl_isBetter_18 : decode prog_4_method_22_code 18 = .ok (.if_icmp .eq 30, 3) := by decide +kernel
theorem d_Fl_isBetter_21 : decode prog_4_method_22_code 21 = .ok (.aload_n 0, 1) := by decide +kernel
theorem d_Fl_isBetter_22 : decode prog_4_method_22_code 22 = .ok (.getfield 21, 3) := by decide +kernel
theorem d_Fl_isBetter_25 : decode prog_4_method_22_code 25 = .ok (.getfield 144, 3) := by decide +kernel
theorem d_Fl_isBetter_28 : decode prog_4_method_22_code 28 = .ok (.iload_n 1, 1) := by decide +kernel
theorem d_Fl_isBetter_29 : decode prog_4_method_22_code 29 = .ok (.iaload, 1) := by decide +kernel
theorem d_Fl_isBetter_30 : decode prog_4_method_22_code 30 = .ok (.aload_n 0, 1) := by decide +kernel
theorem d_Fl_isBetter_31 : decode prog_4_method_22_code 31 = .ok (.getfield 21, 3) := by decide +kernel
theorem d_Fl_isBetter_34 : decode prog_4_method_22_code 34 = .ok (.getfield 144, 3) := by decide +kernel
theorem d_Fl_isBetter_37 : decode prog_4_method_22_code 37 = .ok (.iload_n 2, 1) := by decide +kernel
theorem d_Fl_isBetter_38 : decode prog_4_method_22_code 38 = .ok (.iaload, 1) := by decide +kernel
theorem d_Fl_isBetter_39 : decode prog_4_method_22_code 39 = .ok (.if_icmp .ge 7, 3) := by decide +kernel
theorem d_Fl_isBetter_42 : decode prog_4_method_22_code 42 = .ok (.iconst 1, 1) := by decide +kernel
theorem d_Fl_isBetter_43 : decode prog_4_method_22_code 43 = .ok (.goto 4, 3) := by decide +kernel
theorem d_Fl_isBetter_46 : decode prog_4_method_22_code 46 = .ok (.iconst 0, 1) := by decide +kernel
theorem d_Fl_isBetter_47 : decode prog_4_method_22_code 47 = .ok (.ireturn, 1) := by decide +kernel
theorem d_Fl_isBetter_48 : decode prog_4_method_22_code 48 = .ok (.aload_n 0, 1) := by decide +kernel
theorem d_Fl_isBetter_49 : decode prog_4_method_22_code 49 = .ok (.getfield 21, 3) := by decide +kernel
theorem d_Fl_isBetter_52 : decode prog_4_method_22_code 52 = .ok (.getfield 145, 3) := by decide +kernel
theorem d_Fl_isBetter_55 : decode prog_4_method_22_code 55 = .ok (.iload_n 1, 1) := by decide +kernel
theorem d_Fl_isBetter_56 : decode prog_4_method_22_code 56 = .ok (.iaload, 1) := by decide +kernel
theorem d_Fl_isBetter_57 : decode prog_4_method_22_code 57 = .ok (.aload_n 0, 1) := by decide +kernel
theorem d_Fl_isBetter_58 : decode prog_4_method_22_code 58 = .ok (.getfield 21, 3) := by decide +kernel
theorem d_Fl_isBetter_61 : decode prog_4_method_22_code 61 = .ok (.getfield 145, 3) := by decide +kernel
theorem d_Fl_isBetter_64 : decode prog_4_method_22_code 64 = .ok (.iload_n 2, 1) := by decide +kernel
theorem d_Fl_isBetter_65 : decode prog_4_method_22_code 65 = .ok (.iaload, 1) := by decide +kernel
theorem d_Fl_isBetter_66 : decode prog_4_method_22_code 66 = .ok (.if_icmp .eq 30, 3) := by decide +kernel
theorem d_Fl_isBetter_69 : decode prog_4_method_22_code 69 = .ok (.aload_n 0, 1) := by decide +kernel
theorem d_Fl_isBetter_70 : decode prog_4_method_22_code 70 = .ok (.getfield 21, 3) := by decide +kernel
theorem d_Fl_isBetter_73 : decode prog_4_method_22_code 73 = .ok (.getfield 145, 3) := by decide +kernel
theorem d_Fl_isBetter_76 : decode prog_4_method_22_code 76 = .ok (.iload_n 1, 1) := by decide +kernel
theorem d_Fl_isBetter_77 : decode prog_4_method_22_code 77 = .ok (.iaload, 1) := by decide +kernel
theorem d_Fl_isBetter_78 : decode prog_4_method_22_code 78 = .ok (.aload_n 0, 1) := by decide +kernel
theorem d_Fl_isBetter_79 : decode prog_4_method_22_code 79 = .ok (.getfield 21, 3) := by decide +kernel
theorem d_Fl_isBetter_82 : decode prog_4_method_22_code 82 = .ok (.getfield 145, 3) := by decide +kernel
theorem d_Fl_isBetter_85 : decode prog_4_method_22_code 85 = .ok (.iload_n 2, 1) := by decide +kernel
theorem d_Fl_isBetter_86 : decode prog_4_method_22_code 86 = .ok (.iaload, 1) := by decide +kernel
theorem d_Fl_isBetter_87 : decode prog_4_method_22_code 87 = .ok (.if_icmp .ge 7, 3) := by decide +kernel
theorem d_Fl_isBetter_90 : decode prog_4_method_22_code 90 = .ok (.iconst 1, 1) := by decide +kernel
theorem d_Fl_isBetter_91 : decode prog_4_method_22_code 91 = .ok (.goto 4, 3) := by decide +kernel
theorem d_Fl_isBetter_94 : decode prog_4_method_22_code 94 = .ok (.iconst 0, 1) := by decide +kernel
theorem d_Fl_isBetter_95 : decode prog_4_method_22_code 95 = .ok (.ireturn, 1) := by decide +kernel
theorem d_Fl_isBetter_96 : decode prog_4_method_22_code 96 = .ok (.aload_n 0, 1) := by decide +kernel
theorem d_Fl_isBetter_97 : decode prog_4_method_22_code 97 = .ok (.getfield 61, 3) := by decide +kernel
theorem d_Fl_isBetter_100 : decode prog_4_method_22_code 100 = .ok (.getfield 193, 3) := by decide +kernel
theorem d_Fl_isBetter_103 : decode prog_4_method_22_code 103 = .ok (.iload_n 1, 1) := by decide +kernel
theorem d_Fl_isBetter_104 : decode prog_4_method_22_code 104 = .ok (.iaload, 1) := by decide +kernel
theorem d_Fl_isBetter_105 : decode prog_4_method_22_code 105 = .ok (.aload_n 0, 1) := by decide +kernel
theorem d_Fl_isBetter_106 : decode prog_4_method_22_code 106 = .ok (.getfield 61, 3) := by decide +kernel
theorem d_Fl_isBetter_109 : decode prog_4_method_22_code 109 = .ok (.getfield 193, 3) := by decide +kernel
theorem d_Fl_isBetter_112 : decode prog_4_method_22_code 112 = .ok (.iload_n 2, 1) := by decide +kernel
theorem d_Fl_isBetter_113 : decode prog_4_method_22_code 113 = .ok (.iaload, 1) := by decide +kernel
theorem d_Fl_isBetter_114 : decode prog_4_method_22_code 114 = .ok (.if_icmp .ge 7, 3) := by decide +kernel
theorem d_Fl_isBetter_117 : decode prog_4_method_22_code 117 = .ok (.iconst 1, 1) := by decide +kernel
theorem d_Fl_isBetter_118 : decode prog_4_method_22_code 118 = .ok (.goto 4, 3) := by decide +kernel
theorem d_Fl_isBetter_121 : decode prog_4_method_22_code 121 = .ok (.iconst 0, 1) := by decide +kernel
theorem d_Fl_isBetter_122 : decode prog_4_method_22_code 122 = .ok (.ireturn, 1) := by decide +kernel
theorem d_Fl_speak_0 : decode prog_4_method_23_code 0 = .ok (.iconst 0, 1) := by decide +kernel
theorem d_Fl_speak_1 : decode prog_4_method_23_code 1 = .ok (.istore_n 2, 1) := by decide +kernel
theorem d_Fl_speak_2 : decode prog_4_method_23_code 2 = .ok (.iload_n 2, 1) := by decide +kernel
theorem d_Fl_speak_3 : decode prog_4_method_23_code 3 = .ok (.iconst 4, 1) := by decide +kernel
theorem d_Fl_speak_4 : decode prog_4_method_23_code 4 = .ok (.if_icmp .ge 137, 3) := by decide +kernel
theorem d_Fl_speak_7 : decode prog_4_method_23_code 7 = .ok (.iload_n 1, 1) := by decide +kernel
theorem d_Fl_speak_8 : decode prog_4_method_23_code 8 = .ok (.iload_n 2, 1) := by decide +kernel
theorem d_Fl_speak_9 : decode prog_4_method_23_code 9 = .ok (.invokestatic 91, 3) := by decide +kernel
theorem d_Fl_speak_12 : decode prog_4_method_23_code 12 = .ok (.istore_n 3, 1) := by decide +kernel
theorem d_Fl_speak_13 : decode prog_4_method_23_code 13 = .ok (.aload_n 0, 1) := by decide +kernel
theorem d_Fl_speak_14 : decode prog_4_method_23_code 14 = .ok (.getfield 61, 3) := by decide +kernel
theorem d_Fl_speak_17 : decode prog_4_method_23_code 17 = .ok (.getfield 115, 3) := by decide +kernel
theorem d_Fl_speak_20 : decode prog_4_method_23_code 20 = .ok (.iload_n 3, 1) := by decide +kernel
theorem d_Fl_speak_21 : decode prog_4_method_23_code 21 = .ok (.iaload, 1) := by decide +kernel
theorem d_Fl_speak_22 : decode prog_4_method_23_code 22 = .ok (.iconst (-1), 1) := by decide +kernel
theorem d_Fl_speak_23 : decode prog_4_method_23_code 23 = .ok (.if_icmp .ne 6, 3) := by decide +kernel
theorem d_Fl_speak_26 : decode prog_4_method_23_code 26 = .ok (.goto 109, 3) := by decide +kernel
theorem d_Fl_speak_29 : decode prog_4_method_23_code 29 = .ok (.iload_n 2, 1) := by decide +kernel
theorem d_Fl_speak_30 : decode prog_4_method_23_code 30 = .ok (.aload_n 0, 1) := by decide +kernel
theorem d_Fl_speak_31 : decode prog_4_method_23_code 31 = .ok (.getfield 34, 3) := by decide +kernel
theorem d_Fl_speak_34 : decode prog_4_method_23_code 34 = .ok (.iload_n 1, 1) := by decide +kernel
theorem d_Fl_speak_35 : decode prog_4_method_23_code 35 = .ok (.iaload, 1) := by decide +kernel
theorem d_Fl_speak_36 : decode prog_4_method_23_code 36 = .ok (.if_icmp .ne 18, 3) := by decide +kernel
theorem d_Fl_speak_39 : decode prog_4_method_23_code 39 = .ok (.aload_n 0, 1) := by decide +kernel
theorem d_Fl_speak_40 : decode prog_4_method_23_code 40 = .ok (.getfield 18, 3) := by decide +kernel
theorem d_Fl_speak_43 : decode prog_4_method_23_code 43 = .ok (.iload_n 3, 1) := by decide +kernel
theorem d_Fl_speak_44 : decode prog_4_method_23_code 44 = .ok (.bipush 7, 2) := by decide +kernel
theorem d_Fl_speak_46 : decode prog_4_method_23_code 46 = .ok (.iconst 0, 1) := by decide +kernel
theorem d_Fl_speak_47 : decode prog_4_method_23_code 47 = .ok (.iconst 0, 1) := by decide +kernel
theorem d_Fl_speak_48 : decode prog_4_method_23_code 48 = .ok (.invokevirtual 95, 3) := by decide +kernel
theorem d_Fl_speak_51 : decode prog_4_method_23_code 51 = .ok (.goto 84, 3) := by decide +kernel
theorem d_Fl_speak_54 : decode prog_4_method_23_code 54 = .ok (.aload_n 0, 1) := by decide +kernel
theorem d_Fl_speak_55 : decode prog_4_method_23_code 55 = .ok (.iload_n 1, 1) := by decide +kernel
theorem d_Fl_speak_56 : decode prog_4_method_23_code 56 = .ok (.invokevirtual 196, 3) := by decide +kernel
theorem d_Fl_speak_59 : decode prog_4_method_23_code 59 = .ok (.ifCond .eq 54, 3) := by decide +kernel
theorem d_Fl_speak_62 : decode prog_4_method_23_code 62 = .ok (.aload_n 0, 1) := by decide +kernel
theorem d_Fl_speak_63 : decode prog_4_method_23_code 63 = .ok (.getfield 21, 3) := by decide +kernel
theorem d_Fl_speak_66 : decode prog_4_method_23_code 66 = .ok (.getfield 146, 3) := by decide +kernel
theorem d_Fl_speak_69 : decode prog_4_method_23_code 69 = .ok (.iload_n 1, 1) := by decide +kernel
theorem d_Fl_speak_70 : decode prog_4_method_23_code 70 = .ok (.aload_n 0, 1) := by decide +kernel
theorem d_Fl_speak_71 : decode prog_4_method_23_code 71 = .ok (.getfield 34, 3) := by decide +kernel
theorem d_Fl_speak_74 : decode prog_4_method_23_code 74 = .ok (.iload_n 1, 1) := by decide +kernel
theorem d_Fl_speak_75 : decode prog_4_method_23_code 75 = .ok (.iaload, 1) := by decide +kernel
theorem d_Fl_speak_76 : decode prog_4_method_23_code 76 = .ok (.invokestatic 91, 3) := by decide +kernel
theorem d_Fl_speak_79 : decode prog_4_method_23_code 79 = .ok (.iaload, 1) := by decide +kernel
theorem d_Fl_speak_80 : decode prog_4_method_23_code 80 = .ok (.iconst 1, 1) := by decide +kernel
theorem d_Fl_speak_81 : decode prog_4_method_23_code 81 = .ok (.iload_n 1, 1) := by decide +kernel
theorem d_Fl_speak_82 : decode prog_4_method_23_code 82 = .ok (.ishl, 1) := by decide +kernel
theorem d_Fl_speak_83 : decode prog_4_method_23_code 83 = .ok (.ior, 1) := by decide +kernel
theorem d_Fl_speak_84 : decode prog_4_method_23_code 84 = .ok (.istore 4, 2) := by decide +kernel
theorem d_Fl_speak_86 : decode prog_4_method_23_code 86 = .ok (.aload_n 0, 1) := by decide +kernel
theorem d_Fl_speak_87 : decode prog_4_method_23_code 87 = .ok (.getfield 18, 3) := by decide +kernel
theorem d_Fl_speak_90 : decode prog_4_method_23_code 90 = .ok (.iload_n 3, 1) := by decide +kernel
theorem d_Fl_speak_91 : decode prog_4_method_23_code 91 = .ok (.aload_n 0, 1) := by decide +kernel
theorem d_Fl_speak_92 : decode prog_4_method_23_code 92 = .ok (.getfield 40, 3) := by decide +kernel
theorem d_Fl_speak_95 : decode prog_4_method_23_code 95 = .ok (.iload_n 1, 1) := by decide +kernel
theorem d_Fl_speak_96 : decode prog_4_method_23_code 96 = .ok (.iaload, 1) := by decide +kernel
theorem d_Fl_speak_97 : decode prog_4_method_23_code 97 = .ok (.aload_n 0, 1) := by decide +kernel
theorem d_Fl_speak_98 : decode prog_4_method_23_code 98 = .ok (.getfield 37, 3) := by decide +kernel
theorem d_Fl_speak_101 : decode prog_4_method_23_code 101 = .ok (.iload_n 1, 1) := by decide +kernel
theorem d_Fl_speak_102 : decode prog_4_method_23_code 102 = .ok (.iaload, 1) := by decide +kernel
theorem d_Fl_speak_103 : decode prog_4_method_23_code 103 = .ok (.iconst 1, 1) := by decide +kernel
theorem d_Fl_speak_104 : decode prog_4_method_23_code 104 = .ok (.iadd, 1) := by decide +kernel
theorem d_Fl_speak_105 : decode prog_4_method_23_code 105 = .ok (.iload 4, 2) := by decide +kernel
theorem d_Fl_speak_107 : decode prog_4_method_23_code 107 = .ok (.invokevirtual 95, 3) := by decide +kernel
theorem d_Fl_speak_110 : decode prog_4_method_23_code 110 = .ok (.goto 25, 3) := by decide +kernel
theorem d_Fl_speak_113 : decode prog_4_method_23_code 113 = .ok (.aload_n 0, 1) := by decide +kernel
theorem d_Fl_speak_114 : decode prog_4_method_23_code 114 = .ok (.getfield 18, 3) := by decide +kernel
theorem d_Fl_speak_117 : decode prog_4_method_23_code 117 = .ok (.iload_n 3, 1) := by decide +kernel
theorem d_Fl_speak_118 : decode prog_4_method_23_code 118 = .ok (.bipush 8, 2) := by decide +kernel
theorem d_Fl_speak_120 : decode prog_4_method_23_code 120 = .ok (.aload_n 0, 1) := by decide +kernel
theorem d_Fl_speak_121 : decode prog_4_method_23_code 121 = .ok (.getfield 61, 3) := by decide +kernel
theorem d_Fl_speak_124 : decode prog_4_method_23_code 124 = .ok (.getfield 199, 3) := by decide +kernel
theorem d_Fl_speak_127 : decode prog_4_method_23_code 127 = .ok (.iload_n 1, 1) := by decide +kernel
theorem d_Fl_speak_128 : decode prog_4_method_23_code 128 = .ok (.iaload, 1) := by decide +kernel
theorem d_Fl_speak_129 : decode prog_4_method_23_code 129 = .ok (.iadd, 1) := by decide +kernel
theorem d_Fl_speak_130 : decode prog_4_method_23_code 130 = .ok (.iconst 0, 1) := by decide +kernel
theorem d_Fl_speak_131 : decode prog_4_method_23_code 131 = .ok (.iconst 0, 1) := by decide +kernel
theorem d_Fl_speak_132 : decode prog_4_method_23_code 132 = .ok (.invokevirtual 95, 3) := by decide +kernel
theorem d_Fl_speak_135 : decode prog_4_method_23_code 135 = .ok (.iinc 2 1, 3) := by decide +kernel
theorem d_Fl_speak_138 : decode prog_4_method_23_code 138 = .ok (.goto (-136), 3) := by decide +kernel
theorem d_Fl_speak_141 : decode prog_4_method_23_code 141 = .ok (.return_, 1) := by decide +kernel
theorem d_CT_findStarved_0 : decode prog_1_method_23_code 0 = .ok (.iconst 0, 1) := by decide +kernel
theorem d_CT_findStarved_1 : decode prog_1_method_23_code 1 = .ok (.istore_n 2, 1) := by decide +kernel
theorem d_CT_findStarved_2 : decode prog_1_method_23_code 2 = .ok (.iload_n 2, 1) := by decide +kernel
theorem d_CT_findStarved_3 : decode prog_1_method_23_code 3 = .ok (.bipush 16, 2) := by decide +kernel
theorem d_CT_findStarved_5 : decode prog_1_method_23_code 5 = .ok (.if_icmp .ge 59, 3) := by decide +kernel
theorem d_CT_findStarved_8 : decode prog_1_method_23_code 8 = .ok (.aload_n 0, 1) := by decide +kernel
theorem d_CT_findStarved_9 : decode prog_1_method_23_code 9 = .ok (.getfield 49, 3) := by decide +kernel
theorem d_CT_findStarved_12 : decode prog_1_method_23_code 12 = .ok (.bipush 100, 2) := by decide +kernel
theorem d_CT_findStarved_14 : decode prog_1_method_23_code 14 = .ok (.if_icmp .ge 50, 3) := by decide +kernel
theorem d_CT_findStarved_17 : decode prog_1_method_23_code 17 = .ok (.aload_n 0, 1) := by decide +kernel
theorem d_CT_findStarved_18 : decode prog_1_method_23_code 18 = .ok (.getfield 25, 3) := by decide +kernel
theorem d_CT_findStarved_21 : decode prog_1_method_23_code 21 = .ok (.iload_n 2, 1) := by decide +kernel
theorem d_CT_findStarved_22 : decode prog_1_method_23_code 22 = .ok (.invokevirtual 225, 3) := by decide +kernel
theorem d_CT_findStarved_25 : decode prog_1_method_23_code 25 = .ok (.ifCond .eq 33, 3) := by decide +kernel
theorem d_CT_findStarved_28 : decode prog_1_method_23_code 28 = .ok (.aload_n 0, 1) := by decide +kernel
theorem d_CT_findStarved_29 : decode prog_1_method_23_code 29 = .ok (.getfield 42, 3) := by decide +kernel
theorem d_CT_findStarved_32 : decode prog_1_method_23_code 32 = .ok (.aload_n 0, 1) := by decide +kernel
theorem d_CT_findStarved_33 : decode prog_1_method_23_code 33 = .ok (.getfield 49, 3) := by decide +kernel
theorem d_CT_findStarved_36 : decode prog_1_method_23_code 36 = .ok (.iload_n 1, 1) := by decide +kernel
theorem d_CT_findStarved_37 : decode prog_1_method_23_code 37 = .ok (.iastore, 1) := by decide +kernel
theorem d_CT_findStarved_38 : decode prog_1_method_23_code 38 = .ok (.aload_n 0, 1) := by decide +kernel
theorem d_CT_findStarved_39 : decode prog_1_method_23_code 39 = .ok (.getfield 46, 3) := by decide +kernel
theorem d_CT_findStarved_42 : decode prog_1_method_23_code 42 = .ok (.aload_n 0, 1) := by decide +kernel
theorem d_CT_findStarved_43 : decode prog_1_method_23_code 43 = .ok (.getfield 49, 3) := by decide +kernel
theorem d_CT_findStarved_46 : decode prog_1_method_23_code 46 = .ok (.iload_n 2, 1) := by decide +kernel
theorem d_CT_findStarved_47 : decode prog_1_method_23_code 47 = .ok (.iastore, 1) := by decide +kernel
theorem d_CT_findStarved_48 : decode prog_1_method_23_code 48 = .ok (.aload_n 0, 1) := by decide +kernel
theorem d_CT_findStarved_49 : decode prog_1_method_23_code 49 = .ok (.dup, 1) := by decide +kernel
theorem d_CT_findStarved_50 : decode prog_1_method_23_code 50 = .ok (.getfield 49, 3) := by decide +kernel
theorem d_CT_findStarved_53 : decode prog_1_method_23_code 53 = .ok (.iconst 1, 1) := by decide +kernel
theorem d_CT_findStarved_54 : decode prog_1_method_23_code 54 = .ok (.iadd, 1) := by decide +kernel
theorem d_CT_findStarved_55 : decode prog_1_method_23_code 55 = .ok (.putfield 49, 3) := by decide +kernel
theorem d_CT_findStarved_58 : decode prog_1_method_23_code 58 = .ok (.iinc 2 1, 3) := by decide +kernel
theorem d_CT_findStarved_61 : decode prog_1_method_23_code 61 = .ok (.goto (-59), 3) := by decide +kernel
theorem d_CT_findStarved_64 : decode prog_1_method_23_code 64 = .ok (.return_, 1) := by decide +kernel
theorem d_Fl_isStarved_0 : decode prog_4_method_28_code 0 = .ok (.aload_n 0, 1) := by decide +kernel
theorem d_Fl_isStarved_1 : decode prog_4_method_28_code 1 = .ok (.iload_n 1, 1) := by decide +kernel
theorem d_Fl_isStarved_2 : decode prog_4_method_28_code 2 = .ok (.invokevirtual 102, 3) := by decide +kernel
theorem d_Fl_isStarved_5 : decode prog_4_method_28_code 5 = .ok (.ifCond .eq 25, 3) := by decide +kernel
theorem d_Fl_isStarved_8 : decode prog_4_method_28_code 8 = .ok (.aload_n 0, 1) := by decide +kernel
theorem d_Fl_isStarved_9 : decode prog_4_method_28_code 9 = .ok (.iload_n 1, 1) := by decide +kernel
theorem d_Fl_isStarved_10 : decode prog_4_method_28_code 10 = .ok (.invokevirtual 196, 3) := by decide +kernel
theorem d_Fl_isStarved_13 : decode prog_4_method_28_code 13 = .ok (.ifCond .ne 17, 3) := by decide +kernel
theorem d_Fl_isStarved_16 : decode prog_4_method_28_code 16 = .ok (.aload_n 0, 1) := by decide +kernel
theorem d_Fl_isStarved_17 : decode prog_4_method_28_code 17 = .ok (.iload_n 1, 1) := by decide +kernel
theorem d_Fl_isStarved_18 : decode prog_4_method_28_code 18 = .ok (.invokevirtual 212, 3) := by decide +kernel
theorem d_Fl_isStarved_21 : decode prog_4_method_28_code 21 = .ok (.bipush 7, 2) := by decide +kernel
theorem d_Fl_isStarved_23 : decode prog_4_method_28_code 23 = .ok (.if_icmp .ge 7, 3) := by decide +kernel
theorem d_Fl_isStarved_26 : decode prog_4_method_28_code 26 = .ok (.iconst 1, 1) := by decide +kernel
theorem d_Fl_isStarved_27 : decode prog_4_method_28_code 27 = .ok (.goto 4, 3) := by decide +kernel
theorem d_Fl_isStarved_30 : decode prog_4_method_28_code 30 = .ok (.iconst 0, 1) := by decide +kernel
theorem d_Fl_isStarved_31 : decode prog_4_method_28_code 31 = .ok (.ireturn, 1) := by decide +kernel
theorem d_Fl_bestReached_0 : decode prog_4_method_25_code 0 = .ok (.aload_n 0, 1) := by decide +kernel
theorem d_Fl_bestReached_1 : decode prog_4_method_25_code 1 = .ok (.iload_n 1, 1) := by decide +kernel
theorem d_Fl_bestReached_2 : decode prog_4_method_25_code 2 = .ok (.invokevirtual 102, 3) := by decide +kernel
theorem d_Fl_bestReached_5 : decode prog_4_method_25_code 5 = .ok (.ifCond .ne 6, 3) := by decide +kernel
theorem d_Fl_bestReached_8 : decode prog_4_method_25_code 8 = .ok (.bipush 7, 2) := by decide +kernel
theorem d_Fl_bestReached_10 : decode prog_4_method_25_code 10 = .ok (.ireturn, 1) := by decide +kernel
theorem d_Fl_bestReached_11 : decode prog_4_method_25_code 11 = .ok (.aload_n 0, 1) := by decide +kernel
theorem d_Fl_bestReached_12 : decode prog_4_method_25_code 12 = .ok (.iload_n 1, 1) := by decide +kernel
theorem d_Fl_bestReached_13 : decode prog_4_method_25_code 13 = .ok (.invokevirtual 200, 3) := by decide +kernel
theorem d_Fl_bestReached_16 : decode prog_4_method_25_code 16 = .ok (.istore_n 2, 1) := by decide +kernel
theorem d_Fl_bestReached_17 : decode prog_4_method_25_code 17 = .ok (.bipush 7, 2) := by decide +kernel
theorem d_Fl_bestReached_19 : decode prog_4_method_25_code 19 = .ok (.istore_n 3, 1) := by decide +kernel
theorem d_Fl_bestReached_20 : decode prog_4_method_25_code 20 = .ok (.iconst 0, 1) := by decide +kernel
theorem d_Fl_bestReached_21 : decode prog_4_method_25_code 21 = .ok (.istore 4, 2) := by decide +kernel
theorem d_Fl_bestReached_23 : decode prog_4_method_25_code 23 = .ok (.iload 4, 2) := by decide +kernel
theorem d_Fl_bestReached_25 : decode prog_4_method_25_code 25 = .ok (.bipush 64, 2) := by decide +kernel
theorem d_Fl_bestReached_27 : decode prog_4_method_25_code 27 = .ok (.if_icmp .ge 49, 3) := by decide +kernel
theorem d_Fl_bestReached_30 : decode prog_4_method_25_code 30 = .ok (.iload_n 2, 1) := by decide +kernel
theorem d_Fl_bestReached_31 : decode prog_4_method_25_code 31 = .ok (.iload 4, 2) := by decide +kernel
theorem d_Fl_bestReached_33 : decode prog_4_method_25_code 33 = .ok (.invokestatic 152, 3) := by decide +kernel
theorem d_Fl_bestReached_36 : decode prog_4_method_25_code 36 = .ok (.ishr, 1) := by decide +kernel
theorem d_Fl_bestReached_37 : decode prog_4_method_25_code 37 = .ok (.iconst 1, 1) := by decide +kernel
theorem d_Fl_bestReached_38 : decode prog_4_method_25_code 38 = .ok (.iand, 1) := by decide +kernel
theorem d_Fl_bestReached_39 : decode prog_4_method_25_code 39 = .ok (.iconst 1, 1) := by decide +kernel
theorem d_Fl_bestReached_40 : decode prog_4_method_25_code 40 = .ok (.if_icmp .ne 30, 3) := by decide +kernel
theorem d_Fl_bestReached_43 : decode prog_4_method_25_code 43 = .ok (.aload_n 0, 1) := by decide +kernel
theorem d_Fl_bestReached_44 : decode prog_4_method_25_code 44 = .ok (.getfield 61, 3) := by decide +kernel
theorem d_Fl_bestReached_47 : decode prog_4_method_25_code 47 = .ok (.iload 4, 2) := by decide +kernel
theorem d_Fl_bestReached_49 : decode prog_4_method_25_code 49 = .ok (.invokevirtual 156, 3) := by decide +kernel
theorem d_Fl_bestReached_52 : decode prog_4_method_25_code 52 = .ok (.ifCond .eq 18, 3) := by decide +kernel
theorem d_Fl_bestReached_55 : decode prog_4_method_25_code 55 = .ok (.iload_n 3, 1) := by decide +kernel
theorem d_Fl_bestReached_56 : decode prog_4_method_25_code 56 = .ok (.aload_n 0, 1) := by decide +kernel
theorem d_Fl_bestReached_57 : decode prog_4_method_25_code 57 = .ok (.getfield 61, 3) := by decide +kernel
theorem d_Fl_bestReached_60 : decode prog_4_method_25_code 60 = .ok (.getfield 159, 3) := by decide +kernel
theorem d_Fl_bestReached_63 : decode prog_4_method_25_code 63 = .ok (.iload 4, 2) := by decide +kernel
theorem d_Fl_bestReached_65 : decode prog_4_method_25_code 65 = .ok (.iaload, 1) := by decide +kernel
theorem d_Fl_bestReached_66 : decode prog_4_method_25_code 66 = .ok (.invokestatic 131, 3) := by decide +kernel
theorem d_Fl_bestReached_69 : decode prog_4_method_25_code 69 = .ok (.istore_n 3, 1) := by decide +kernel
theorem d_Fl_bestReached_70 : decode prog_4_method_25_code 70 = .ok (.iinc 4 1, 3) := by decide +kernel
theorem d_Fl_bestReached_73 : decode prog_4_method_25_code 73 = .ok (.goto (-50), 3) := by decide +kernel
theorem d_Fl_bestReached_76 : decode prog_4_method_25_code 76 = .ok (.iload_n 3, 1) := by decide +kernel
theorem d_Fl_bestReached_77 : decode prog_4_method_25_code 77 = .ok (.ireturn, 1) := by decide +kernel
theorem d_Fl_reachedFrom_0 : decode prog_4_method_26_code 0 = .ok (.iconst 1, 1) := by decide +kernel
theorem d_Fl_reachedFrom_1 : decode prog_4_method_26_code 1 = .ok (.iload_n 1, 1) := by decide +kernel
theorem d_Fl_reachedFrom_2 : decode prog_4_method_26_code 2 = .ok (.ishl, 1) := by decide +kernel
theorem d_Fl_reachedFrom_3 : decode prog_4_method_26_code 3 = .ok (.istore_n 2, 1) := by decide +kernel
theorem d_Fl_reachedFrom_4 : decode prog_4_method_26_code 4 = .ok (.iconst 0, 1) := by decide +kernel
theorem d_Fl_reachedFrom_5 : decode prog_4_method_26_code 5 = .ok (.istore_n 3, 1) := by decide +kernel
theorem d_Fl_reachedFrom_6 : decode prog_4_method_26_code 6 = .ok (.iload_n 3, 1) := by decide +kernel
theorem d_Fl_reachedFrom_7 : decode prog_4_method_26_code 7 = .ok (.bipush 16, 2) := by decide +kernel
theorem d_Fl_reachedFrom_9 : decode prog_4_method_26_code 9 = .ok (.if_icmp .ge 57, 3) := by decide +kernel
theorem d_Fl_reachedFrom_12 : decode prog_4_method_26_code 12 = .ok (.iload_n 2, 1) := by decide +kernel
theorem d_Fl_reachedFrom_13 : decode prog_4_method_26_code 13 = .ok (.istore 4, 2) := by decide +kernel
theorem d_Fl_reachedFrom_15 : decode prog_4_method_26_code 15 = .ok (.iconst 0, 1) := by decide +kernel
theorem d_Fl_reachedFrom_16 : decode prog_4_method_26_code 16 = .ok (.istore 5, 2) := by decide +kernel
theorem d_Fl_reachedFrom_18 : decode prog_4_method_26_code 18 = .ok (.iload 5, 2) := by decide +kernel
theorem d_Fl_reachedFrom_20 : decode prog_4_method_26_code 20 = .ok (.aload_n 0, 1) := by decide +kernel
theorem d_Fl_reachedFrom_21 : decode prog_4_method_26_code 21 = .ok (.getfield 61, 3) := by decide +kernel
theorem d_Fl_reachedFrom_24 : decode prog_4_method_26_code 24 = .ok (.getfield 203, 3) := by decide +kernel
theorem d_Fl_reachedFrom_27 : decode prog_4_method_26_code 27 = .ok (.if_icmp .ge 21, 3) := by decide +kernel
theorem d_Fl_reachedFrom_30 : decode prog_4_method_26_code 30 = .ok (.iload 4, 2) := by decide +kernel
theorem d_Fl_reachedFrom_32 : decode prog_4_method_26_code 32 = .ok (.aload_n 0, 1) := by decide +kernel
theorem d_Fl_reachedFrom_33 : decode prog_4_method_26_code 33 = .ok (.iload 5, 2) := by decide +kernel
theorem d_Fl_reachedFrom_35 : decode prog_4_method_26_code 35 = .ok (.iload_n 2, 1) := by decide +kernel
theorem d_Fl_reachedFrom_36 : decode prog_4_method_26_code 36 = .ok (.invokevirtual 206, 3) := by decide +kernel
theorem d_Fl_reachedFrom_39 : decode prog_4_method_26_code 39 = .ok (.ior, 1) := by decide +kernel
theorem d_Fl_reachedFrom_40 : decode prog_4_method_26_code 40 = .ok (.istore 4, 2) := by decide +kernel
theorem d_Fl_reachedFrom_42 : decode prog_4_method_26_code 42 = .ok (.iinc 5 1, 3) := by decide +kernel
theorem d_Fl_reachedFrom_45 : decode prog_4_method_26_code 45 = .ok (.goto (-27), 3) := by decide +kernel
theorem d_Fl_reachedFrom_48 : decode prog_4_method_26_code 48 = .ok (.iload 4, 2) := by decide +kernel
theorem d_Fl_reachedFrom_50 : decode prog_4_method_26_code 50 = .ok (.iload_n 2, 1) := by decide +kernel
theorem d_Fl_reachedFrom_51 : decode prog_4_method_26_code 51 = .ok (.if_icmp .ne 6, 3) := by decide +kernel
theorem d_Fl_reachedFrom_54 : decode prog_4_method_26_code 54 = .ok (.goto 12, 3) := by decide +kernel
theorem d_Fl_reachedFrom_57 : decode prog_4_method_26_code 57 = .ok (.iload 4, 2) := by decide +kernel
theorem d_Fl_reachedFrom_59 : decode prog_4_method_26_code 59 = .ok (.istore_n 2, 1) := by decide +kernel
theorem d_Fl_reachedFrom_60 : decode prog_4_method_26_code 60 = .ok (.iinc 3 1, 3) := by decide +kernel
theorem d_Fl_reachedFrom_63 : decode prog_4_method_26_code 63 = .ok (.goto (-57), 3) := by decide +kernel
theorem d_Fl_reachedFrom_66 : decode prog_4_method_26_code 66 = .ok (.iload_n 2, 1) := by decide +kernel
theorem d_Fl_reachedFrom_67 : decode prog_4_method_26_code 67 = .ok (.ireturn, 1) := by decide +kernel
theorem d_Fl_across_0 : decode prog_4_method_27_code 0 = .ok (.aload_n 0, 1) := by decide +kernel
theorem d_Fl_across_1 : decode prog_4_method_27_code 1 = .ok (.getfield 61, 3) := by decide +kernel
theorem d_Fl_across_4 : decode prog_4_method_27_code 4 = .ok (.getfield 209, 3) := by decide +kernel
theorem d_Fl_across_7 : decode prog_4_method_27_code 7 = .ok (.iload_n 1, 1) := by decide +kernel
theorem d_Fl_across_8 : decode prog_4_method_27_code 8 = .ok (.iaload, 1) := by decide +kernel
theorem d_Fl_across_9 : decode prog_4_method_27_code 9 = .ok (.invokestatic 152, 3) := by decide +kernel
theorem d_Fl_across_12 : decode prog_4_method_27_code 12 = .ok (.istore_n 3, 1) := by decide +kernel
theorem d_Fl_across_13 : decode prog_4_method_27_code 13 = .ok (.aload_n 0, 1) := by decide +kernel
theorem d_Fl_across_14 : decode prog_4_method_27_code 14 = .ok (.getfield 61, 3) := by decide +kernel
theorem d_Fl_across_17 : decode prog_4_method_27_code 17 = .ok (.getfield 128, 3) := by decide +kernel
theorem d_Fl_across_20 : decode prog_4_method_27_code 20 = .ok (.aload_n 0, 1) := by decide +kernel
theorem d_Fl_across_21 : decode prog_4_method_27_code 21 = .ok (.getfield 61, 3) := by decide +kernel
theorem d_Fl_across_24 : decode prog_4_method_27_code 24 = .ok (.getfield 209, 3) := by decide +kernel
theorem d_Fl_across_27 : decode prog_4_method_27_code 27 = .ok (.iload_n 1, 1) := by decide +kernel
theorem d_Fl_across_28 : decode prog_4_method_27_code 28 = .ok (.iaload, 1) := by decide +kernel
theorem d_Fl_across_29 : decode prog_4_method_27_code 29 = .ok (.iaload, 1) := by decide +kernel
theorem d_Fl_across_30 : decode prog_4_method_27_code 30 = .ok (.invokestatic 152, 3) := by decide +kernel
theorem d_Fl_across_33 : decode prog_4_method_27_code 33 = .ok (.istore 4, 2) := by decide +kernel
theorem d_Fl_across_35 : decode prog_4_method_27_code 35 = .ok (.aload_n 0, 1) := by decide +kernel
theorem d_Fl_across_36 : decode prog_4_method_27_code 36 = .ok (.iload_n 1, 1) := by decide +kernel
theorem d_Fl_across_37 : decode prog_4_method_27_code 37 = .ok (.invokevirtual 149, 3) := by decide +kernel
theorem d_Fl_across_40 : decode prog_4_method_27_code 40 = .ok (.ifCond .eq 24, 3) := by decide +kernel
theorem d_Fl_across_43 : decode prog_4_method_27_code 43 = .ok (.aload_n 0, 1) := by decide +kernel
theorem d_Fl_across_44 : decode prog_4_method_27_code 44 = .ok (.iload_n 3, 1) := by decide +kernel
theorem d_Fl_across_45 : decode prog_4_method_27_code 45 = .ok (.invokevirtual 102, 3) := by decide +kernel
theorem d_Fl_across_48 : decode prog_4_method_27_code 48 = .ok (.ifCond .eq 16, 3) := by decide +kernel
theorem d_Fl_across_51 : decode prog_4_method_27_code 51 = .ok (.aload_n 0, 1) := by decide +kernel
theorem d_Fl_across_52 : decode prog_4_method_27_code 52 = .ok (.iload 4, 2) := by decide +kernel
theorem d_Fl_across_54 : decode prog_4_method_27_code 54 = .ok (.invokevirtual 102, 3) := by decide +kernel
theorem d_Fl_across_57 : decode prog_4_method_27_code 57 = .ok (.ifCond .eq 7, 3) := by decide +kernel
theorem d_Fl_across_60 : decode prog_4_method_27_code 60 = .ok (.iconst 1, 1) := by decide +kernel
theorem d_Fl_across_61 : decode prog_4_method_27_code 61 = .ok (.goto 4, 3) := by decide +kernel
theorem d_Fl_across_64 : decode prog_4_method_27_code 64 = .ok (.iconst 0, 1) := by decide +kernel
theorem d_Fl_across_65 : decode prog_4_method_27_code 65 = .ok (.istore 5, 2) := by decide +kernel
theorem d_Fl_across_67 : decode prog_4_method_27_code 67 = .ok (.iconst 1, 1) := by decide +kernel
theorem d_Fl_across_68 : decode prog_4_method_27_code 68 = .ok (.iload_n 3, 1) := by decide +kernel
theorem d_Fl_across_69 : decode prog_4_method_27_code 69 = .ok (.ishl, 1) := by decide +kernel
theorem d_Fl_across_70 : decode prog_4_method_27_code 70 = .ok (.iconst 1, 1) := by decide +kernel
theorem d_Fl_across_71 : decode prog_4_method_27_code 71 = .ok (.iload 4, 2) := by decide +kernel
theorem d_Fl_across_73 : decode prog_4_method_27_code 73 = .ok (.ishl, 1) := by decide +kernel
theorem d_Fl_across_74 : decode prog_4_method_27_code 74 = .ok (.ior, 1) := by decide +kernel
theorem d_Fl_across_75 : decode prog_4_method_27_code 75 = .ok (.istore 6, 2) := by decide +kernel
theorem d_Fl_across_77 : decode prog_4_method_27_code 77 = .ok (.iload 5, 2) := by decide +kernel
theorem d_Fl_across_79 : decode prog_4_method_27_code 79 = .ok (.ifCond .eq 15, 3) := by decide +kernel
theorem d_Fl_across_82 : decode prog_4_method_27_code 82 = .ok (.iload_n 2, 1) := by decide +kernel
theorem d_Fl_across_83 : decode prog_4_method_27_code 83 = .ok (.iload 6, 2) := by decide +kernel
theorem d_Fl_across_85 : decode prog_4_method_27_code 85 = .ok (.iand, 1) := by decide +kernel
theorem d_Fl_across_86 : decode prog_4_method_27_code 86 = .ok (.ifCond .eq 8, 3) := by decide +kernel
theorem d_Fl_across_89 : decode prog_4_method_27_code 89 = .ok (.iload 6, 2) := by decide +kernel
theorem d_Fl_across_91 : decode prog_4_method_27_code 91 = .ok (.goto 4, 3) := by decide +kernel
theorem d_Fl_across_94 : decode prog_4_method_27_code 94 = .ok (.iconst 0, 1) := by decide +kernel
theorem d_Fl_across_95 : decode prog_4_method_27_code 95 = .ok (.ireturn, 1) := by decide +kernel
theorem d_Fl_setElementFailed_0 : decode prog_4_method_8_code 0 = .ok (.iload_n 2, 1) := by decide +kernel
theorem d_Fl_setElementFailed_1 : decode prog_4_method_8_code 1 = .ok (.ifCond .eq 23, 3) := by decide +kernel
theorem d_Fl_setElementFailed_4 : decode prog_4_method_8_code 4 = .ok (.aload_n 0, 1) := by decide +kernel
theorem d_Fl_setElementFailed_5 : decode prog_4_method_8_code 5 = .ok (.dup, 1) := by decide +kernel
theorem d_Fl_setElementFailed_6 : decode prog_4_method_8_code 6 = .ok (.getfield 47, 3) := by decide +kernel
theorem d_Fl_setElementFailed_9 : decode prog_4_method_8_code 9 = .ok (.iconst 1, 1) := by decide +kernel
theorem d_Fl_setElementFailed_10 : decode prog_4_method_8_code 10 = .ok (.iload_n 1, 1) := by decide +kernel
theorem d_Fl_setElementFailed_11 : decode prog_4_method_8_code 11 = .ok (.ishl, 1) := by decide +kernel
theorem d_Fl_setElementFailed_12 : decode prog_4_method_8_code 12 = .ok (.ior, 1) := by decide +kernel
theorem d_Fl_setElementFailed_13 : decode prog_4_method_8_code 13 = .ok (.putfield 47, 3) := by decide +kernel
theorem d_Fl_setElementFailed_16 : decode prog_4_method_8_code 16 = .ok (.aload_n 0, 1) := by decide +kernel
theorem d_Fl_setElementFailed_17 : decode prog_4_method_8_code 17 = .ok (.iload_n 1, 1) := by decide +kernel
theorem d_Fl_setElementFailed_18 : decode prog_4_method_8_code 18 = .ok (.invokevirtual 87, 3) := by decide +kernel
theorem d_Fl_setElementFailed_21 : decode prog_4_method_8_code 21 = .ok (.goto 17, 3) := by decide +kernel
theorem d_Fl_setElementFailed_24 : decode prog_4_method_8_code 24 = .ok (.aload_n 0, 1) := by decide +kernel
theorem d_Fl_setElementFailed_25 : decode prog_4_method_8_code 25 = .ok (.dup, 1) := by decide +kernel
theorem d_Fl_setElementFailed_26 : decode prog_4_method_8_code 26 = .ok (.getfield 47, 3) := by decide +kernel
theorem d_Fl_setElementFailed_29 : decode prog_4_method_8_code 29 = .ok (.iconst 1, 1) := by decide +kernel
theorem d_Fl_setElementFailed_30 : decode prog_4_method_8_code 30 = .ok (.iload_n 1, 1) := by decide +kernel
theorem d_Fl_setElementFailed_31 : decode prog_4_method_8_code 31 = .ok (.ishl, 1) := by decide +kernel
theorem d_Fl_setElementFailed_32 : decode prog_4_method_8_code 32 = .ok (.iconst (-1), 1) := by decide +kernel
theorem d_Fl_setElementFailed_33 : decode prog_4_method_8_code 33 = .ok (.ixor, 1) := by decide +kernel
theorem d_Fl_setElementFailed_34 : decode prog_4_method_8_code 34 = .ok (.iand, 1) := by decide +kernel
theorem d_Fl_setElementFailed_35 : decode prog_4_method_8_code 35 = .ok (.putfield 47, 3) := by decide +kernel
theorem d_Fl_setElementFailed_38 : decode prog_4_method_8_code 38 = .ok (.return_, 1) := by decide +kernel
theorem d_Fl_forget_0 : decode prog_4_method_10_code 0 = .ok (.aload_n 0, 1) := by decide +kernel
theorem d_Fl_forget_1 : decode prog_4_method_10_code 1 = .ok (.getfield 31, 3) := by decide +kernel
theorem d_Fl_forget_4 : decode prog_4_method_10_code 4 = .ok (.iload_n 1, 1) := by decide +kernel
theorem d_Fl_forget_5 : decode prog_4_method_10_code 5 = .ok (.iconst 0, 1) := by decide +kernel
theorem d_Fl_forget_6 : decode prog_4_method_10_code 6 = .ok (.iastore, 1) := by decide +kernel
theorem d_Fl_forget_7 : decode prog_4_method_10_code 7 = .ok (.aload_n 0, 1) := by decide +kernel
theorem d_Fl_forget_8 : decode prog_4_method_10_code 8 = .ok (.getfield 34, 3) := by decide +kernel
theorem d_Fl_forget_11 : decode prog_4_method_10_code 11 = .ok (.iload_n 1, 1) := by decide +kernel
theorem d_Fl_forget_12 : decode prog_4_method_10_code 12 = .ok (.iconst (-1), 1) := by decide +kernel
theorem d_Fl_forget_13 : decode prog_4_method_10_code 13 = .ok (.iastore, 1) := by decide +kernel
theorem d_Fl_forget_14 : decode prog_4_method_10_code 14 = .ok (.aload_n 0, 1) := by decide +kernel
theorem d_Fl_forget_15 : decode prog_4_method_10_code 15 = .ok (.getfield 37, 3) := by decide +kernel
theorem d_Fl_forget_18 : decode prog_4_method_10_code 18 = .ok (.iload_n 1, 1) := by decide +kernel
theorem d_Fl_forget_19 : decode prog_4_method_10_code 19 = .ok (.iconst (-1), 1) := by decide +kernel
theorem d_Fl_forget_20 : decode prog_4_method_10_code 20 = .ok (.iastore, 1) := by decide +kernel
theorem d_Fl_forget_21 : decode prog_4_method_10_code 21 = .ok (.aload_n 0, 1) := by decide +kernel
theorem d_Fl_forget_22 : decode prog_4_method_10_code 22 = .ok (.getfield 40, 3) := by decide +kernel
theorem d_Fl_forget_25 : decode prog_4_method_10_code 25 = .ok (.iload_n 1, 1) := by decide +kernel
theorem d_Fl_forget_26 : decode prog_4_method_10_code 26 = .ok (.iconst (-1), 1) := by decide +kernel
theorem d_Fl_forget_27 : decode prog_4_method_10_code 27 = .ok (.iastore, 1) := by decide +kernel
theorem d_Fl_forget_28 : decode prog_4_method_10_code 28 = .ok (.aload_n 0, 1) := by decide +kernel
theorem d_Fl_forget_29 : decode prog_4_method_10_code 29 = .ok (.dup, 1) := by decide +kernel
theorem d_Fl_forget_30 : decode prog_4_method_10_code 30 = .ok (.getfield 43, 3) := by decide +kernel
theorem d_Fl_forget_33 : decode prog_4_method_10_code 33 = .ok (.iconst 1, 1) := by decide +kernel
theorem d_Fl_forget_34 : decode prog_4_method_10_code 34 = .ok (.iload_n 1, 1) := by decide +kernel
theorem d_Fl_forget_35 : decode prog_4_method_10_code 35 = .ok (.ishl, 1) := by decide +kernel
theorem d_Fl_forget_36 : decode prog_4_method_10_code 36 = .ok (.iconst (-1), 1) := by decide +kernel
theorem d_Fl_forget_37 : decode prog_4_method_10_code 37 = .ok (.ixor, 1) := by decide +kernel
theorem d_Fl_forget_38 : decode prog_4_method_10_code 38 = .ok (.iand, 1) := by decide +kernel
theorem d_Fl_forget_39 : decode prog_4_method_10_code 39 = .ok (.putfield 43, 3) := by decide +kernel
theorem d_Fl_forget_42 : decode prog_4_method_10_code 42 = .ok (.iconst 0, 1) := by decide +kernel
theorem d_Fl_forget_43 : decode prog_4_method_10_code 43 = .ok (.istore_n 2, 1) := by decide +kernel
theorem d_Fl_forget_44 : decode prog_4_method_10_code 44 = .ok (.iload_n 2, 1) := by decide +kernel
theorem d_Fl_forget_45 : decode prog_4_method_10_code 45 = .ok (.iconst 4, 1) := by decide +kernel
theorem d_Fl_forget_46 : decode prog_4_method_10_code 46 = .ok (.if_icmp .ge 40, 3) := by decide +kernel
theorem d_Fl_forget_49 : decode prog_4_method_10_code 49 = .ok (.iload_n 1, 1) := by decide +kernel
theorem d_Fl_forget_50 : decode prog_4_method_10_code 50 = .ok (.iload_n 2, 1) := by decide +kernel
theorem d_Fl_forget_51 : decode prog_4_method_10_code 51 = .ok (.invokestatic 91, 3) := by decide +kernel
theorem d_Fl_forget_54 : decode prog_4_method_10_code 54 = .ok (.istore_n 3, 1) := by decide +kernel
theorem d_Fl_forget_55 : decode prog_4_method_10_code 55 = .ok (.aload_n 0, 1) := by decide +kernel
theorem d_Fl_forget_56 : decode prog_4_method_10_code 56 = .ok (.getfield 18, 3) := by decide +kernel
theorem d_Fl_forget_59 : decode prog_4_method_10_code 59 = .ok (.iload_n 3, 1) := by decide +kernel
theorem d_Fl_forget_60 : decode prog_4_method_10_code 60 = .ok (.iconst (-1), 1) := by decide +kernel
theorem d_Fl_forget_61 : decode prog_4_method_10_code 61 = .ok (.iconst 0, 1) := by decide +kernel
theorem d_Fl_forget_62 : decode prog_4_method_10_code 62 = .ok (.iconst 0, 1) := by decide +kernel
theorem d_Fl_forget_63 : decode prog_4_method_10_code 63 = .ok (.invokevirtual 95, 3) := by decide +kernel
theorem d_Fl_forget_66 : decode prog_4_method_10_code 66 = .ok (.aload_n 0, 1) := by decide +kernel
theorem d_Fl_forget_67 : decode prog_4_method_10_code 67 = .ok (.getfield 24, 3) := by decide +kernel
theorem d_Fl_forget_70 : decode prog_4_method_10_code 70 = .ok (.iload_n 3, 1) := by decide +kernel
theorem d_Fl_forget_71 : decode prog_4_method_10_code 71 = .ok (.iconst 3, 1) := by decide +kernel
theorem d_Fl_forget_72 : decode prog_4_method_10_code 72 = .ok (.iastore, 1) := by decide +kernel
theorem d_Fl_forget_73 : decode prog_4_method_10_code 73 = .ok (.aload_n 0, 1) := by decide +kernel
theorem d_Fl_forget_74 : decode prog_4_method_10_code 74 = .ok (.getfield 28, 3) := by decide +kernel
theorem d_Fl_forget_77 : decode prog_4_method_10_code 77 = .ok (.iload_n 3, 1) := by decide +kernel
theorem d_Fl_forget_78 : decode prog_4_method_10_code 78 = .ok (.iconst 0, 1) := by decide +kernel
theorem d_Fl_forget_79 : decode prog_4_method_10_code 79 = .ok (.iastore, 1) := by decide +kernel
theorem d_Fl_forget_80 : decode prog_4_method_10_code 80 = .ok (.iinc 2 1, 3) := by decide +kernel
theorem d_Fl_forget_83 : decode prog_4_method_10_code 83 = .ok (.goto (-39), 3) := by decide +kernel
theorem d_Fl_forget_86 : decode prog_4_method_10_code 86 = .ok (.return_, 1) := by decide +kernel
theorem d_CT_element_0 : decode prog_1_method_2_code 0 = .ok (.iload_n 1, 1) := by decide +kernel
theorem d_CT_element_1 : decode prog_1_method_2_code 1 = .ok (.iconst 0, 1) := by decide +kernel
theorem d_CT_element_2 : decode prog_1_method_2_code 2 = .ok (.bipush 15, 2) := by decide +kernel
theorem d_CT_element_4 : decode prog_1_method_2_code 4 = .ok (.invokestatic 53, 3) := by decide +kernel
theorem d_CT_element_7 : decode prog_1_method_2_code 7 = .ok (.ifCond .eq 17, 3) := by decide +kernel
theorem d_CT_element_10 : decode prog_1_method_2_code 10 = .ok (.iload_n 2, 1) := by decide +kernel
theorem d_CT_element_11 : decode prog_1_method_2_code 11 = .ok (.iconst 0, 1) := by decide +kernel
theorem d_CT_element_12 : decode prog_1_method_2_code 12 = .ok (.bipush 6, 2) := by decide +kernel
theorem d_CT_element_14 : decode prog_1_method_2_code 14 = .ok (.invokestatic 53, 3) := by decide +kernel
theorem d_CT_element_17 : decode prog_1_method_2_code 17 = .ok (.ifCond .eq 7, 3) := by decide +kernel
theorem d_CT_element_20 : decode prog_1_method_2_code 20 = .ok (.iconst 1, 1) := by decide +kernel
theorem d_CT_element_21 : decode prog_1_method_2_code 21 = .ok (.goto 4, 3) := by decide +kernel
theorem d_CT_element_24 : decode prog_1_method_2_code 24 = .ok (.iconst 0, 1) := by decide +kernel
theorem d_CT_element_25 : decode prog_1_method_2_code 25 = .ok (.invokestatic 57, 3) := by decide +kernel
theorem d_CT_element_28 : decode prog_1_method_2_code 28 = .ok (.iload_n 3, 1) := by decide +kernel
theorem d_CT_element_29 : decode prog_1_method_2_code 29 = .ok (.sipush (-1000), 3) := by decide +kernel
theorem d_CT_element_32 : decode prog_1_method_2_code 32 = .ok (.sipush 1000, 3) := by decide +kernel
theorem d_CT_element_35 : decode prog_1_method_2_code 35 = .ok (.invokestatic 53, 3) := by decide +kernel
theorem d_CT_element_38 : decode prog_1_method_2_code 38 = .ok (.invokestatic 57, 3) := by decide +kernel
theorem d_CT_element_41 : decode prog_1_method_2_code 41 = .ok (.iload 4, 2) := by decide +kernel
theorem d_CT_element_43 : decode prog_1_method_2_code 43 = .ok (.bipush (-9), 2) := by decide +kernel
theorem d_CT_element_45 : decode prog_1_method_2_code 45 = .ok (.bipush 9, 2) := by decide +kernel
theorem d_CT_element_47 : decode prog_1_method_2_code 47 = .ok (.invokestatic 53, 3) := by decide +kernel
theorem d_CT_element_50 : decode prog_1_method_2_code 50 = .ok (.invokestatic 57, 3) := by decide +kernel
theorem d_CT_element_53 : decode prog_1_method_2_code 53 = .ok (.aload_n 0, 1) := by decide +kernel
theorem d_CT_element_54 : decode prog_1_method_2_code 54 = .ok (.getfield 12, 3) := by decide +kernel
theorem d_CT_element_57 : decode prog_1_method_2_code 57 = .ok (.getfield 61, 3) := by decide +kernel
theorem d_CT_element_60 : decode prog_1_method_2_code 60 = .ok (.iload_n 1, 1) := by decide +kernel
theorem d_CT_element_61 : decode prog_1_method_2_code 61 = .ok (.baload, 1) := by decide +kernel
theorem d_CT_element_62 : decode prog_1_method_2_code 62 = .ok (.ifCond .eq 13, 3) := by decide +kernel
theorem d_CT_element_65 : decode prog_1_method_2_code 65 = .ok (.new 65, 3) := by decide +kernel
theorem d_CT_element_68 : decode prog_1_method_2_code 68 = .ok (.dup, 1) := by decide +kernel
theorem d_CT_element_69 : decode prog_1_method_2_code 69 = .ok (.ldc 67, 2) := by decide +kernel
theorem d_CT_element_71 : decode prog_1_method_2_code 71 = .ok (.invokespecial 69, 3) := by decide +kernel
theorem d_CT_element_74 : decode prog_1_method_2_code 74 = .ok (.athrow, 1) := by decide +kernel
theorem d_CT_element_75 : decode prog_1_method_2_code 75 = .ok (.aload_n 0, 1) := by decide +kernel
theorem d_CT_element_76 : decode prog_1_method_2_code 76 = .ok (.getfield 12, 3) := by decide +kernel
theorem d_CT_element_79 : decode prog_1_method_2_code 79 = .ok (.getfield 61, 3) := by decide +kernel
theorem d_CT_element_82 : decode prog_1_method_2_code 82 = .ok (.iload_n 1, 1) := by decide +kernel
theorem d_CT_element_83 : decode prog_1_method_2_code 83 = .ok (.iconst 1, 1) := by decide +kernel
theorem d_CT_element_84 : decode prog_1_method_2_code 84 = .ok (.bastore, 1) := by decide +kernel
theorem d_CT_element_85 : decode prog_1_method_2_code 85 = .ok (.aload_n 0, 1) := by decide +kernel
theorem d_CT_element_86 : decode prog_1_method_2_code 86 = .ok (.getfield 12, 3) := by decide +kernel
theorem d_CT_element_89 : decode prog_1_method_2_code 89 = .ok (.getfield 72, 3) := by decide +kernel
theorem d_CT_element_92 : decode prog_1_method_2_code 92 = .ok (.iload_n 1, 1) := by decide +kernel
theorem d_CT_element_93 : decode prog_1_method_2_code 93 = .ok (.iload_n 2, 1) := by decide +kernel
theorem d_CT_element_94 : decode prog_1_method_2_code 94 = .ok (.iastore, 1) := by decide +kernel
theorem d_CT_element_95 : decode prog_1_method_2_code 95 = .ok (.aload_n 0, 1) := by decide +kernel
theorem d_CT_element_96 : decode prog_1_method_2_code 96 = .ok (.getfield 12, 3) := by decide +kernel
theorem d_CT_element_99 : decode prog_1_method_2_code 99 = .ok (.getfield 75, 3) := by decide +kernel
theorem d_CT_element_102 : decode prog_1_method_2_code 102 = .ok (.iload_n 1, 1) := by decide +kernel
theorem d_CT_element_103 : decode prog_1_method_2_code 103 = .ok (.iload_n 3, 1) := by decide +kernel
theorem d_CT_element_104 : decode prog_1_method_2_code 104 = .ok (.iastore, 1) := by decide +kernel
theorem d_CT_element_105 : decode prog_1_method_2_code 105 = .ok (.aload_n 0, 1) := by decide +kernel
theorem d_CT_element_106 : decode prog_1_method_2_code 106 = .ok (.getfield 12, 3) := by decide +kernel
theorem d_CT_element_109 : decode prog_1_method_2_code 109 = .ok (.getfield 78, 3) := by decide +kernel
theorem d_CT_element_112 : decode prog_1_method_2_code 112 = .ok (.iload_n 1, 1) := by decide +kernel
theorem d_CT_element_113 : decode prog_1_method_2_code 113 = .ok (.iload 4, 2) := by decide +kernel
theorem d_CT_element_115 : decode prog_1_method_2_code 115 = .ok (.iastore, 1) := by decide +kernel
theorem d_CT_element_116 : decode prog_1_method_2_code 116 = .ok (.aload_n 0, 1) := by decide +kernel
theorem d_CT_element_117 : decode prog_1_method_2_code 117 = .ok (.getfield 31, 3) := by decide +kernel
theorem d_CT_element_120 : decode prog_1_method_2_code 120 = .ok (.iload_n 1, 1) := by decide +kernel
theorem d_CT_element_121 : decode prog_1_method_2_code 121 = .ok (.iload_n 3, 1) := by decide +kernel
theorem d_CT_element_122 : decode prog_1_method_2_code 122 = .ok (.invokevirtual 81, 3) := by decide +kernel
theorem d_CT_element_125 : decode prog_1_method_2_code 125 = .ok (.return_, 1) := by decide +kernel
theorem d_CT_refuseUnless_0 : decode prog_1_method_24_code 0 = .ok (.iload_n 0, 1) := by decide +kernel
theorem d_CT_refuseUnless_1 : decode prog_1_method_24_code 1 = .ok (.ifCond .ne 13, 3) := by decide +kernel
theorem d_CT_refuseUnless_4 : decode prog_1_method_24_code 4 = .ok (.new 190, 3) := by decide +kernel
theorem d_CT_refuseUnless_7 : decode prog_1_method_24_code 7 = .ok (.dup, 1) := by decide +kernel
theorem d_CT_refuseUnless_8 : decode prog_1_method_24_code 8 = .ok (.ldc 228, 2) := by decide +kernel
theorem d_CT_refuseUnless_10 : decode prog_1_method_24_code 10 = .ok (.invokespecial 194, 3) := by decide +kernel
theorem d_CT_refuseUnless_13 : decode prog_1_method_24_code 13 = .ok (.athrow, 1) := by decide +kernel
theorem d_CT_refuseUnless_14 : decode prog_1_method_24_code 14 = .ok (.return_, 1) := by decide +kernel
theorem d_Ck_start_0 : decode prog_3_method_2_code 0 = .ok (.aload_n 0, 1) := by decide +kernel
theorem d_Ck_start_1 : decode prog_3_method_2_code 1 = .ok (.getfield 9, 3) := by decide +kernel
theorem d_Ck_start_4 : decode prog_3_method_2_code 4 = .ok (.iload_n 1, 1) := by decide +kernel
theorem d_Ck_start_5 : decode prog_3_method_2_code 5 = .ok (.iload_n 2, 1) := by decide +kernel
theorem d_Ck_start_6 : decode prog_3_method_2_code 6 = .ok (.iastore, 1) := by decide +kernel
theorem d_Ck_start_7 : decode prog_3_method_2_code 7 = .ok (.aload_n 0, 1) := by decide +kernel
theorem d_Ck_start_8 : decode prog_3_method_2_code 8 = .ok (.getfield 15, 3) := by decide +kernel
theorem d_Ck_start_11 : decode prog_3_method_2_code 11 = .ok (.iload_n 1, 1) := by decide +kernel
theorem d_Ck_start_12 : decode prog_3_method_2_code 12 = .ok (.iload_n 2, 1) := by decide +kernel
theorem d_Ck_start_13 : decode prog_3_method_2_code 13 = .ok (.iastore, 1) := by decide +kernel
theorem d_Ck_start_14 : decode prog_3_method_2_code 14 = .ok (.return_, 1) := by decide +kernel
theorem d_CT_link_0 : decode prog_1_method_3_code 0 = .ok (.aload_n 0, 1) := by decide +kernel
theorem d_CT_link_1 : decode prog_1_method_3_code 1 = .ok (.getfield 12, 3) := by decide +kernel
theorem d_CT_link_4 : decode prog_1_method_3_code 4 = .ok (.iload_n 1, 1) := by decide +kernel
theorem d_CT_link_5 : decode prog_1_method_3_code 5 = .ok (.iload_n 2, 1) := by decide +kernel
theorem d_CT_link_6 : decode prog_1_method_3_code 6 = .ok (.invokevirtual 85, 3) := by decide +kernel
theorem d_CT_link_9 : decode prog_1_method_3_code 9 = .ok (.ifCond .eq 25, 3) := by decide +kernel
theorem d_CT_link_12 : decode prog_1_method_3_code 12 = .ok (.aload_n 0, 1) := by decide +kernel
theorem d_CT_link_13 : decode prog_1_method_3_code 13 = .ok (.getfield 12, 3) := by decide +kernel
theorem d_CT_link_16 : decode prog_1_method_3_code 16 = .ok (.iload_n 3, 1) := by decide +kernel
theorem d_CT_link_17 : decode prog_1_method_3_code 17 = .ok (.iload 4, 2) := by decide +kernel
theorem d_CT_link_19 : decode prog_1_method_3_code 19 = .ok (.invokevirtual 85, 3) := by decide +kernel
theorem d_CT_link_22 : decode prog_1_method_3_code 22 = .ok (.ifCond .eq 12, 3) := by decide +kernel
theorem d_CT_link_25 : decode prog_1_method_3_code 25 = .ok (.iload_n 1, 1) := by decide +kernel
theorem d_CT_link_26 : decode prog_1_method_3_code 26 = .ok (.iload_n 3, 1) := by decide +kernel
theorem d_CT_link_27 : decode prog_1_method_3_code 27 = .ok (.if_icmp .eq 7, 3) := by decide +kernel
theorem d_CT_link_30 : decode prog_1_method_3_code 30 = .ok (.iconst 1, 1) := by decide +kernel
theorem d_CT_link_31 : decode prog_1_method_3_code 31 = .ok (.goto 4, 3) := by decide +kernel
theorem d_CT_link_34 : decode prog_1_method_3_code 34 = .ok (.iconst 0, 1) := by decide +kernel
theorem d_CT_link_35 : decode prog_1_method_3_code 35 = .ok (.invokestatic 57, 3) := by decide +kernel
theorem d_CT_link_38 : decode prog_1_method_3_code 38 = .ok (.iload_n 1, 1) := by decide +kernel
theorem d_CT_link_39 : decode prog_1_method_3_code 39 = .ok (.iload_n 2, 1) := by decide +kernel
theorem d_CT_link_40 : decode prog_1_method_3_code 40 = .ok (.invokestatic 89, 3) := by decide +kernel
theorem d_CT_link_43 : decode prog_1_method_3_code 43 = .ok (.istore 5, 2) := by decide +kernel
theorem d_CT_link_45 : decode prog_1_method_3_code 45 = .ok (.iload_n 3, 1) := by decide +kernel
theorem d_CT_link_46 : decode prog_1_method_3_code 46 = .ok (.iload 4, 2) := by decide +kernel
theorem d_CT_link_48 : decode prog_1_method_3_code 48 = .ok (.invokestatic 89, 3) := by decide +kernel
theorem d_CT_link_51 : decode prog_1_method_3_code 51 = .ok (.istore 6, 2) := by decide +kernel
theorem d_CT_link_53 : decode prog_1_method_3_code 53 = .ok (.aload_n 0, 1) := by decide +kernel
theorem d_CT_link_54 : decode prog_1_method_3_code 54 = .ok (.getfield 12, 3) := by decide +kernel
theorem d_CT_link_57 : decode prog_1_method_3_code 57 = .ok (.iload 5, 2) := by decide +kernel
theorem d_CT_link_59 : decode prog_1_method_3_code 59 = .ok (.invokevirtual 93, 3) := by decide +kernel
theorem d_CT_link_62 : decode prog_1_method_3_code 62 = .ok (.ifCond .ne 27, 3) := by decide +kernel
theorem d_CT_link_65 : decode prog_1_method_3_code 65 = .ok (.aload_n 0, 1) := by decide +kernel
theorem d_CT_link_66 : decode prog_1_method_3_code 66 = .ok (.getfield 12, 3) := by decide +kernel
theorem d_CT_link_69 : decode prog_1_method_3_code 69 = .ok (.iload 6, 2) := by decide +kernel
theorem d_CT_link_71 : decode prog_1_method_3_code 71 = .ok (.invokevirtual 93, 3) := by decide +kernel
theorem d_CT_link_74 : decode prog_1_method_3_code 74 = .ok (.ifCond .ne 15, 3) := by decide +kernel
theorem d_CT_link_77 : decode prog_1_method_3_code 77 = .ok (.aload_n 0, 1) := by decide +kernel
theorem d_CT_link_78 : decode prog_1_method_3_code 78 = .ok (.getfield 12, 3) := by decide +kernel
theorem d_CT_link_81 : decode prog_1_method_3_code 81 = .ok (.getfield 97, 3) := by decide +kernel
theorem d_CT_link_84 : decode prog_1_method_3_code 84 = .ok (.bipush 24, 2) := by decide +kernel
theorem d_CT_link_86 : decode prog_1_method_3_code 86 = .ok (.if_icmp .lt 13, 3) := by decide +kernel
theorem d_CT_link_89 : decode prog_1_method_3_code 89 = .ok (.new 65, 3) := by decide +kernel
theorem d_CT_link_92 : decode prog_1_method_3_code 92 = .ok (.dup, 1) := by decide +kernel
theorem d_CT_link_93 : decode prog_1_method_3_code 93 = .ok (.ldc 100, 2) := by decide +kernel
theorem d_CT_link_95 : decode prog_1_method_3_code 95 = .ok (.invokespecial 69, 3) := by decide +kernel
theorem d_CT_link_98 : decode prog_1_method_3_code 98 = .ok (.athrow, 1) := by decide +kernel
theorem d_CT_link_99 : decode prog_1_method_3_code 99 = .ok (.aload_n 0, 1) := by decide +kernel
theorem d_CT_link_100 : decode prog_1_method_3_code 100 = .ok (.getfield 12, 3) := by decide +kernel
theorem d_CT_link_103 : decode prog_1_method_3_code 103 = .ok (.iload 5, 2) := by decide +kernel
theorem d_CT_link_105 : decode prog_1_method_3_code 105 = .ok (.iload 6, 2) := by decide +kernel
theorem d_CT_link_107 : decode prog_1_method_3_code 107 = .ok (.invokevirtual 102, 3) := by decide +kernel
theorem d_CT_link_110 : decode prog_1_method_3_code 110 = .ok (.ireturn, 1) := by decide +kernel
theorem d_Pl_isPort_0 : decode prog_5_method_3_code 0 = .ok (.aload_n 0, 1) := by decide +kernel
theorem d_Pl_isPort_1 : decode prog_5_method_3_code 1 = .ok (.iload_n 1, 1) := by decide +kernel
theorem d_Pl_isPort_2 : decode prog_5_method_3_code 2 = .ok (.invokevirtual 73, 3) := by decide +kernel
theorem d_Pl_isPort_5 : decode prog_5_method_3_code 5 = .ok (.ifCond .eq 16, 3) := by decide +kernel
theorem d_Pl_isPort_8 : decode prog_5_method_3_code 8 = .ok (.iload_n 2, 1) := by decide +kernel
theorem d_Pl_isPort_9 : decode prog_5_method_3_code 9 = .ok (.iconst 0, 1) := by decide +kernel
theorem d_Pl_isPort_10 : decode prog_5_method_3_code 10 = .ok (.iconst 3, 1) := by decide +kernel
theorem d_Pl_isPort_11 : decode prog_5_method_3_code 11 = .ok (.invokestatic 69, 3) := by decide +kernel
theorem d_Pl_isPort_14 : decode prog_5_method_3_code 14 = .ok (.ifCond .eq 7, 3) := by decide +kernel
theorem d_Pl_isPort_17 : decode prog_5_method_3_code 17 = .ok (.iconst 1, 1) := by decide +kernel
theorem d_Pl_isPort_18 : decode prog_5_method_3_code 18 = .ok (.goto 4, 3) := by decide +kernel
theorem d_Pl_isPort_21 : decode prog_5_method_3_code 21 = .ok (.iconst 0, 1) := by decide +kernel
theorem d_Pl_isPort_22 : decode prog_5_method_3_code 22 = .ok (.ireturn, 1) := by decide +kernel
theorem d_Pl_isThere_0 : decode prog_5_method_2_code 0 = .ok (.iload_n 1, 1) := by decide +kernel
theorem d_Pl_isThere_1 : decode prog_5_method_2_code 1 = .ok (.iconst 0, 1) := by decide +kernel
theorem d_Pl_isThere_2 : decode prog_5_method_2_code 2 = .ok (.bipush 15, 2) := by decide +kernel
theorem d_Pl_isThere_4 : decode prog_5_method_2_code 4 = .ok (.invokestatic 69, 3) := by decide +kernel
theorem d_Pl_isThere_7 : decode prog_5_method_2_code 7 = .ok (.ifCond .eq 16, 3) := by decide +kernel
theorem d_Pl_isThere_10 : decode prog_5_method_2_code 10 = .ok (.aload_n 0, 1) := by decide +kernel
theorem d_Pl_isThere_11 : decode prog_5_method_2_code 11 = .ok (.getfield 9, 3) := by decide +kernel
theorem d_Pl_isThere_14 : decode prog_5_method_2_code 14 = .ok (.iload_n 1, 1) := by decide +kernel
theorem d_Pl_isThere_15 : decode prog_5_method_2_code 15 = .ok (.baload, 1) := by decide +kernel
theorem d_Pl_isThere_16 : decode prog_5_method_2_code 16 = .ok (.ifCond .eq 7, 3) := by decide +kernel
theorem d_Pl_isThere_19 : decode prog_5_method_2_code 19 = .ok (.iconst 1, 1) := by decide +kernel
theorem d_Pl_isThere_20 : decode prog_5_method_2_code 20 = .ok (.goto 4, 3) := by decide +kernel
theorem d_Pl_isThere_23 : decode prog_5_method_2_code 23 = .ok (.iconst 0, 1) := by decide +kernel
theorem d_Pl_isThere_24 : decode prog_5_method_2_code 24 = .ok (.ireturn, 1) := by decide +kernel
theorem d_Pl_isTaken_0 : decode prog_5_method_5_code 0 = .ok (.aload_n 0, 1) := by decide +kernel
theorem d_Pl_isTaken_1 : decode prog_5_method_5_code 1 = .ok (.getfield 34, 3) := by decide +kernel
theorem d_Pl_isTaken_4 : decode prog_5_method_5_code 4 = .ok (.iload_n 1, 1) := by decide +kernel
theorem d_Pl_isTaken_5 : decode prog_5_method_5_code 5 = .ok (.iaload, 1) := by decide +kernel
theorem d_Pl_isTaken_6 : decode prog_5_method_5_code 6 = .ok (.iconst (-1), 1) := by decide +kernel
theorem d_Pl_isTaken_7 : decode prog_5_method_5_code 7 = .ok (.if_icmp .ne 11, 3) := by decide +kernel
theorem d_Pl_isTaken_10 : decode prog_5_method_5_code 10 = .ok (.aload_n 0, 1) := by decide +kernel
theorem d_Pl_isTaken_11 : decode prog_5_method_5_code 11 = .ok (.iload_n 1, 1) := by decide +kernel
theorem d_Pl_isTaken_12 : decode prog_5_method_5_code 12 = .ok (.invokevirtual 77, 3) := by decide +kernel
theorem d_Pl_isTaken_15 : decode prog_5_method_5_code 15 = .ok (.ifCond .eq 7, 3) := by decide +kernel
theorem d_Pl_isTaken_18 : decode prog_5_method_5_code 18 = .ok (.iconst 1, 1) := by decide +kernel
theorem d_Pl_isTaken_19 : decode prog_5_method_5_code 19 = .ok (.goto 4, 3) := by decide +kernel
theorem d_Pl_isTaken_22 : decode prog_5_method_5_code 22 = .ok (.iconst 0, 1) := by decide +kernel
theorem d_Pl_isTaken_23 : decode prog_5_method_5_code 23 = .ok (.ireturn, 1) := by decide +kernel
theorem d_Pl_join_0 : decode prog_5_method_7_code 0 = .ok (.aload_n 0, 1) := by decide +kernel
theorem d_Pl_join_1 : decode prog_5_method_7_code 1 = .ok (.getfield 55, 3) := by decide +kernel
theorem d_Pl_join_4 : decode prog_5_method_7_code 4 = .ok (.istore_n 3, 1) := by decide +kernel
theorem d_Pl_join_5 : decode prog_5_method_7_code 5 = .ok (.aload_n 0, 1) := by decide +kernel
theorem d_Pl_join_6 : decode prog_5_method_7_code 6 = .ok (.dup, 1) := by decide +kernel
theorem d_Pl_join_7 : decode prog_5_method_7_code 7 = .ok (.getfield 55, 3) := by decide +kernel
theorem d_Pl_join_10 : decode prog_5_method_7_code 10 = .ok (.iconst 1, 1) := by decide +kernel
theorem d_Pl_join_11 : decode prog_5_method_7_code 11 = .ok (.iadd, 1) := by decide +kernel
theorem d_Pl_join_12 : decode prog_5_method_7_code 12 = .ok (.putfield 55, 3) := by decide +kernel
theorem d_Pl_join_15 : decode prog_5_method_7_code 15 = .ok (.aload_n 0, 1) := by decide +kernel
theorem d_Pl_join_16 : decode prog_5_method_7_code 16 = .ok (.getfield 52, 3) := by decide +kernel
theorem d_Pl_join_19 : decode prog_5_method_7_code 19 = .ok (.iload_n 3, 1) := by decide +kernel
theorem d_Pl_join_20 : decode prog_5_method_7_code 20 = .ok (.iload_n 1, 1) := by decide +kernel
theorem d_Pl_join_21 : decode prog_5_method_7_code 21 = .ok (.iastore, 1) := by decide +kernel
theorem d_Pl_join_22 : decode prog_5_method_7_code 22 = .ok (.aload_n 0, 1) := by decide +kernel
theorem d_Pl_join_23 : decode prog_5_method_7_code 23 = .ok (.getfield 34, 3) := by decide +kernel
theorem d_Pl_join_26 : decode prog_5_method_7_code 26 = .ok (.iload_n 1, 1) := by decide +kernel
theorem d_Pl_join_27 : decode prog_5_method_7_code 27 = .ok (.iload_n 3, 1) := by decide +kernel
theorem d_Pl_join_28 : decode prog_5_method_7_code 28 = .ok (.iastore, 1) := by decide +kernel
theorem d_Pl_join_29 : decode prog_5_method_7_code 29 = .ok (.aload_n 0, 1) := by decide +kernel
theorem d_Pl_join_30 : decode prog_5_method_7_code 30 = .ok (.getfield 34, 3) := by decide +kernel
theorem d_Pl_join_33 : decode prog_5_method_7_code 33 = .ok (.iload_n 2, 1) := by decide +kernel
theorem d_Pl_join_34 : decode prog_5_method_7_code 34 = .ok (.iload_n 3, 1) := by decide +kernel
theorem d_Pl_join_35 : decode prog_5_method_7_code 35 = .ok (.iastore, 1) := by decide +kernel
theorem d_Pl_join_36 : decode prog_5_method_7_code 36 = .ok (.aload_n 0, 1) := by decide +kernel
theorem d_Pl_join_37 : decode prog_5_method_7_code 37 = .ok (.getfield 37, 3) := by decide +kernel
theorem d_Pl_join_40 : decode prog_5_method_7_code 40 = .ok (.iload_n 1, 1) := by decide +kernel
theorem d_Pl_join_41 : decode prog_5_method_7_code 41 = .ok (.iload_n 2, 1) := by decide +kernel
theorem d_Pl_join_42 : decode prog_5_method_7_code 42 = .ok (.iastore, 1) := by decide +kernel
theorem d_Pl_join_43 : decode prog_5_method_7_code 43 = .ok (.aload_n 0, 1) := by decide +kernel
theorem d_Pl_join_44 : decode prog_5_method_7_code 44 = .ok (.getfield 37, 3) := by decide +kernel
theorem d_Pl_join_47 : decode prog_5_method_7_code 47 = .ok (.iload_n 2, 1) := by decide +kernel
theorem d_Pl_join_48 : decode prog_5_method_7_code 48 = .ok (.iload_n 1, 1) := by decide +kernel
theorem d_Pl_join_49 : decode prog_5_method_7_code 49 = .ok (.iastore, 1) := by decide +kernel
theorem d_Pl_join_50 : decode prog_5_method_7_code 50 = .ok (.iload_n 3, 1) := by decide +kernel
theorem d_Pl_join_51 : decode prog_5_method_7_code 51 = .ok (.ireturn, 1) := by decide +kernel
theorem d_CT_source_0 : decode prog_1_method_4_code 0 = .ok (.aload_n 0, 1) := by decide +kernel
theorem d_CT_source_1 : decode prog_1_method_4_code 1 = .ok (.getfield 12, 3) := by decide +kernel
theorem d_CT_source_4 : decode prog_1_method_4_code 4 = .ok (.iload_n 1, 1) := by decide +kernel
theorem d_CT_source_5 : decode prog_1_method_4_code 5 = .ok (.iload_n 2, 1) := by decide +kernel
theorem d_CT_source_6 : decode prog_1_method_4_code 6 = .ok (.invokevirtual 85, 3) := by decide +kernel
theorem d_CT_source_9 : decode prog_1_method_4_code 9 = .ok (.invokestatic 57, 3) := by decide +kernel
theorem d_CT_source_12 : decode prog_1_method_4_code 12 = .ok (.iload_n 3, 1) := by decide +kernel
theorem d_CT_source_13 : decode prog_1_method_4_code 13 = .ok (.iconst (-1), 1) := by decide +kernel
theorem d_CT_source_14 : decode prog_1_method_4_code 14 = .ok (.if_icmp .eq 27, 3) := by decide +kernel
theorem d_CT_source_17 : decode prog_1_method_4_code 17 = .ok (.iload_n 3, 1) := by decide +kernel
theorem d_CT_source_18 : decode prog_1_method_4_code 18 = .ok (.iconst 0, 1) := by decide +kernel
theorem d_CT_source_19 : decode prog_1_method_4_code 19 = .ok (.bipush 6, 2) := by decide +kernel
theorem d_CT_source_21 : decode prog_1_method_4_code 21 = .ok (.invokestatic 53, 3) := by decide +kernel
theorem d_CT_source_24 : decode prog_1_method_4_code 24 = .ok (.ifCond .eq 21, 3) := by decide +kernel
theorem d_CT_source_27 : decode prog_1_method_4_code 27 = .ok (.iload 4, 2) := by decide +kernel
theorem d_CT_source_29 : decode prog_1_method_4_code 29 = .ok (.sipush (-1000), 3) := by decide +kernel
theorem d_CT_source_32 : decode prog_1_method_4_code 32 = .ok (.sipush 1000, 3) := by decide +kernel
theorem d_CT_source_35 : decode prog_1_method_4_code 35 = .ok (.invokestatic 53, 3) := by decide +kernel
theorem d_CT_source_38 : decode prog_1_method_4_code 38 = .ok (.ifCond .eq 7, 3) := by decide +kernel
theorem d_CT_source_41 : decode prog_1_method_4_code 41 = .ok (.iconst 1, 1) := by decide +kernel
theorem d_CT_source_42 : decode prog_1_method_4_code 42 = .ok (.goto 4, 3) := by decide +kernel
theorem d_CT_source_45 : decode prog_1_method_4_code 45 = .ok (.iconst 0, 1) := by decide +kernel
theorem d_CT_source_46 : decode prog_1_method_4_code 46 = .ok (.invokestatic 57, 3) := by decide +kernel
theorem d_CT_source_49 : decode prog_1_method_4_code 49 = .ok (.iload_n 1, 1) := by decide +kernel
theorem d_CT_source_50 : decode prog_1_method_4_code 50 = .ok (.iload_n 2, 1) := by decide +kernel
theorem d_CT_source_51 : decode prog_1_method_4_code 51 = .ok (.invokestatic 89, 3) := by decide +kernel
theorem d_CT_source_54 : decode prog_1_method_4_code 54 = .ok (.istore 5, 2) := by decide +kernel
theorem d_CT_source_56 : decode prog_1_method_4_code 56 = .ok (.aload_n 0, 1) := by decide +kernel
theorem d_CT_source_57 : decode prog_1_method_4_code 57 = .ok (.getfield 12, 3) := by decide +kernel
theorem d_CT_source_60 : decode prog_1_method_4_code 60 = .ok (.getfield 105, 3) := by decide +kernel
theorem d_CT_source_63 : decode prog_1_method_4_code 63 = .ok (.iload 5, 2) := by decide +kernel
theorem d_CT_source_65 : decode prog_1_method_4_code 65 = .ok (.iaload, 1) := by decide +kernel
theorem d_CT_source_66 : decode prog_1_method_4_code 66 = .ok (.iconst (-1), 1) := by decide +kernel
theorem d_CT_source_67 : decode prog_1_method_4_code 67 = .ok (.if_icmp .eq 13, 3) := by decide +kernel
theorem d_CT_source_70 : decode prog_1_method_4_code 70 = .ok (.new 65, 3) := by decide +kernel
theorem d_CT_source_73 : decode prog_1_method_4_code 73 = .ok (.dup, 1) := by decide +kernel
theorem d_CT_source_74 : decode prog_1_method_4_code 74 = .ok (.ldc 108, 2) := by decide +kernel
theorem d_CT_source_76 : decode prog_1_method_4_code 76 = .ok (.invokespecial 69, 3) := by decide +kernel
theorem d_CT_source_79 : decode prog_1_method_4_code 79 = .ok (.athrow, 1) := by decide +kernel
theorem d_CT_source_80 : decode prog_1_method_4_code 80 = .ok (.aload_n 0, 1) := by decide +kernel
theorem d_CT_source_81 : decode prog_1_method_4_code 81 = .ok (.getfield 12, 3) := by decide +kernel
theorem d_CT_source_84 : decode prog_1_method_4_code 84 = .ok (.getfield 110, 3) := by decide +kernel
theorem d_CT_source_87 : decode prog_1_method_4_code 87 = .ok (.iload 5, 2) := by decide +kernel
theorem d_CT_source_89 : decode prog_1_method_4_code 89 = .ok (.iload_n 3, 1) := by decide +kernel
theorem d_CT_source_90 : decode prog_1_method_4_code 90 = .ok (.iastore, 1) := by decide +kernel
theorem d_CT_source_91 : decode prog_1_method_4_code 91 = .ok (.aload_n 0, 1) := by decide +kernel
theorem d_CT_source_92 : decode prog_1_method_4_code 92 = .ok (.getfield 12, 3) := by decide +kernel
theorem d_CT_source_95 : decode prog_1_method_4_code 95 = .ok (.getfield 113, 3) := by decide +kernel
theorem d_CT_source_98 : decode prog_1_method_4_code 98 = .ok (.iload 5, 2) := by decide +kernel
theorem d_CT_source_100 : decode prog_1_method_4_code 100 = .ok (.iload 4, 2) := by decide +kernel
theorem d_CT_source_102 : decode prog_1_method_4_code 102 = .ok (.iastore, 1) := by decide +kernel
theorem d_CT_source_103 : decode prog_1_method_4_code 103 = .ok (.return_, 1) := by decide +kernel
theorem d_CT_priority_0 : decode prog_1_method_5_code 0 = .ok (.aload_n 0, 1) := by decide +kernel
theorem d_CT_priority_1 : decode prog_1_method_5_code 1 = .ok (.getfield 12, 3) := by decide +kernel
theorem d_CT_priority_4 : decode prog_1_method_5_code 4 = .ok (.iload_n 1, 1) := by decide +kernel
theorem d_CT_priority_5 : decode prog_1_method_5_code 5 = .ok (.iload_n 2, 1) := by decide +kernel
theorem d_CT_priority_6 : decode prog_1_method_5_code 6 = .ok (.invokevirtual 85, 3) := by decide +kernel
theorem d_CT_priority_9 : decode prog_1_method_5_code 9 = .ok (.ifCond .eq 17, 3) := by decide +kernel
theorem d_CT_priority_12 : decode prog_1_method_5_code 12 = .ok (.iload_n 3, 1) := by decide +kernel
theorem d_CT_priority_13 : decode prog_1_method_5_code 13 = .ok (.iconst 0, 1) := by decide +kernel
theorem d_CT_priority_14 : decode prog_1_method_5_code 14 = .ok (.bipush 9, 2) := by decide +kernel
theorem d_CT_priority_16 : decode prog_1_method_5_code 16 = .ok (.invokestatic 53, 3) := by decide +kernel
theorem d_CT_priority_19 : decode prog_1_method_5_code 19 = .ok (.ifCond .eq 7, 3) := by decide +kernel
theorem d_CT_priority_22 : decode prog_1_method_5_code 22 = .ok (.iconst 1, 1) := by decide +kernel
theorem d_CT_priority_23 : decode prog_1_method_5_code 23 = .ok (.goto 4, 3) := by decide +kernel
theorem d_CT_priority_26 : decode prog_1_method_5_code 26 = .ok (.iconst 0, 1) := by decide +kernel
theorem d_CT_priority_27 : decode prog_1_method_5_code 27 = .ok (.invokestatic 57, 3) := by decide +kernel
theorem d_CT_priority_30 : decode prog_1_method_5_code 30 = .ok (.iload_n 1, 1) := by decide +kernel
theorem d_CT_priority_31 : decode prog_1_method_5_code 31 = .ok (.iload_n 2, 1) := by decide +kernel
theorem d_CT_priority_32 : decode prog_1_method_5_code 32 = .ok (.invokestatic 89, 3) := by decide +kernel
theorem d_CT_priority_35 : decode prog_1_method_5_code 35 = .ok (.istore 4, 2) := by decide +kernel
theorem d_CT_priority_37 : decode prog_1_method_5_code 37 = .ok (.aload_n 0, 1) := by decide +kernel
theorem d_CT_priority_38 : decode prog_1_method_5_code 38 = .ok (.getfield 12, 3) := by decide +kernel
theorem d_CT_priority_41 : decode prog_1_method_5_code 41 = .ok (.getfield 116, 3) := by decide +kernel
theorem d_CT_priority_44 : decode prog_1_method_5_code 44 = .ok (.iload 4, 2) := by decide +kernel
theorem d_CT_priority_46 : decode prog_1_method_5_code 46 = .ok (.iaload, 1) := by decide +kernel
theorem d_CT_priority_47 : decode prog_1_method_5_code 47 = .ok (.istore 5, 2) := by decide +kernel
theorem d_CT_priority_49 : decode prog_1_method_5_code 49 = .ok (.aload_n 0, 1) := by decide +kernel
theorem d_CT_priority_50 : decode prog_1_method_5_code 50 = .ok (.getfield 12, 3) := by decide +kernel
theorem d_CT_priority_53 : decode prog_1_method_5_code 53 = .ok (.getfield 116, 3) := by decide +kernel
theorem d_CT_priority_56 : decode prog_1_method_5_code 56 = .ok (.iload 4, 2) := by decide +kernel
theorem d_CT_priority_58 : decode prog_1_method_5_code 58 = .ok (.iload_n 3, 1) := by decide +kernel
theorem d_CT_priority_59 : decode prog_1_method_5_code 59 = .ok (.iastore, 1) := by decide +kernel
theorem d_CT_priority_60 : decode prog_1_method_5_code 60 = .ok (.iload 5, 2) := by decide +kernel
theorem d_CT_priority_62 : decode prog_1_method_5_code 62 = .ok (.ireturn, 1) := by decide +kernel
theorem d_CT_restore_0 : decode prog_1_method_6_code 0 = .ok (.aload_n 0, 1) := by decide +kernel
theorem d_CT_restore_1 : decode prog_1_method_6_code 1 = .ok (.getfield 12, 3) := by decide +kernel
theorem d_CT_restore_4 : decode prog_1_method_6_code 4 = .ok (.iload_n 1, 1) := by decide +kernel
theorem d_CT_restore_5 : decode prog_1_method_6_code 5 = .ok (.invokevirtual 119, 3) := by decide +kernel
theorem d_CT_restore_8 : decode prog_1_method_6_code 8 = .ok (.ifCond .eq 17, 3) := by decide +kernel
theorem d_CT_restore_11 : decode prog_1_method_6_code 11 = .ok (.iload_n 2, 1) := by decide +kernel
theorem d_CT_restore_12 : decode prog_1_method_6_code 12 = .ok (.iconst 0, 1) := by decide +kernel
theorem d_CT_restore_13 : decode prog_1_method_6_code 13 = .ok (.bipush 10, 2) := by decide +kernel
theorem d_CT_restore_15 : decode prog_1_method_6_code 15 = .ok (.invokestatic 53, 3) := by decide +kernel
theorem d_CT_restore_18 : decode prog_1_method_6_code 18 = .ok (.ifCond .eq 7, 3) := by decide +kernel
theorem d_CT_restore_21 : decode prog_1_method_6_code 21 = .ok (.iconst 1, 1) := by decide +kernel
theorem d_CT_restore_22 : decode prog_1_method_6_code 22 = .ok (.goto 4, 3) := by decide +kernel
theorem d_CT_restore_25 : decode prog_1_method_6_code 25 = .ok (.iconst 0, 1) := by decide +kernel
theorem d_CT_restore_26 : decode prog_1_method_6_code 26 = .ok (.invokestatic 57, 3) := by decide +kernel
theorem d_CT_restore_29 : decode prog_1_method_6_code 29 = .ok (.aload_n 0, 1) := by decide +kernel
theorem d_CT_restore_30 : decode prog_1_method_6_code 30 = .ok (.getfield 12, 3) := by decide +kernel
theorem d_CT_restore_33 : decode prog_1_method_6_code 33 = .ok (.getfield 122, 3) := by decide +kernel
theorem d_CT_restore_36 : decode prog_1_method_6_code 36 = .ok (.iload_n 1, 1) := by decide +kernel
theorem d_CT_restore_37 : decode prog_1_method_6_code 37 = .ok (.iaload, 1) := by decide +kernel
theorem d_CT_restore_38 : decode prog_1_method_6_code 38 = .ok (.istore_n 3, 1) := by decide +kernel
theorem d_CT_restore_39 : decode prog_1_method_6_code 39 = .ok (.aload_n 0, 1) := by decide +kernel
theorem d_CT_restore_40 : decode prog_1_method_6_code 40 = .ok (.getfield 12, 3) := by decide +kernel
theorem d_CT_restore_43 : decode prog_1_method_6_code 43 = .ok (.getfield 122, 3) := by decide +kernel
theorem d_CT_restore_46 : decode prog_1_method_6_code 46 = .ok (.iload_n 1, 1) := by decide +kernel
theorem d_CT_restore_47 : decode prog_1_method_6_code 47 = .ok (.iload_n 2, 1) := by decide +kernel
theorem d_CT_restore_48 : decode prog_1_method_6_code 48 = .ok (.iastore, 1) := by decide +kernel
theorem d_CT_restore_49 : decode prog_1_method_6_code 49 = .ok (.iload_n 3, 1) := by decide +kernel
theorem d_CT_restore_50 : decode prog_1_method_6_code 50 = .ok (.ireturn, 1) := by decide +kernel
theorem d_CT_command_0 : decode prog_1_method_8_code 0 = .ok (.aload_n 0, 1) := by decide +kernel
theorem d_CT_command_1 : decode prog_1_method_8_code 1 = .ok (.getfield 12, 3) := by decide +kernel
theorem d_CT_command_4 : decode prog_1_method_8_code 4 = .ok (.iload_n 1, 1) := by decide +kernel
theorem d_CT_command_5 : decode prog_1_method_8_code 5 = .ok (.invokevirtual 119, 3) := by decide +kernel
theorem d_CT_command_8 : decode prog_1_method_8_code 8 = .ok (.ifCond .eq 16, 3) := by decide +kernel
theorem d_CT_command_11 : decode prog_1_method_8_code 11 = .ok (.iload_n 2, 1) := by decide +kernel
theorem d_CT_command_12 : decode prog_1_method_8_code 12 = .ok (.iconst 0, 1) := by decide +kernel
theorem d_CT_command_13 : decode prog_1_method_8_code 13 = .ok (.iconst 1, 1) := by decide +kernel
theorem d_CT_command_14 : decode prog_1_method_8_code 14 = .ok (.invokestatic 53, 3) := by decide +kernel
theorem d_CT_command_17 : decode prog_1_method_8_code 17 = .ok (.ifCond .eq 7, 3) := by decide +kernel
theorem d_CT_command_20 : decode prog_1_method_8_code 20 = .ok (.iconst 1, 1) := by decide +kernel
theorem d_CT_command_21 : decode prog_1_method_8_code 21 = .ok (.goto 4, 3) := by decide +kernel
theorem d_CT_command_24 : decode prog_1_method_8_code 24 = .ok (.iconst 0, 1) := by decide +kernel
theorem d_CT_command_25 : decode prog_1_method_8_code 25 = .ok (.invokestatic 57, 3) := by decide +kernel
theorem d_CT_command_28 : decode prog_1_method_8_code 28 = .ok (.iload_n 3, 1) := by decide +kernel
theorem d_CT_command_29 : decode prog_1_method_8_code 29 = .ok (.iconst (-1), 1) := by decide +kernel
theorem d_CT_command_30 : decode prog_1_method_8_code 30 = .ok (.if_icmp .eq 12, 3) := by decide +kernel
theorem d_CT_command_33 : decode prog_1_method_8_code 33 = .ok (.iload_n 3, 1) := by decide +kernel
theorem d_CT_command_34 : decode prog_1_method_8_code 34 = .ok (.iconst 0, 1) := by decide +kernel
theorem d_CT_command_35 : decode prog_1_method_8_code 35 = .ok (.iconst 3, 1) := by decide +kernel
theorem d_CT_command_36 : decode prog_1_method_8_code 36 = .ok (.invokestatic 53, 3) := by decide +kernel
theorem d_CT_command_39 : decode prog_1_method_8_code 39 = .ok (.ifCond .eq 7, 3) := by decide +kernel
theorem d_CT_command_42 : decode prog_1_method_8_code 42 = .ok (.iconst 1, 1) := by decide +kernel
theorem d_CT_command_43 : decode prog_1_method_8_code 43 = .ok (.goto 4, 3) := by decide +kernel
theorem d_CT_command_46 : decode prog_1_method_8_code 46 = .ok (.iconst 0, 1) := by decide +kernel
theorem d_CT_command_47 : decode prog_1_method_8_code 47 = .ok (.invokestatic 57, 3) := by decide +kernel
theorem d_CT_command_50 : decode prog_1_method_8_code 50 = .ok (.iload_n 2, 1) := by decide +kernel
theorem d_CT_command_51 : decode prog_1_method_8_code 51 = .ok (.ifCond .ne 13, 3) := by decide +kernel
theorem d_CT_command_54 : decode prog_1_method_8_code 54 = .ok (.aload_n 0, 1) := by decide +kernel
theorem d_CT_command_55 : decode prog_1_method_8_code 55 = .ok (.getfield 12, 3) := by decide +kernel
theorem d_CT_command_58 : decode prog_1_method_8_code 58 = .ok (.getfield 129, 3) := by decide +kernel
theorem d_CT_command_61 : decode prog_1_method_8_code 61 = .ok (.goto 10, 3) := by decide +kernel
theorem d_CT_command_64 : decode prog_1_method_8_code 64 = .ok (.aload_n 0, 1) := by decide +kernel
theorem d_CT_command_65 : decode prog_1_method_8_code 65 = .ok (.getfield 12, 3) := by decide +kernel
theorem d_CT_command_68 : decode prog_1_method_8_code 68 = .ok (.getfield 132, 3) := by decide +kernel
theorem d_CT_command_71 : decode prog_1_method_8_code 71 = .ok (.astore 4, 2) := by decide +kernel
theorem d_CT_command_73 : decode prog_1_method_8_code 73 = .ok (.aload 4, 2) := by decide +kernel
theorem d_CT_command_75 : decode prog_1_method_8_code 75 = .ok (.iload_n 1, 1) := by decide +kernel
theorem d_CT_command_76 : decode prog_1_method_8_code 76 = .ok (.iaload, 1) := by decide +kernel
theorem d_CT_command_77 : decode prog_1_method_8_code 77 = .ok (.istore 5, 2) := by decide +kernel
theorem d_CT_command_79 : decode prog_1_method_8_code 79 = .ok (.aload 4, 2) := by decide +kernel
theorem d_CT_command_81 : decode prog_1_method_8_code 81 = .ok (.iload_n 1, 1) := by decide +kernel
theorem d_CT_command_82 : decode prog_1_method_8_code 82 = .ok (.iload_n 3, 1) := by decide +kernel
theorem d_CT_command_83 : decode prog_1_method_8_code 83 = .ok (.iastore, 1) := by decide +kernel
theorem d_CT_command_84 : decode prog_1_method_8_code 84 = .ok (.iload 5, 2) := by decide +kernel
theorem d_CT_command_86 : decode prog_1_method_8_code 86 = .ok (.ireturn, 1) := by decide +kernel
theorem d_CT_lockout_0 : decode prog_1_method_9_code 0 = .ok (.aload_n 0, 1) := by decide +kernel
theorem d_CT_lockout_1 : decode prog_1_method_9_code 1 = .ok (.getfield 12, 3) := by decide +kernel
theorem d_CT_lockout_4 : decode prog_1_method_9_code 4 = .ok (.iload_n 1, 1) := by decide +kernel
theorem d_CT_lockout_5 : decode prog_1_method_9_code 5 = .ok (.iload_n 2, 1) := by decide +kernel
theorem d_CT_lockout_6 : decode prog_1_method_9_code 6 = .ok (.invokevirtual 85, 3) := by decide +kernel
theorem d_CT_lockout_9 : decode prog_1_method_9_code 9 = .ok (.invokestatic 57, 3) := by decide +kernel
theorem d_CT_lockout_12 : decode prog_1_method_9_code 12 = .ok (.iload_n 1, 1) := by decide +kernel
theorem d_CT_lockout_13 : decode prog_1_method_9_code 13 = .ok (.iload_n 2, 1) := by decide +kernel
theorem d_CT_lockout_14 : decode prog_1_method_9_code 14 = .ok (.invokestatic 89, 3) := by decide +kernel
theorem d_CT_lockout_17 : decode prog_1_method_9_code 17 = .ok (.istore 4, 2) := by decide +kernel
theorem d_CT_lockout_19 : decode prog_1_method_9_code 19 = .ok (.aload_n 0, 1) := by decide +kernel
theorem d_CT_lockout_20 : decode prog_1_method_9_code 20 = .ok (.getfield 12, 3) := by decide +kernel
theorem d_CT_lockout_23 : decode prog_1_method_9_code 23 = .ok (.getfield 135, 3) := by decide +kernel
theorem d_CT_lockout_26 : decode prog_1_method_9_code 26 = .ok (.iload 4, 2) := by decide +kernel
theorem d_CT_lockout_28 : decode prog_1_method_9_code 28 = .ok (.baload, 1) := by decide +kernel
theorem d_CT_lockout_29 : decode prog_1_method_9_code 29 = .ok (.istore 5, 2) := by decide +kernel
theorem d_CT_lockout_31 : decode prog_1_method_9_code 31 = .ok (.aload_n 0, 1) := by decide +kernel
theorem d_CT_lockout_32 : decode prog_1_method_9_code 32 = .ok (.getfield 12, 3) := by decide +kernel
theorem d_CT_lockout_35 : decode prog_1_method_9_code 35 = .ok (.getfield 135, 3) := by decide +kernel
theorem d_CT_lockout_38 : decode prog_1_method_9_code 38 = .ok (.iload 4, 2) := by decide +kernel
theorem d_CT_lockout_40 : decode prog_1_method_9_code 40 = .ok (.iload_n 3, 1) := by decide +kernel
theorem d_CT_lockout_41 : decode prog_1_method_9_code 41 = .ok (.bastore, 1) := by decide +kernel
theorem d_CT_lockout_42 : decode prog_1_method_9_code 42 = .ok (.iload 5, 2) := by decide +kernel
theorem d_CT_lockout_44 : decode prog_1_method_9_code 44 = .ok (.ireturn, 1) := by decide +kernel
theorem d_CT_fail_0 : decode prog_1_method_10_code 0 = .ok (.aload_n 0, 1) := by decide +kernel
theorem d_CT_fail_1 : decode prog_1_method_10_code 1 = .ok (.getfield 12, 3) := by decide +kernel
theorem d_CT_fail_4 : decode prog_1_method_10_code 4 = .ok (.iload_n 1, 1) := by decide +kernel
theorem d_CT_fail_5 : decode prog_1_method_10_code 5 = .ok (.invokevirtual 138, 3) := by decide +kernel
theorem d_CT_fail_8 : decode prog_1_method_10_code 8 = .ok (.invokestatic 57, 3) := by decide +kernel
theorem d_CT_fail_11 : decode prog_1_method_10_code 11 = .ok (.aload_n 0, 1) := by decide +kernel
theorem d_CT_fail_12 : decode prog_1_method_10_code 12 = .ok (.getfield 21, 3) := by decide +kernel
theorem d_CT_fail_15 : decode prog_1_method_10_code 15 = .ok (.iload_n 1, 1) := by decide +kernel
theorem d_CT_fail_16 : decode prog_1_method_10_code 16 = .ok (.invokevirtual 141, 3) := by decide +kernel
theorem d_CT_fail_19 : decode prog_1_method_10_code 19 = .ok (.ifCond .ne 7, 3) := by decide +kernel
theorem d_CT_fail_22 : decode prog_1_method_10_code 22 = .ok (.iconst 1, 1) := by decide +kernel
theorem d_CT_fail_23 : decode prog_1_method_10_code 23 = .ok (.goto 4, 3) := by decide +kernel
theorem d_CT_fail_26 : decode prog_1_method_10_code 26 = .ok (.iconst 0, 1) := by decide +kernel
theorem d_CT_fail_27 : decode prog_1_method_10_code 27 = .ok (.istore_n 3, 1) := by decide +kernel
theorem d_CT_fail_28 : decode prog_1_method_10_code 28 = .ok (.aload_n 0, 1) := by decide +kernel
theorem d_CT_fail_29 : decode prog_1_method_10_code 29 = .ok (.getfield 21, 3) := by decide +kernel
theorem d_CT_fail_32 : decode prog_1_method_10_code 32 = .ok (.iload_n 1, 1) := by decide +kernel
theorem d_CT_fail_33 : decode prog_1_method_10_code 33 = .ok (.iload_n 2, 1) := by decide +kernel
theorem d_CT_fail_34 : decode prog_1_method_10_code 34 = .ok (.invokevirtual 144, 3) := by decide +kernel
theorem d_CT_fail_37 : decode prog_1_method_10_code 37 = .ok (.iload_n 3, 1) := by decide +kernel
theorem d_CT_fail_38 : decode prog_1_method_10_code 38 = .ok (.ireturn, 1) := by decide +kernel
theorem d_Pl_isLink_0 : decode prog_5_method_4_code 0 = .ok (.iload_n 1, 1) := by decide +kernel
theorem d_Pl_isLink_1 : decode prog_5_method_4_code 1 = .ok (.iconst 0, 1) := by decide +kernel
theorem d_Pl_isLink_2 : decode prog_5_method_4_code 2 = .ok (.aload_n 0, 1) := by decide +kernel
theorem d_Pl_isLink_3 : decode prog_5_method_4_code 3 = .ok (.getfield 55, 3) := by decide +kernel
theorem d_Pl_isLink_6 : decode prog_5_method_4_code 6 = .ok (.iconst 1, 1) := by decide +kernel
theorem d_Pl_isLink_7 : decode prog_5_method_4_code 7 = .ok (.isub, 1) := by decide +kernel
theorem d_Pl_isLink_8 : decode prog_5_method_4_code 8 = .ok (.invokestatic 69, 3) := by decide +kernel
theorem d_Pl_isLink_11 : decode prog_5_method_4_code 11 = .ok (.ireturn, 1) := by decide +kernel
theorem d_CT_failElement_0 : decode prog_1_method_11_code 0 = .ok (.aload_n 0, 1) := by decide +kernel
theorem d_CT_failElement_1 : decode prog_1_method_11_code 1 = .ok (.getfield 12, 3) := by decide +kernel
theorem d_CT_failElement_4 : decode prog_1_method_11_code 4 = .ok (.iload_n 1, 1) := by decide +kernel
theorem d_CT_failElement_5 : decode prog_1_method_11_code 5 = .ok (.invokevirtual 119, 3) := by decide +kernel
theorem d_CT_failElement_8 : decode prog_1_method_11_code 8 = .ok (.invokestatic 57, 3) := by decide +kernel
theorem d_CT_failElement_11 : decode prog_1_method_11_code 11 = .ok (.aload_n 0, 1) := by decide +kernel
theorem d_CT_failElement_12 : decode prog_1_method_11_code 12 = .ok (.getfield 21, 3) := by decide +kernel
theorem d_CT_failElement_15 : decode prog_1_method_11_code 15 = .ok (.iload_n 1, 1) := by decide +kernel
theorem d_CT_failElement_16 : decode prog_1_method_11_code 16 = .ok (.invokevirtual 148, 3) := by decide +kernel
theorem d_CT_failElement_19 : decode prog_1_method_11_code 19 = .ok (.ifCond .ne 7, 3) := by decide +kernel
theorem d_CT_failElement_22 : decode prog_1_method_11_code 22 = .ok (.iconst 1, 1) := by decide +kernel
theorem d_CT_failElement_23 : decode prog_1_method_11_code 23 = .ok (.goto 4, 3) := by decide +kernel
theorem d_CT_failElement_26 : decode prog_1_method_11_code 26 = .ok (.iconst 0, 1) := by decide +kernel
theorem d_CT_failElement_27 : decode prog_1_method_11_code 27 = .ok (.istore_n 3, 1) := by decide +kernel
theorem d_CT_failElement_28 : decode prog_1_method_11_code 28 = .ok (.aload_n 0, 1) := by decide +kernel
theorem d_CT_failElement_29 : decode prog_1_method_11_code 29 = .ok (.getfield 21, 3) := by decide +kernel
theorem d_CT_failElement_32 : decode prog_1_method_11_code 32 = .ok (.iload_n 1, 1) := by decide +kernel
theorem d_CT_failElement_33 : decode prog_1_method_11_code 33 = .ok (.iload_n 2, 1) := by decide +kernel
theorem d_CT_failElement_34 : decode prog_1_method_11_code 34 = .ok (.invokevirtual 151, 3) := by decide +kernel
theorem d_CT_failElement_37 : decode prog_1_method_11_code 37 = .ok (.iload_n 3, 1) := by decide +kernel
theorem d_CT_failElement_38 : decode prog_1_method_11_code 38 = .ok (.ireturn, 1) := by decide +kernel
theorem d_CT_lose_0 : decode prog_1_method_12_code 0 = .ok (.aload_n 0, 1) := by decide +kernel
theorem d_CT_lose_1 : decode prog_1_method_12_code 1 = .ok (.getfield 12, 3) := by decide +kernel
theorem d_CT_lose_4 : decode prog_1_method_12_code 4 = .ok (.iload_n 1, 1) := by decide +kernel
theorem d_CT_lose_5 : decode prog_1_method_12_code 5 = .ok (.invokevirtual 138, 3) := by decide +kernel
theorem d_CT_lose_8 : decode prog_1_method_12_code 8 = .ok (.invokestatic 57, 3) := by decide +kernel
theorem d_CT_lose_11 : decode prog_1_method_12_code 11 = .ok (.aload_n 0, 1) := by decide +kernel
theorem d_CT_lose_12 : decode prog_1_method_12_code 12 = .ok (.getfield 12, 3) := by decide +kernel
theorem d_CT_lose_15 : decode prog_1_method_12_code 15 = .ok (.getfield 154, 3) := by decide +kernel
theorem d_CT_lose_18 : decode prog_1_method_12_code 18 = .ok (.iload_n 1, 1) := by decide +kernel
theorem d_CT_lose_19 : decode prog_1_method_12_code 19 = .ok (.iaload, 1) := by decide +kernel
theorem d_CT_lose_20 : decode prog_1_method_12_code 20 = .ok (.istore_n 3, 1) := by decide +kernel
theorem d_CT_lose_21 : decode prog_1_method_12_code 21 = .ok (.aload_n 0, 1) := by decide +kernel
theorem d_CT_lose_22 : decode prog_1_method_12_code 22 = .ok (.getfield 21, 3) := by decide +kernel
theorem d_CT_lose_25 : decode prog_1_method_12_code 25 = .ok (.iload_n 2, 1) := by decide +kernel
theorem d_CT_lose_26 : decode prog_1_method_12_code 26 = .ok (.ifCond .eq 15, 3) := by decide +kernel
theorem d_CT_lose_29 : decode prog_1_method_12_code 29 = .ok (.aload_n 0, 1) := by decide +kernel
theorem d_CT_lose_30 : decode prog_1_method_12_code 30 = .ok (.getfield 12, 3) := by decide +kernel
theorem d_CT_lose_33 : decode prog_1_method_12_code 33 = .ok (.getfield 157, 3) := by decide +kernel
theorem d_CT_lose_36 : decode prog_1_method_12_code 36 = .ok (.iload_n 3, 1) := by decide +kernel
theorem d_CT_lose_37 : decode prog_1_method_12_code 37 = .ok (.iaload, 1) := by decide +kernel
theorem d_CT_lose_38 : decode prog_1_method_12_code 38 = .ok (.goto 4, 3) := by decide +kernel
theorem d_CT_lose_41 : decode prog_1_method_12_code 41 = .ok (.iload_n 3, 1) := by decide +kernel
theorem d_CT_lose_42 : decode prog_1_method_12_code 42 = .ok (.invokevirtual 160, 3) := by decide +kernel
theorem d_CT_lose_45 : decode prog_1_method_12_code 45 = .ok (.return_, 1) := by decide +kernel
theorem d_Fl_loseFrom_0 : decode prog_4_method_9_code 0 = .ok (.aload_n 0, 1) := by decide +kernel
theorem d_Fl_loseFrom_1 : decode prog_4_method_9_code 1 = .ok (.dup, 1) := by decide +kernel
theorem d_Fl_loseFrom_2 : decode prog_4_method_9_code 2 = .ok (.getfield 53, 3) := by decide +kernel
theorem d_Fl_loseFrom_5 : decode prog_4_method_9_code 5 = .ok (.lconst 1, 1) := by decide +kernel
theorem d_Fl_loseFrom_6 : decode prog_4_method_9_code 6 = .ok (.iload_n 1, 1) := by decide +kernel
theorem d_Fl_loseFrom_7 : decode prog_4_method_9_code 7 = .ok (.lshl, 1) := by decide +kernel
theorem d_Fl_loseFrom_8 : decode prog_4_method_9_code 8 = .ok (.lor, 1) := by decide +kernel
theorem d_Fl_loseFrom_9 : decode prog_4_method_9_code 9 = .ok (.putfield 53, 3) := by decide +kernel
theorem d_Fl_loseFrom_12 : decode prog_4_method_9_code 12 = .ok (.return_, 1) := by decide +kernel
theorem d_CT_rounds_0 : decode prog_1_method_13_code 0 = .ok (.iload_n 1, 1) := by decide +kernel
theorem d_CT_rounds_1 : decode prog_1_method_13_code 1 = .ok (.iconst 1, 1) := by decide +kernel
theorem d_CT_rounds_2 : decode prog_1_method_13_code 2 = .ok (.sipush 200, 3) := by decide +kernel
theorem d_CT_rounds_5 : decode prog_1_method_13_code 5 = .ok (.invokestatic 53, 3) := by decide +kernel
theorem d_CT_rounds_8 : decode prog_1_method_13_code 8 = .ok (.invokestatic 57, 3) := by decide +kernel
theorem d_CT_rounds_11 : decode prog_1_method_13_code 11 = .ok (.iconst 0, 1) := by decide +kernel
theorem d_CT_rounds_12 : decode prog_1_method_13_code 12 = .ok (.istore_n 2, 1) := by decide +kernel
theorem d_CT_rounds_13 : decode prog_1_method_13_code 13 = .ok (.iload_n 2, 1) := by decide +kernel
theorem d_CT_rounds_14 : decode prog_1_method_13_code 14 = .ok (.iload_n 1, 1) := by decide +kernel
theorem d_CT_rounds_15 : decode prog_1_method_13_code 15 = .ok (.if_icmp .ge 42, 3) := by decide +kernel
theorem d_CT_rounds_18 : decode prog_1_method_13_code 18 = .ok (.aload_n 0, 1) := by decide +kernel
theorem d_CT_rounds_19 : decode prog_1_method_13_code 19 = .ok (.getfield 21, 3) := by decide +kernel
theorem d_CT_rounds_22 : decode prog_1_method_13_code 22 = .ok (.invokevirtual 164, 3) := by decide +kernel
theorem d_CT_rounds_25 : decode prog_1_method_13_code 25 = .ok (.aload_n 0, 1) := by decide +kernel
theorem d_CT_rounds_26 : decode prog_1_method_13_code 26 = .ok (.getfield 31, 3) := by decide +kernel
theorem d_CT_rounds_29 : decode prog_1_method_13_code 29 = .ok (.aload_n 0, 1) := by decide +kernel
theorem d_CT_rounds_30 : decode prog_1_method_13_code 30 = .ok (.getfield 12, 3) := by decide +kernel
theorem d_CT_rounds_33 : decode prog_1_method_13_code 33 = .ok (.aload_n 0, 1) := by decide +kernel
theorem d_CT_rounds_34 : decode prog_1_method_13_code 34 = .ok (.getfield 21, 3) := by decide +kernel
theorem d_CT_rounds_37 : decode prog_1_method_13_code 37 = .ok (.invokevirtual 167, 3) := by decide +kernel
theorem d_CT_rounds_40 : decode prog_1_method_13_code 40 = .ok (.aload_n 0, 1) := by decide +kernel
theorem d_CT_rounds_41 : decode prog_1_method_13_code 41 = .ok (.getfield 38, 3) := by decide +kernel
theorem d_CT_rounds_44 : decode prog_1_method_13_code 44 = .ok (.aload_n 0, 1) := by decide +kernel
theorem d_CT_rounds_45 : decode prog_1_method_13_code 45 = .ok (.getfield 21, 3) := by decide +kernel
theorem d_CT_rounds_48 : decode prog_1_method_13_code 48 = .ok (.invokevirtual 170, 3) := by decide +kernel
theorem d_CT_rounds_51 : decode prog_1_method_13_code 51 = .ok (.iinc 2 1, 3) := by decide +kernel
theorem d_CT_rounds_54 : decode prog_1_method_13_code 54 = .ok (.goto (-41), 3) := by decide +kernel
theorem d_CT_rounds_57 : decode prog_1_method_13_code 57 = .ok (.aload_n 0, 1) := by decide +kernel
theorem d_CT_rounds_58 : decode prog_1_method_13_code 58 = .ok (.getfield 38, 3) := by decide +kernel
theorem d_CT_rounds_61 : decode prog_1_method_13_code 61 = .ok (.getfield 173, 3) := by decide +kernel
theorem d_CT_rounds_64 : decode prog_1_method_13_code 64 = .ok (.ireturn, 1) := by decide +kernel
theorem d_Ck_passRound_0 : decode prog_3_method_3_code 0 = .ok (.iconst 0, 1) := by decide +kernel
theorem d_Ck_passRound_1 : decode prog_3_method_3_code 1 = .ok (.istore_n 3, 1) := by decide +kernel
theorem d_Ck_passRound_2 : decode prog_3_method_3_code 2 = .ok (.iload_n 3, 1) := by decide +kernel
theorem d_Ck_passRound_3 : decode prog_3_method_3_code 3 = .ok (.bipush 16, 2) := by decide +kernel
theorem d_Ck_passRound_5 : decode prog_3_method_3_code 5 = .ok (.if_icmp .ge 39, 3) := by decide +kernel
theorem d_Ck_passRound_8 : decode prog_3_method_3_code 8 = .ok (.aload_n 0, 1) := by decide +kernel
theorem d_Ck_passRound_9 : decode prog_3_method_3_code 9 = .ok (.getfield 18, 3) := by decide +kernel
theorem d_Ck_passRound_12 : decode prog_3_method_3_code 12 = .ok (.iload_n 3, 1) := by decide +kernel
theorem d_Ck_passRound_13 : decode prog_3_method_3_code 13 = .ok (.aload_n 2, 1) := by decide +kernel
theorem d_Ck_passRound_14 : decode prog_3_method_3_code 14 = .ok (.iload_n 3, 1) := by decide +kernel
theorem d_Ck_passRound_15 : decode prog_3_method_3_code 15 = .ok (.invokevirtual 25, 3) := by decide +kernel
theorem d_Ck_passRound_18 : decode prog_3_method_3_code 18 = .ok (.ifCond .eq 13, 3) := by decide +kernel
theorem d_Ck_passRound_21 : decode prog_3_method_3_code 21 = .ok (.aload_n 0, 1) := by decide +kernel
theorem d_Ck_passRound_22 : decode prog_3_method_3_code 22 = .ok (.iload_n 3, 1) := by decide +kernel
theorem d_Ck_passRound_23 : decode prog_3_method_3_code 23 = .ok (.aload_n 1, 1) := by decide +kernel
theorem d_Ck_passRound_24 : decode prog_3_method_3_code 24 = .ok (.aload_n 2, 1) := by decide +kernel
theorem d_Ck_passRound_25 : decode prog_3_method_3_code 25 = .ok (.invokevirtual 31, 3) := by decide +kernel
theorem d_Ck_passRound_28 : decode prog_3_method_3_code 28 = .ok (.goto 9, 3) := by decide +kernel
theorem d_Ck_passRound_31 : decode prog_3_method_3_code 31 = .ok (.aload_n 0, 1) := by decide +kernel
theorem d_Ck_passRound_32 : decode prog_3_method_3_code 32 = .ok (.getfield 9, 3) := by decide +kernel
theorem d_Ck_passRound_35 : decode prog_3_method_3_code 35 = .ok (.iload_n 3, 1) := by decide +kernel
theorem d_Ck_passRound_36 : decode prog_3_method_3_code 36 = .ok (.iaload, 1) := by decide +kernel
theorem d_Ck_passRound_37 : decode prog_3_method_3_code 37 = .ok (.iastore, 1) := by decide +kernel
theorem d_Ck_passRound_38 : decode prog_3_method_3_code 38 = .ok (.iinc 3 1, 3) := by decide +kernel
theorem d_Ck_passRound_41 : decode prog_3_method_3_code 41 = .ok (.goto (-39), 3) := by decide +kernel
theorem d_Ck_passRound_44 : decode prog_3_method_3_code 44 = .ok (.iconst 0, 1) := by decide +kernel
theorem d_Ck_passRound_45 : decode prog_3_method_3_code 45 = .ok (.istore_n 3, 1) := by decide +kernel
theorem d_Ck_passRound_46 : decode prog_3_method_3_code 46 = .ok (.iload_n 3, 1) := by decide +kernel
theorem d_Ck_passRound_47 : decode prog_3_method_3_code 47 = .ok (.bipush 16, 2) := by decide +kernel
theorem d_Ck_passRound_49 : decode prog_3_method_3_code 49 = .ok (.if_icmp .ge 57, 3) := by decide +kernel
theorem d_Ck_passRound_52 : decode prog_3_method_3_code 52 = .ok (.aload_n 0, 1) := by decide +kernel
theorem d_Ck_passRound_53 : decode prog_3_method_3_code 53 = .ok (.getfield 15, 3) := by decide +kernel
theorem d_Ck_passRound_56 : decode prog_3_method_3_code 56 = .ok (.iload_n 3, 1) := by decide +kernel
theorem d_Ck_passRound_57 : decode prog_3_method_3_code 57 = .ok (.aload_n 0, 1) := by decide +kernel
theorem d_Ck_passRound_58 : decode prog_3_method_3_code 58 = .ok (.getfield 9, 3) := by decide +kernel
theorem d_Ck_passRound_61 : decode prog_3_method_3_code 61 = .ok (.iload_n 3, 1) := by decide +kernel
theorem d_Ck_passRound_62 : decode prog_3_method_3_code 62 = .ok (.iaload, 1) := by decide +kernel
theorem d_Ck_passRound_63 : decode prog_3_method_3_code 63 = .ok (.iastore, 1) := by decide +kernel
theorem d_Ck_passRound_64 : decode prog_3_method_3_code 64 = .ok (.aload_n 0, 1) := by decide +kernel
theorem d_Ck_passRound_65 : decode prog_3_method_3_code 65 = .ok (.getfield 9, 3) := by decide +kernel
theorem d_Ck_passRound_68 : decode prog_3_method_3_code 68 = .ok (.iload_n 3, 1) := by decide +kernel
theorem d_Ck_passRound_69 : decode prog_3_method_3_code 69 = .ok (.aload_n 0, 1) := by decide +kernel
theorem d_Ck_passRound_70 : decode prog_3_method_3_code 70 = .ok (.getfield 18, 3) := by decide +kernel
theorem d_Ck_passRound_73 : decode prog_3_method_3_code 73 = .ok (.iload_n 3, 1) := by decide +kernel
theorem d_Ck_passRound_74 : decode prog_3_method_3_code 74 = .ok (.iaload, 1) := by decide +kernel
theorem d_Ck_passRound_75 : decode prog_3_method_3_code 75 = .ok (.iastore, 1) := by decide +kernel
theorem d_Ck_passRound_76 : decode prog_3_method_3_code 76 = .ok (.aload_n 2, 1) := by decide +kernel
theorem d_Ck_passRound_77 : decode prog_3_method_3_code 77 = .ok (.iload_n 3, 1) := by decide +kernel
theorem d_Ck_passRound_78 : decode prog_3_method_3_code 78 = .ok (.invokevirtual 25, 3) := by decide +kernel
theorem d_Ck_passRound_81 : decode prog_3_method_3_code 81 = .ok (.ifCond .eq 19, 3) := by decide +kernel
theorem d_Ck_passRound_84 : decode prog_3_method_3_code 84 = .ok (.aload_n 0, 1) := by decide +kernel
theorem d_Ck_passRound_85 : decode prog_3_method_3_code 85 = .ok (.getfield 21, 3) := by decide +kernel
theorem d_Ck_passRound_88 : decode prog_3_method_3_code 88 = .ok (.iload_n 3, 1) := by decide +kernel
theorem d_Ck_passRound_89 : decode prog_3_method_3_code 89 = .ok (.dup2, 1) := by decide +kernel
theorem d_Ck_passRound_90 : decode prog_3_method_3_code 90 = .ok (.laload, 1) := by decide +kernel
theorem d_Ck_passRound_91 : decode prog_3_method_3_code 91 = .ok (.aload_n 0, 1) := by decide +kernel
theorem d_Ck_passRound_92 : decode prog_3_method_3_code 92 = .ok (.getfield 9, 3) := by decide +kernel
theorem d_Ck_passRound_95 : decode prog_3_method_3_code 95 = .ok (.iload_n 3, 1) := by decide +kernel
theorem d_Ck_passRound_96 : decode prog_3_method_3_code 96 = .ok (.iaload, 1) := by decide +kernel
theorem d_Ck_passRound_97 : decode prog_3_method_3_code 97 = .ok (.i2l, 1) := by decide +kernel
theorem d_Ck_passRound_98 : decode prog_3_method_3_code 98 = .ok (.ladd, 1) := by decide +kernel
theorem d_Ck_passRound_99 : decode prog_3_method_3_code 99 = .ok (.lastore, 1) := by decide +kernel
theorem d_Ck_passRound_100 : decode prog_3_method_3_code 100 = .ok (.iinc 3 1, 3) := by decide +kernel
theorem d_Ck_passRound_103 : decode prog_3_method_3_code 103 = .ok (.goto (-57), 3) := by decide +kernel
theorem d_Ck_passRound_106 : decode prog_3_method_3_code 106 = .ok (.return_, 1) := by decide +kernel
theorem d_Ck_offsetAfter_0 : decode prog_3_method_4_code 0 = .ok (.aload_n 3, 1) := by decide +kernel
theorem d_Ck_offsetAfter_1 : decode prog_3_method_4_code 1 = .ok (.iload_n 1, 1) := by decide +kernel
theorem d_Ck_offsetAfter_2 : decode prog_3_method_4_code 2 = .ok (.invokevirtual 35, 3) := by decide +kernel
theorem d_Ck_offsetAfter_5 : decode prog_3_method_4_code 5 = .ok (.ifCond .eq 64, 3) := by decide +kernel
theorem d_Ck_offsetAfter_8 : decode prog_3_method_4_code 8 = .ok (.iload_n 1, 1) := by decide +kernel
theorem d_Ck_offsetAfter_9 : decode prog_3_method_4_code 9 = .ok (.aload_n 3, 1) := by decide +kernel
theorem d_Ck_offsetAfter_10 : decode prog_3_method_4_code 10 = .ok (.getfield 38, 3) := by decide +kernel
theorem d_Ck_offsetAfter_13 : decode prog_3_method_4_code 13 = .ok (.iload_n 1, 1) := by decide +kernel
theorem d_Ck_offsetAfter_14 : decode prog_3_method_4_code 14 = .ok (.iaload, 1) := by decide +kernel
theorem d_Ck_offsetAfter_15 : decode prog_3_method_4_code 15 = .ok (.invokestatic 41, 3) := by decide +kernel
theorem d_Ck_offsetAfter_18 : decode prog_3_method_4_code 18 = .ok (.istore 4, 2) := by decide +kernel
theorem d_Ck_offsetAfter_20 : decode prog_3_method_4_code 20 = .ok (.aload_n 2, 1) := by decide +kernel
theorem d_Ck_offsetAfter_21 : decode prog_3_method_4_code 21 = .ok (.getfield 45, 3) := by decide +kernel
theorem d_Ck_offsetAfter_24 : decode prog_3_method_4_code 24 = .ok (.iload 4, 2) := by decide +kernel
theorem d_Ck_offsetAfter_26 : decode prog_3_method_4_code 26 = .ok (.iaload, 1) := by decide +kernel
theorem d_Ck_offsetAfter_27 : decode prog_3_method_4_code 27 = .ok (.iconst (-1), 1) := by decide +kernel
theorem d_Ck_offsetAfter_28 : decode prog_3_method_4_code 28 = .ok (.if_icmp .eq 7, 3) := by decide +kernel
theorem d_Ck_offsetAfter_31 : decode prog_3_method_4_code 31 = .ok (.iconst 1, 1) := by decide +kernel
theorem d_Ck_offsetAfter_32 : decode prog_3_method_4_code 32 = .ok (.goto 4, 3) := by decide +kernel
theorem d_Ck_offsetAfter_35 : decode prog_3_method_4_code 35 = .ok (.iconst 0, 1) := by decide +kernel
theorem d_Ck_offsetAfter_36 : decode prog_3_method_4_code 36 = .ok (.istore 5, 2) := by decide +kernel
theorem d_Ck_offsetAfter_38 : decode prog_3_method_4_code 38 = .ok (.iload 5, 2) := by decide +kernel
theorem d_Ck_offsetAfter_40 : decode prog_3_method_4_code 40 = .ok (.ifCond .eq 21, 3) := by decide +kernel
theorem d_Ck_offsetAfter_43 : decode prog_3_method_4_code 43 = .ok (.aload_n 0, 1) := by decide +kernel
theorem d_Ck_offsetAfter_44 : decode prog_3_method_4_code 44 = .ok (.getfield 15, 3) := by decide +kernel
theorem d_Ck_offsetAfter_47 : decode prog_3_method_4_code 47 = .ok (.aload_n 2, 1) := by decide +kernel
theorem d_Ck_offsetAfter_48 : decode prog_3_method_4_code 48 = .ok (.getfield 50, 3) := by decide +kernel
theorem d_Ck_offsetAfter_51 : decode prog_3_method_4_code 51 = .ok (.iload 4, 2) := by decide +kernel
theorem d_Ck_offsetAfter_53 : decode prog_3_method_4_code 53 = .ok (.iaload, 1) := by decide +kernel
theorem d_Ck_offsetAfter_54 : decode prog_3_method_4_code 54 = .ok (.invokestatic 53, 3) := by decide +kernel
theorem d_Ck_offsetAfter_57 : decode prog_3_method_4_code 57 = .ok (.iaload, 1) := by decide +kernel
theorem d_Ck_offsetAfter_58 : decode prog_3_method_4_code 58 = .ok (.goto 10, 3) := by decide +kernel
theorem d_Ck_offsetAfter_61 : decode prog_3_method_4_code 61 = .ok (.aload_n 2, 1) := by decide +kernel
theorem d_Ck_offsetAfter_62 : decode prog_3_method_4_code 62 = .ok (.getfield 57, 3) := by decide +kernel
theorem d_Ck_offsetAfter_65 : decode prog_3_method_4_code 65 = .ok (.iload 4, 2) := by decide +kernel
theorem d_Ck_offsetAfter_67 : decode prog_3_method_4_code 67 = .ok (.iaload, 1) := by decide +kernel
theorem d_Ck_offsetAfter_68 : decode prog_3_method_4_code 68 = .ok (.ireturn, 1) := by decide +kernel
theorem d_Ck_offsetAfter_69 : decode prog_3_method_4_code 69 = .ok (.aload_n 3, 1) := by decide +kernel
theorem d_Ck_offsetAfter_70 : decode prog_3_method_4_code 70 = .ok (.getfield 60, 3) := by decide +kernel
theorem d_Ck_offsetAfter_73 : decode prog_3_method_4_code 73 = .ok (.iload_n 1, 1) := by decide +kernel
theorem d_Ck_offsetAfter_74 : decode prog_3_method_4_code 74 = .ok (.iaload, 1) := by decide +kernel
theorem d_Ck_offsetAfter_75 : decode prog_3_method_4_code 75 = .ok (.iconst 2, 1) := by decide +kernel
theorem d_Ck_offsetAfter_76 : decode prog_3_method_4_code 76 = .ok (.if_icmp .ne 19, 3) := by decide +kernel
theorem d_Ck_offsetAfter_79 : decode prog_3_method_4_code 79 = .ok (.aload_n 0, 1) := by decide +kernel
theorem d_Ck_offsetAfter_80 : decode prog_3_method_4_code 80 = .ok (.getfield 9, 3) := by decide +kernel
theorem d_Ck_offsetAfter_83 : decode prog_3_method_4_code 83 = .ok (.iload_n 1, 1) := by decide +kernel
theorem d_Ck_offsetAfter_84 : decode prog_3_method_4_code 84 = .ok (.iaload, 1) := by decide +kernel
theorem d_Ck_offsetAfter_85 : decode prog_3_method_4_code 85 = .ok (.aload_n 2, 1) := by decide +kernel
theorem d_Ck_offsetAfter_86 : decode prog_3_method_4_code 86 = .ok (.getfield 63, 3) := by decide +kernel
theorem d_Ck_offsetAfter_89 : decode prog_3_method_4_code 89 = .ok (.iload_n 1, 1) := by decide +kernel
theorem d_Ck_offsetAfter_90 : decode prog_3_method_4_code 90 = .ok (.iaload, 1) := by decide +kernel
theorem d_Ck_offsetAfter_91 : decode prog_3_method_4_code 91 = .ok (.iadd, 1) := by decide +kernel
theorem d_Ck_offsetAfter_92 : decode prog_3_method_4_code 92 = .ok (.goto 9, 3) := by decide +kernel
theorem d_Ck_offsetAfter_95 : decode prog_3_method_4_code 95 = .ok (.aload_n 2, 1) := by decide +kernel
theorem d_Ck_offsetAfter_96 : decode prog_3_method_4_code 96 = .ok (.getfield 66, 3) := by decide +kernel
theorem d_Ck_offsetAfter_99 : decode prog_3_method_4_code 99 = .ok (.iload_n 1, 1) := by decide +kernel
theorem d_Ck_offsetAfter_100 : decode prog_3_method_4_code 100 = .ok (.iaload, 1) := by decide +kernel
theorem d_Ck_offsetAfter_101 : decode prog_3_method_4_code 101 = .ok (.ireturn, 1) := by decide +kernel
theorem d_Ca_passRound_0 : decode prog_2_method_2_code 0 = .ok (.iconst 1, 1) := by decide +kernel
theorem d_Ca_passRound_1 : decode prog_2_method_2_code 1 = .ok (.istore_n 2, 1) := by decide +kernel
theorem d_Ca_passRound_2 : decode prog_2_method_2_code 2 = .ok (.iconst 0, 1) := by decide +kernel
theorem d_Ca_passRound_3 : decode prog_2_method_2_code 3 = .ok (.istore_n 3, 1) := by decide +kernel
theorem d_Ca_passRound_4 : decode prog_2_method_2_code 4 = .ok (.iload_n 3, 1) := by decide +kernel
theorem d_Ca_passRound_5 : decode prog_2_method_2_code 5 = .ok (.bipush 16, 2) := by decide +kernel
theorem d_Ca_passRound_7 : decode prog_2_method_2_code 7 = .ok (.if_icmp .ge 63, 3) := by decide +kernel
theorem d_Ca_passRound_10 : decode prog_2_method_2_code 10 = .ok (.aload_n 0, 1) := by decide +kernel
theorem d_Ca_passRound_11 : decode prog_2_method_2_code 11 = .ok (.getfield 9, 3) := by decide +kernel
theorem d_Ca_passRound_14 : decode prog_2_method_2_code 14 = .ok (.iload_n 3, 1) := by decide +kernel
theorem d_Ca_passRound_15 : decode prog_2_method_2_code 15 = .ok (.iaload, 1) := by decide +kernel
theorem d_Ca_passRound_16 : decode prog_2_method_2_code 16 = .ok (.aload_n 1, 1) := by decide +kernel
theorem d_Ca_passRound_17 : decode prog_2_method_2_code 17 = .ok (.iload_n 3, 1) := by decide +kernel
theorem d_Ca_passRound_18 : decode prog_2_method_2_code 18 = .ok (.invokevirtual 28, 3) := by decide +kernel
theorem d_Ca_passRound_21 : decode prog_2_method_2_code 21 = .ok (.if_icmp .ne 18, 3) := by decide +kernel
theorem d_Ca_passRound_24 : decode prog_2_method_2_code 24 = .ok (.aload_n 0, 1) := by decide +kernel
theorem d_Ca_passRound_25 : decode prog_2_method_2_code 25 = .ok (.getfield 15, 3) := by decide +kernel
theorem d_Ca_passRound_28 : decode prog_2_method_2_code 28 = .ok (.iload_n 3, 1) := by decide +kernel
theorem d_Ca_passRound_29 : decode prog_2_method_2_code 29 = .ok (.iaload, 1) := by decide +kernel
theorem d_Ca_passRound_30 : decode prog_2_method_2_code 30 = .ok (.aload_n 1, 1) := by decide +kernel
theorem d_Ca_passRound_31 : decode prog_2_method_2_code 31 = .ok (.getfield 34, 3) := by decide +kernel
theorem d_Ca_passRound_34 : decode prog_2_method_2_code 34 = .ok (.iload_n 3, 1) := by decide +kernel
theorem d_Ca_passRound_35 : decode prog_2_method_2_code 35 = .ok (.iaload, 1) := by decide +kernel
theorem d_Ca_passRound_36 : decode prog_2_method_2_code 36 = .ok (.if_icmp .eq 5, 3) := by decide +kernel
theorem d_Ca_passRound_39 : decode prog_2_method_2_code 39 = .ok (.iconst 0, 1) := by decide +kernel
theorem d_Ca_passRound_40 : decode prog_2_method_2_code 40 = .ok (.istore_n 2, 1) := by decide +kernel
theorem d_Ca_passRound_41 : decode prog_2_method_2_code 41 = .ok (.aload_n 0, 1) := by decide +kernel
theorem d_Ca_passRound_42 : decode prog_2_method_2_code 42 = .ok (.getfield 9, 3) := by decide +kernel
theorem d_Ca_passRound_45 : decode prog_2_method_2_code 45 = .ok (.iload_n 3, 1) := by decide +kernel
theorem d_Ca_passRound_46 : decode prog_2_method_2_code 46 = .ok (.aload_n 1, 1) := by decide +kernel
theorem d_Ca_passRound_47 : decode prog_2_method_2_code 47 = .ok (.iload_n 3, 1) := by decide +kernel
theorem d_Ca_passRound_48 : decode prog_2_method_2_code 48 = .ok (.invokevirtual 28, 3) := by decide +kernel
theorem d_Ca_passRound_51 : decode prog_2_method_2_code 51 = .ok (.iastore, 1) := by decide +kernel
theorem d_Ca_passRound_52 : decode prog_2_method_2_code 52 = .ok (.aload_n 0, 1) := by decide +kernel
theorem d_Ca_passRound_53 : decode prog_2_method_2_code 53 = .ok (.getfield 15, 3) := by decide +kernel
theorem d_Ca_passRound_56 : decode prog_2_method_2_code 56 = .ok (.iload_n 3, 1) := by decide +kernel
theorem d_Ca_passRound_57 : decode prog_2_method_2_code 57 = .ok (.aload_n 1, 1) := by decide +kernel
theorem d_Ca_passRound_58 : decode prog_2_method_2_code 58 = .ok (.getfield 34, 3) := by decide +kernel
theorem d_Ca_passRound_61 : decode prog_2_method_2_code 61 = .ok (.iload_n 3, 1) := by decide +kernel
theorem d_Ca_passRound_62 : decode prog_2_method_2_code 62 = .ok (.iaload, 1) := by decide +kernel
theorem d_Ca_passRound_63 : decode prog_2_method_2_code 63 = .ok (.iastore, 1) := by decide +kernel
theorem d_Ca_passRound_64 : decode prog_2_method_2_code 64 = .ok (.iinc 3 1, 3) := by decide +kernel
theorem d_Ca_passRound_67 : decode prog_2_method_2_code 67 = .ok (.goto (-63), 3) := by decide +kernel
theorem d_Ca_passRound_70 : decode prog_2_method_2_code 70 = .ok (.aload_n 0, 1) := by decide +kernel
theorem d_Ca_passRound_71 : decode prog_2_method_2_code 71 = .ok (.iload_n 2, 1) := by decide +kernel
theorem d_Ca_passRound_72 : decode prog_2_method_2_code 72 = .ok (.ifCond .eq 12, 3) := by decide +kernel
theorem d_Ca_passRound_75 : decode prog_2_method_2_code 75 = .ok (.aload_n 0, 1) := by decide +kernel
theorem d_Ca_passRound_76 : decode prog_2_method_2_code 76 = .ok (.getfield 18, 3) := by decide +kernel
theorem d_Ca_passRound_79 : decode prog_2_method_2_code 79 = .ok (.iconst 1, 1) := by decide +kernel
theorem d_Ca_passRound_80 : decode prog_2_method_2_code 80 = .ok (.iadd, 1) := by decide +kernel
theorem d_Ca_passRound_81 : decode prog_2_method_2_code 81 = .ok (.goto 4, 3) := by decide +kernel
theorem d_Ca_passRound_84 : decode prog_2_method_2_code 84 = .ok (.iconst 0, 1) := by decide +kernel
theorem d_Ca_passRound_85 : decode prog_2_method_2_code 85 = .ok (.putfield 18, 3) := by decide +kernel
theorem d_Ca_passRound_88 : decode prog_2_method_2_code 88 = .ok (.return_, 1) := by decide +kernel
theorem d_Fl_shownCondition_0 : decode prog_4_method_6_code 0 = .ok (.aload_n 0, 1) := by decide +kernel
theorem d_Fl_shownCondition_1 : decode prog_4_method_6_code 1 = .ok (.getfield 47, 3) := by decide +kernel
theorem d_Fl_shownCondition_4 : decode prog_4_method_6_code 4 = .ok (.iload_n 1, 1) := by decide +kernel
theorem d_Fl_shownCondition_5 : decode prog_4_method_6_code 5 = .ok (.ishr, 1) := by decide +kernel
theorem d_Fl_shownCondition_6 : decode prog_4_method_6_code 6 = .ok (.iconst 1, 1) := by decide +kernel
theorem d_Fl_shownCondition_7 : decode prog_4_method_6_code 7 = .ok (.iand, 1) := by decide +kernel
theorem d_Fl_shownCondition_8 : decode prog_4_method_6_code 8 = .ok (.iconst 1, 1) := by decide +kernel
theorem d_Fl_shownCondition_9 : decode prog_4_method_6_code 9 = .ok (.if_icmp .ne 7, 3) := by decide +kernel
theorem d_Fl_shownCondition_12 : decode prog_4_method_6_code 12 = .ok (.iconst 3, 1) := by decide +kernel
theorem d_Fl_shownCondition_13 : decode prog_4_method_6_code 13 = .ok (.goto 9, 3) := by decide +kernel
theorem d_Fl_shownCondition_16 : decode prog_4_method_6_code 16 = .ok (.aload_n 0, 1) := by decide +kernel
theorem d_Fl_shownCondition_17 : decode prog_4_method_6_code 17 = .ok (.getfield 31, 3) := by decide +kernel
theorem d_Fl_shownCondition_20 : decode prog_4_method_6_code 20 = .ok (.iload_n 1, 1) := by decide +kernel
theorem d_Fl_shownCondition_21 : decode prog_4_method_6_code 21 = .ok (.iaload, 1) := by decide +kernel
theorem d_Fl_shownCondition_22 : decode prog_4_method_6_code 22 = .ok (.ireturn, 1) := by decide +kernel
theorem d_CT_state_0 : decode prog_1_method_15_code 0 = .ok (.aload_n 0, 1) := by decide +kernel
theorem d_CT_state_1 : decode prog_1_method_15_code 1 = .ok (.getfield 12, 3) := by decide +kernel
theorem d_CT_state_4 : decode prog_1_method_15_code 4 = .ok (.iload_n 1, 1) := by decide +kernel
theorem d_CT_state_5 : decode prog_1_method_15_code 5 = .ok (.invokevirtual 119, 3) := by decide +kernel
theorem d_CT_state_8 : decode prog_1_method_15_code 8 = .ok (.invokestatic 57, 3) := by decide +kernel
theorem d_CT_state_11 : decode prog_1_method_15_code 11 = .ok (.iload_n 2, 1) := by decide +kernel
theorem d_CT_state_48 : decode prog_1_method_15_code 48 = .ok (.aload_n 0, 1) := by decide +kernel
theorem d_CT_state_49 : decode prog_1_method_15_code 49 = .ok (.getfield 21, 3) := by decide +kernel
theorem d_CT_state_52 : decode prog_1_method_15_code 52 = .ok (.iload_n 1, 1) := by decide +kernel
theorem d_CT_state_53 : decode prog_1_method_15_code 53 = .ok (.invokevirtual 176, 3) := by decide +kernel
theorem d_CT_state_56 : decode prog_1_method_15_code 56 = .ok (.ireturn, 1) := by decide +kernel
theorem d_CT_state_57 : decode prog_1_method_15_code 57 = .ok (.aload_n 0, 1) := by decide +kernel
theorem d_CT_state_58 : decode prog_1_method_15_code 58 = .ok (.getfield 21, 3) := by decide +kernel
theorem d_CT_state_61 : decode prog_1_method_15_code 61 = .ok (.getfield 180, 3) := by decide +kernel
theorem d_CT_state_64 : decode prog_1_method_15_code 64 = .ok (.iload_n 1, 1) := by decide +kernel
theorem d_CT_state_65 : decode prog_1_method_15_code 65 = .ok (.iaload, 1) := by decide +kernel
theorem d_CT_state_66 : decode prog_1_method_15_code 66 = .ok (.ireturn, 1) := by decide +kernel
theorem d_CT_state_67 : decode prog_1_method_15_code 67 = .ok (.aload_n 0, 1) := by decide +kernel
theorem d_CT_state_68 : decode prog_1_method_15_code 68 = .ok (.getfield 21, 3) := by decide +kernel
theorem d_CT_state_71 : decode prog_1_method_15_code 71 = .ok (.getfield 183, 3) := by decide +kernel
theorem d_CT_state_74 : decode prog_1_method_15_code 74 = .ok (.iload_n 1, 1) := by decide +kernel
theorem d_CT_state_75 : decode prog_1_method_15_code 75 = .ok (.iaload, 1) := by decide +kernel
theorem d_CT_state_76 : decode prog_1_method_15_code 76 = .ok (.ireturn, 1) := by decide +kernel
theorem d_CT_state_77 : decode prog_1_method_15_code 77 = .ok (.aload_n 0, 1) := by decide +kernel
theorem d_CT_state_78 : decode prog_1_method_15_code 78 = .ok (.getfield 21, 3) := by decide +kernel
theorem d_CT_state_81 : decode prog_1_method_15_code 81 = .ok (.getfield 186, 3) := by decide +kernel
theorem d_CT_state_84 : decode prog_1_method_15_code 84 = .ok (.iload_n 1, 1) := by decide +kernel
theorem d_CT_state_85 : decode prog_1_method_15_code 85 = .ok (.iaload, 1) := by decide +kernel
theorem d_CT_state_86 : decode prog_1_method_15_code 86 = .ok (.ireturn, 1) := by decide +kernel
theorem d_CT_state_87 : decode prog_1_method_15_code 87 = .ok (.aload_n 0, 1) := by decide +kernel
theorem d_CT_state_88 : decode prog_1_method_15_code 88 = .ok (.getfield 31, 3) := by decide +kernel
theorem d_CT_state_91 : decode prog_1_method_15_code 91 = .ok (.getfield 187, 3) := by decide +kernel
theorem d_CT_state_94 : decode prog_1_method_15_code 94 = .ok (.iload_n 1, 1) := by decide +kernel
theorem d_CT_state_95 : decode prog_1_method_15_code 95 = .ok (.iaload, 1) := by decide +kernel
theorem d_CT_state_96 : decode prog_1_method_15_code 96 = .ok (.ireturn, 1) := by decide +kernel
theorem d_CT_state_97 : decode prog_1_method_15_code 97 = .ok (.new 190, 3) := by decide +kernel
theorem d_CT_state_100 : decode prog_1_method_15_code 100 = .ok (.dup, 1) := by decide +kernel
theorem d_CT_state_101 : decode prog_1_method_15_code 101 = .ok (.ldc 192, 2) := by decide +kernel
theorem d_CT_state_103 : decode prog_1_method_15_code 103 = .ok (.invokespecial 194, 3) := by decide +kernel
theorem d_CT_state_106 : decode prog_1_method_15_code 106 = .ok (.athrow, 1) := by decide +kernel
theorem d_CT_phase_0 : decode prog_1_method_16_code 0 = .ok (.aload_n 0, 1) := by decide +kernel
theorem d_CT_phase_1 : decode prog_1_method_16_code 1 = .ok (.getfield 12, 3) := by decide +kernel
theorem d_CT_phase_4 : decode prog_1_method_16_code 4 = .ok (.iload_n 1, 1) := by decide +kernel
theorem d_CT_phase_5 : decode prog_1_method_16_code 5 = .ok (.invokevirtual 119, 3) := by decide +kernel
theorem d_CT_phase_8 : decode prog_1_method_16_code 8 = .ok (.invokestatic 57, 3) := by decide +kernel
theorem d_CT_phase_11 : decode prog_1_method_16_code 11 = .ok (.aload_n 0, 1) := by decide +kernel
theorem d_CT_phase_12 : decode prog_1_method_16_code 12 = .ok (.getfield 31, 3) := by decide +kernel
theorem d_CT_phase_15 : decode prog_1_method_16_code 15 = .ok (.getfield 195, 3) := by decide +kernel
theorem d_CT_phase_18 : decode prog_1_method_16_code 18 = .ok (.iload_n 1, 1) := by decide +kernel
theorem d_CT_phase_19 : decode prog_1_method_16_code 19 = .ok (.laload, 1) := by decide +kernel
theorem d_CT_phase_20 : decode prog_1_method_16_code 20 = .ok (.lreturn, 1) := by decide +kernel
theorem d_CT_sends_0 : decode prog_1_method_17_code 0 = .ok (.aload_n 0, 1) := by decide +kernel
theorem d_CT_sends_1 : decode prog_1_method_17_code 1 = .ok (.getfield 12, 3) := by decide +kernel
theorem d_CT_sends_4 : decode prog_1_method_17_code 4 = .ok (.iload_n 1, 1) := by decide +kernel
theorem d_CT_sends_5 : decode prog_1_method_17_code 5 = .ok (.iload_n 2, 1) := by decide +kernel
theorem d_CT_sends_6 : decode prog_1_method_17_code 6 = .ok (.invokevirtual 85, 3) := by decide +kernel
theorem d_CT_sends_9 : decode prog_1_method_17_code 9 = .ok (.invokestatic 57, 3) := by decide +kernel
theorem d_CT_sends_12 : decode prog_1_method_17_code 12 = .ok (.aload_n 0, 1) := by decide +kernel
theorem d_CT_sends_13 : decode prog_1_method_17_code 13 = .ok (.getfield 21, 3) := by decide +kernel
theorem d_CT_sends_16 : decode prog_1_method_17_code 16 = .ok (.getfield 199, 3) := by decide +kernel
theorem d_CT_sends_19 : decode prog_1_method_17_code 19 = .ok (.getfield 203, 3) := by decide +kernel
theorem d_CT_sends_22 : decode prog_1_method_17_code 22 = .ok (.iload_n 1, 1) := by decide +kernel
theorem d_CT_sends_23 : decode prog_1_method_17_code 23 = .ok (.iload_n 2, 1) := by decide +kernel
theorem d_CT_sends_24 : decode prog_1_method_17_code 24 = .ok (.invokestatic 89, 3) := by decide +kernel
theorem d_CT_sends_27 : decode prog_1_method_17_code 27 = .ok (.iaload, 1) := by decide +kernel
theorem d_CT_sends_28 : decode prog_1_method_17_code 28 = .ok (.ireturn, 1) := by decide +kernel
theorem d_CT_traced_0 : decode prog_1_method_18_code 0 = .ok (.aload_n 0, 1) := by decide +kernel
theorem d_CT_traced_1 : decode prog_1_method_18_code 1 = .ok (.getfield 12, 3) := by decide +kernel
theorem d_CT_traced_4 : decode prog_1_method_18_code 4 = .ok (.iload_n 1, 1) := by decide +kernel
theorem d_CT_traced_5 : decode prog_1_method_18_code 5 = .ok (.invokevirtual 119, 3) := by decide +kernel
theorem d_CT_traced_8 : decode prog_1_method_18_code 8 = .ok (.invokestatic 57, 3) := by decide +kernel
theorem d_CT_traced_11 : decode prog_1_method_18_code 11 = .ok (.aload_n 0, 1) := by decide +kernel
theorem d_CT_traced_12 : decode prog_1_method_18_code 12 = .ok (.getfield 21, 3) := by decide +kernel
theorem d_CT_traced_15 : decode prog_1_method_18_code 15 = .ok (.iload_n 1, 1) := by decide +kernel
theorem d_CT_traced_16 : decode prog_1_method_18_code 16 = .ok (.invokevirtual 206, 3) := by decide +kernel
theorem d_CT_traced_19 : decode prog_1_method_18_code 19 = .ok (.istore_n 2, 1) := by decide +kernel
theorem d_CT_traced_20 : decode prog_1_method_18_code 20 = .ok (.iload_n 2, 1) := by decide +kernel
theorem d_CT_traced_21 : decode prog_1_method_18_code 21 = .ok (.bipush (-2), 2) := by decide +kernel
theorem d_CT_traced_23 : decode prog_1_method_18_code 23 = .ok (.if_icmp .ne 7, 3) := by decide +kernel
theorem d_CT_traced_26 : decode prog_1_method_18_code 26 = .ok (.iconst (-1), 1) := by decide +kernel
theorem d_CT_traced_27 : decode prog_1_method_18_code 27 = .ok (.goto 4, 3) := by decide +kernel
theorem d_CT_traced_30 : decode prog_1_method_18_code 30 = .ok (.iload_n 2, 1) := by decide +kernel
theorem d_CT_traced_31 : decode prog_1_method_18_code 31 = .ok (.ireturn, 1) := by decide +kernel
theorem d_CT_best_0 : decode prog_1_method_20_code 0 = .ok (.aload_n 0, 1) := by decide +kernel
theorem d_CT_best_1 : decode prog_1_method_20_code 1 = .ok (.getfield 12, 3) := by decide +kernel
theorem d_CT_best_4 : decode prog_1_method_20_code 4 = .ok (.iload_n 1, 1) := by decide +kernel
theorem d_CT_best_5 : decode prog_1_method_20_code 5 = .ok (.invokevirtual 119, 3) := by decide +kernel
theorem d_CT_best_8 : decode prog_1_method_20_code 8 = .ok (.invokestatic 57, 3) := by decide +kernel
theorem d_CT_best_11 : decode prog_1_method_20_code 11 = .ok (.aload_n 0, 1) := by decide +kernel
theorem d_CT_best_12 : decode prog_1_method_20_code 12 = .ok (.getfield 21, 3) := by decide +kernel
theorem d_CT_best_15 : decode prog_1_method_20_code 15 = .ok (.iload_n 1, 1) := by decide +kernel
theorem d_CT_best_16 : decode prog_1_method_20_code 16 = .ok (.invokevirtual 209, 3) := by decide +kernel
theorem d_CT_best_19 : decode prog_1_method_20_code 19 = .ok (.ireturn, 1) := by decide +kernel
theorem d_CT_finding_0 : decode prog_1_method_22_code 0 = .ok (.iload_n 1, 1) := by decide +kernel
theorem d_CT_finding_1 : decode prog_1_method_22_code 1 = .ok (.iconst 0, 1) := by decide +kernel
theorem d_CT_finding_2 : decode prog_1_method_22_code 2 = .ok (.aload_n 0, 1) := by decide +kernel
theorem d_CT_finding_3 : decode prog_1_method_22_code 3 = .ok (.getfield 49, 3) := by decide +kernel
theorem d_CT_finding_6 : decode prog_1_method_22_code 6 = .ok (.iconst 1, 1) := by decide +kernel
theorem d_CT_finding_7 : decode prog_1_method_22_code 7 = .ok (.isub, 1) := by decide +kernel
theorem d_CT_finding_8 : decode prog_1_method_22_code 8 = .ok (.invokestatic 53, 3) := by decide +kernel
theorem d_CT_finding_11 : decode prog_1_method_22_code 11 = .ok (.ifCond .eq 16, 3) := by decide +kernel
theorem d_CT_finding_14 : decode prog_1_method_22_code 14 = .ok (.iload_n 2, 1) := by decide +kernel
theorem d_CT_finding_15 : decode prog_1_method_22_code 15 = .ok (.iconst 0, 1) := by decide +kernel
theorem d_CT_finding_16 : decode prog_1_method_22_code 16 = .ok (.iconst 1, 1) := by decide +kernel
theorem d_CT_finding_17 : decode prog_1_method_22_code 17 = .ok (.invokestatic 53, 3) := by decide +kernel
theorem d_CT_finding_20 : decode prog_1_method_22_code 20 = .ok (.ifCond .eq 7, 3) := by decide +kernel
theorem d_CT_finding_23 : decode prog_1_method_22_code 23 = .ok (.iconst 1, 1) := by decide +kernel
theorem d_CT_finding_24 : decode prog_1_method_22_code 24 = .ok (.goto 4, 3) := by decide +kernel
theorem d_CT_finding_27 : decode prog_1_method_22_code 27 = .ok (.iconst 0, 1) := by decide +kernel
theorem d_CT_finding_28 : decode prog_1_method_22_code 28 = .ok (.invokestatic 57, 3) := by decide +kernel
theorem d_CT_finding_31 : decode prog_1_method_22_code 31 = .ok (.iload_n 2, 1) := by decide +kernel
theorem d_CT_finding_32 : decode prog_1_method_22_code 32 = .ok (.ifCond .ne 12, 3) := by decide +kernel
theorem d_CT_finding_35 : decode prog_1_method_22_code 35 = .ok (.aload_n 0, 1) := by decide +kernel
theorem d_CT_finding_36 : decode prog_1_method_22_code 36 = .ok (.getfield 42, 3) := by decide +kernel
theorem d_CT_finding_39 : decode prog_1_method_22_code 39 = .ok (.iload_n 1, 1) := by decide +kernel
theorem d_CT_finding_40 : decode prog_1_method_22_code 40 = .ok (.iaload, 1) := by decide +kernel
theorem d_CT_finding_41 : decode prog_1_method_22_code 41 = .ok (.goto 9, 3) := by decide +kernel
theorem d_CT_finding_44 : decode prog_1_method_22_code 44 = .ok (.aload_n 0, 1) := by decide +kernel
theorem d_CT_finding_45 : decode prog_1_method_22_code 45 = .ok (.getfield 46, 3) := by decide +kernel
theorem d_CT_finding_48 : decode prog_1_method_22_code 48 = .ok (.iload_n 1, 1) := by decide +kernel
theorem d_CT_finding_49 : decode prog_1_method_22_code 49 = .ok (.iaload, 1) := by decide +kernel
theorem d_CT_finding_50 : decode prog_1_method_22_code 50 = .ok (.ireturn, 1) := by decide +kernel
end
section
/-! The calculus of one world: all cells that class and reference keep, by number; memory is I (ints) and J (longs). -/
abbrev zG : Type := va_G × (FieldType → ClassId) × (Nat → Nat)
abbrev zI : Type := Nat → Nat → Int32
abbrev zJ : Type := Nat → Nat → Int64
def zad (G : zG) (c : Nat) : Nat := G.2.2 c
def zty (b : Bool) : FieldType := match b with
  | true => .boolean
  | false => .int
def zF (G : zG) (i : Nat → Int32) (j : Nat → Int64) (k : Nat) (d : Option (Option Nat)) : Value := match d with
  | none => .int (i k)
  | some none => .long (j k)
  | some (some r) => .ref (zad G r)
def zE (G : zG) (i : Nat → Int32) (j : Nat → Int64) (L : zL) : va_E := match L with
  | .inl a => .inl (G.2.1 (zty a.1), a.2, .inl i)
  | .inr (.inl n) => .inl (G.2.1 .long, n, .inr (.inl j))
  | .inr (.inr q) => .inr (q.1, q.2.mapIdx (zF G i j))
def zW (G : zG) (I : zI) (J : zJ) : va_W := lay0.mapIdx (fun c L => (zad G c, zE G (I c) (J c) L))
def zup (I : zI) (c k : Nat) (v : Int32) : zI := fun a => if a = c then upd (I a) k v else I a
def zupL (J : zJ) (c k : Nat) (v : Int64) : zJ := fun a => if a = c then vp_updL (J a) k v else J a
def zcp (I : zI) (c0 c1 n : Nat) : zI := fun a => if a = c1 then va_cpy (I c0) (I c1) 0 0 n else I a
theorem zup_same {I : zI} {c k : Nat} {v : Int32} : zup I c k v c = upd (I c) k v := by simp [zup]
theorem zup_ne {I : zI} {c k a : Nat} {v : Int32} (h : a ≠ c) : zup I c k v a = I a := by simp [zup, h]
theorem zupL_same {J : zJ} {c k : Nat} {v : Int64} : zupL J c k v c = vp_updL (J c) k v := by simp [zupL]
theorem zupL_ne {J : zJ} {c k a : Nat} {v : Int64} (h : a ≠ c) : zupL J c k v a = J a := by simp [zupL, h]
theorem zcp_same {I : zI} {c0 c n : Nat} : zcp I c0 c n c = va_cpy (I c0) (I c) 0 0 n := by simp [zcp]
theorem zcp_ne {I : zI} {c0 c n a : Nat} (h : a ≠ c) : zcp I c0 c n a = I a := by simp [zcp, h]
theorem zW_at {G : zG} {I : zI} {J : zJ} {c : Nat} {L : zL} (h : lay0[c]? = some L) : (zW G I J)[c]? = some (zad G c, zE G (I c) (J c) L) := by
  simp only [zW, List.getElem?_mapIdx, h, Option.map_some]
theorem zW_set {G : zG} {I I' : zI} {J J' : zJ} {c : Nat} {L : zL} (hI : ∀ a, a ≠ c → I' a = I a) (hJ : ∀ a, a ≠ c → J' a = J a) (h : lay0[c]? = some L) : (zW G I J).set c (zad G c, zE G (I' c) (J' c) L) = zW G I' J' := by
  have hl : c < (zW G I J).length := by
    have h1 := (List.getElem?_eq_some_iff.mp h).1
    simp only [zW, List.length_mapIdx]
    exact h1
  apply List.ext_getElem?
  intro j
  by_cases hj : j = c
  · subst hj
    rw [List.getElem?_set_self hl, zW_at h]
  · rw [List.getElem?_set_ne (Ne.symm hj)]
    simp only [zW, List.getElem?_mapIdx]
    rw [hI j hj, hJ j hj]
theorem zF_set {G : zG} {i : Nat → Int32} {j : Nat → Int64} {k : Nat} {ds : List (Option (Option Nat))} {v : Int32} (h : ds[k]? = some none) : (ds.mapIdx (zF G i j)).set k (.int v) = ds.mapIdx (zF G (upd i k v) j) := by
  have hl : k < (ds.mapIdx (zF G i j)).length := by
    rw [List.length_mapIdx]
    exact (List.getElem?_eq_some_iff.mp h).1
  apply List.ext_getElem?
  intro q
  by_cases hq : q = k
  · subst hq
    rw [List.getElem?_set_self hl, List.getElem?_mapIdx, h]
    simp [zF, upd]
  · rw [List.getElem?_set_ne (Ne.symm hq), List.getElem?_mapIdx, List.getElem?_mapIdx]
    cases ds[q]? with
    | none => rfl
    | some d =>
      cases d with
      | none => simp [zF, upd, hq]
      | some d => cases d <;> rfl
theorem zF_setL {G : zG} {i : Nat → Int32} {j : Nat → Int64} {k : Nat} {ds : List (Option (Option Nat))} {v : Int64} (h : ds[k]? = some (some none)) : (ds.mapIdx (zF G i j)).set k (.long v) = ds.mapIdx (zF G i (vp_updL j k v)) := by
  have hl : k < (ds.mapIdx (zF G i j)).length := by
    rw [List.length_mapIdx]
    exact (List.getElem?_eq_some_iff.mp h).1
  apply List.ext_getElem?
  intro q
  by_cases hq : q = k
  · subst hq
    rw [List.getElem?_set_self hl, List.getElem?_mapIdx, h]
    simp [zF, vp_updL]
  · rw [List.getElem?_set_ne (Ne.symm hq), List.getElem?_mapIdx, List.getElem?_mapIdx]
    cases ds[q]? with
    | none => rfl
    | some d =>
      cases d with
      | none => rfl
      | some d =>
        cases d with
        | none => simp [zF, vp_updL, hq]
        | some d => rfl
/-- the locals, by look-up -/
def z_has (ls : Array Slot) (nL : Nat) (l : List (Nat × Value)) : Prop := ls.size = nL ∧ lv_wf ls ∧ ∀ (i : Nat) (v : Value), l.lookup i = some v → ls[i]? = some (.val v)
theorem z_lkm {l : List (Nat × Value)} {i : Nat} {v : Value} (h : l.lookup i = some v) : (i, v) ∈ l := by
  obtain ⟨l1, l2, h1, h2⟩ := List.lookup_eq_some_iff.mp h
  rw [h1]
  exact List.mem_append_right _ List.mem_cons_self
theorem z_has.of {ls : Array Slot} {nL : Nat} {l : List (Nat × Value)} (h : lv_has ls nL l) : z_has ls nL l := ⟨h.1, h.2.1, fun _ _ hi => h.2.2 _ (z_lkm hi)⟩
theorem z_has.sub {ls : Array Slot} {nL : Nat} {l l' : List (Nat × Value)} (h : z_has ls nL l) (hs : l'.map (fun q => l.lookup q.1) = l'.map (fun q => some q.2)) : z_has ls nL l' := by
  refine ⟨h.1, h.2.1, fun i v hi => h.2.2 i v ?_⟩
  have hm := z_lkm hi
  obtain ⟨k, hk⟩ := List.getElem?_of_mem hm
  have h1 : (l'.map (fun q => l.lookup q.1))[k]? = some (l.lookup i) := by rw [List.getElem?_map, hk]; rfl
  rw [hs, List.getElem?_map, hk] at h1
  exact (Option.some.inj h1).symm
/-- the listed locals that a look-up finds -/
noncomputable def z_lv (l : List (Nat × Value)) : List (Nat × Value) := l.filter (fun q => @decide (l.lookup q.1 = some q.2) (Classical.propDecidable _))
theorem z_lv_in {l : List (Nat × Value)} {i : Nat} {v : Value} (h : l.lookup i = some v) : (i, v) ∈ z_lv l := by
  unfold z_lv
  refine List.mem_filter.mpr ⟨z_lkm h, ?_⟩
  exact @decide_eq_true _ (Classical.propDecidable _) h
theorem z_lv_has {ls : Array Slot} {nL : Nat} {l : List (Nat × Value)} (h : z_has ls nL l) : lv_has ls nL (z_lv l) := by
  refine ⟨h.1, h.2.1, fun q hq => ?_⟩
  have h1 := (List.mem_filter.mp hq).2
  exact h.2.2 q.1 q.2 (@of_decide_eq_true _ (Classical.propDecidable _) h1)
theorem z_st1 {ls : Array Slot} {nL i : Nat} {v : Value} {l : List (Nat × Value)} (hc : (l.lookup (i - 1)).all (fun w => w.category == 1) = true) (h : lv_has ls nL ((i, v) :: (z_lv l).filter (fun q => !(q.1 == i) && !(q.1 + 1 == i && q.2.category == 2)))) : z_has ls nL ((i, v) :: l) := by
  refine ⟨h.1, h.2.1, fun j w hj => ?_⟩
  rw [List.lookup_cons] at hj
  by_cases e : j = i
  · subst e
    simp only [beq_self_eq_true] at hj
    cases hj
    exact h.2.2 _ List.mem_cons_self
  · have e1 : (j == i) = false := by simpa using e
    rw [e1] at hj
    have hj : l.lookup j = some w := hj
    refine h.2.2 (j, w) (List.mem_cons_of_mem _ (List.mem_filter.mpr ⟨z_lv_in hj, ?_⟩))
    simp only [e1, Bool.not_false, Bool.true_and, Bool.not_eq_true', Bool.and_eq_false_iff]
    by_cases e2 : j + 1 = i
    · right
      have e3 : i - 1 = j := by omega
      rw [e3, hj] at hc
      simp only [Option.all_some, beq_iff_eq] at hc
      simp [hc]
    · left
      simpa using e2
theorem z_st2 {ls : Array Slot} {nL i : Nat} {v : Value} {l : List (Nat × Value)} (hc : (l.lookup (i - 1)).all (fun w => w.category == 1) = true) (hn : l.lookup (i + 1) = none) (h : lv_has ls nL ((i, v) :: (z_lv l).filter (fun q => !(q.1 == i) && (!(q.1 == i + 1) && !(q.1 + 1 == i && q.2.category == 2))))) : z_has ls nL ((i, v) :: l) := by
  refine ⟨h.1, h.2.1, fun j w hj => ?_⟩
  rw [List.lookup_cons] at hj
  by_cases e : j = i
  · subst e
    simp only [beq_self_eq_true] at hj
    cases hj
    exact h.2.2 _ List.mem_cons_self
  · have e1 : (j == i) = false := by simpa using e
    rw [e1] at hj
    have hj : l.lookup j = some w := hj
    have e4 : (j == i + 1) = false := by
      by_cases e5 : j = i + 1
      · rw [e5, hn] at hj
        cases hj
      · simpa using e5
    refine h.2.2 (j, w) (List.mem_cons_of_mem _ (List.mem_filter.mpr ⟨z_lv_in hj, ?_⟩))
    simp only [e1, e4, Bool.not_false, Bool.true_and, Bool.not_eq_true', Bool.and_eq_false_iff]
    by_cases e2 : j + 1 = i
    · right
      have e3 : i - 1 = j := by omega
      rw [e3, hj] at hc
      simp only [Option.all_some, beq_iff_eq] at hc
      simp [hc]
    · left
      simpa using e2
/-- program, launch, frame, what is owed at the end, what may change -/
abbrev zX : Type := Program × Launch × Env × Room × State × MethodId × Array Value × List Frame × Method × Code × (State → Prop) × (Nat → Prop)
def Z (X : zX) (G : zG) (nL a b pc : Nat) (l : List (Nat × Value)) (st : List Value) (I : zI) (J : zJ) : Prop := match X with
  | (p, la, e, R, s, m, args, below, meth, c, Q, A) => ∀ (ls : Array Slot) (H : Heap) (locs : List Loc), z_has ls nL l → va_P G.1 vwCl (zW G I J) H → va_S A s.heap H locs → W p la e R s m args below meth c H locs a b Q (F0 m pc ls st)
def ztys (G : zG) : List (ClassId × FieldType) := [(G.2.1 .int, .int), (G.2.1 .boolean, .boolean), (G.2.1 .long, .long)]
def zNst (U : State) : Prop := ∀ w ∈ NEST, va_Nw w U
def zOk (X : zX) (G : zG) (cc : ByteArray) (nL : Nat) (own : String) (d : Room) : Prop := match X with
  | (p, _, _, R, s, m, args, _, meth, c, _, A) => (p.tables.exec = Jvm.exec ∧ c.code = cc ∧ c.maxLocals = nL ∧ s.vm.findClass own = some m.cls ∧ ∀ w ∈ TBL, w.before args s = true) ∧ R = d ∧ va_K G.1 vwCl (ztys G) s ∧ (∀ (I : zI) (J : zJ), va_D A (zW G I J)) ∧ (∀ q : Nat, s.heap.size ≤ q → A q) ∧ zNst s ∧ meth.locks = false
def zB (b : Bool) : Int32 := match b with
  | true => 1
  | false => 0
theorem zB_t : zB true = 1 := rfl
theorem zB_f : zB false = 0 := rfl
theorem zB_nar (b : Bool) : narrow .boolean (.int (zB b)) = .int (zB b) := by cases b <;> rfl
theorem zB_fit (b : Bool) : fits .boolean (.int (zB b)) = true := by cases b <;> rfl
theorem zB_np (b : Bool) : vp_nar .boolean (zB b) = zB b := by cases b <;> rfl
theorem zB_ne {b : Bool} (h : ¬ zB b = 0) : b = true := by
  cases b
  · exact absurd rfl h
  · rfl
theorem zB_eq {b : Bool} (h : zB b = 0) : b = false := by
  cases b
  · rfl
  · exact absurd h (by decide)
section ZR
variable {X : zX} {G : zG} {cc : ByteArray} {nL a b pc : Nat} {own : String} {d : Room} {l : List (Nat × Value)} {st : List Value} {I : zI} {J : zJ}
theorem Z_loc {l' : List (Nat × Value)} (hs : l'.map (fun q => l.lookup q.1) = l'.map (fun q => some q.2)) (k : Z X G nL a b pc l' st I J) : Z X G nL a b pc l st I J := by
  obtain ⟨p, la, e, R, s, m, args, below, meth, c, Q, A⟩ := X
  intro ls H locs hl hP hS
  exact k ls H locs (hl.sub hs) hP hS
theorem Z_wid {a' b' : Nat} (h1 : a ≤ a') (h2 : b ≤ b') (k : Z X G nL a' b' pc l st I J) : Z X G nL a b pc l st I J := by
  obtain ⟨p, la, e, R, s, m, args, below, meth, c, Q, A⟩ := X
  intro ls H locs hl hP hS
  exact W.widen h1 h2 (k ls H locs hl hP hS)

theorem Z_iconst {n : Int} {v : Int32} (hX : zOk X G cc nL own d) (hd : decode cc pc = .ok (.iconst n, 1)) (hv : Int32.ofInt n = v) (k : Z X G nL a b (pc + 1) l (.int v :: st) I J) : Z X G nL a b pc l st I J := by
  obtain ⟨p, la, e, R, s, m, args, below, meth, c, Q, A⟩ := X
  intro ls H locs hl hP hS
  exact lv_iconst hX.1.1 hX.1.2.1 hd hv (k ls H locs hl hP hS)
theorem Z_bipush {n : Int} {v : Int32} (hX : zOk X G cc nL own d) (hd : decode cc pc = .ok (.bipush n, 2)) (hv : (Int8.ofInt n).toInt32 = v) (k : Z X G nL a b (pc + 2) l (.int v :: st) I J) : Z X G nL a b pc l st I J := by
  obtain ⟨p, la, e, R, s, m, args, below, meth, c, Q, A⟩ := X
  intro ls H locs hl hP hS
  exact lv_bipush hX.1.1 hX.1.2.1 hd hv (k ls H locs hl hP hS)
theorem Z_sipush {n : Int} {v : Int32} (hX : zOk X G cc nL own d) (hd : decode cc pc = .ok (.sipush n, 3)) (hv : (Int16.ofInt n).toInt32 = v) (k : Z X G nL a b (pc + 3) l (.int v :: st) I J) : Z X G nL a b pc l st I J := by
  obtain ⟨p, la, e, R, s, m, args, below, meth, c, Q, A⟩ := X
  intro ls H locs hl hP hS
  exact lv_sipush hX.1.1 hX.1.2.1 hd hv (k ls H locs hl hP hS)
theorem Z_lconst {n : Fin 2} {v : Int64} (hX : zOk X G cc nL own d) (hd : decode cc pc = .ok (.lconst n, 1)) (hv : Int64.ofNat (n : Nat) = v) (k : Z X G nL a b (pc + 1) l (.long v :: st) I J) : Z X G nL a b pc l st I J := by
  obtain ⟨p, la, e, R, s, m, args, below, meth, c, Q, A⟩ := X
  intro ls H locs hl hP hS
  exact lv_lconst hX.1.1 hX.1.2.1 hd hv (k ls H locs hl hP hS)
theorem Z_iload_n {f : Fin 4} {i : Nat} {x : Int32} (hX : zOk X G cc nL own d) (hd : decode cc pc = .ok (.iload_n f, 1)) (hi : (f : Nat) = i) (hk : l.lookup i = some (.int x)) (k : Z X G nL a b (pc + 1) l (.int x :: st) I J) : Z X G nL a b pc l st I J := by
  obtain ⟨p, la, e, R, s, m, args, below, meth, c, Q, A⟩ := X
  intro ls H locs hl hP hS
  exact lv_iload_n hX.1.1 hX.1.2.1 hd hi (hl.2.2 _ _ hk) (k ls H locs hl hP hS)
theorem Z_iload {i : Nat} {x : Int32} (hX : zOk X G cc nL own d) (hd : decode cc pc = .ok (.iload i, 2)) (hk : l.lookup i = some (.int x)) (k : Z X G nL a b (pc + 2) l (.int x :: st) I J) : Z X G nL a b pc l st I J := by
  obtain ⟨p, la, e, R, s, m, args, below, meth, c, Q, A⟩ := X
  intro ls H locs hl hP hS
  exact lv_iload hX.1.1 hX.1.2.1 hd (hl.2.2 _ _ hk) (k ls H locs hl hP hS)
theorem Z_lload_n {f : Fin 4} {i : Nat} {x : Int64} (hX : zOk X G cc nL own d) (hd : decode cc pc = .ok (.lload_n f, 1)) (hi : (f : Nat) = i) (hk : l.lookup i = some (.long x)) (k : Z X G nL a b (pc + 1) l (.long x :: st) I J) : Z X G nL a b pc l st I J := by
  obtain ⟨p, la, e, R, s, m, args, below, meth, c, Q, A⟩ := X
  intro ls H locs hl hP hS
  exact lv_lload_n hX.1.1 hX.1.2.1 hd hi (hl.2.2 _ _ hk) (k ls H locs hl hP hS)
theorem Z_lload {i : Nat} {x : Int64} (hX : zOk X G cc nL own d) (hd : decode cc pc = .ok (.lload i, 2)) (hk : l.lookup i = some (.long x)) (k : Z X G nL a b (pc + 2) l (.long x :: st) I J) : Z X G nL a b pc l st I J := by
  obtain ⟨p, la, e, R, s, m, args, below, meth, c, Q, A⟩ := X
  intro ls H locs hl hP hS
  exact lv_lload hX.1.1 hX.1.2.1 hd (hl.2.2 _ _ hk) (k ls H locs hl hP hS)
theorem Z_aload_n {f : Fin 4} {i : Nat} {x : Nat} (hX : zOk X G cc nL own d) (hd : decode cc pc = .ok (.aload_n f, 1)) (hi : (f : Nat) = i) (hk : l.lookup i = some (.ref x)) (k : Z X G nL a b (pc + 1) l (.ref x :: st) I J) : Z X G nL a b pc l st I J := by
  obtain ⟨p, la, e, R, s, m, args, below, meth, c, Q, A⟩ := X
  intro ls H locs hl hP hS
  exact lv_aload_n hX.1.1 hX.1.2.1 hd hi (hl.2.2 _ _ hk) (k ls H locs hl hP hS)
theorem Z_aload {i : Nat} {x : Nat} (hX : zOk X G cc nL own d) (hd : decode cc pc = .ok (.aload i, 2)) (hk : l.lookup i = some (.ref x)) (k : Z X G nL a b (pc + 2) l (.ref x :: st) I J) : Z X G nL a b pc l st I J := by
  obtain ⟨p, la, e, R, s, m, args, below, meth, c, Q, A⟩ := X
  intro ls H locs hl hP hS
  exact lv_aload hX.1.1 hX.1.2.1 hd (hl.2.2 _ _ hk) (k ls H locs hl hP hS)
theorem Z_istore_n {f : Fin 4} {i : Nat} {x : Int32} (hX : zOk X G cc nL own d) (hd : decode cc pc = .ok (.istore_n f, 1)) (hi : (f : Nat) = i) (hn : i < nL) (hc : (l.lookup (i - 1)).all (fun w => w.category == 1) = true) (k : Z X G nL a b (pc + 1) ((i, .int x) :: l) st I J) : Z X G nL a b pc l (.int x :: st) I J := by
  obtain ⟨p, la, e, R, s, m, args, below, meth, c, Q, A⟩ := X
  intro ls H locs hl hP hS
  exact lv_istore_n hX.1.1 hX.1.2.1 hd hi (z_lv_has hl) hn rfl (fun ls2 h2 => k ls2 H locs (z_st1 hc h2) hP hS)
theorem Z_istore {i : Nat} {x : Int32} (hX : zOk X G cc nL own d) (hd : decode cc pc = .ok (.istore i, 2)) (hn : i < nL) (hc : (l.lookup (i - 1)).all (fun w => w.category == 1) = true) (k : Z X G nL a b (pc + 2) ((i, .int x) :: l) st I J) : Z X G nL a b pc l (.int x :: st) I J := by
  obtain ⟨p, la, e, R, s, m, args, below, meth, c, Q, A⟩ := X
  intro ls H locs hl hP hS
  exact lv_istore hX.1.1 hX.1.2.1 hd (z_lv_has hl) hn rfl (fun ls2 h2 => k ls2 H locs (z_st1 hc h2) hP hS)
theorem Z_astore_n {f : Fin 4} {i : Nat} {x : Nat} (hX : zOk X G cc nL own d) (hd : decode cc pc = .ok (.astore_n f, 1)) (hi : (f : Nat) = i) (hn : i < nL) (hc : (l.lookup (i - 1)).all (fun w => w.category == 1) = true) (k : Z X G nL a b (pc + 1) ((i, .ref x) :: l) st I J) : Z X G nL a b pc l (.ref x :: st) I J := by
  obtain ⟨p, la, e, R, s, m, args, below, meth, c, Q, A⟩ := X
  intro ls H locs hl hP hS
  exact lv_astore_n hX.1.1 hX.1.2.1 hd hi (z_lv_has hl) hn rfl (fun ls2 h2 => k ls2 H locs (z_st1 hc h2) hP hS)
theorem Z_astore {i : Nat} {x : Nat} (hX : zOk X G cc nL own d) (hd : decode cc pc = .ok (.astore i, 2)) (hn : i < nL) (hc : (l.lookup (i - 1)).all (fun w => w.category == 1) = true) (k : Z X G nL a b (pc + 2) ((i, .ref x) :: l) st I J) : Z X G nL a b pc l (.ref x :: st) I J := by
  obtain ⟨p, la, e, R, s, m, args, below, meth, c, Q, A⟩ := X
  intro ls H locs hl hP hS
  exact lv_astore hX.1.1 hX.1.2.1 hd (z_lv_has hl) hn rfl (fun ls2 h2 => k ls2 H locs (z_st1 hc h2) hP hS)
theorem Z_lstore {i : Nat} {x : Int64} (hX : zOk X G cc nL own d) (hd : decode cc pc = .ok (.lstore i, 2)) (hn : i + 1 < nL) (hc : (l.lookup (i - 1)).all (fun w => w.category == 1) = true) (hm : l.lookup (i + 1) = none) (k : Z X G nL a b (pc + 2) ((i, .long x) :: l) st I J) : Z X G nL a b pc l (.long x :: st) I J := by
  obtain ⟨p, la, e, R, s, m, args, below, meth, c, Q, A⟩ := X
  intro ls H locs hl hP hS
  exact lv_lstore hX.1.1 hX.1.2.1 hd (z_lv_has hl) hn rfl (fun ls2 h2 => k ls2 H locs (z_st2 hc hm h2) hP hS)
theorem Z_iinc {i : Nat} {n : Int} {x v : Int32} (hX : zOk X G cc nL own d) (hd : decode cc pc = .ok (.iinc i n, 3)) (hk : l.lookup i = some (.int x)) (hv : x + Int32.ofInt n = v) (hn : i < nL) (hc : (l.lookup (i - 1)).all (fun w => w.category == 1) = true) (k : Z X G nL a b (pc + 3) ((i, .int v) :: l) st I J) : Z X G nL a b pc l st I J := by
  obtain ⟨p, la, e, R, s, m, args, below, meth, c, Q, A⟩ := X
  intro ls H locs hl hP hS
  obtain ⟨k0, hk0⟩ := List.getElem?_of_mem (z_lv_in hk)
  exact lv_iinc hX.1.1 hX.1.2.1 hd (z_lv_has hl) hk0 hv hn rfl (fun ls2 h2 => k ls2 H locs (z_st1 hc h2) hP hS)
theorem Z_iadd {x y : Int32} (hX : zOk X G cc nL own d) (hd : decode cc pc = .ok (.iadd, 1)) (k : Z X G nL a b (pc + 1) l (.int (x + y) :: st) I J) : Z X G nL a b pc l (.int y :: .int x :: st) I J := by
  obtain ⟨p, la, e, R, s, m, args, below, meth, c, Q, A⟩ := X
  intro ls H locs hl hP hS
  exact lv_iadd hX.1.1 hX.1.2.1 hd (k ls H locs hl hP hS)
theorem Z_isub {x y : Int32} (hX : zOk X G cc nL own d) (hd : decode cc pc = .ok (.isub, 1)) (k : Z X G nL a b (pc + 1) l (.int (x - y) :: st) I J) : Z X G nL a b pc l (.int y :: .int x :: st) I J := by
  obtain ⟨p, la, e, R, s, m, args, below, meth, c, Q, A⟩ := X
  intro ls H locs hl hP hS
  exact lv_isub hX.1.1 hX.1.2.1 hd (k ls H locs hl hP hS)
theorem Z_imul {x y : Int32} (hX : zOk X G cc nL own d) (hd : decode cc pc = .ok (.imul, 1)) (k : Z X G nL a b (pc + 1) l (.int (x * y) :: st) I J) : Z X G nL a b pc l (.int y :: .int x :: st) I J := by
  obtain ⟨p, la, e, R, s, m, args, below, meth, c, Q, A⟩ := X
  intro ls H locs hl hP hS
  exact lv_imul hX.1.1 hX.1.2.1 hd (k ls H locs hl hP hS)
theorem Z_iand {x y : Int32} (hX : zOk X G cc nL own d) (hd : decode cc pc = .ok (.iand, 1)) (k : Z X G nL a b (pc + 1) l (.int (x &&& y) :: st) I J) : Z X G nL a b pc l (.int y :: .int x :: st) I J := by
  obtain ⟨p, la, e, R, s, m, args, below, meth, c, Q, A⟩ := X
  intro ls H locs hl hP hS
  exact lv_iand hX.1.1 hX.1.2.1 hd (k ls H locs hl hP hS)
theorem Z_ior {x y : Int32} (hX : zOk X G cc nL own d) (hd : decode cc pc = .ok (.ior, 1)) (k : Z X G nL a b (pc + 1) l (.int (x ||| y) :: st) I J) : Z X G nL a b pc l (.int y :: .int x :: st) I J := by
  obtain ⟨p, la, e, R, s, m, args, below, meth, c, Q, A⟩ := X
  intro ls H locs hl hP hS
  exact lv_ior hX.1.1 hX.1.2.1 hd (k ls H locs hl hP hS)
theorem Z_ixor {x y : Int32} (hX : zOk X G cc nL own d) (hd : decode cc pc = .ok (.ixor, 1)) (k : Z X G nL a b (pc + 1) l (.int (x ^^^ y) :: st) I J) : Z X G nL a b pc l (.int y :: .int x :: st) I J := by
  obtain ⟨p, la, e, R, s, m, args, below, meth, c, Q, A⟩ := X
  intro ls H locs hl hP hS
  exact lv_ixor hX.1.1 hX.1.2.1 hd (k ls H locs hl hP hS)
theorem Z_ishl {x y : Int32} (hX : zOk X G cc nL own d) (hd : decode cc pc = .ok (.ishl, 1)) (k : Z X G nL a b (pc + 1) l (.int (x <<< (y &&& 31)) :: st) I J) : Z X G nL a b pc l (.int y :: .int x :: st) I J := by
  obtain ⟨p, la, e, R, s, m, args, below, meth, c, Q, A⟩ := X
  intro ls H locs hl hP hS
  exact lv_ishl hX.1.1 hX.1.2.1 hd (k ls H locs hl hP hS)
theorem Z_ishr {x y : Int32} (hX : zOk X G cc nL own d) (hd : decode cc pc = .ok (.ishr, 1)) (k : Z X G nL a b (pc + 1) l (.int (x >>> (y &&& 31)) :: st) I J) : Z X G nL a b pc l (.int y :: .int x :: st) I J := by
  obtain ⟨p, la, e, R, s, m, args, below, meth, c, Q, A⟩ := X
  intro ls H locs hl hP hS
  exact lv_ishr hX.1.1 hX.1.2.1 hd (k ls H locs hl hP hS)
theorem Z_idiv {x y : Int32} (hX : zOk X G cc nL own d) (hd : decode cc pc = .ok (.idiv, 1)) (hn : ¬ y = 0) (k : Z X G nL a b (pc + 1) l (.int (x / y) :: st) I J) : Z X G nL a b pc l (.int y :: .int x :: st) I J := by
  obtain ⟨p, la, e, R, s, m, args, below, meth, c, Q, A⟩ := X
  intro ls H locs hl hP hS
  exact lv_idiv hX.1.1 hX.1.2.1 hd hn (k ls H locs hl hP hS)
theorem Z_irem {x y : Int32} (hX : zOk X G cc nL own d) (hd : decode cc pc = .ok (.irem, 1)) (hn : ¬ y = 0) (k : Z X G nL a b (pc + 1) l (.int (x - x / y * y) :: st) I J) : Z X G nL a b pc l (.int y :: .int x :: st) I J := by
  obtain ⟨p, la, e, R, s, m, args, below, meth, c, Q, A⟩ := X
  intro ls H locs hl hP hS
  exact lv_irem hX.1.1 hX.1.2.1 hd hn (k ls H locs hl hP hS)
theorem Z_ladd {x y : Int64} (hX : zOk X G cc nL own d) (hd : decode cc pc = .ok (.ladd, 1)) (k : Z X G nL a b (pc + 1) l (.long (x + y) :: st) I J) : Z X G nL a b pc l (.long y :: .long x :: st) I J := by
  obtain ⟨p, la, e, R, s, m, args, below, meth, c, Q, A⟩ := X
  intro ls H locs hl hP hS
  exact lv_ladd hX.1.1 hX.1.2.1 hd (k ls H locs hl hP hS)
theorem Z_land {x y : Int64} (hX : zOk X G cc nL own d) (hd : decode cc pc = .ok (.land, 1)) (k : Z X G nL a b (pc + 1) l (.long (x &&& y) :: st) I J) : Z X G nL a b pc l (.long y :: .long x :: st) I J := by
  obtain ⟨p, la, e, R, s, m, args, below, meth, c, Q, A⟩ := X
  intro ls H locs hl hP hS
  exact lv_land hX.1.1 hX.1.2.1 hd (k ls H locs hl hP hS)
theorem Z_lor {x y : Int64} (hX : zOk X G cc nL own d) (hd : decode cc pc = .ok (.lor, 1)) (k : Z X G nL a b (pc + 1) l (.long (x ||| y) :: st) I J) : Z X G nL a b pc l (.long y :: .long x :: st) I J := by
  obtain ⟨p, la, e, R, s, m, args, below, meth, c, Q, A⟩ := X
  intro ls H locs hl hP hS
  exact lv_lor hX.1.1 hX.1.2.1 hd (k ls H locs hl hP hS)
theorem Z_lshl {x : Int64} {y : Int32} (hX : zOk X G cc nL own d) (hd : decode cc pc = .ok (.lshl, 1)) (k : Z X G nL a b (pc + 1) l (.long (x <<< (y.toInt64 &&& 63)) :: st) I J) : Z X G nL a b pc l (.int y :: .long x :: st) I J := by
  obtain ⟨p, la, e, R, s, m, args, below, meth, c, Q, A⟩ := X
  intro ls H locs hl hP hS
  exact lv_lshl hX.1.1 hX.1.2.1 hd rfl (k ls H locs hl hP hS)
theorem Z_lshr {x : Int64} {y : Int32} (hX : zOk X G cc nL own d) (hd : decode cc pc = .ok (.lshr, 1)) (k : Z X G nL a b (pc + 1) l (.long (x >>> (y.toInt64 &&& 63)) :: st) I J) : Z X G nL a b pc l (.int y :: .long x :: st) I J := by
  obtain ⟨p, la, e, R, s, m, args, below, meth, c, Q, A⟩ := X
  intro ls H locs hl hP hS
  exact lv_lshr hX.1.1 hX.1.2.1 hd rfl (k ls H locs hl hP hS)
theorem Z_i2l {x : Int32} (hX : zOk X G cc nL own d) (hd : decode cc pc = .ok (.i2l, 1)) (k : Z X G nL a b (pc + 1) l (.long x.toInt64 :: st) I J) : Z X G nL a b pc l (.int x :: st) I J := by
  obtain ⟨p, la, e, R, s, m, args, below, meth, c, Q, A⟩ := X
  intro ls H locs hl hP hS
  exact lv_i2l hX.1.1 hX.1.2.1 hd rfl (k ls H locs hl hP hS)
theorem Z_lcmp {x y : Int64} (hX : zOk X G cc nL own d) (hd : decode cc pc = .ok (.lcmp, 1)) (k : Z X G nL a b (pc + 1) l (.int (lg_cmp x y) :: st) I J) : Z X G nL a b pc l (.long y :: .long x :: st) I J := by
  obtain ⟨p, la, e, R, s, m, args, below, meth, c, Q, A⟩ := X
  intro ls H locs hl hP hS
  exact W.lcmp hX.1.1 hX.1.2.1 hd (k ls H locs hl hP hS)
theorem Z_dup {va : Value} (hX : zOk X G cc nL own d) (hd : decode cc pc = .ok (.dup, 1)) (hv : va.category = 1) (k : Z X G nL a b (pc + 1) l (va :: va :: st) I J) : Z X G nL a b pc l (va :: st) I J := by
  obtain ⟨p, la, e, R, s, m, args, below, meth, c, Q, A⟩ := X
  intro ls H locs hl hP hS
  exact lv_dup hX.1.1 hX.1.2.1 hd hv (k ls H locs hl hP hS)
theorem Z_dup2 {va vb : Value} (hX : zOk X G cc nL own d) (hd : decode cc pc = .ok (.dup2, 1)) (hv : va.category = 1) (hw : vb.category = 1) (k : Z X G nL a b (pc + 1) l (va :: vb :: va :: vb :: st) I J) : Z X G nL a b pc l (va :: vb :: st) I J := by
  obtain ⟨p, la, e, R, s, m, args, below, meth, c, Q, A⟩ := X
  intro ls H locs hl hP hS
  exact lv_dup2_11 hX.1.1 hX.1.2.1 hd hv hw (k ls H locs hl hP hS)
theorem Z_pop {va : Value} (hX : zOk X G cc nL own d) (hd : decode cc pc = .ok (.pop, 1)) (hv : va.category = 1) (k : Z X G nL a b (pc + 1) l st I J) : Z X G nL a b pc l (va :: st) I J := by
  obtain ⟨p, la, e, R, s, m, args, below, meth, c, Q, A⟩ := X
  intro ls H locs hl hP hS
  exact lv_pop hX.1.1 hX.1.2.1 hd hv (k ls H locs hl hP hS)
theorem Z_ifeq {x : Int32} {off : Int} {tgt : Nat} (hX : zOk X G cc nL own d) (hd : decode cc pc = .ok (.ifCond .eq off, 3)) (ht : (pc : Int) + off = (tgt : Int)) (kt : x = 0 → Z X G nL a b tgt l st I J) (kf : ¬ x = 0 → Z X G nL a b (pc + 3) l st I J) : Z X G nL a b pc l (.int x :: st) I J := by
  obtain ⟨p, la, e, R, s, m, args, below, meth, c, Q, A⟩ := X
  intro ls H locs hl hP hS
  exact lv_if_eq hX.1.1 hX.1.2.1 hd ht (fun h => kt h ls H locs hl hP hS) (fun h => kf h ls H locs hl hP hS)
theorem Z_iceq {x y : Int32} {off : Int} {tgt : Nat} (hX : zOk X G cc nL own d) (hd : decode cc pc = .ok (.if_icmp .eq off, 3)) (ht : (pc : Int) + off = (tgt : Int)) (kt : x = y → Z X G nL a b tgt l st I J) (kf : ¬ x = y → Z X G nL a b (pc + 3) l st I J) : Z X G nL a b pc l (.int y :: .int x :: st) I J := by
  obtain ⟨p, la, e, R, s, m, args, below, meth, c, Q, A⟩ := X
  intro ls H locs hl hP hS
  exact lv_icmp_eq hX.1.1 hX.1.2.1 hd ht (fun h => kt h ls H locs hl hP hS) (fun h => kf h ls H locs hl hP hS)
theorem Z_ifne {x : Int32} {off : Int} {tgt : Nat} (hX : zOk X G cc nL own d) (hd : decode cc pc = .ok (.ifCond .ne off, 3)) (ht : (pc : Int) + off = (tgt : Int)) (kt : ¬ x = 0 → Z X G nL a b tgt l st I J) (kf : x = 0 → Z X G nL a b (pc + 3) l st I J) : Z X G nL a b pc l (.int x :: st) I J := by
  obtain ⟨p, la, e, R, s, m, args, below, meth, c, Q, A⟩ := X
  intro ls H locs hl hP hS
  exact lv_if_ne hX.1.1 hX.1.2.1 hd ht (fun h => kt h ls H locs hl hP hS) (fun h => kf h ls H locs hl hP hS)
theorem Z_icne {x y : Int32} {off : Int} {tgt : Nat} (hX : zOk X G cc nL own d) (hd : decode cc pc = .ok (.if_icmp .ne off, 3)) (ht : (pc : Int) + off = (tgt : Int)) (kt : ¬ x = y → Z X G nL a b tgt l st I J) (kf : x = y → Z X G nL a b (pc + 3) l st I J) : Z X G nL a b pc l (.int y :: .int x :: st) I J := by
  obtain ⟨p, la, e, R, s, m, args, below, meth, c, Q, A⟩ := X
  intro ls H locs hl hP hS
  exact lv_icmp_ne hX.1.1 hX.1.2.1 hd ht (fun h => kt h ls H locs hl hP hS) (fun h => kf h ls H locs hl hP hS)
theorem Z_iflt {x : Int32} {off : Int} {tgt : Nat} (hX : zOk X G cc nL own d) (hd : decode cc pc = .ok (.ifCond .lt off, 3)) (ht : (pc : Int) + off = (tgt : Int)) (kt : x < 0 → Z X G nL a b tgt l st I J) (kf : ¬ x < 0 → Z X G nL a b (pc + 3) l st I J) : Z X G nL a b pc l (.int x :: st) I J := by
  obtain ⟨p, la, e, R, s, m, args, below, meth, c, Q, A⟩ := X
  intro ls H locs hl hP hS
  exact lv_if_lt hX.1.1 hX.1.2.1 hd ht (fun h => kt h ls H locs hl hP hS) (fun h => kf h ls H locs hl hP hS)
theorem Z_iclt {x y : Int32} {off : Int} {tgt : Nat} (hX : zOk X G cc nL own d) (hd : decode cc pc = .ok (.if_icmp .lt off, 3)) (ht : (pc : Int) + off = (tgt : Int)) (kt : x < y → Z X G nL a b tgt l st I J) (kf : ¬ x < y → Z X G nL a b (pc + 3) l st I J) : Z X G nL a b pc l (.int y :: .int x :: st) I J := by
  obtain ⟨p, la, e, R, s, m, args, below, meth, c, Q, A⟩ := X
  intro ls H locs hl hP hS
  exact lv_icmp_lt hX.1.1 hX.1.2.1 hd ht (fun h => kt h ls H locs hl hP hS) (fun h => kf h ls H locs hl hP hS)
theorem Z_ifge {x : Int32} {off : Int} {tgt : Nat} (hX : zOk X G cc nL own d) (hd : decode cc pc = .ok (.ifCond .ge off, 3)) (ht : (pc : Int) + off = (tgt : Int)) (kt : 0 ≤ x → Z X G nL a b tgt l st I J) (kf : ¬ 0 ≤ x → Z X G nL a b (pc + 3) l st I J) : Z X G nL a b pc l (.int x :: st) I J := by
  obtain ⟨p, la, e, R, s, m, args, below, meth, c, Q, A⟩ := X
  intro ls H locs hl hP hS
  exact lv_if_ge hX.1.1 hX.1.2.1 hd ht (fun h => kt h ls H locs hl hP hS) (fun h => kf h ls H locs hl hP hS)
theorem Z_icge {x y : Int32} {off : Int} {tgt : Nat} (hX : zOk X G cc nL own d) (hd : decode cc pc = .ok (.if_icmp .ge off, 3)) (ht : (pc : Int) + off = (tgt : Int)) (kt : y ≤ x → Z X G nL a b tgt l st I J) (kf : ¬ y ≤ x → Z X G nL a b (pc + 3) l st I J) : Z X G nL a b pc l (.int y :: .int x :: st) I J := by
  obtain ⟨p, la, e, R, s, m, args, below, meth, c, Q, A⟩ := X
  intro ls H locs hl hP hS
  exact lv_icmp_ge hX.1.1 hX.1.2.1 hd ht (fun h => kt h ls H locs hl hP hS) (fun h => kf h ls H locs hl hP hS)
theorem Z_ifgt {x : Int32} {off : Int} {tgt : Nat} (hX : zOk X G cc nL own d) (hd : decode cc pc = .ok (.ifCond .gt off, 3)) (ht : (pc : Int) + off = (tgt : Int)) (kt : 0 < x → Z X G nL a b tgt l st I J) (kf : ¬ 0 < x → Z X G nL a b (pc + 3) l st I J) : Z X G nL a b pc l (.int x :: st) I J := by
  obtain ⟨p, la, e, R, s, m, args, below, meth, c, Q, A⟩ := X
  intro ls H locs hl hP hS
  exact lv_if_gt hX.1.1 hX.1.2.1 hd ht (fun h => kt h ls H locs hl hP hS) (fun h => kf h ls H locs hl hP hS)
theorem Z_icgt {x y : Int32} {off : Int} {tgt : Nat} (hX : zOk X G cc nL own d) (hd : decode cc pc = .ok (.if_icmp .gt off, 3)) (ht : (pc : Int) + off = (tgt : Int)) (kt : y < x → Z X G nL a b tgt l st I J) (kf : ¬ y < x → Z X G nL a b (pc + 3) l st I J) : Z X G nL a b pc l (.int y :: .int x :: st) I J := by
  obtain ⟨p, la, e, R, s, m, args, below, meth, c, Q, A⟩ := X
  intro ls H locs hl hP hS
  exact lv_icmp_gt hX.1.1 hX.1.2.1 hd ht (fun h => kt h ls H locs hl hP hS) (fun h => kf h ls H locs hl hP hS)
theorem Z_ifle {x : Int32} {off : Int} {tgt : Nat} (hX : zOk X G cc nL own d) (hd : decode cc pc = .ok (.ifCond .le off, 3)) (ht : (pc : Int) + off = (tgt : Int)) (kt : x ≤ 0 → Z X G nL a b tgt l st I J) (kf : ¬ x ≤ 0 → Z X G nL a b (pc + 3) l st I J) : Z X G nL a b pc l (.int x :: st) I J := by
  obtain ⟨p, la, e, R, s, m, args, below, meth, c, Q, A⟩ := X
  intro ls H locs hl hP hS
  exact lv_if_le hX.1.1 hX.1.2.1 hd ht (fun h => kt h ls H locs hl hP hS) (fun h => kf h ls H locs hl hP hS)
theorem Z_icle {x y : Int32} {off : Int} {tgt : Nat} (hX : zOk X G cc nL own d) (hd : decode cc pc = .ok (.if_icmp .le off, 3)) (ht : (pc : Int) + off = (tgt : Int)) (kt : x ≤ y → Z X G nL a b tgt l st I J) (kf : ¬ x ≤ y → Z X G nL a b (pc + 3) l st I J) : Z X G nL a b pc l (.int y :: .int x :: st) I J := by
  obtain ⟨p, la, e, R, s, m, args, below, meth, c, Q, A⟩ := X
  intro ls H locs hl hP hS
  exact lv_icmp_le hX.1.1 hX.1.2.1 hd ht (fun h => kt h ls H locs hl hP hS) (fun h => kf h ls H locs hl hP hS)
theorem Z_ifeqB {x : Bool} {off : Int} {tgt : Nat} (hX : zOk X G cc nL own d) (hd : decode cc pc = .ok (.ifCond .eq off, 3)) (ht : (pc : Int) + off = (tgt : Int)) (kt : x = false → Z X G nL a b tgt l st I J) (kf : x = true → Z X G nL a b (pc + 3) l st I J) : Z X G nL a b pc l (.int (zB x) :: st) I J := Z_ifeq hX hd ht (fun h => kt (zB_eq h)) (fun h => kf (zB_ne h))
theorem Z_ifneB {x : Bool} {off : Int} {tgt : Nat} (hX : zOk X G cc nL own d) (hd : decode cc pc = .ok (.ifCond .ne off, 3)) (ht : (pc : Int) + off = (tgt : Int)) (kt : x = true → Z X G nL a b tgt l st I J) (kf : x = false → Z X G nL a b (pc + 3) l st I J) : Z X G nL a b pc l (.int (zB x) :: st) I J := Z_ifne hX hd ht (fun h => kt (zB_ne h)) (fun h => kf (zB_eq h))
theorem Z_goto {off : Int} {tgt : Nat} (hX : zOk X G cc nL own d) (hd : decode cc pc = .ok (.goto off, 3)) (ht : (pc : Int) + off = (tgt : Int)) (k : Z X G nL a b tgt l st I J) : Z X G nL a b pc l st I J := by
  obtain ⟨p, la, e, R, s, m, args, below, meth, c, Q, A⟩ := X
  intro ls H locs hl hP hS
  exact lv_goto hX.1.1 hX.1.2.1 hd ht (k ls H locs hl hP hS)
theorem Z_getI {index c0 ci k0 N : Nat} {C : String} {T : u_T} {ds : List (Option (Option Nat))} (hX : zOk X G cc nL own d) (hd : decode cc pc = .ok (.getfield index, 3)) (hL : lay0[c0]? = some (.inr (.inr (ci, ds)))) (hc : vwCl[ci]? = some (C, T, N)) (hu : ∀ w ∈ u_ws C T N, w ∈ TBL) (hk : k0 < N) (hl0 : Cond.fieldLink own index (T k0).1 (T k0).2.1 (T k0).2.2.1 ∈ TBL) (hf : ds[k0]? = some none) (k : Z X G nL a b (pc + 3) l (.int (I c0 k0) :: st) I J) : Z X G nL a b pc l (.ref (zad G c0) :: st) I J := by
  obtain ⟨p, la, e, R, s, m, args, below, meth, c, Q, A⟩ := X
  intro ls H locs hl hP hS
  exact va_get hX.1.1 hX.1.2.1 hX.1.2.2.2.2 hu hX.1.2.2.2.1 hX.2.2.1 hP c0 (zW_at hL) hc k0 hk (hX.1.2.2.2.2 _ hl0) (fun _ h => h) (by rw [List.getElem?_mapIdx, hf]; rfl) hd (k ls H locs hl hP hS)
theorem Z_getL {index c0 ci k0 N : Nat} {C : String} {T : u_T} {ds : List (Option (Option Nat))} (hX : zOk X G cc nL own d) (hd : decode cc pc = .ok (.getfield index, 3)) (hL : lay0[c0]? = some (.inr (.inr (ci, ds)))) (hc : vwCl[ci]? = some (C, T, N)) (hu : ∀ w ∈ u_ws C T N, w ∈ TBL) (hk : k0 < N) (hl0 : Cond.fieldLink own index (T k0).1 (T k0).2.1 (T k0).2.2.1 ∈ TBL) (hf : ds[k0]? = some (some none)) (k : Z X G nL a b (pc + 3) l (.long (J c0 k0) :: st) I J) : Z X G nL a b pc l (.ref (zad G c0) :: st) I J := by
  obtain ⟨p, la, e, R, s, m, args, below, meth, c, Q, A⟩ := X
  intro ls H locs hl hP hS
  exact va_get hX.1.1 hX.1.2.1 hX.1.2.2.2.2 hu hX.1.2.2.2.1 hX.2.2.1 hP c0 (zW_at hL) hc k0 hk (hX.1.2.2.2.2 _ hl0) (fun _ h => h) (by rw [List.getElem?_mapIdx, hf]; rfl) hd (k ls H locs hl hP hS)
theorem Z_getR {index c0 ci k0 N : Nat} {C : String} {T : u_T} {ds : List (Option (Option Nat))} {r : Nat} (hX : zOk X G cc nL own d) (hd : decode cc pc = .ok (.getfield index, 3)) (hL : lay0[c0]? = some (.inr (.inr (ci, ds)))) (hc : vwCl[ci]? = some (C, T, N)) (hu : ∀ w ∈ u_ws C T N, w ∈ TBL) (hk : k0 < N) (hl0 : Cond.fieldLink own index (T k0).1 (T k0).2.1 (T k0).2.2.1 ∈ TBL) (hf : ds[k0]? = some (some (some r))) (k : Z X G nL a b (pc + 3) l (.ref (zad G r) :: st) I J) : Z X G nL a b pc l (.ref (zad G c0) :: st) I J := by
  obtain ⟨p, la, e, R, s, m, args, below, meth, c, Q, A⟩ := X
  intro ls H locs hl hP hS
  exact va_get hX.1.1 hX.1.2.1 hX.1.2.2.2.2 hu hX.1.2.2.2.1 hX.2.2.1 hP c0 (zW_at hL) hc k0 hk (hX.1.2.2.2.2 _ hl0) (fun _ h => h) (by rw [List.getElem?_mapIdx, hf]; rfl) hd (k ls H locs hl hP hS)
theorem Z_putI {index c0 ci k0 N : Nat} {C : String} {T : u_T} {ds : List (Option (Option Nat))} {v : Int32} {ty : FieldType} (hX : zOk X G cc nL own d) (hd : decode cc pc = .ok (.putfield index, 3)) (hL : lay0[c0]? = some (.inr (.inr (ci, ds)))) (hc : vwCl[ci]? = some (C, T, N)) (hu : ∀ w ∈ u_ws C T N, w ∈ TBL) (hk : k0 < N) (hl0 : Cond.fieldLink own index (T k0).1 (T k0).2.1 (T k0).2.2.1 ∈ TBL) (hf : ds[k0]? = some none) (ty0 : Nat → FieldType) (hty : ∀ k, k < N → parseFieldDescriptor (T k).2.2.1 = some (ty0 k)) (hnm : ∀ a, a < N → ∀ b, b < N → a ≠ b → (T a).2.1 ≠ (T b).2.1) (hfin : (T k0).2.2.2 = false) (hde : parseFieldDescriptor (T k0).2.2.1 = some ty) (hna : narrow ty (.int v) = .int v) (hfi : fits ty (.int v) = true) (k : Z X G nL a b (pc + 3) l st (zup I c0 k0 v) J) : Z X G nL a b pc l (.int v :: .ref (zad G c0) :: st) I J := by
  obtain ⟨p, la, e, R, s, m, args, below, meth, c, Q, A⟩ := X
  intro ls H locs hl hP hS
  have hlen : k0 < (ds.mapIdx (zF G (I c0) (J c0))).length := by
    rw [List.length_mapIdx]
    exact (List.getElem?_eq_some_iff.mp hf).1
  refine va_put hX.1.1 hX.1.2.1 hX.1.2.2.2.2 hu ty0 hty hnm hX.1.2.2.2.1 hX.2.2.1 hP (hX.2.2.2.1 I J) hS c0 (zW_at hL) hc k0 hk (hX.1.2.2.2.2 _ hl0) (fun _ h => h) hfin hde hna hfi hlen hd (fun H1 locs1 hP1 _ hS1 => ?_)
  rw [zF_set hf] at hP1
  have e1 : (zW G I J).set c0 (zad G c0, .inr (ci, ds.mapIdx (zF G (upd (I c0) k0 v) (J c0)))) = zW G (zup I c0 k0 v) J := by
    have h9 := zW_set (G := G) (I := I) (I' := zup I c0 k0 v) (J := J) (J' := J) (fun a h => zup_ne h) (fun _ _ => rfl) hL
    rw [zup_same] at h9
    exact h9
  rw [e1] at hP1
  exact k ls H1 locs1 hl hP1 hS1
theorem Z_putL {index c0 ci k0 N : Nat} {C : String} {T : u_T} {ds : List (Option (Option Nat))} {v : Int64} (hX : zOk X G cc nL own d) (hd : decode cc pc = .ok (.putfield index, 3)) (hL : lay0[c0]? = some (.inr (.inr (ci, ds)))) (hc : vwCl[ci]? = some (C, T, N)) (hu : ∀ w ∈ u_ws C T N, w ∈ TBL) (hk : k0 < N) (hl0 : Cond.fieldLink own index (T k0).1 (T k0).2.1 (T k0).2.2.1 ∈ TBL) (hf : ds[k0]? = some (some none)) (ty0 : Nat → FieldType) (hty : ∀ k, k < N → parseFieldDescriptor (T k).2.2.1 = some (ty0 k)) (hnm : ∀ a, a < N → ∀ b, b < N → a ≠ b → (T a).2.1 ≠ (T b).2.1) (hfin : (T k0).2.2.2 = false) (hde : parseFieldDescriptor (T k0).2.2.1 = some .long) (k : Z X G nL a b (pc + 3) l st I (zupL J c0 k0 v)) : Z X G nL a b pc l (.long v :: .ref (zad G c0) :: st) I J := by
  obtain ⟨p, la, e, R, s, m, args, below, meth, c, Q, A⟩ := X
  intro ls H locs hl hP hS
  have hlen : k0 < (ds.mapIdx (zF G (I c0) (J c0))).length := by
    rw [List.length_mapIdx]
    exact (List.getElem?_eq_some_iff.mp hf).1
  refine va_put hX.1.1 hX.1.2.1 hX.1.2.2.2.2 hu ty0 hty hnm hX.1.2.2.2.1 hX.2.2.1 hP (hX.2.2.2.1 I J) hS c0 (zW_at hL) hc k0 hk (hX.1.2.2.2.2 _ hl0) (fun _ h => h) hfin hde rfl rfl hlen hd (fun H1 locs1 hP1 _ hS1 => ?_)
  rw [zF_setL hf] at hP1
  have e1 : (zW G I J).set c0 (zad G c0, .inr (ci, ds.mapIdx (zF G (I c0) (vp_updL (J c0) k0 v)))) = zW G I (zupL J c0 k0 v) := by
    have h9 := zW_set (G := G) (I := I) (I' := I) (J := J) (J' := zupL J c0 k0 v) (fun _ _ => rfl) (fun a h => zupL_ne h) hL
    rw [zupL_same] at h9
    exact h9
  rw [e1] at hP1
  exact k ls H1 locs1 hl hP1 hS1
theorem Z_iald {c0 n k0 : Nat} {i : Int32} (hX : zOk X G cc nL own d) (hd : decode cc pc = .ok (.iaload, 1)) (hL : lay0[c0]? = some (.inl (false, n))) (hi : i = nI k0) (hk : k0 < n) (hn : n < 2 ^ 31) (k : Z X G nL a b (pc + 1) l (.int (I c0 k0) :: st) I J) : Z X G nL a b pc l (.int i :: .ref (zad G c0) :: st) I J := by
  obtain ⟨p, la, e, R, s, m, args, below, meth, c, Q, A⟩ := X
  intro ls H locs hl hP hS
  subst hi
  refine va_iald hX.1.1 hX.1.2.1 hX.2.2.1 hP c0 0 (zW_at hL) rfl (vp_in_nI hk hn) hd ?_
  rw [nI_clamp (Nat.lt_trans hk hn)]
  exact k ls H locs hl hP hS
theorem Z_zald {c0 n k0 : Nat} {i : Int32} (hX : zOk X G cc nL own d) (hd : decode cc pc = .ok (.baload, 1)) (hL : lay0[c0]? = some (.inl (true, n))) (hi : i = nI k0) (hk : k0 < n) (hn : n < 2 ^ 31) (k : Z X G nL a b (pc + 1) l (.int (I c0 k0) :: st) I J) : Z X G nL a b pc l (.int i :: .ref (zad G c0) :: st) I J := by
  obtain ⟨p, la, e, R, s, m, args, below, meth, c, Q, A⟩ := X
  intro ls H locs hl hP hS
  subst hi
  refine va_zald hX.1.1 hX.1.2.1 hX.2.2.1 hP c0 1 (zW_at hL) rfl (vp_in_nI hk hn) hd ?_
  rw [nI_clamp (Nat.lt_trans hk hn)]
  exact k ls H locs hl hP hS
theorem Z_lald {c0 n k0 : Nat} {i : Int32} (hX : zOk X G cc nL own d) (hd : decode cc pc = .ok (.laload, 1)) (hL : lay0[c0]? = some (.inr (.inl n))) (hi : i = nI k0) (hk : k0 < n) (hn : n < 2 ^ 31) (k : Z X G nL a b (pc + 1) l (.long (J c0 k0) :: st) I J) : Z X G nL a b pc l (.int i :: .ref (zad G c0) :: st) I J := by
  obtain ⟨p, la, e, R, s, m, args, below, meth, c, Q, A⟩ := X
  intro ls H locs hl hP hS
  subst hi
  refine va_lald hX.1.1 hX.1.2.1 hX.2.2.1 hP c0 2 (zW_at hL) rfl (vp_in_nI hk hn) hd ?_
  rw [nI_clamp (Nat.lt_trans hk hn)]
  exact k ls H locs hl hP hS
theorem Z_iast {c0 n k0 : Nat} {i x : Int32} (hX : zOk X G cc nL own d) (hd : decode cc pc = .ok (.iastore, 1)) (hL : lay0[c0]? = some (.inl (false, n))) (hi : i = nI k0) (hk : k0 < n) (hn : n < 2 ^ 31) (k : Z X G nL a b (pc + 1) l st (zup I c0 k0 x) J) : Z X G nL a b pc l (.int x :: .int i :: .ref (zad G c0) :: st) I J := by
  obtain ⟨p, la, e, R, s, m, args, below, meth, c, Q, A⟩ := X
  intro ls H locs hl hP hS
  subst hi
  refine va_iast hX.1.1 hX.1.2.1 hX.2.2.1 hP (hX.2.2.2.1 I J) hS c0 0 (zW_at hL) rfl (vp_in_nI hk hn) hd (fun H1 locs1 hP1 _ hS1 => ?_)
  rw [nI_clamp (Nat.lt_trans hk hn)] at hP1
  have e1 : (zW G I J).set c0 (zad G c0, .inl (G.2.1 (zty false), n, .inl (upd (I c0) k0 x))) = zW G (zup I c0 k0 x) J := by
    have h9 := zW_set (G := G) (I := I) (I' := zup I c0 k0 x) (J := J) (J' := J) (fun a h => zup_ne h) (fun _ _ => rfl) hL
    rw [zup_same] at h9
    exact h9
  exact k ls H1 locs1 hl (e1 ▸ hP1) hS1
theorem Z_zast {c0 n k0 : Nat} {i x : Int32} (hX : zOk X G cc nL own d) (hd : decode cc pc = .ok (.bastore, 1)) (hL : lay0[c0]? = some (.inl (true, n))) (hi : i = nI k0) (hk : k0 < n) (hn : n < 2 ^ 31) (k : Z X G nL a b (pc + 1) l st (zup I c0 k0 (vp_nar .boolean x)) J) : Z X G nL a b pc l (.int x :: .int i :: .ref (zad G c0) :: st) I J := by
  obtain ⟨p, la, e, R, s, m, args, below, meth, c, Q, A⟩ := X
  intro ls H locs hl hP hS
  subst hi
  refine va_zast hX.1.1 hX.1.2.1 hX.2.2.1 hP (hX.2.2.2.1 I J) hS c0 1 (zW_at hL) rfl (vp_in_nI hk hn) hd (fun H1 locs1 hP1 _ hS1 => ?_)
  rw [nI_clamp (Nat.lt_trans hk hn)] at hP1
  have e1 : (zW G I J).set c0 (zad G c0, .inl (G.2.1 (zty true), n, .inl (upd (I c0) k0 (vp_nar .boolean x)))) = zW G (zup I c0 k0 (vp_nar .boolean x)) J := by
    have h9 := zW_set (G := G) (I := I) (I' := zup I c0 k0 (vp_nar .boolean x)) (J := J) (J' := J) (fun a h => zup_ne h) (fun _ _ => rfl) hL
    rw [zup_same] at h9
    exact h9
  exact k ls H1 locs1 hl (e1 ▸ hP1) hS1
theorem Z_zast01 {c0 n k0 : Nat} {i x : Int32} (hX : zOk X G cc nL own d) (hd : decode cc pc = .ok (.bastore, 1)) (hL : lay0[c0]? = some (.inl (true, n))) (hi : i = nI k0) (hk : k0 < n) (hn : n < 2 ^ 31) (hx : vp_nar .boolean x = x) (k : Z X G nL a b (pc + 1) l st (zup I c0 k0 x) J) : Z X G nL a b pc l (.int x :: .int i :: .ref (zad G c0) :: st) I J := Z_zast hX hd hL hi hk hn (by rw [hx]; exact k)
theorem Z_last {c0 n k0 : Nat} {i : Int32} {x : Int64} (hX : zOk X G cc nL own d) (hd : decode cc pc = .ok (.lastore, 1)) (hL : lay0[c0]? = some (.inr (.inl n))) (hi : i = nI k0) (hk : k0 < n) (hn : n < 2 ^ 31) (k : Z X G nL a b (pc + 1) l st I (zupL J c0 k0 x)) : Z X G nL a b pc l (.long x :: .int i :: .ref (zad G c0) :: st) I J := by
  obtain ⟨p, la, e, R, s, m, args, below, meth, c, Q, A⟩ := X
  intro ls H locs hl hP hS
  subst hi
  refine va_last hX.1.1 hX.1.2.1 hX.2.2.1 hP (hX.2.2.2.1 I J) hS c0 2 (zW_at hL) rfl (vp_in_nI hk hn) hd (fun H1 locs1 hP1 _ hS1 => ?_)
  rw [nI_clamp (Nat.lt_trans hk hn)] at hP1
  have e1 : (zW G I J).set c0 (zad G c0, .inl (G.2.1 .long, n, .inr (.inl (vp_updL (J c0) k0 x)))) = zW G I (zupL J c0 k0 x) := by
    have h9 := zW_set (G := G) (I := I) (I' := I) (J := J) (J' := zupL J c0 k0 x) (fun _ _ => rfl) (fun a h => zupL_ne h) hL
    rw [zupL_same] at h9
    exact h9
  exact k ls H1 locs1 hl (e1 ▸ hP1) hS1
theorem Z_mem {I' : zI} {J' : zJ} (hI : I = I') (hJ : J = J') (k : Z X G nL a b pc l st I' J') : Z X G nL a b pc l st I J := by
  subst hI; subst hJ; exact k
theorem Z_ri {v v' : Int32} {I' : zI} {J' : zJ} (k : Z X G nL a b pc l [.int v] I' J') (hv : v' = v) (hI : I = I') (hJ : J = J') : Z X G nL a b pc l [.int v'] I J := by
  subst hv; subst hI; subst hJ; exact k
theorem Z_rl {v v' : Int64} {I' : zI} {J' : zJ} (k : Z X G nL a b pc l [.long v] I' J') (hv : v' = v) (hI : I = I') (hJ : J = J') : Z X G nL a b pc l [.long v'] I J := by
  subst hv; subst hI; subst hJ; exact k
theorem Z_cut {P : Int32 → Prop} {pc' : Nat} (h1 : ∀ v : Int32, P v → Z X G nL a b pc' l (.int v :: st) I J) (h2 : (∀ v : Int32, P v → Z X G nL a b pc' l (.int v :: st) I J) → Z X G nL a b pc l st I J) : Z X G nL a b pc l st I J := h2 h1
theorem Z_top {x y : Int32} (h : x = y) (k : Z X G nL a b pc l (.int y :: st) I J) : Z X G nL a b pc l (.int x :: st) I J := by
  subst h; exact k
theorem Z_topL {x y : Int64} (h : x = y) (k : Z X G nL a b pc l (.long y :: st) I J) : Z X G nL a b pc l (.long x :: st) I J := by
  subst h; exact k
theorem Z_copy {c0 c1 n index : Nat} {w0 w1 w2 : Int32} (hX : zOk X G cc nL own d) (hd : decode cc pc = .ok (.invokestatic index, 3)) (hw0 : w0 = 0) (hw1 : w1 = 0) (hw2 : w2 = nI n) (hn : n < 2 ^ 31) (hL0 : lay0[c0]? = some (.inl (false, n))) (hL1 : lay0[c1]? = some (.inl (false, n))) (h1 : Cond.methodLink own index arraycopyName ∈ TBL) (h2 : Cond.native arraycopyName ∈ TBL) (h3 : Cond.static arraycopyName ∈ TBL) (h4 : Cond.initialized "java/lang/System" ∈ TBL) (hf : 1 ≤ d.frames) (hlo : (st.map fun v => v.category).sum + (nativeFrameWords "java/lang/System" "arraycopy" 5 + 11) ≤ d.locals) (k : Z X G nL a b (pc + 3) l st (zcp I c0 c1 n) J) : Z X G nL a b pc l (.int w2 :: .int w1 :: .ref (zad G c1) :: .int w0 :: .ref (zad G c0) :: st) I J := by
  obtain ⟨p, la, e, R, s, m, args, below, meth, c, Q, A⟩ := X
  intro ls H locs hl hP hS
  subst hw0; subst hw1; subst hw2
  have e0 : (0 : Int32).toNatClampNeg = 0 := rfl
  have e2 : (nI n).toNatClampNeg = n := nI_clamp hn
  refine va_copyi (ty := .int) hX.1.1 hX.1.2.1 (hX.1.2.2.1.trans hl.1.symm) hX.1.2.2.2.1 (hX.1.2.2.2.2 _ h1) (hX.1.2.2.2.2 _ h2) (hX.1.2.2.2.2 _ h3) (hX.1.2.2.2.2 _ h4) hX.2.2.1 hP (hX.2.2.2.1 I J) hS c0 c1 0 0 (zW_at hL0) (zW_at hL1) rfl rfl rfl (by decide) (by decide) (nI_pos hn) (by rw [e0, e2]; omega) (by rw [e0, e2]; omega) (fun i _ => rfl) (by rw [hX.2.1]; exact hf) (by rw [hX.2.1]; exact hlo) hd (fun H1 locs1 hP1 _ hS1 => ?_)
  rw [e0, e2] at hP1
  have e1 : (zW G I J).set c1 (zad G c1, .inl (G.2.1 (zty false), n, .inl (va_cpy (I c0) (I c1) 0 0 n))) = zW G (zcp I c0 c1 n) J := by
    have h9 := zW_set (G := G) (I := I) (I' := zcp I c0 c1 n) (J := J) (J' := J) (fun a h => zcp_ne h) (fun _ _ => rfl) hL1
    rw [zcp_same] at h9
    exact h9
  exact k ls H1 locs1 hl (e1 ▸ hP1) hS1
theorem Z_min {x y : Int32} {index : Nat} (hX : zOk X G cc nL own d) (hd : decode cc pc = .ok (.invokestatic index, 3)) (h1 : Cond.methodLink own index Lib.Math.min.name ∈ TBL) (h2 : Cond.static Lib.Math.min.name ∈ TBL) (h3 : Cond.initialized "java/lang/Math" ∈ TBL) (h4 : Cond.code Lib.Math.min.name Lib.Math.min.code 2 (some .int) ∈ TBL) (hf : 1 ≤ d.frames) (hlo : (st.map fun v => v.category).sum + 13 ≤ d.locals) (hca : a ≤ d.cells) (hsl : b ≤ d.slots) (k : Z X G nL a b (pc + 3) l (.int (if y < x then y else x) :: st) I J) : Z X G nL a b pc l (.int y :: .int x :: st) I J := by
  obtain ⟨p, la, e, R, s, m, args, below, meth, c, Q, A⟩ := X
  intro ls H locs hl hP hS
  exact va_mmin hX.1.1 hX.1.2.1 (hX.1.2.2.1.trans hl.1.symm) hX.1.2.2.2.1 (hX.1.2.2.2.2 _ h1) (hX.1.2.2.2.2 _ h2) (hX.1.2.2.2.2 _ h3) (hX.1.2.2.2.2 _ h4) (by rw [hX.2.1]; exact hf) (by rw [hX.2.1]; exact hlo) (by rw [hX.2.1]; exact hca) (by rw [hX.2.1]; exact hsl) hd (k ls H locs hl hP hS)
theorem Z_max {x y : Int32} {index : Nat} (hX : zOk X G cc nL own d) (hd : decode cc pc = .ok (.invokestatic index, 3)) (h1 : Cond.methodLink own index Lib.Math.max.name ∈ TBL) (h2 : Cond.static Lib.Math.max.name ∈ TBL) (h3 : Cond.initialized "java/lang/Math" ∈ TBL) (h4 : Cond.code Lib.Math.max.name Lib.Math.max.code 2 (some .int) ∈ TBL) (hf : 1 ≤ d.frames) (hlo : (st.map fun v => v.category).sum + 13 ≤ d.locals) (hca : a ≤ d.cells) (hsl : b ≤ d.slots) (k : Z X G nL a b (pc + 3) l (.int (if x < y then y else x) :: st) I J) : Z X G nL a b pc l (.int y :: .int x :: st) I J := by
  obtain ⟨p, la, e, R, s, m, args, below, meth, c, Q, A⟩ := X
  intro ls H locs hl hP hS
  exact va_mmax hX.1.1 hX.1.2.1 (hX.1.2.2.1.trans hl.1.symm) hX.1.2.2.2.1 (hX.1.2.2.2.2 _ h1) (hX.1.2.2.2.2 _ h2) (hX.1.2.2.2.2 _ h3) (hX.1.2.2.2.2 _ h4) (by rw [hX.2.1]; exact hf) (by rw [hX.2.1]; exact hlo) (by rw [hX.2.1]; exact hca) (by rw [hX.2.1]; exact hsl) hd (k ls H locs hl hP hS)
end ZR
end
section
def zA (G : zG) (sz : Nat) : Nat → Prop := fun q => (∃ c : Nat, c < lay0.length ∧ q = zad G c) ∨ sz ≤ q
def zInj (G : zG) : Prop := ∀ c c' : Nat, c < lay0.length → c' < lay0.length → zad G c = zad G c' → c = c'
theorem zW_len (G : zG) (I : zI) (J : zJ) : (zW G I J).length = lay0.length := by simp only [zW, List.length_mapIdx]
theorem zW_ad {G : zG} {I : zI} {J : zJ} {k : Nat} {q : Nat × va_E} (h : (zW G I J)[k]? = some q) : k < lay0.length ∧ q.1 = zad G k := by
  have hk := (List.getElem?_eq_some_iff.mp h).1
  rw [zW_len] at hk
  rw [zW_at (List.getElem?_eq_getElem hk)] at h
  cases h
  exact ⟨hk, rfl⟩
theorem zD_of {G : zG} (h : zInj G) {A : Nat → Prop} (hA : ∀ c : Nat, c < lay0.length → A (zad G c)) (I : zI) (J : zJ) : va_D A (zW G I J) := by
  refine ⟨fun i j p q hi hj hpq => ?_, fun k q hk => ?_⟩
  · obtain ⟨h1, e1⟩ := zW_ad hi
    obtain ⟨h2, e2⟩ := zW_ad hj
    exact h i j h1 h2 (by rw [← e1, ← e2]; exact hpq)
  · obtain ⟨h1, e1⟩ := zW_ad hk
    rw [e1]
    exact hA k h1
theorem zInj_of {G : zG} {A : Nat → Prop} {I : zI} {J : zJ} (h : va_D A (zW G I J)) : zInj G := by
  intro c c' hc hc' he
  exact h.1 c c' _ _ (zW_at (List.getElem?_eq_getElem hc)) (zW_at (List.getElem?_eq_getElem hc')) he
theorem zA_of {G : zG} {A : Nat → Prop} {I : zI} {J : zJ} (h : va_D A (zW G I J)) {c : Nat} (hc : c < lay0.length) : A (zad G c) := h.2 c _ (zW_at (List.getElem?_eq_getElem hc))
def zPc (G : zG) (avs : List Value) (sz : Nat) (I : zI) (J : zJ) : Array Value → State → Prop := va_Pc avs (fun U => U.heap.size = sz ∧ va_P G.1 vwCl (zW G I J) U.heap ∧ va_K G.1 vwCl (ztys G) U ∧ zInj G ∧ zNst U)
def zCi (la : Launch) (G : zG) (y : MethodName) (ws : List Cond) (rm : Room) (avs : List Value) (I : zI) (J : zJ) (v : Int32) (I1 : zI) (J1 : zJ) : Prop := ∀ sz : Nat, Met la y ws rm (zPc G avs sz I J) (va_Qi (fun r (_ : Unit) => r = v) (fun _ t => va_P G.1 vwCl (zW G I1 J1) t.heap) (zA G sz)) rm.cells rm.slots (zA G sz)
def zCl (la : Launch) (G : zG) (y : MethodName) (ws : List Cond) (rm : Room) (avs : List Value) (I : zI) (J : zJ) (v : Int64) (I1 : zI) (J1 : zJ) : Prop := ∀ sz : Nat, Met la y ws rm (zPc G avs sz I J) (va_Ql (fun r (_ : Unit) => r = v) (fun _ t => va_P G.1 vwCl (zW G I1 J1) t.heap) (zA G sz)) rm.cells rm.slots (zA G sz)
def zCv (la : Launch) (G : zG) (y : MethodName) (ws : List Cond) (rm : Room) (avs : List Value) (I : zI) (J : zJ) (I1 : zI) (J1 : zJ) : Prop := ∀ sz : Nat, Met la y ws rm (zPc G avs sz I J) (va_Qv (fun (_ : Unit) => True) (fun _ t => va_P G.1 vwCl (zW G I1 J1) t.heap) (zA G sz)) rm.cells rm.slots (zA G sz)
theorem zNst_warm {s U : State} (hW : s.WarmedH U.vm) (h : zNst s) : zNst U := by
  intro w hw
  have h1 := h w hw
  obtain ⟨a, i, x, hh, e1⟩ := NEST_is w hw
  subst e1
  exact va_Nw.warmM hW h1
theorem zNst_calling {U : State} {g : JFrame} {mk : MethodId} {a : Array Value} (h : zNst U) : zNst (U.calling g mk a) := by
  intro w hw
  have h1 := h w hw
  obtain ⟨a9, i, x, hh, e1⟩ := NEST_is w hw
  subst e1
  exact va_Nw.same rfl rfl h1
theorem zPc_blind {G : zG} {avs : List Value} {sz : Nat} {I : zI} {J : zJ} : FrameBlind (zPc G avs sz I J) := by
  intro a U g mk q
  obtain ⟨q0, q1, qP, qK, qI, qN⟩ := q
  exact ⟨q0, q1, qP, va_K.moved (u := U) (U := U.calling g mk a) (Vm.Alike.refl U.vm) qK, qI, zNst_calling qN⟩

theorem zCi_of {la : Launch} {G : zG} {y : MethodName} {cc : ByteArray} {nL : Nat} {ty : FieldType} {rm : Room} {avs : List Value} {I I1 : zI} {J J1 : zJ} {v : Int32} (hy : plainName y.cls = true) (hlen : (lg_sl avs).length ≤ nL) (hn : narrow ty (.int v) = .int v) 
    (body : ∀ X : zX, X.2.1 = la → zOk X G cc nL y.cls rm → (∀ (pc : Nat) (l : List (Nat × Value)), decode cc pc = .ok (.ireturn, 1) → Z X G nL rm.cells rm.slots pc l [.int v] I1 J1) → Z X G nL 0 0 0 (lv_args 0 avs) [] I J) : zCi la G y (Cond.code y cc nL (some ty) :: TBL) rm avs I J v I1 J1 := by
  intro sz
  refine Met.ofW (cc := cc) (maxL := nL) (ret := (some ty)) hy rfl ?_
  intro p e s m args below meth c s₁ B hml hv
  obtain ⟨rfl, hsz, hP, hK, hI, hN⟩ := hv
  subst hsz
  have hts := atoms_spec (ws := Cond.code y cc nL (some ty) :: TBL) B.pre
  have hl := lv_entry avs hlen
  rw [lg_entry_eq]
  refine body (p, la, e, rm, s, m, avs.toArray, below, meth, c, _, zA G s.heap.size) rfl ⟨⟨B.exec, B.bytes, hml, findClass_of_methodNamed B.named, fun w hw => hts w (List.mem_cons_of_mem _ hw)⟩, rfl, hK, fun I J => zD_of hI (fun c hc => Or.inl ⟨c, hc, rfl⟩) I J, fun q h => Or.inr h, hN, B.notSynchronized⟩ (fun pc l hd => ?_) _ s.heap [] (z_has.of hl) hP va_S.rf
  intro ls H locs hl hP1 hS
  exact W.zret B.exec B.bytes B.returns hn (fun t ht hW => ⟨⟨v, (), rfl, rfl, by show va_P G.1 vwCl (zW G I1 J1) t.heap; rw [ht]; exact hP1⟩, hS.F ht⟩) hS.2.2 hd B.notSynchronized
theorem zCl_of {la : Launch} {G : zG} {y : MethodName} {cc : ByteArray} {nL : Nat} {rm : Room} {avs : List Value} {I I1 : zI} {J J1 : zJ} {v : Int64} (hy : plainName y.cls = true) (hlen : (lg_sl avs).length ≤ nL) 
    (body : ∀ X : zX, X.2.1 = la → zOk X G cc nL y.cls rm → (∀ (pc : Nat) (l : List (Nat × Value)), decode cc pc = .ok (.lreturn, 1) → Z X G nL rm.cells rm.slots pc l [.long v] I1 J1) → Z X G nL 0 0 0 (lv_args 0 avs) [] I J) : zCl la G y (Cond.code y cc nL (some .long) :: TBL) rm avs I J v I1 J1 := by
  intro sz
  refine Met.ofW (cc := cc) (maxL := nL) (ret := (some .long)) hy rfl ?_
  intro p e s m args below meth c s₁ B hml hv
  obtain ⟨rfl, hsz, hP, hK, hI, hN⟩ := hv
  subst hsz
  have hts := atoms_spec (ws := Cond.code y cc nL (some .long) :: TBL) B.pre
  have hl := lv_entry avs hlen
  rw [lg_entry_eq]
  refine body (p, la, e, rm, s, m, avs.toArray, below, meth, c, _, zA G s.heap.size) rfl ⟨⟨B.exec, B.bytes, hml, findClass_of_methodNamed B.named, fun w hw => hts w (List.mem_cons_of_mem _ hw)⟩, rfl, hK, fun I J => zD_of hI (fun c hc => Or.inl ⟨c, hc, rfl⟩) I J, fun q h => Or.inr h, hN, B.notSynchronized⟩ (fun pc l hd => ?_) _ s.heap [] (z_has.of hl) hP va_S.rf
  intro ls H locs hl hP1 hS
  exact W.lret B.exec B.bytes B.returns (fun t ht hW => ⟨⟨v, (), rfl, rfl, by show va_P G.1 vwCl (zW G I1 J1) t.heap; rw [ht]; exact hP1⟩, hS.F ht⟩) hS.2.2 hd B.notSynchronized
theorem zCv_of {la : Launch} {G : zG} {y : MethodName} {cc : ByteArray} {nL : Nat} {rm : Room} {avs : List Value} {I I1 : zI} {J J1 : zJ} (hy : plainName y.cls = true) (hlen : (lg_sl avs).length ≤ nL) 
    (body : ∀ X : zX, X.2.1 = la → zOk X G cc nL y.cls rm → (∀ (pc : Nat) (l : List (Nat × Value)), decode cc pc = .ok (.return_, 1) → Z X G nL rm.cells rm.slots pc l [] I1 J1) → Z X G nL 0 0 0 (lv_args 0 avs) [] I J) : zCv la G y (Cond.code y cc nL none :: TBL) rm avs I J I1 J1 := by
  intro sz
  refine Met.ofW (cc := cc) (maxL := nL) (ret := none) hy rfl ?_
  intro p e s m args below meth c s₁ B hml hv
  obtain ⟨rfl, hsz, hP, hK, hI, hN⟩ := hv
  subst hsz
  have hts := atoms_spec (ws := Cond.code y cc nL none :: TBL) B.pre
  have hl := lv_entry avs hlen
  rw [lg_entry_eq]
  refine body (p, la, e, rm, s, m, avs.toArray, below, meth, c, _, zA G s.heap.size) rfl ⟨⟨B.exec, B.bytes, hml, findClass_of_methodNamed B.named, fun w hw => hts w (List.mem_cons_of_mem _ hw)⟩, rfl, hK, fun I J => zD_of hI (fun c hc => Or.inl ⟨c, hc, rfl⟩) I J, fun q h => Or.inr h, hN, B.notSynchronized⟩ (fun pc l hd => ?_) _ s.heap [] (z_has.of hl) hP va_S.rf
  intro ls H locs hl hP1 hS
  exact W.vret B.exec B.bytes B.returns (fun t ht hW => ⟨⟨(), rfl, trivial, by show va_P G.1 vwCl (zW G I1 J1) t.heap; rw [ht]; exact hP1⟩, hS.F ht⟩) hS.2.2 hd B.notSynchronized
/-- a method that may be called: its words -/
def zMV (y : MethodName) (cc : ByteArray) (nL : Nat) (ret : Option FieldType) (n : Nat) : Prop := Cond.instanceMethod y ∈ TBL ∧ Cond.selects y.cls y y ∈ TBL ∧ Cond.initialized y.cls ∈ TBL ∧ Cond.code y cc nL ret ∈ TBL ∧ y.cls ≠ "java/lang/invoke/MethodHandle" ∧ y.cls ≠ "java/lang/invoke/VarHandle" ∧ (parseMethodDescriptor y.desc).map (fun d => d.parameters.length) = some n
def zMS (y : MethodName) (cc : ByteArray) (nL : Nat) (ret : Option FieldType) (n : Nat) : Prop := Cond.static y ∈ TBL ∧ Cond.initialized y.cls ∈ TBL ∧ Cond.code y cc nL ret ∈ TBL ∧ y.cls ≠ "java/lang/invoke/MethodHandle" ∧ y.cls ≠ "java/lang/invoke/VarHandle" ∧ (parseMethodDescriptor y.desc).map (fun d => d.parameters.length) = some n
theorem zGood {y : MethodName} {cc : ByteArray} {nL : Nat} {ret : Option FieldType} (h : Cond.code y cc nL ret ∈ TBL) : GoodIn TBL (Cond.code y cc nL ret :: TBL) := by
  intro w hw
  rcases List.mem_cons.mp hw with rfl | h1
  · exact ⟨h, TBL_good _ h⟩
  · exact ⟨h1, TBL_good _ h1⟩
section ZC
variable {X : zX} {G : zG} {cc cc2 : ByteArray} {nL nL2 a b pc index n : Nat} {own : String} {d rm2 : Room} {l : List (Nat × Value)} {st : List Value} {I I1 : zI} {J J1 : zJ} {y : MethodName} {ret : Option FieldType}
theorem zS_call {A : Nat → Prop} {G : zG} {H0 H : Heap} {locs : List Loc} (hD : ∀ (I : zI) (J : zJ), va_D A (zW G I J)) (hA : ∀ q : Nat, H0.size ≤ q → A q) (hS : va_S A H0 H locs) (I : zI) (J : zJ) : ∀ q, zA G H.size q → A q := by
  intro q h
  rcases h with ⟨c, hc, rfl⟩ | h
  · exact zA_of (hD I J) hc
  · exact hA q (Nat.le_trans hS.1 h)

theorem Z_cVi {c0 ci N : Nat} {T : u_T} {ds : List (Option (Option Nat))} {As : List Value} {v : Int32} (hX : zOk X G cc nL own d) (hd : decode cc pc = .ok (.invokevirtual index, 3)) (hM : zCi X.2.1 G y (Cond.code y cc2 nL2 ret :: TBL) rm2 (.ref (zad G c0) :: As) I J v I1 J1) (hy : zMV y cc2 nL2 ret n) (hn : As.length = n) (hL : lay0[c0]? = some (.inr (.inr (ci, ds)))) (hc : vwCl[ci]? = some (y.cls, T, N)) (h1 : Cond.methodLink own index y ∈ TBL) (hR : rm2.frames + 1 ≤ d.frames ∧ 8 + (nL2 + 11) + rm2.locals ≤ d.locals) (hf : a + rm2.cells ≤ d.cells ∧ b + rm2.slots ≤ d.slots) (hst : (st.map fun v => v.category).sum ≤ 8) (k : Z X G nL (a + rm2.cells) (b + rm2.slots) (pc + 3) l (.int v :: st) I1 J1) : Z X G nL a b pc l (As.reverse ++ .ref (zad G c0) :: st) I J := by
  obtain ⟨p, la, e, R, s, m, args, below, meth, c, Q, A⟩ := X
  intro ls H locs hl hP hS
  obtain ⟨y1, y2, y3, y4, y5, y6, y7⟩ := hy
  have hts := hX.1.2.2.2.2
  have hG := zGood y4
  have hT : GoodIn TBL (wsV own index y.cls y (Cond.code y cc2 nL2 ret :: TBL)) := by
    intro w hw
    unfold wsV at hw
    rcases List.mem_append.mp hw with h | h
    · simp only [List.mem_cons, List.not_mem_nil, or_false] at h
      rcases h with rfl | rfl | rfl | rfl
      · exact ⟨h1, TBL_good _ h1⟩
      · exact ⟨y1, TBL_good _ y1⟩
      · exact ⟨y2, TBL_good _ y2⟩
      · exact ⟨y3, TBL_good _ y3⟩
    · exact hG w h
  have hF := zS_call hX.2.2.2.1 hX.2.2.2.2.1 hS I J
  refine va_calli (va_runV (C := y.cls) (n := n) (As := As) (rest := st) hX.1 (hM H.size) (cwV n hts hT rfl rfl rfl ⟨rfl, y5, y6, y7⟩ (by rw [hX.2.1]; exact hR)) ⟨zPc_blind, va_recv hX.2.2.1 hP hc (zW_at hL), fun U hU hW => ⟨rfl, by rw [hU], by rw [hU]; exact hP, va_K.moved hW.alike hX.2.2.1, zInj_of (hX.2.2.2.1 I J), zNst_warm hW hX.2.2.2.2.2.1⟩⟩ rfl hn (hl.1) rfl (lv_room hst) hd (by rw [hX.2.1]; exact hf)) hS (fun q _ h => hF q h) hF (fun r u t H1 locs1 ht hvm hp hB hz hk hS1 => ?_)
  subst hp
  exact k ls H1 locs1 hl (ht ▸ hB) hS1
theorem Z_cSi {As : List Value} {v : Int32} (hX : zOk X G cc nL own d) (hd : decode cc pc = .ok (.invokestatic index, 3)) (hM : zCi X.2.1 G y (Cond.code y cc2 nL2 ret :: TBL) rm2 As I J v I1 J1) (hy : zMS y cc2 nL2 ret n) (hn : As.length = n) (ho : y.cls = own) (h1 : Cond.methodLink own index y ∈ TBL) (hR : rm2.frames + 1 ≤ d.frames ∧ 8 + (nL2 + 11) + rm2.locals ≤ d.locals) (hf : a + rm2.cells ≤ d.cells ∧ b + rm2.slots ≤ d.slots) (hst : (st.map fun v => v.category).sum ≤ 8) (k : Z X G nL (a + rm2.cells) (b + rm2.slots) (pc + 3) l (.int v :: st) I1 J1) : Z X G nL a b pc l (As.reverse ++ st) I J := by
  obtain ⟨p, la, e, R, s, m, args, below, meth, c, Q, A⟩ := X
  intro ls H locs hl hP hS
  obtain ⟨y1, y3, y4, y5, y6, y7⟩ := hy
  have hts := hX.1.2.2.2.2
  have hG := zGood y4
  have hT : GoodIn TBL (wsS own index y (Cond.code y cc2 nL2 ret :: TBL)) := by
    intro w hw
    unfold wsS at hw
    rcases List.mem_append.mp hw with h | h
    · simp only [List.mem_cons, List.not_mem_nil, or_false] at h
      rcases h with rfl | rfl | rfl
      · exact ⟨h1, TBL_good _ h1⟩
      · exact ⟨y1, TBL_good _ y1⟩
      · rw [ho] at y3; exact ⟨y3, TBL_good _ y3⟩
    · exact hG w h
  have hF := zS_call hX.2.2.2.1 hX.2.2.2.2.1 hS I J
  refine va_calli (va_runS (n := n) (As := As) (rest := st) hX.1 (hM H.size) (cwS n hts hT rfl rfl rfl ⟨ho, y5, y6, y7⟩ (by rw [hX.2.1]; exact hR)) ⟨zPc_blind, fun U hU hW => ⟨rfl, by rw [hU], by rw [hU]; exact hP, va_K.moved hW.alike hX.2.2.1, zInj_of (hX.2.2.2.1 I J), zNst_warm hW hX.2.2.2.2.2.1⟩⟩ rfl hn (hl.1) rfl (lv_room hst) hd (by rw [hX.2.1]; exact hf)) hS (fun q _ h => hF q h) hF (fun r u t H1 locs1 ht hvm hp hB hz hk hS1 => ?_)
  subst hp
  exact k ls H1 locs1 hl (ht ▸ hB) hS1
theorem Z_cNi {As : List Value} {host : String} {v : Int32} (hX : zOk X G cc nL own d) (hd : decode cc pc = .ok (.invokestatic index, 3)) (hM : zCi X.2.1 G y (Cond.code y cc2 nL2 ret :: TBL) rm2 As I J v I1 J1) (hy : zMS y cc2 nL2 ret n) (hn : As.length = n) (h1 : Cond.methodLinkNest own index y host ∈ NEST) (hR : rm2.frames + 1 ≤ d.frames ∧ 8 + (nL2 + 11) + rm2.locals ≤ d.locals) (hf : a + rm2.cells ≤ d.cells ∧ b + rm2.slots ≤ d.slots) (hst : (st.map fun v => v.category).sum ≤ 8) (k : Z X G nL (a + rm2.cells) (b + rm2.slots) (pc + 3) l (.int v :: st) I1 J1) : Z X G nL a b pc l (As.reverse ++ st) I J := by
  obtain ⟨p, la, e, R, s, m, args, below, meth, c, Q, A⟩ := X
  intro ls H locs hl hP hS
  obtain ⟨y1, y3, y4, y5, y6, y7⟩ := hy
  have hts := hX.1.2.2.2.2
  have hF := zS_call hX.2.2.2.1 hX.2.2.2.2.1 hS I J
  refine va_calli (va_runSN (n := n) (As := As) (rest := st) hX.1 (hM H.size) ⟨va_cnB n hts (zGood y4) rfl rfl rfl (hX.2.2.2.2.2.1 _ h1) (hts _ y3) ⟨y5, y6, y7⟩ (by rw [hX.2.1]; exact hR), hts _ y1, trivial⟩ ⟨zPc_blind, fun U hU hW => ⟨rfl, by rw [hU], by rw [hU]; exact hP, va_K.moved hW.alike hX.2.2.1, zInj_of (hX.2.2.2.1 I J), zNst_warm hW hX.2.2.2.2.2.1⟩⟩ rfl hn (hl.1) rfl (lv_room hst) hd (by rw [hX.2.1]; exact hf)) hS (fun q _ h => hF q h) hF (fun r u t H1 locs1 ht hvm hp hB hz hk hS1 => ?_)
  subst hp
  exact k ls H1 locs1 hl (ht ▸ hB) hS1
theorem Z_cVi0 {c0 ci N : Nat} {T : u_T} {ds : List (Option (Option Nat))} {v : Int32} (hX : zOk X G cc nL own d) (hd : decode cc pc = .ok (.invokevirtual index, 3)) (hM : zCi X.2.1 G y (Cond.code y cc2 nL2 ret :: TBL) rm2 (.ref (zad G c0) :: []) I J v I1 J1) (hy : zMV y cc2 nL2 ret 0) (hL : lay0[c0]? = some (.inr (.inr (ci, ds)))) (hc : vwCl[ci]? = some (y.cls, T, N)) (h1 : Cond.methodLink own index y ∈ TBL) (hR : rm2.frames + 1 ≤ d.frames ∧ 8 + (nL2 + 11) + rm2.locals ≤ d.locals) (hf : a + rm2.cells ≤ d.cells ∧ b + rm2.slots ≤ d.slots) (hst : (st.map fun v => v.category).sum ≤ 8) (k : Z X G nL (a + rm2.cells) (b + rm2.slots) (pc + 3) l (.int v :: st) I1 J1) : Z X G nL a b pc l (.ref (zad G c0) :: st) I J := Z_cVi (As := []) hX hd hM hy rfl hL hc h1 hR hf hst k
theorem Z_cVi1 {c0 ci N : Nat} {T : u_T} {ds : List (Option (Option Nat))} {v1 : Value} {v : Int32} (hX : zOk X G cc nL own d) (hd : decode cc pc = .ok (.invokevirtual index, 3)) (hM : zCi X.2.1 G y (Cond.code y cc2 nL2 ret :: TBL) rm2 (.ref (zad G c0) :: [v1]) I J v I1 J1) (hy : zMV y cc2 nL2 ret 1) (hL : lay0[c0]? = some (.inr (.inr (ci, ds)))) (hc : vwCl[ci]? = some (y.cls, T, N)) (h1 : Cond.methodLink own index y ∈ TBL) (hR : rm2.frames + 1 ≤ d.frames ∧ 8 + (nL2 + 11) + rm2.locals ≤ d.locals) (hf : a + rm2.cells ≤ d.cells ∧ b + rm2.slots ≤ d.slots) (hst : (st.map fun v => v.category).sum ≤ 8) (k : Z X G nL (a + rm2.cells) (b + rm2.slots) (pc + 3) l (.int v :: st) I1 J1) : Z X G nL a b pc l (v1 :: .ref (zad G c0) :: st) I J := Z_cVi (As := [v1]) hX hd hM hy rfl hL hc h1 hR hf hst k
theorem Z_cSi1 {v1 : Value} {v : Int32} (hX : zOk X G cc nL own d) (hd : decode cc pc = .ok (.invokestatic index, 3)) (hM : zCi X.2.1 G y (Cond.code y cc2 nL2 ret :: TBL) rm2 [v1] I J v I1 J1) (hy : zMS y cc2 nL2 ret 1) (ho : y.cls = own) (h1 : Cond.methodLink own index y ∈ TBL) (hR : rm2.frames + 1 ≤ d.frames ∧ 8 + (nL2 + 11) + rm2.locals ≤ d.locals) (hf : a + rm2.cells ≤ d.cells ∧ b + rm2.slots ≤ d.slots) (hst : (st.map fun v => v.category).sum ≤ 8) (k : Z X G nL (a + rm2.cells) (b + rm2.slots) (pc + 3) l (.int v :: st) I1 J1) : Z X G nL a b pc l (v1 :: st) I J := Z_cSi (As := [v1]) hX hd hM hy rfl ho h1 hR hf hst k
theorem Z_cNi1 {host : String} {v1 : Value} {v : Int32} (hX : zOk X G cc nL own d) (hd : decode cc pc = .ok (.invokestatic index, 3)) (hM : zCi X.2.1 G y (Cond.code y cc2 nL2 ret :: TBL) rm2 [v1] I J v I1 J1) (hy : zMS y cc2 nL2 ret 1) (h1 : Cond.methodLinkNest own index y host ∈ NEST) (hR : rm2.frames + 1 ≤ d.frames ∧ 8 + (nL2 + 11) + rm2.locals ≤ d.locals) (hf : a + rm2.cells ≤ d.cells ∧ b + rm2.slots ≤ d.slots) (hst : (st.map fun v => v.category).sum ≤ 8) (k : Z X G nL (a + rm2.cells) (b + rm2.slots) (pc + 3) l (.int v :: st) I1 J1) : Z X G nL a b pc l (v1 :: st) I J := Z_cNi (As := [v1]) hX hd hM hy rfl h1 hR hf hst k
theorem Z_cVi2 {c0 ci N : Nat} {T : u_T} {ds : List (Option (Option Nat))} {v1 v2 : Value} {v : Int32} (hX : zOk X G cc nL own d) (hd : decode cc pc = .ok (.invokevirtual index, 3)) (hM : zCi X.2.1 G y (Cond.code y cc2 nL2 ret :: TBL) rm2 (.ref (zad G c0) :: [v1, v2]) I J v I1 J1) (hy : zMV y cc2 nL2 ret 2) (hL : lay0[c0]? = some (.inr (.inr (ci, ds)))) (hc : vwCl[ci]? = some (y.cls, T, N)) (h1 : Cond.methodLink own index y ∈ TBL) (hR : rm2.frames + 1 ≤ d.frames ∧ 8 + (nL2 + 11) + rm2.locals ≤ d.locals) (hf : a + rm2.cells ≤ d.cells ∧ b + rm2.slots ≤ d.slots) (hst : (st.map fun v => v.category).sum ≤ 8) (k : Z X G nL (a + rm2.cells) (b + rm2.slots) (pc + 3) l (.int v :: st) I1 J1) : Z X G nL a b pc l (v2 :: v1 :: .ref (zad G c0) :: st) I J := Z_cVi (As := [v1, v2]) hX hd hM hy rfl hL hc h1 hR hf hst k
theorem Z_cSi2 {v1 v2 : Value} {v : Int32} (hX : zOk X G cc nL own d) (hd : decode cc pc = .ok (.invokestatic index, 3)) (hM : zCi X.2.1 G y (Cond.code y cc2 nL2 ret :: TBL) rm2 [v1, v2] I J v I1 J1) (hy : zMS y cc2 nL2 ret 2) (ho : y.cls = own) (h1 : Cond.methodLink own index y ∈ TBL) (hR : rm2.frames + 1 ≤ d.frames ∧ 8 + (nL2 + 11) + rm2.locals ≤ d.locals) (hf : a + rm2.cells ≤ d.cells ∧ b + rm2.slots ≤ d.slots) (hst : (st.map fun v => v.category).sum ≤ 8) (k : Z X G nL (a + rm2.cells) (b + rm2.slots) (pc + 3) l (.int v :: st) I1 J1) : Z X G nL a b pc l (v2 :: v1 :: st) I J := Z_cSi (As := [v1, v2]) hX hd hM hy rfl ho h1 hR hf hst k
theorem Z_cNi2 {host : String} {v1 v2 : Value} {v : Int32} (hX : zOk X G cc nL own d) (hd : decode cc pc = .ok (.invokestatic index, 3)) (hM : zCi X.2.1 G y (Cond.code y cc2 nL2 ret :: TBL) rm2 [v1, v2] I J v I1 J1) (hy : zMS y cc2 nL2 ret 2) (h1 : Cond.methodLinkNest own index y host ∈ NEST) (hR : rm2.frames + 1 ≤ d.frames ∧ 8 + (nL2 + 11) + rm2.locals ≤ d.locals) (hf : a + rm2.cells ≤ d.cells ∧ b + rm2.slots ≤ d.slots) (hst : (st.map fun v => v.category).sum ≤ 8) (k : Z X G nL (a + rm2.cells) (b + rm2.slots) (pc + 3) l (.int v :: st) I1 J1) : Z X G nL a b pc l (v2 :: v1 :: st) I J := Z_cNi (As := [v1, v2]) hX hd hM hy rfl h1 hR hf hst k
theorem Z_cVi3 {c0 ci N : Nat} {T : u_T} {ds : List (Option (Option Nat))} {v1 v2 v3 : Value} {v : Int32} (hX : zOk X G cc nL own d) (hd : decode cc pc = .ok (.invokevirtual index, 3)) (hM : zCi X.2.1 G y (Cond.code y cc2 nL2 ret :: TBL) rm2 (.ref (zad G c0) :: [v1, v2, v3]) I J v I1 J1) (hy : zMV y cc2 nL2 ret 3) (hL : lay0[c0]? = some (.inr (.inr (ci, ds)))) (hc : vwCl[ci]? = some (y.cls, T, N)) (h1 : Cond.methodLink own index y ∈ TBL) (hR : rm2.frames + 1 ≤ d.frames ∧ 8 + (nL2 + 11) + rm2.locals ≤ d.locals) (hf : a + rm2.cells ≤ d.cells ∧ b + rm2.slots ≤ d.slots) (hst : (st.map fun v => v.category).sum ≤ 8) (k : Z X G nL (a + rm2.cells) (b + rm2.slots) (pc + 3) l (.int v :: st) I1 J1) : Z X G nL a b pc l (v3 :: v2 :: v1 :: .ref (zad G c0) :: st) I J := Z_cVi (As := [v1, v2, v3]) hX hd hM hy rfl hL hc h1 hR hf hst k
theorem Z_cSi3 {v1 v2 v3 : Value} {v : Int32} (hX : zOk X G cc nL own d) (hd : decode cc pc = .ok (.invokestatic index, 3)) (hM : zCi X.2.1 G y (Cond.code y cc2 nL2 ret :: TBL) rm2 [v1, v2, v3] I J v I1 J1) (hy : zMS y cc2 nL2 ret 3) (ho : y.cls = own) (h1 : Cond.methodLink own index y ∈ TBL) (hR : rm2.frames + 1 ≤ d.frames ∧ 8 + (nL2 + 11) + rm2.locals ≤ d.locals) (hf : a + rm2.cells ≤ d.cells ∧ b + rm2.slots ≤ d.slots) (hst : (st.map fun v => v.category).sum ≤ 8) (k : Z X G nL (a + rm2.cells) (b + rm2.slots) (pc + 3) l (.int v :: st) I1 J1) : Z X G nL a b pc l (v3 :: v2 :: v1 :: st) I J := Z_cSi (As := [v1, v2, v3]) hX hd hM hy rfl ho h1 hR hf hst k
theorem Z_cNi3 {host : String} {v1 v2 v3 : Value} {v : Int32} (hX : zOk X G cc nL own d) (hd : decode cc pc = .ok (.invokestatic index, 3)) (hM : zCi X.2.1 G y (Cond.code y cc2 nL2 ret :: TBL) rm2 [v1, v2, v3] I J v I1 J1) (hy : zMS y cc2 nL2 ret 3) (h1 : Cond.methodLinkNest own index y host ∈ NEST) (hR : rm2.frames + 1 ≤ d.frames ∧ 8 + (nL2 + 11) + rm2.locals ≤ d.locals) (hf : a + rm2.cells ≤ d.cells ∧ b + rm2.slots ≤ d.slots) (hst : (st.map fun v => v.category).sum ≤ 8) (k : Z X G nL (a + rm2.cells) (b + rm2.slots) (pc + 3) l (.int v :: st) I1 J1) : Z X G nL a b pc l (v3 :: v2 :: v1 :: st) I J := Z_cNi (As := [v1, v2, v3]) hX hd hM hy rfl h1 hR hf hst k
theorem Z_cVi4 {c0 ci N : Nat} {T : u_T} {ds : List (Option (Option Nat))} {v1 v2 v3 v4 : Value} {v : Int32} (hX : zOk X G cc nL own d) (hd : decode cc pc = .ok (.invokevirtual index, 3)) (hM : zCi X.2.1 G y (Cond.code y cc2 nL2 ret :: TBL) rm2 (.ref (zad G c0) :: [v1, v2, v3, v4]) I J v I1 J1) (hy : zMV y cc2 nL2 ret 4) (hL : lay0[c0]? = some (.inr (.inr (ci, ds)))) (hc : vwCl[ci]? = some (y.cls, T, N)) (h1 : Cond.methodLink own index y ∈ TBL) (hR : rm2.frames + 1 ≤ d.frames ∧ 8 + (nL2 + 11) + rm2.locals ≤ d.locals) (hf : a + rm2.cells ≤ d.cells ∧ b + rm2.slots ≤ d.slots) (hst : (st.map fun v => v.category).sum ≤ 8) (k : Z X G nL (a + rm2.cells) (b + rm2.slots) (pc + 3) l (.int v :: st) I1 J1) : Z X G nL a b pc l (v4 :: v3 :: v2 :: v1 :: .ref (zad G c0) :: st) I J := Z_cVi (As := [v1, v2, v3, v4]) hX hd hM hy rfl hL hc h1 hR hf hst k
theorem Z_cSi4 {v1 v2 v3 v4 : Value} {v : Int32} (hX : zOk X G cc nL own d) (hd : decode cc pc = .ok (.invokestatic index, 3)) (hM : zCi X.2.1 G y (Cond.code y cc2 nL2 ret :: TBL) rm2 [v1, v2, v3, v4] I J v I1 J1) (hy : zMS y cc2 nL2 ret 4) (ho : y.cls = own) (h1 : Cond.methodLink own index y ∈ TBL) (hR : rm2.frames + 1 ≤ d.frames ∧ 8 + (nL2 + 11) + rm2.locals ≤ d.locals) (hf : a + rm2.cells ≤ d.cells ∧ b + rm2.slots ≤ d.slots) (hst : (st.map fun v => v.category).sum ≤ 8) (k : Z X G nL (a + rm2.cells) (b + rm2.slots) (pc + 3) l (.int v :: st) I1 J1) : Z X G nL a b pc l (v4 :: v3 :: v2 :: v1 :: st) I J := Z_cSi (As := [v1, v2, v3, v4]) hX hd hM hy rfl ho h1 hR hf hst k
theorem Z_cNi4 {host : String} {v1 v2 v3 v4 : Value} {v : Int32} (hX : zOk X G cc nL own d) (hd : decode cc pc = .ok (.invokestatic index, 3)) (hM : zCi X.2.1 G y (Cond.code y cc2 nL2 ret :: TBL) rm2 [v1, v2, v3, v4] I J v I1 J1) (hy : zMS y cc2 nL2 ret 4) (h1 : Cond.methodLinkNest own index y host ∈ NEST) (hR : rm2.frames + 1 ≤ d.frames ∧ 8 + (nL2 + 11) + rm2.locals ≤ d.locals) (hf : a + rm2.cells ≤ d.cells ∧ b + rm2.slots ≤ d.slots) (hst : (st.map fun v => v.category).sum ≤ 8) (k : Z X G nL (a + rm2.cells) (b + rm2.slots) (pc + 3) l (.int v :: st) I1 J1) : Z X G nL a b pc l (v4 :: v3 :: v2 :: v1 :: st) I J := Z_cNi (As := [v1, v2, v3, v4]) hX hd hM hy rfl h1 hR hf hst k
theorem Z_cVl {c0 ci N : Nat} {T : u_T} {ds : List (Option (Option Nat))} {As : List Value} {v : Int64} (hX : zOk X G cc nL own d) (hd : decode cc pc = .ok (.invokevirtual index, 3)) (hM : zCl X.2.1 G y (Cond.code y cc2 nL2 ret :: TBL) rm2 (.ref (zad G c0) :: As) I J v I1 J1) (hy : zMV y cc2 nL2 ret n) (hn : As.length = n) (hL : lay0[c0]? = some (.inr (.inr (ci, ds)))) (hc : vwCl[ci]? = some (y.cls, T, N)) (h1 : Cond.methodLink own index y ∈ TBL) (hR : rm2.frames + 1 ≤ d.frames ∧ 8 + (nL2 + 11) + rm2.locals ≤ d.locals) (hf : a + rm2.cells ≤ d.cells ∧ b + rm2.slots ≤ d.slots) (hst : (st.map fun v => v.category).sum ≤ 8) (k : Z X G nL (a + rm2.cells) (b + rm2.slots) (pc + 3) l (.long v :: st) I1 J1) : Z X G nL a b pc l (As.reverse ++ .ref (zad G c0) :: st) I J := by
  obtain ⟨p, la, e, R, s, m, args, below, meth, c, Q, A⟩ := X
  intro ls H locs hl hP hS
  obtain ⟨y1, y2, y3, y4, y5, y6, y7⟩ := hy
  have hts := hX.1.2.2.2.2
  have hG := zGood y4
  have hT : GoodIn TBL (wsV own index y.cls y (Cond.code y cc2 nL2 ret :: TBL)) := by
    intro w hw
    unfold wsV at hw
    rcases List.mem_append.mp hw with h | h
    · simp only [List.mem_cons, List.not_mem_nil, or_false] at h
      rcases h with rfl | rfl | rfl | rfl
      · exact ⟨h1, TBL_good _ h1⟩
      · exact ⟨y1, TBL_good _ y1⟩
      · exact ⟨y2, TBL_good _ y2⟩
      · exact ⟨y3, TBL_good _ y3⟩
    · exact hG w h
  have hF := zS_call hX.2.2.2.1 hX.2.2.2.2.1 hS I J
  refine va_calll (va_runV (C := y.cls) (n := n) (As := As) (rest := st) hX.1 (hM H.size) (cwV n hts hT rfl rfl rfl ⟨rfl, y5, y6, y7⟩ (by rw [hX.2.1]; exact hR)) ⟨zPc_blind, va_recv hX.2.2.1 hP hc (zW_at hL), fun U hU hW => ⟨rfl, by rw [hU], by rw [hU]; exact hP, va_K.moved hW.alike hX.2.2.1, zInj_of (hX.2.2.2.1 I J), zNst_warm hW hX.2.2.2.2.2.1⟩⟩ rfl hn (hl.1) rfl (lv_room hst) hd (by rw [hX.2.1]; exact hf)) hS (fun q _ h => hF q h) hF (fun r u t H1 locs1 ht hvm hp hB hz hk hS1 => ?_)
  subst hp
  exact k ls H1 locs1 hl (ht ▸ hB) hS1
theorem Z_cSl {As : List Value} {v : Int64} (hX : zOk X G cc nL own d) (hd : decode cc pc = .ok (.invokestatic index, 3)) (hM : zCl X.2.1 G y (Cond.code y cc2 nL2 ret :: TBL) rm2 As I J v I1 J1) (hy : zMS y cc2 nL2 ret n) (hn : As.length = n) (ho : y.cls = own) (h1 : Cond.methodLink own index y ∈ TBL) (hR : rm2.frames + 1 ≤ d.frames ∧ 8 + (nL2 + 11) + rm2.locals ≤ d.locals) (hf : a + rm2.cells ≤ d.cells ∧ b + rm2.slots ≤ d.slots) (hst : (st.map fun v => v.category).sum ≤ 8) (k : Z X G nL (a + rm2.cells) (b + rm2.slots) (pc + 3) l (.long v :: st) I1 J1) : Z X G nL a b pc l (As.reverse ++ st) I J := by
  obtain ⟨p, la, e, R, s, m, args, below, meth, c, Q, A⟩ := X
  intro ls H locs hl hP hS
  obtain ⟨y1, y3, y4, y5, y6, y7⟩ := hy
  have hts := hX.1.2.2.2.2
  have hG := zGood y4
  have hT : GoodIn TBL (wsS own index y (Cond.code y cc2 nL2 ret :: TBL)) := by
    intro w hw
    unfold wsS at hw
    rcases List.mem_append.mp hw with h | h
    · simp only [List.mem_cons, List.not_mem_nil, or_false] at h
      rcases h with rfl | rfl | rfl
      · exact ⟨h1, TBL_good _ h1⟩
      · exact ⟨y1, TBL_good _ y1⟩
      · rw [ho] at y3; exact ⟨y3, TBL_good _ y3⟩
    · exact hG w h
  have hF := zS_call hX.2.2.2.1 hX.2.2.2.2.1 hS I J
  refine va_calll (va_runS (n := n) (As := As) (rest := st) hX.1 (hM H.size) (cwS n hts hT rfl rfl rfl ⟨ho, y5, y6, y7⟩ (by rw [hX.2.1]; exact hR)) ⟨zPc_blind, fun U hU hW => ⟨rfl, by rw [hU], by rw [hU]; exact hP, va_K.moved hW.alike hX.2.2.1, zInj_of (hX.2.2.2.1 I J), zNst_warm hW hX.2.2.2.2.2.1⟩⟩ rfl hn (hl.1) rfl (lv_room hst) hd (by rw [hX.2.1]; exact hf)) hS (fun q _ h => hF q h) hF (fun r u t H1 locs1 ht hvm hp hB hz hk hS1 => ?_)
  subst hp
  exact k ls H1 locs1 hl (ht ▸ hB) hS1
theorem Z_cNl {As : List Value} {host : String} {v : Int64} (hX : zOk X G cc nL own d) (hd : decode cc pc = .ok (.invokestatic index, 3)) (hM : zCl X.2.1 G y (Cond.code y cc2 nL2 ret :: TBL) rm2 As I J v I1 J1) (hy : zMS y cc2 nL2 ret n) (hn : As.length = n) (h1 : Cond.methodLinkNest own index y host ∈ NEST) (hR : rm2.frames + 1 ≤ d.frames ∧ 8 + (nL2 + 11) + rm2.locals ≤ d.locals) (hf : a + rm2.cells ≤ d.cells ∧ b + rm2.slots ≤ d.slots) (hst : (st.map fun v => v.category).sum ≤ 8) (k : Z X G nL (a + rm2.cells) (b + rm2.slots) (pc + 3) l (.long v :: st) I1 J1) : Z X G nL a b pc l (As.reverse ++ st) I J := by
  obtain ⟨p, la, e, R, s, m, args, below, meth, c, Q, A⟩ := X
  intro ls H locs hl hP hS
  obtain ⟨y1, y3, y4, y5, y6, y7⟩ := hy
  have hts := hX.1.2.2.2.2
  have hF := zS_call hX.2.2.2.1 hX.2.2.2.2.1 hS I J
  refine va_calll (va_runSN (n := n) (As := As) (rest := st) hX.1 (hM H.size) ⟨va_cnB n hts (zGood y4) rfl rfl rfl (hX.2.2.2.2.2.1 _ h1) (hts _ y3) ⟨y5, y6, y7⟩ (by rw [hX.2.1]; exact hR), hts _ y1, trivial⟩ ⟨zPc_blind, fun U hU hW => ⟨rfl, by rw [hU], by rw [hU]; exact hP, va_K.moved hW.alike hX.2.2.1, zInj_of (hX.2.2.2.1 I J), zNst_warm hW hX.2.2.2.2.2.1⟩⟩ rfl hn (hl.1) rfl (lv_room hst) hd (by rw [hX.2.1]; exact hf)) hS (fun q _ h => hF q h) hF (fun r u t H1 locs1 ht hvm hp hB hz hk hS1 => ?_)
  subst hp
  exact k ls H1 locs1 hl (ht ▸ hB) hS1
theorem Z_cVl0 {c0 ci N : Nat} {T : u_T} {ds : List (Option (Option Nat))} {v : Int64} (hX : zOk X G cc nL own d) (hd : decode cc pc = .ok (.invokevirtual index, 3)) (hM : zCl X.2.1 G y (Cond.code y cc2 nL2 ret :: TBL) rm2 (.ref (zad G c0) :: []) I J v I1 J1) (hy : zMV y cc2 nL2 ret 0) (hL : lay0[c0]? = some (.inr (.inr (ci, ds)))) (hc : vwCl[ci]? = some (y.cls, T, N)) (h1 : Cond.methodLink own index y ∈ TBL) (hR : rm2.frames + 1 ≤ d.frames ∧ 8 + (nL2 + 11) + rm2.locals ≤ d.locals) (hf : a + rm2.cells ≤ d.cells ∧ b + rm2.slots ≤ d.slots) (hst : (st.map fun v => v.category).sum ≤ 8) (k : Z X G nL (a + rm2.cells) (b + rm2.slots) (pc + 3) l (.long v :: st) I1 J1) : Z X G nL a b pc l (.ref (zad G c0) :: st) I J := Z_cVl (As := []) hX hd hM hy rfl hL hc h1 hR hf hst k
theorem Z_cVl1 {c0 ci N : Nat} {T : u_T} {ds : List (Option (Option Nat))} {v1 : Value} {v : Int64} (hX : zOk X G cc nL own d) (hd : decode cc pc = .ok (.invokevirtual index, 3)) (hM : zCl X.2.1 G y (Cond.code y cc2 nL2 ret :: TBL) rm2 (.ref (zad G c0) :: [v1]) I J v I1 J1) (hy : zMV y cc2 nL2 ret 1) (hL : lay0[c0]? = some (.inr (.inr (ci, ds)))) (hc : vwCl[ci]? = some (y.cls, T, N)) (h1 : Cond.methodLink own index y ∈ TBL) (hR : rm2.frames + 1 ≤ d.frames ∧ 8 + (nL2 + 11) + rm2.locals ≤ d.locals) (hf : a + rm2.cells ≤ d.cells ∧ b + rm2.slots ≤ d.slots) (hst : (st.map fun v => v.category).sum ≤ 8) (k : Z X G nL (a + rm2.cells) (b + rm2.slots) (pc + 3) l (.long v :: st) I1 J1) : Z X G nL a b pc l (v1 :: .ref (zad G c0) :: st) I J := Z_cVl (As := [v1]) hX hd hM hy rfl hL hc h1 hR hf hst k
theorem Z_cSl1 {v1 : Value} {v : Int64} (hX : zOk X G cc nL own d) (hd : decode cc pc = .ok (.invokestatic index, 3)) (hM : zCl X.2.1 G y (Cond.code y cc2 nL2 ret :: TBL) rm2 [v1] I J v I1 J1) (hy : zMS y cc2 nL2 ret 1) (ho : y.cls = own) (h1 : Cond.methodLink own index y ∈ TBL) (hR : rm2.frames + 1 ≤ d.frames ∧ 8 + (nL2 + 11) + rm2.locals ≤ d.locals) (hf : a + rm2.cells ≤ d.cells ∧ b + rm2.slots ≤ d.slots) (hst : (st.map fun v => v.category).sum ≤ 8) (k : Z X G nL (a + rm2.cells) (b + rm2.slots) (pc + 3) l (.long v :: st) I1 J1) : Z X G nL a b pc l (v1 :: st) I J := Z_cSl (As := [v1]) hX hd hM hy rfl ho h1 hR hf hst k
theorem Z_cNl1 {host : String} {v1 : Value} {v : Int64} (hX : zOk X G cc nL own d) (hd : decode cc pc = .ok (.invokestatic index, 3)) (hM : zCl X.2.1 G y (Cond.code y cc2 nL2 ret :: TBL) rm2 [v1] I J v I1 J1) (hy : zMS y cc2 nL2 ret 1) (h1 : Cond.methodLinkNest own index y host ∈ NEST) (hR : rm2.frames + 1 ≤ d.frames ∧ 8 + (nL2 + 11) + rm2.locals ≤ d.locals) (hf : a + rm2.cells ≤ d.cells ∧ b + rm2.slots ≤ d.slots) (hst : (st.map fun v => v.category).sum ≤ 8) (k : Z X G nL (a + rm2.cells) (b + rm2.slots) (pc + 3) l (.long v :: st) I1 J1) : Z X G nL a b pc l (v1 :: st) I J := Z_cNl (As := [v1]) hX hd hM hy rfl h1 hR hf hst k
theorem Z_cVl2 {c0 ci N : Nat} {T : u_T} {ds : List (Option (Option Nat))} {v1 v2 : Value} {v : Int64} (hX : zOk X G cc nL own d) (hd : decode cc pc = .ok (.invokevirtual index, 3)) (hM : zCl X.2.1 G y (Cond.code y cc2 nL2 ret :: TBL) rm2 (.ref (zad G c0) :: [v1, v2]) I J v I1 J1) (hy : zMV y cc2 nL2 ret 2) (hL : lay0[c0]? = some (.inr (.inr (ci, ds)))) (hc : vwCl[ci]? = some (y.cls, T, N)) (h1 : Cond.methodLink own index y ∈ TBL) (hR : rm2.frames + 1 ≤ d.frames ∧ 8 + (nL2 + 11) + rm2.locals ≤ d.locals) (hf : a + rm2.cells ≤ d.cells ∧ b + rm2.slots ≤ d.slots) (hst : (st.map fun v => v.category).sum ≤ 8) (k : Z X G nL (a + rm2.cells) (b + rm2.slots) (pc + 3) l (.long v :: st) I1 J1) : Z X G nL a b pc l (v2 :: v1 :: .ref (zad G c0) :: st) I J := Z_cVl (As := [v1, v2]) hX hd hM hy rfl hL hc h1 hR hf hst k
theorem Z_cSl2 {v1 v2 : Value} {v : Int64} (hX : zOk X G cc nL own d) (hd : decode cc pc = .ok (.invokestatic index, 3)) (hM : zCl X.2.1 G y (Cond.code y cc2 nL2 ret :: TBL) rm2 [v1, v2] I J v I1 J1) (hy : zMS y cc2 nL2 ret 2) (ho : y.cls = own) (h1 : Cond.methodLink own index y ∈ TBL) (hR : rm2.frames + 1 ≤ d.frames ∧ 8 + (nL2 + 11) + rm2.locals ≤ d.locals) (hf : a + rm2.cells ≤ d.cells ∧ b + rm2.slots ≤ d.slots) (hst : (st.map fun v => v.category).sum ≤ 8) (k : Z X G nL (a + rm2.cells) (b + rm2.slots) (pc + 3) l (.long v :: st) I1 J1) : Z X G nL a b pc l (v2 :: v1 :: st) I J := Z_cSl (As := [v1, v2]) hX hd hM hy rfl ho h1 hR hf hst k
theorem Z_cNl2 {host : String} {v1 v2 : Value} {v : Int64} (hX : zOk X G cc nL own d) (hd : decode cc pc = .ok (.invokestatic index, 3)) (hM : zCl X.2.1 G y (Cond.code y cc2 nL2 ret :: TBL) rm2 [v1, v2] I J v I1 J1) (hy : zMS y cc2 nL2 ret 2) (h1 : Cond.methodLinkNest own index y host ∈ NEST) (hR : rm2.frames + 1 ≤ d.frames ∧ 8 + (nL2 + 11) + rm2.locals ≤ d.locals) (hf : a + rm2.cells ≤ d.cells ∧ b + rm2.slots ≤ d.slots) (hst : (st.map fun v => v.category).sum ≤ 8) (k : Z X G nL (a + rm2.cells) (b + rm2.slots) (pc + 3) l (.long v :: st) I1 J1) : Z X G nL a b pc l (v2 :: v1 :: st) I J := Z_cNl (As := [v1, v2]) hX hd hM hy rfl h1 hR hf hst k
theorem Z_cVl3 {c0 ci N : Nat} {T : u_T} {ds : List (Option (Option Nat))} {v1 v2 v3 : Value} {v : Int64} (hX : zOk X G cc nL own d) (hd : decode cc pc = .ok (.invokevirtual index, 3)) (hM : zCl X.2.1 G y (Cond.code y cc2 nL2 ret :: TBL) rm2 (.ref (zad G c0) :: [v1, v2, v3]) I J v I1 J1) (hy : zMV y cc2 nL2 ret 3) (hL : lay0[c0]? = some (.inr (.inr (ci, ds)))) (hc : vwCl[ci]? = some (y.cls, T, N)) (h1 : Cond.methodLink own index y ∈ TBL) (hR : rm2.frames + 1 ≤ d.frames ∧ 8 + (nL2 + 11) + rm2.locals ≤ d.locals) (hf : a + rm2.cells ≤ d.cells ∧ b + rm2.slots ≤ d.slots) (hst : (st.map fun v => v.category).sum ≤ 8) (k : Z X G nL (a + rm2.cells) (b + rm2.slots) (pc + 3) l (.long v :: st) I1 J1) : Z X G nL a b pc l (v3 :: v2 :: v1 :: .ref (zad G c0) :: st) I J := Z_cVl (As := [v1, v2, v3]) hX hd hM hy rfl hL hc h1 hR hf hst k
theorem Z_cSl3 {v1 v2 v3 : Value} {v : Int64} (hX : zOk X G cc nL own d) (hd : decode cc pc = .ok (.invokestatic index, 3)) (hM : zCl X.2.1 G y (Cond.code y cc2 nL2 ret :: TBL) rm2 [v1, v2, v3] I J v I1 J1) (hy : zMS y cc2 nL2 ret 3) (ho : y.cls = own) (h1 : Cond.methodLink own index y ∈ TBL) (hR : rm2.frames + 1 ≤ d.frames ∧ 8 + (nL2 + 11) + rm2.locals ≤ d.locals) (hf : a + rm2.cells ≤ d.cells ∧ b + rm2.slots ≤ d.slots) (hst : (st.map fun v => v.category).sum ≤ 8) (k : Z X G nL (a + rm2.cells) (b + rm2.slots) (pc + 3) l (.long v :: st) I1 J1) : Z X G nL a b pc l (v3 :: v2 :: v1 :: st) I J := Z_cSl (As := [v1, v2, v3]) hX hd hM hy rfl ho h1 hR hf hst k
theorem Z_cNl3 {host : String} {v1 v2 v3 : Value} {v : Int64} (hX : zOk X G cc nL own d) (hd : decode cc pc = .ok (.invokestatic index, 3)) (hM : zCl X.2.1 G y (Cond.code y cc2 nL2 ret :: TBL) rm2 [v1, v2, v3] I J v I1 J1) (hy : zMS y cc2 nL2 ret 3) (h1 : Cond.methodLinkNest own index y host ∈ NEST) (hR : rm2.frames + 1 ≤ d.frames ∧ 8 + (nL2 + 11) + rm2.locals ≤ d.locals) (hf : a + rm2.cells ≤ d.cells ∧ b + rm2.slots ≤ d.slots) (hst : (st.map fun v => v.category).sum ≤ 8) (k : Z X G nL (a + rm2.cells) (b + rm2.slots) (pc + 3) l (.long v :: st) I1 J1) : Z X G nL a b pc l (v3 :: v2 :: v1 :: st) I J := Z_cNl (As := [v1, v2, v3]) hX hd hM hy rfl h1 hR hf hst k
theorem Z_cVl4 {c0 ci N : Nat} {T : u_T} {ds : List (Option (Option Nat))} {v1 v2 v3 v4 : Value} {v : Int64} (hX : zOk X G cc nL own d) (hd : decode cc pc = .ok (.invokevirtual index, 3)) (hM : zCl X.2.1 G y (Cond.code y cc2 nL2 ret :: TBL) rm2 (.ref (zad G c0) :: [v1, v2, v3, v4]) I J v I1 J1) (hy : zMV y cc2 nL2 ret 4) (hL : lay0[c0]? = some (.inr (.inr (ci, ds)))) (hc : vwCl[ci]? = some (y.cls, T, N)) (h1 : Cond.methodLink own index y ∈ TBL) (hR : rm2.frames + 1 ≤ d.frames ∧ 8 + (nL2 + 11) + rm2.locals ≤ d.locals) (hf : a + rm2.cells ≤ d.cells ∧ b + rm2.slots ≤ d.slots) (hst : (st.map fun v => v.category).sum ≤ 8) (k : Z X G nL (a + rm2.cells) (b + rm2.slots) (pc + 3) l (.long v :: st) I1 J1) : Z X G nL a b pc l (v4 :: v3 :: v2 :: v1 :: .ref (zad G c0) :: st) I J := Z_cVl (As := [v1, v2, v3, v4]) hX hd hM hy rfl hL hc h1 hR hf hst k
theorem Z_cSl4 {v1 v2 v3 v4 : Value} {v : Int64} (hX : zOk X G cc nL own d) (hd : decode cc pc = .ok (.invokestatic index, 3)) (hM : zCl X.2.1 G y (Cond.code y cc2 nL2 ret :: TBL) rm2 [v1, v2, v3, v4] I J v I1 J1) (hy : zMS y cc2 nL2 ret 4) (ho : y.cls = own) (h1 : Cond.methodLink own index y ∈ TBL) (hR : rm2.frames + 1 ≤ d.frames ∧ 8 + (nL2 + 11) + rm2.locals ≤ d.locals) (hf : a + rm2.cells ≤ d.cells ∧ b + rm2.slots ≤ d.slots) (hst : (st.map fun v => v.category).sum ≤ 8) (k : Z X G nL (a + rm2.cells) (b + rm2.slots) (pc + 3) l (.long v :: st) I1 J1) : Z X G nL a b pc l (v4 :: v3 :: v2 :: v1 :: st) I J := Z_cSl (As := [v1, v2, v3, v4]) hX hd hM hy rfl ho h1 hR hf hst k
theorem Z_cNl4 {host : String} {v1 v2 v3 v4 : Value} {v : Int64} (hX : zOk X G cc nL own d) (hd : decode cc pc = .ok (.invokestatic index, 3)) (hM : zCl X.2.1 G y (Cond.code y cc2 nL2 ret :: TBL) rm2 [v1, v2, v3, v4] I J v I1 J1) (hy : zMS y cc2 nL2 ret 4) (h1 : Cond.methodLinkNest own index y host ∈ NEST) (hR : rm2.frames + 1 ≤ d.frames ∧ 8 + (nL2 + 11) + rm2.locals ≤ d.locals) (hf : a + rm2.cells ≤ d.cells ∧ b + rm2.slots ≤ d.slots) (hst : (st.map fun v => v.category).sum ≤ 8) (k : Z X G nL (a + rm2.cells) (b + rm2.slots) (pc + 3) l (.long v :: st) I1 J1) : Z X G nL a b pc l (v4 :: v3 :: v2 :: v1 :: st) I J := Z_cNl (As := [v1, v2, v3, v4]) hX hd hM hy rfl h1 hR hf hst k
theorem Z_cVv {c0 ci N : Nat} {T : u_T} {ds : List (Option (Option Nat))} {As : List Value} (hX : zOk X G cc nL own d) (hd : decode cc pc = .ok (.invokevirtual index, 3)) (hM : zCv X.2.1 G y (Cond.code y cc2 nL2 ret :: TBL) rm2 (.ref (zad G c0) :: As) I J I1 J1) (hy : zMV y cc2 nL2 ret n) (hn : As.length = n) (hL : lay0[c0]? = some (.inr (.inr (ci, ds)))) (hc : vwCl[ci]? = some (y.cls, T, N)) (h1 : Cond.methodLink own index y ∈ TBL) (hR : rm2.frames + 1 ≤ d.frames ∧ 8 + (nL2 + 11) + rm2.locals ≤ d.locals) (hf : a + rm2.cells ≤ d.cells ∧ b + rm2.slots ≤ d.slots) (hst : (st.map fun v => v.category).sum ≤ 8) (k : Z X G nL (a + rm2.cells) (b + rm2.slots) (pc + 3) l st I1 J1) : Z X G nL a b pc l (As.reverse ++ .ref (zad G c0) :: st) I J := by
  obtain ⟨p, la, e, R, s, m, args, below, meth, c, Q, A⟩ := X
  intro ls H locs hl hP hS
  obtain ⟨y1, y2, y3, y4, y5, y6, y7⟩ := hy
  have hts := hX.1.2.2.2.2
  have hG := zGood y4
  have hT : GoodIn TBL (wsV own index y.cls y (Cond.code y cc2 nL2 ret :: TBL)) := by
    intro w hw
    unfold wsV at hw
    rcases List.mem_append.mp hw with h | h
    · simp only [List.mem_cons, List.not_mem_nil, or_false] at h
      rcases h with rfl | rfl | rfl | rfl
      · exact ⟨h1, TBL_good _ h1⟩
      · exact ⟨y1, TBL_good _ y1⟩
      · exact ⟨y2, TBL_good _ y2⟩
      · exact ⟨y3, TBL_good _ y3⟩
    · exact hG w h
  have hF := zS_call hX.2.2.2.1 hX.2.2.2.2.1 hS I J
  refine va_callv (va_runV (C := y.cls) (n := n) (As := As) (rest := st) hX.1 (hM H.size) (cwV n hts hT rfl rfl rfl ⟨rfl, y5, y6, y7⟩ (by rw [hX.2.1]; exact hR)) ⟨zPc_blind, va_recv hX.2.2.1 hP hc (zW_at hL), fun U hU hW => ⟨rfl, by rw [hU], by rw [hU]; exact hP, va_K.moved hW.alike hX.2.2.1, zInj_of (hX.2.2.2.1 I J), zNst_warm hW hX.2.2.2.2.2.1⟩⟩ rfl hn (hl.1) rfl (lv_room hst) hd (by rw [hX.2.1]; exact hf)) hS (fun q _ h => hF q h) hF (fun u t H1 locs1 ht hvm hp hB hz hk hS1 => ?_)
  exact k ls H1 locs1 hl (ht ▸ hB) hS1
theorem Z_cSv {As : List Value} (hX : zOk X G cc nL own d) (hd : decode cc pc = .ok (.invokestatic index, 3)) (hM : zCv X.2.1 G y (Cond.code y cc2 nL2 ret :: TBL) rm2 As I J I1 J1) (hy : zMS y cc2 nL2 ret n) (hn : As.length = n) (ho : y.cls = own) (h1 : Cond.methodLink own index y ∈ TBL) (hR : rm2.frames + 1 ≤ d.frames ∧ 8 + (nL2 + 11) + rm2.locals ≤ d.locals) (hf : a + rm2.cells ≤ d.cells ∧ b + rm2.slots ≤ d.slots) (hst : (st.map fun v => v.category).sum ≤ 8) (k : Z X G nL (a + rm2.cells) (b + rm2.slots) (pc + 3) l st I1 J1) : Z X G nL a b pc l (As.reverse ++ st) I J := by
  obtain ⟨p, la, e, R, s, m, args, below, meth, c, Q, A⟩ := X
  intro ls H locs hl hP hS
  obtain ⟨y1, y3, y4, y5, y6, y7⟩ := hy
  have hts := hX.1.2.2.2.2
  have hG := zGood y4
  have hT : GoodIn TBL (wsS own index y (Cond.code y cc2 nL2 ret :: TBL)) := by
    intro w hw
    unfold wsS at hw
    rcases List.mem_append.mp hw with h | h
    · simp only [List.mem_cons, List.not_mem_nil, or_false] at h
      rcases h with rfl | rfl | rfl
      · exact ⟨h1, TBL_good _ h1⟩
      · exact ⟨y1, TBL_good _ y1⟩
      · rw [ho] at y3; exact ⟨y3, TBL_good _ y3⟩
    · exact hG w h
  have hF := zS_call hX.2.2.2.1 hX.2.2.2.2.1 hS I J
  refine va_callv (va_runS (n := n) (As := As) (rest := st) hX.1 (hM H.size) (cwS n hts hT rfl rfl rfl ⟨ho, y5, y6, y7⟩ (by rw [hX.2.1]; exact hR)) ⟨zPc_blind, fun U hU hW => ⟨rfl, by rw [hU], by rw [hU]; exact hP, va_K.moved hW.alike hX.2.2.1, zInj_of (hX.2.2.2.1 I J), zNst_warm hW hX.2.2.2.2.2.1⟩⟩ rfl hn (hl.1) rfl (lv_room hst) hd (by rw [hX.2.1]; exact hf)) hS (fun q _ h => hF q h) hF (fun u t H1 locs1 ht hvm hp hB hz hk hS1 => ?_)
  exact k ls H1 locs1 hl (ht ▸ hB) hS1
theorem Z_cNv {As : List Value} {host : String} (hX : zOk X G cc nL own d) (hd : decode cc pc = .ok (.invokestatic index, 3)) (hM : zCv X.2.1 G y (Cond.code y cc2 nL2 ret :: TBL) rm2 As I J I1 J1) (hy : zMS y cc2 nL2 ret n) (hn : As.length = n) (h1 : Cond.methodLinkNest own index y host ∈ NEST) (hR : rm2.frames + 1 ≤ d.frames ∧ 8 + (nL2 + 11) + rm2.locals ≤ d.locals) (hf : a + rm2.cells ≤ d.cells ∧ b + rm2.slots ≤ d.slots) (hst : (st.map fun v => v.category).sum ≤ 8) (k : Z X G nL (a + rm2.cells) (b + rm2.slots) (pc + 3) l st I1 J1) : Z X G nL a b pc l (As.reverse ++ st) I J := by
  obtain ⟨p, la, e, R, s, m, args, below, meth, c, Q, A⟩ := X
  intro ls H locs hl hP hS
  obtain ⟨y1, y3, y4, y5, y6, y7⟩ := hy
  have hts := hX.1.2.2.2.2
  have hF := zS_call hX.2.2.2.1 hX.2.2.2.2.1 hS I J
  refine va_callv (va_runSN (n := n) (As := As) (rest := st) hX.1 (hM H.size) ⟨va_cnB n hts (zGood y4) rfl rfl rfl (hX.2.2.2.2.2.1 _ h1) (hts _ y3) ⟨y5, y6, y7⟩ (by rw [hX.2.1]; exact hR), hts _ y1, trivial⟩ ⟨zPc_blind, fun U hU hW => ⟨rfl, by rw [hU], by rw [hU]; exact hP, va_K.moved hW.alike hX.2.2.1, zInj_of (hX.2.2.2.1 I J), zNst_warm hW hX.2.2.2.2.2.1⟩⟩ rfl hn (hl.1) rfl (lv_room hst) hd (by rw [hX.2.1]; exact hf)) hS (fun q _ h => hF q h) hF (fun u t H1 locs1 ht hvm hp hB hz hk hS1 => ?_)
  exact k ls H1 locs1 hl (ht ▸ hB) hS1
theorem Z_cVv0 {c0 ci N : Nat} {T : u_T} {ds : List (Option (Option Nat))} (hX : zOk X G cc nL own d) (hd : decode cc pc = .ok (.invokevirtual index, 3)) (hM : zCv X.2.1 G y (Cond.code y cc2 nL2 ret :: TBL) rm2 (.ref (zad G c0) :: []) I J I1 J1) (hy : zMV y cc2 nL2 ret 0) (hL : lay0[c0]? = some (.inr (.inr (ci, ds)))) (hc : vwCl[ci]? = some (y.cls, T, N)) (h1 : Cond.methodLink own index y ∈ TBL) (hR : rm2.frames + 1 ≤ d.frames ∧ 8 + (nL2 + 11) + rm2.locals ≤ d.locals) (hf : a + rm2.cells ≤ d.cells ∧ b + rm2.slots ≤ d.slots) (hst : (st.map fun v => v.category).sum ≤ 8) (k : Z X G nL (a + rm2.cells) (b + rm2.slots) (pc + 3) l st I1 J1) : Z X G nL a b pc l (.ref (zad G c0) :: st) I J := Z_cVv (As := []) hX hd hM hy rfl hL hc h1 hR hf hst k
theorem Z_cVv1 {c0 ci N : Nat} {T : u_T} {ds : List (Option (Option Nat))} {v1 : Value} (hX : zOk X G cc nL own d) (hd : decode cc pc = .ok (.invokevirtual index, 3)) (hM : zCv X.2.1 G y (Cond.code y cc2 nL2 ret :: TBL) rm2 (.ref (zad G c0) :: [v1]) I J I1 J1) (hy : zMV y cc2 nL2 ret 1) (hL : lay0[c0]? = some (.inr (.inr (ci, ds)))) (hc : vwCl[ci]? = some (y.cls, T, N)) (h1 : Cond.methodLink own index y ∈ TBL) (hR : rm2.frames + 1 ≤ d.frames ∧ 8 + (nL2 + 11) + rm2.locals ≤ d.locals) (hf : a + rm2.cells ≤ d.cells ∧ b + rm2.slots ≤ d.slots) (hst : (st.map fun v => v.category).sum ≤ 8) (k : Z X G nL (a + rm2.cells) (b + rm2.slots) (pc + 3) l st I1 J1) : Z X G nL a b pc l (v1 :: .ref (zad G c0) :: st) I J := Z_cVv (As := [v1]) hX hd hM hy rfl hL hc h1 hR hf hst k
theorem Z_cSv1 {v1 : Value} (hX : zOk X G cc nL own d) (hd : decode cc pc = .ok (.invokestatic index, 3)) (hM : zCv X.2.1 G y (Cond.code y cc2 nL2 ret :: TBL) rm2 [v1] I J I1 J1) (hy : zMS y cc2 nL2 ret 1) (ho : y.cls = own) (h1 : Cond.methodLink own index y ∈ TBL) (hR : rm2.frames + 1 ≤ d.frames ∧ 8 + (nL2 + 11) + rm2.locals ≤ d.locals) (hf : a + rm2.cells ≤ d.cells ∧ b + rm2.slots ≤ d.slots) (hst : (st.map fun v => v.category).sum ≤ 8) (k : Z X G nL (a + rm2.cells) (b + rm2.slots) (pc + 3) l st I1 J1) : Z X G nL a b pc l (v1 :: st) I J := Z_cSv (As := [v1]) hX hd hM hy rfl ho h1 hR hf hst k
theorem Z_cNv1 {host : String} {v1 : Value} (hX : zOk X G cc nL own d) (hd : decode cc pc = .ok (.invokestatic index, 3)) (hM : zCv X.2.1 G y (Cond.code y cc2 nL2 ret :: TBL) rm2 [v1] I J I1 J1) (hy : zMS y cc2 nL2 ret 1) (h1 : Cond.methodLinkNest own index y host ∈ NEST) (hR : rm2.frames + 1 ≤ d.frames ∧ 8 + (nL2 + 11) + rm2.locals ≤ d.locals) (hf : a + rm2.cells ≤ d.cells ∧ b + rm2.slots ≤ d.slots) (hst : (st.map fun v => v.category).sum ≤ 8) (k : Z X G nL (a + rm2.cells) (b + rm2.slots) (pc + 3) l st I1 J1) : Z X G nL a b pc l (v1 :: st) I J := Z_cNv (As := [v1]) hX hd hM hy rfl h1 hR hf hst k
theorem Z_cVv2 {c0 ci N : Nat} {T : u_T} {ds : List (Option (Option Nat))} {v1 v2 : Value} (hX : zOk X G cc nL own d) (hd : decode cc pc = .ok (.invokevirtual index, 3)) (hM : zCv X.2.1 G y (Cond.code y cc2 nL2 ret :: TBL) rm2 (.ref (zad G c0) :: [v1, v2]) I J I1 J1) (hy : zMV y cc2 nL2 ret 2) (hL : lay0[c0]? = some (.inr (.inr (ci, ds)))) (hc : vwCl[ci]? = some (y.cls, T, N)) (h1 : Cond.methodLink own index y ∈ TBL) (hR : rm2.frames + 1 ≤ d.frames ∧ 8 + (nL2 + 11) + rm2.locals ≤ d.locals) (hf : a + rm2.cells ≤ d.cells ∧ b + rm2.slots ≤ d.slots) (hst : (st.map fun v => v.category).sum ≤ 8) (k : Z X G nL (a + rm2.cells) (b + rm2.slots) (pc + 3) l st I1 J1) : Z X G nL a b pc l (v2 :: v1 :: .ref (zad G c0) :: st) I J := Z_cVv (As := [v1, v2]) hX hd hM hy rfl hL hc h1 hR hf hst k
theorem Z_cSv2 {v1 v2 : Value} (hX : zOk X G cc nL own d) (hd : decode cc pc = .ok (.invokestatic index, 3)) (hM : zCv X.2.1 G y (Cond.code y cc2 nL2 ret :: TBL) rm2 [v1, v2] I J I1 J1) (hy : zMS y cc2 nL2 ret 2) (ho : y.cls = own) (h1 : Cond.methodLink own index y ∈ TBL) (hR : rm2.frames + 1 ≤ d.frames ∧ 8 + (nL2 + 11) + rm2.locals ≤ d.locals) (hf : a + rm2.cells ≤ d.cells ∧ b + rm2.slots ≤ d.slots) (hst : (st.map fun v => v.category).sum ≤ 8) (k : Z X G nL (a + rm2.cells) (b + rm2.slots) (pc + 3) l st I1 J1) : Z X G nL a b pc l (v2 :: v1 :: st) I J := Z_cSv (As := [v1, v2]) hX hd hM hy rfl ho h1 hR hf hst k
theorem Z_cNv2 {host : String} {v1 v2 : Value} (hX : zOk X G cc nL own d) (hd : decode cc pc = .ok (.invokestatic index, 3)) (hM : zCv X.2.1 G y (Cond.code y cc2 nL2 ret :: TBL) rm2 [v1, v2] I J I1 J1) (hy : zMS y cc2 nL2 ret 2) (h1 : Cond.methodLinkNest own index y host ∈ NEST) (hR : rm2.frames + 1 ≤ d.frames ∧ 8 + (nL2 + 11) + rm2.locals ≤ d.locals) (hf : a + rm2.cells ≤ d.cells ∧ b + rm2.slots ≤ d.slots) (hst : (st.map fun v => v.category).sum ≤ 8) (k : Z X G nL (a + rm2.cells) (b + rm2.slots) (pc + 3) l st I1 J1) : Z X G nL a b pc l (v2 :: v1 :: st) I J := Z_cNv (As := [v1, v2]) hX hd hM hy rfl h1 hR hf hst k
theorem Z_cVv3 {c0 ci N : Nat} {T : u_T} {ds : List (Option (Option Nat))} {v1 v2 v3 : Value} (hX : zOk X G cc nL own d) (hd : decode cc pc = .ok (.invokevirtual index, 3)) (hM : zCv X.2.1 G y (Cond.code y cc2 nL2 ret :: TBL) rm2 (.ref (zad G c0) :: [v1, v2, v3]) I J I1 J1) (hy : zMV y cc2 nL2 ret 3) (hL : lay0[c0]? = some (.inr (.inr (ci, ds)))) (hc : vwCl[ci]? = some (y.cls, T, N)) (h1 : Cond.methodLink own index y ∈ TBL) (hR : rm2.frames + 1 ≤ d.frames ∧ 8 + (nL2 + 11) + rm2.locals ≤ d.locals) (hf : a + rm2.cells ≤ d.cells ∧ b + rm2.slots ≤ d.slots) (hst : (st.map fun v => v.category).sum ≤ 8) (k : Z X G nL (a + rm2.cells) (b + rm2.slots) (pc + 3) l st I1 J1) : Z X G nL a b pc l (v3 :: v2 :: v1 :: .ref (zad G c0) :: st) I J := Z_cVv (As := [v1, v2, v3]) hX hd hM hy rfl hL hc h1 hR hf hst k
theorem Z_cSv3 {v1 v2 v3 : Value} (hX : zOk X G cc nL own d) (hd : decode cc pc = .ok (.invokestatic index, 3)) (hM : zCv X.2.1 G y (Cond.code y cc2 nL2 ret :: TBL) rm2 [v1, v2, v3] I J I1 J1) (hy : zMS y cc2 nL2 ret 3) (ho : y.cls = own) (h1 : Cond.methodLink own index y ∈ TBL) (hR : rm2.frames + 1 ≤ d.frames ∧ 8 + (nL2 + 11) + rm2.locals ≤ d.locals) (hf : a + rm2.cells ≤ d.cells ∧ b + rm2.slots ≤ d.slots) (hst : (st.map fun v => v.category).sum ≤ 8) (k : Z X G nL (a + rm2.cells) (b + rm2.slots) (pc + 3) l st I1 J1) : Z X G nL a b pc l (v3 :: v2 :: v1 :: st) I J := Z_cSv (As := [v1, v2, v3]) hX hd hM hy rfl ho h1 hR hf hst k
theorem Z_cNv3 {host : String} {v1 v2 v3 : Value} (hX : zOk X G cc nL own d) (hd : decode cc pc = .ok (.invokestatic index, 3)) (hM : zCv X.2.1 G y (Cond.code y cc2 nL2 ret :: TBL) rm2 [v1, v2, v3] I J I1 J1) (hy : zMS y cc2 nL2 ret 3) (h1 : Cond.methodLinkNest own index y host ∈ NEST) (hR : rm2.frames + 1 ≤ d.frames ∧ 8 + (nL2 + 11) + rm2.locals ≤ d.locals) (hf : a + rm2.cells ≤ d.cells ∧ b + rm2.slots ≤ d.slots) (hst : (st.map fun v => v.category).sum ≤ 8) (k : Z X G nL (a + rm2.cells) (b + rm2.slots) (pc + 3) l st I1 J1) : Z X G nL a b pc l (v3 :: v2 :: v1 :: st) I J := Z_cNv (As := [v1, v2, v3]) hX hd hM hy rfl h1 hR hf hst k
theorem Z_cVv4 {c0 ci N : Nat} {T : u_T} {ds : List (Option (Option Nat))} {v1 v2 v3 v4 : Value} (hX : zOk X G cc nL own d) (hd : decode cc pc = .ok (.invokevirtual index, 3)) (hM : zCv X.2.1 G y (Cond.code y cc2 nL2 ret :: TBL) rm2 (.ref (zad G c0) :: [v1, v2, v3, v4]) I J I1 J1) (hy : zMV y cc2 nL2 ret 4) (hL : lay0[c0]? = some (.inr (.inr (ci, ds)))) (hc : vwCl[ci]? = some (y.cls, T, N)) (h1 : Cond.methodLink own index y ∈ TBL) (hR : rm2.frames + 1 ≤ d.frames ∧ 8 + (nL2 + 11) + rm2.locals ≤ d.locals) (hf : a + rm2.cells ≤ d.cells ∧ b + rm2.slots ≤ d.slots) (hst : (st.map fun v => v.category).sum ≤ 8) (k : Z X G nL (a + rm2.cells) (b + rm2.slots) (pc + 3) l st I1 J1) : Z X G nL a b pc l (v4 :: v3 :: v2 :: v1 :: .ref (zad G c0) :: st) I J := Z_cVv (As := [v1, v2, v3, v4]) hX hd hM hy rfl hL hc h1 hR hf hst k
theorem Z_cSv4 {v1 v2 v3 v4 : Value} (hX : zOk X G cc nL own d) (hd : decode cc pc = .ok (.invokestatic index, 3)) (hM : zCv X.2.1 G y (Cond.code y cc2 nL2 ret :: TBL) rm2 [v1, v2, v3, v4] I J I1 J1) (hy : zMS y cc2 nL2 ret 4) (ho : y.cls = own) (h1 : Cond.methodLink own index y ∈ TBL) (hR : rm2.frames + 1 ≤ d.frames ∧ 8 + (nL2 + 11) + rm2.locals ≤ d.locals) (hf : a + rm2.cells ≤ d.cells ∧ b + rm2.slots ≤ d.slots) (hst : (st.map fun v => v.category).sum ≤ 8) (k : Z X G nL (a + rm2.cells) (b + rm2.slots) (pc + 3) l st I1 J1) : Z X G nL a b pc l (v4 :: v3 :: v2 :: v1 :: st) I J := Z_cSv (As := [v1, v2, v3, v4]) hX hd hM hy rfl ho h1 hR hf hst k
theorem Z_cNv4 {host : String} {v1 v2 v3 v4 : Value} (hX : zOk X G cc nL own d) (hd : decode cc pc = .ok (.invokestatic index, 3)) (hM : zCv X.2.1 G y (Cond.code y cc2 nL2 ret :: TBL) rm2 [v1, v2, v3, v4] I J I1 J1) (hy : zMS y cc2 nL2 ret 4) (h1 : Cond.methodLinkNest own index y host ∈ NEST) (hR : rm2.frames + 1 ≤ d.frames ∧ 8 + (nL2 + 11) + rm2.locals ≤ d.locals) (hf : a + rm2.cells ≤ d.cells ∧ b + rm2.slots ≤ d.slots) (hst : (st.map fun v => v.category).sum ≤ 8) (k : Z X G nL (a + rm2.cells) (b + rm2.slots) (pc + 3) l st I1 J1) : Z X G nL a b pc l (v4 :: v3 :: v2 :: v1 :: st) I J := Z_cNv (As := [v1, v2, v3, v4]) hX hd hM hy rfl h1 hR hf hst k
end ZC
end
section
def zR (d : Nat) : Room := { frames := d, cells := 0, slots := 0, locals := 36 * d + 30 }
/-! pure words for the class's methods: memory I (ints), J (longs); cells by their numbers: Plan 1 and its arrays 2 .. 15, Flow at b (16 or 35) and what it holds up to b + 18, Clocks 54 .. 58, Calm 59 .. 61 -/
theorem nI_neg1 {n : Nat} (h : n < 2 ^ 31) : ¬ nI n = -1 := by
  intro e
  have h1 := congrArg Int32.toInt e
  rw [nI_toInt h] at h1
  have h2 : (-1 : Int32).toInt = -1 := by decide
  omega
theorem nI_ix {x : Int32} {n : Nat} (hn : n < 2 ^ 31) (h1 : ¬ x < 0) (h2 : ¬ nI n < x) : x = nI x.toNatClampNeg ∧ x.toNatClampNeg ≤ n := by
  obtain ⟨j, hj, e⟩ := nI_of h1
  subst e
  rw [nI_clamp hj]
  refine ⟨rfl, ?_⟩
  by_cases h : j ≤ n
  · exact h
  · exact absurd (nI_lt (by omega) hj) h2
def p_in (v lo hi : Int32) : Bool := decide (¬ v < lo) && decide (¬ hi < v)
theorem p_in_ix {x : Int32} {n : Nat} (hn : n < 2 ^ 31) (h : p_in x 0 (nI n) = true) : x = nI x.toNatClampNeg ∧ x.toNatClampNeg ≤ n := by
  simp only [p_in, Bool.and_eq_true, decide_eq_true_eq] at h
  exact nI_ix hn h.1 h.2
theorem p_slot (e p : Nat) : nI e * 4 + nI p = nI (4 * e + p) := by
  rw [show (4 : Int32) = nI 4 from rfl, pk_mul, nI_add, Nat.mul_comm]
theorem p_elem {s : Nat} (h : s < 2 ^ 31) : nI s / 4 = nI (s / 4) := by
  rw [show (4 : Int32) = nI 4 from rfl, pk_div h (by decide) (by decide)]
def p_th (I : zI) (e : Int32) : Bool := p_in e 0 15 && decide (¬ I 2 e.toNatClampNeg = 0)
def p_po (I : zI) (e p : Int32) : Bool := p_th I e && p_in p 0 3
def p_lk (I : zI) (k : Int32) : Bool := p_in k 0 (I 1 14 - 1)
def p_so (I : zI) (s : Nat) : Bool := decide (¬ I 11 s = -1)
def p_tk (I : zI) (s : Nat) : Bool := decide (¬ I 9 s = -1) || p_so I s
def w_wr (I : zI) (w s : Nat) (q h t : Int32) : zI := zup (zup (zup I (w + 1) s q) (w + 2) s h) (w + 3) s t
def w_eq (I : zI) (w s w' s' : Nat) : Bool := decide (I (w + 1) s = I (w' + 1) s') && decide (I (w + 2) s = I (w' + 2) s') && decide (I (w + 3) s = I (w' + 3) s')
def f_bit (x y : Int32) : Int32 := x >>> (y &&& 31) &&& 1
def f_wh (I : zI) (b e : Nat) : Bool := decide (¬ I 2 e = 0) && decide (f_bit (I b 11) (nI e) = 0)
def f_lw (I : zI) (b : Nat) (k : Int32) : Bool := decide (f_bit (I b 12) k = 0)
def f_lo (I : zI) (b e : Nat) : Bool := decide (I (b + 15) e = 1)
def f_sc (I : zI) (b e : Nat) : Int32 := if f_bit (I b 11) (nI e) = 1 then 3 else I (b + 15) e
def p_jo (I : zI) (k s t : Nat) : zI :=
  let I1 := zup I 1 14 (I 1 14 + 1)
  zup (zup (zup (zup (zup I1 15 k (nI s)) 9 s (nI k)) 9 t (nI k)) 10 s (nI t)) 10 t (nI s)
def p_lo (I : zI) : Nat → Int32
  | 0 => 0
  | e + 1 => if p_lo I e < I 6 e then I 6 e else p_lo I e
set_option maxRecDepth 100000 in
set_option maxHeartbeats 4000000 in
theorem c_CT_isWithin {la : Launch} {G : zG} {I : zI} {J : zJ} {x y z : Int32} : zCi la G y_CT_isWithin (Cond.code y_CT_isWithin prog_1_method_25_code 3 (some .boolean) :: TBL) (zR 1) [.int x, .int y, .int z] I J (zB (p_in x y z)) (I) (J) := by
  refine zCi_of (by decide) (by simp [lg_sl, Value.category]) (zB_nar _) (fun X hla hX hR => ?_)
  subst hla
  refine Z_loc (l' := [(0, .int x), (1, .int y), (2, .int z)]) (by simp [lv_args, Value.category, List.lookup]) ?_
  refine Z_iload_n (i := 1) hX d_CT_isWithin_0 rfl rfl ?_
  refine Z_iload_n (i := 0) hX d_CT_isWithin_1 rfl rfl ?_
  refine Z_icgt (tgt := 14) hX d_CT_isWithin_2 rfl (fun h2 => ?_) (fun h2 => ?_)
  · refine Z_iconst (v := 0) hX d_CT_isWithin_14 rfl ?_
    exact Z_ri (hR _ _ d_CT_isWithin_15) (by simp [p_in, zB, *]) rfl rfl
  · refine Z_iload_n (i := 0) hX d_CT_isWithin_5 rfl rfl ?_
    refine Z_iload_n (i := 2) hX d_CT_isWithin_6 rfl rfl ?_
    refine Z_icgt (tgt := 14) hX d_CT_isWithin_7 rfl (fun h7 => ?_) (fun h7 => ?_)
    · refine Z_iconst (v := 0) hX d_CT_isWithin_14 rfl ?_
      exact Z_ri (hR _ _ d_CT_isWithin_15) (by simp [p_in, zB, *]) rfl rfl
    · refine Z_iconst (v := 1) hX d_CT_isWithin_10 rfl ?_
      refine Z_goto (tgt := 15) hX d_CT_isWithin_11 rfl ?_
      exact Z_ri (hR _ _ d_CT_isWithin_15) (by simp [p_in, zB, *]) rfl rfl

set_option maxRecDepth 100000 in
set_option maxHeartbeats 4000000 in
theorem c_CT_slotOf {la : Launch} {G : zG} {I : zI} {J : zJ} {e p : Nat} : zCi la G y_CT_slotOf (Cond.code y_CT_slotOf prog_1_method_26_code 2 (some .int) :: TBL) (zR 1) [.int (nI e), .int (nI p)] I J (nI (4 * e + p)) (I) (J) := by
  refine zCi_of (by decide) (by simp [lg_sl, Value.category]) (rfl) (fun X hla hX hR => ?_)
  subst hla
  refine Z_loc (l' := [(0, .int (nI e)), (1, .int (nI p))]) (by simp [lv_args, Value.category, List.lookup]) ?_
  refine Z_iload_n (i := 0) hX d_CT_slotOf_0 rfl rfl ?_
  refine Z_iconst (v := 4) hX d_CT_slotOf_1 rfl ?_
  refine Z_imul hX d_CT_slotOf_2 ?_
  refine Z_iload_n (i := 1) hX d_CT_slotOf_3 rfl rfl ?_
  refine Z_iadd hX d_CT_slotOf_4 ?_
  exact Z_ri (hR _ _ d_CT_slotOf_5) (by exact p_slot e p) rfl rfl

set_option maxRecDepth 100000 in
set_option maxHeartbeats 4000000 in
theorem c_CT_elementOf {la : Launch} {G : zG} {I : zI} {J : zJ} {s : Nat} (hs : s < 2 ^ 31) : zCi la G y_CT_elementOf (Cond.code y_CT_elementOf prog_1_method_27_code 1 (some .int) :: TBL) (zR 1) [.int (nI s)] I J (nI (s / 4)) (I) (J) := by
  refine zCi_of (by decide) (by simp [lg_sl, Value.category]) (rfl) (fun X hla hX hR => ?_)
  subst hla
  refine Z_loc (l' := [(0, .int (nI s))]) (by simp [lv_args, Value.category, List.lookup]) ?_
  refine Z_iload_n (i := 0) hX d_CT_elementOf_0 rfl rfl ?_
  refine Z_iconst (v := 4) hX d_CT_elementOf_1 rfl ?_
  refine Z_idiv hX d_CT_elementOf_2 (by decide) ?_
  exact Z_ri (hR _ _ d_CT_elementOf_3) (by exact p_elem hs) rfl rfl

set_option maxRecDepth 100000 in
set_option maxHeartbeats 4000000 in
theorem c_Pl_isLink {la : Launch} {G : zG} {I : zI} {J : zJ} {k : Int32} : zCi la G y_Pl_isLink (Cond.code y_Pl_isLink prog_5_method_4_code 2 (some .boolean) :: TBL) (zR 2) [.ref (zad G 1), .int k] I J (zB (p_lk I k)) (I) (J) := by
  refine zCi_of (by decide) (by simp [lg_sl, Value.category]) (zB_nar _) (fun X hla hX hR => ?_)
  subst hla
  refine Z_loc (l' := [(0, .ref (zad G 1)), (1, .int k)]) (by simp [lv_args, Value.category, List.lookup]) ?_
  refine Z_iload_n (i := 1) hX d_Pl_isLink_0 rfl rfl ?_
  refine Z_iconst (v := 0) hX d_Pl_isLink_1 rfl ?_
  refine Z_aload_n (i := 0) hX d_Pl_isLink_2 rfl rfl ?_
  refine Z_getI (k0 := 14) hX d_Pl_isLink_3 rfl rfl u_Pl (by decide) lk_Pl_55 rfl ?_
  refine Z_iconst (v := 1) hX d_Pl_isLink_6 rfl ?_
  refine Z_isub hX d_Pl_isLink_7 ?_
  refine Z_cNi3 hX d_Pl_isLink_8 c_CT_isWithin m_CT_isWithin ne_Pl_69 ⟨by decide, by decide⟩ ⟨by decide, by decide⟩ (Nat.le_of_ble_eq_true rfl) ?_
  exact Z_ri (hR _ _ d_Pl_isLink_11) (by rfl) rfl rfl

set_option maxRecDepth 100000 in
set_option maxHeartbeats 4000000 in
theorem c_Pl_hasSource {la : Launch} {G : zG} {I : zI} {J : zJ} {s : Nat} (hs : s < 64) : zCi la G y_Pl_hasSource (Cond.code y_Pl_hasSource prog_5_method_6_code 2 (some .boolean) :: TBL) (zR 1) [.ref (zad G 1), .int (nI s)] I J (zB (p_so I s)) (I) (J) := by
  refine zCi_of (by decide) (by simp [lg_sl, Value.category]) (zB_nar _) (fun X hla hX hR => ?_)
  subst hla
  refine Z_loc (l' := [(0, .ref (zad G 1)), (1, .int (nI s))]) (by simp [lv_args, Value.category, List.lookup]) ?_
  refine Z_aload_n (i := 0) hX d_Pl_hasSource_0 rfl rfl ?_
  refine Z_getR (k0 := 9) hX d_Pl_hasSource_1 rfl rfl u_Pl (by decide) lk_Pl_40 rfl ?_
  refine Z_iload_n (i := 1) hX d_Pl_hasSource_4 rfl rfl ?_
  refine Z_iald hX d_Pl_hasSource_5 rfl rfl (by omega) (by decide) ?_
  refine Z_iconst (v := (-1)) hX d_Pl_hasSource_6 rfl ?_
  refine Z_iceq (tgt := 14) hX d_Pl_hasSource_7 rfl (fun h7 => ?_) (fun h7 => ?_)
  · refine Z_iconst (v := 0) hX d_Pl_hasSource_14 rfl ?_
    exact Z_ri (hR _ _ d_Pl_hasSource_15) (by simp [p_so, zB, *]) rfl rfl
  · refine Z_iconst (v := 1) hX d_Pl_hasSource_10 rfl ?_
    refine Z_goto (tgt := 15) hX d_Pl_hasSource_11 rfl ?_
    exact Z_ri (hR _ _ d_Pl_hasSource_15) (by simp [p_so, zB, *]) rfl rfl

set_option maxRecDepth 100000 in
set_option maxHeartbeats 4000000 in
theorem c_Pl_isTaken {la : Launch} {G : zG} {I : zI} {J : zJ} {s : Nat} (hs : s < 64) : zCi la G y_Pl_isTaken (Cond.code y_Pl_isTaken prog_5_method_5_code 2 (some .boolean) :: TBL) (zR 2) [.ref (zad G 1), .int (nI s)] I J (zB (p_tk I s)) (I) (J) := by
  refine zCi_of (by decide) (by simp [lg_sl, Value.category]) (zB_nar _) (fun X hla hX hR => ?_)
  subst hla
  refine Z_loc (l' := [(0, .ref (zad G 1)), (1, .int (nI s))]) (by simp [lv_args, Value.category, List.lookup]) ?_
  refine Z_aload_n (i := 0) hX d_Pl_isTaken_0 rfl rfl ?_
  refine Z_getR (k0 := 7) hX d_Pl_isTaken_1 rfl rfl u_Pl (by decide) lk_Pl_34 rfl ?_
  refine Z_iload_n (i := 1) hX d_Pl_isTaken_4 rfl rfl ?_
  refine Z_iald hX d_Pl_isTaken_5 rfl rfl (by omega) (by decide) ?_
  refine Z_iconst (v := (-1)) hX d_Pl_isTaken_6 rfl ?_
  refine Z_icne (tgt := 18) hX d_Pl_isTaken_7 rfl (fun h7 => ?_) (fun h7 => ?_)
  · refine Z_iconst (v := 1) hX d_Pl_isTaken_18 rfl ?_
    refine Z_goto (tgt := 23) hX d_Pl_isTaken_19 rfl ?_
    exact Z_ri (hR _ _ d_Pl_isTaken_23) (by simp [p_tk, zB, *]) rfl rfl
  · refine Z_aload_n (i := 0) hX d_Pl_isTaken_10 rfl rfl ?_
    refine Z_iload_n (i := 1) hX d_Pl_isTaken_11 rfl rfl ?_
    refine Z_cVi1 hX d_Pl_isTaken_12 (c_Pl_hasSource (by omega)) m_Pl_hasSource rfl rfl lk_Pl_77 ⟨by decide, by decide⟩ ⟨by decide, by decide⟩ (Nat.le_of_ble_eq_true rfl) ?_
    refine Z_ifeqB (tgt := 22) hX d_Pl_isTaken_15 rfl (fun h15 => ?_) (fun h15 => ?_)
    · refine Z_iconst (v := 0) hX d_Pl_isTaken_22 rfl ?_
      exact Z_ri (hR _ _ d_Pl_isTaken_23) (by simp [p_tk, zB, *]) rfl rfl
    · refine Z_iconst (v := 1) hX d_Pl_isTaken_18 rfl ?_
      refine Z_goto (tgt := 23) hX d_Pl_isTaken_19 rfl ?_
      exact Z_ri (hR _ _ d_Pl_isTaken_23) (by simp [p_tk, zB, *]) rfl rfl

set_option maxRecDepth 100000 in
set_option maxHeartbeats 4000000 in
theorem c_Pl_isThere {la : Launch} {G : zG} {I : zI} {J : zJ} {e : Int32} : zCi la G y_Pl_isThere (Cond.code y_Pl_isThere prog_5_method_2_code 2 (some .boolean) :: TBL) (zR 2) [.ref (zad G 1), .int e] I J (zB (p_th I e)) (I) (J) := by
  refine zCi_of (by decide) (by simp [lg_sl, Value.category]) (zB_nar _) (fun X hla hX hR => ?_)
  subst hla
  refine Z_loc (l' := [(0, .ref (zad G 1)), (1, .int e)]) (by simp [lv_args, Value.category, List.lookup]) ?_
  refine Z_iload_n (i := 1) hX d_Pl_isThere_0 rfl rfl ?_
  refine Z_iconst (v := 0) hX d_Pl_isThere_1 rfl ?_
  refine Z_bipush (v := 15) hX d_Pl_isThere_2 rfl ?_
  refine Z_cNi3 hX d_Pl_isThere_4 c_CT_isWithin m_CT_isWithin ne_Pl_69 ⟨by decide, by decide⟩ ⟨by decide, by decide⟩ (Nat.le_of_ble_eq_true rfl) ?_
  refine Z_ifeqB (tgt := 23) hX d_Pl_isThere_7 rfl (fun h7 => ?_) (fun h7 => ?_)
  · refine Z_iconst (v := 0) hX d_Pl_isThere_23 rfl ?_
    exact Z_ri (hR _ _ d_Pl_isThere_24) (by simp [p_th, zB, *]) rfl rfl
  · refine Z_aload_n (i := 0) hX d_Pl_isThere_10 rfl rfl ?_
    refine Z_getR (k0 := 0) hX d_Pl_isThere_11 rfl rfl u_Pl (by decide) lk_Pl_9 rfl ?_
    refine Z_iload_n (i := 1) hX d_Pl_isThere_14 rfl rfl ?_
    refine Z_zald hX d_Pl_isThere_15 rfl (p_in_ix (n := 15) (by decide) h7).1 (Nat.lt_succ_of_le (p_in_ix (n := 15) (by decide) h7).2) (by decide) ?_
    refine Z_ifeq (tgt := 23) hX d_Pl_isThere_16 rfl (fun h16 => ?_) (fun h16 => ?_)
    · refine Z_iconst (v := 0) hX d_Pl_isThere_23 rfl ?_
      exact Z_ri (hR _ _ d_Pl_isThere_24) (by simp [p_th, zB, *]) rfl rfl
    · refine Z_iconst (v := 1) hX d_Pl_isThere_19 rfl ?_
      refine Z_goto (tgt := 24) hX d_Pl_isThere_20 rfl ?_
      exact Z_ri (hR _ _ d_Pl_isThere_24) (by simp [p_th, zB, *]) rfl rfl

set_option maxRecDepth 100000 in
set_option maxHeartbeats 4000000 in
theorem c_Pl_isPort {la : Launch} {G : zG} {I : zI} {J : zJ} {e p : Int32} : zCi la G y_Pl_isPort (Cond.code y_Pl_isPort prog_5_method_3_code 3 (some .boolean) :: TBL) (zR 3) [.ref (zad G 1), .int e, .int p] I J (zB (p_po I e p)) (I) (J) := by
  refine zCi_of (by decide) (by simp [lg_sl, Value.category]) (zB_nar _) (fun X hla hX hR => ?_)
  subst hla
  refine Z_loc (l' := [(0, .ref (zad G 1)), (1, .int e), (2, .int p)]) (by simp [lv_args, Value.category, List.lookup]) ?_
  refine Z_aload_n (i := 0) hX d_Pl_isPort_0 rfl rfl ?_
  refine Z_iload_n (i := 1) hX d_Pl_isPort_1 rfl rfl ?_
  refine Z_cVi1 hX d_Pl_isPort_2 c_Pl_isThere m_Pl_isThere rfl rfl lk_Pl_73 ⟨by decide, by decide⟩ ⟨by decide, by decide⟩ (Nat.le_of_ble_eq_true rfl) ?_
  refine Z_ifeqB (tgt := 21) hX d_Pl_isPort_5 rfl (fun h5 => ?_) (fun h5 => ?_)
  · refine Z_iconst (v := 0) hX d_Pl_isPort_21 rfl ?_
    exact Z_ri (hR _ _ d_Pl_isPort_22) (by simp [p_po, zB, *]) rfl rfl
  · refine Z_iload_n (i := 2) hX d_Pl_isPort_8 rfl rfl ?_
    refine Z_iconst (v := 0) hX d_Pl_isPort_9 rfl ?_
    refine Z_iconst (v := 3) hX d_Pl_isPort_10 rfl ?_
    refine Z_cNi3 hX d_Pl_isPort_11 c_CT_isWithin m_CT_isWithin ne_Pl_69 ⟨by decide, by decide⟩ ⟨by decide, by decide⟩ (Nat.le_of_ble_eq_true rfl) ?_
    refine Z_ifeqB (tgt := 21) hX d_Pl_isPort_14 rfl (fun h14 => ?_) (fun h14 => ?_)
    · refine Z_iconst (v := 0) hX d_Pl_isPort_21 rfl ?_
      exact Z_ri (hR _ _ d_Pl_isPort_22) (by simp [p_po, zB, *]) rfl rfl
    · refine Z_iconst (v := 1) hX d_Pl_isPort_17 rfl ?_
      refine Z_goto (tgt := 22) hX d_Pl_isPort_18 rfl ?_
      exact Z_ri (hR _ _ d_Pl_isPort_22) (by simp [p_po, zB, *]) rfl rfl

set_option maxRecDepth 100000 in
set_option maxHeartbeats 4000000 in
theorem c_Pl_join {la : Launch} {G : zG} {I : zI} {J : zJ} {k s t : Nat} (hk : I 1 14 = nI k) (hk2 : k < 24) (hs : s < 64) (ht : t < 64) : zCi la G y_Pl_join (Cond.code y_Pl_join prog_5_method_7_code 4 (some .int) :: TBL) (zR 1) [.ref (zad G 1), .int (nI s), .int (nI t)] I J (nI k) (p_jo I k s t) (J) := by
  refine zCi_of (by decide) (by simp [lg_sl, Value.category]) (rfl) (fun X hla hX hR => ?_)
  subst hla
  refine Z_loc (l' := [(0, .ref (zad G 1)), (1, .int (nI s)), (2, .int (nI t))]) (by simp [lv_args, Value.category, List.lookup]) ?_
  refine Z_aload_n (i := 0) hX d_Pl_join_0 rfl rfl ?_
  refine Z_getI (k0 := 14) hX d_Pl_join_1 rfl rfl u_Pl (by decide) lk_Pl_55 rfl ?_
  refine Z_top hk ?_
  refine Z_istore_n (i := 3) hX d_Pl_join_4 rfl (by decide) rfl ?_
  refine Z_aload_n (i := 0) hX d_Pl_join_5 rfl rfl ?_
  refine Z_dup hX d_Pl_join_6 rfl ?_
  refine Z_getI (k0 := 14) hX d_Pl_join_7 rfl rfl u_Pl (by decide) lk_Pl_55 rfl ?_
  refine Z_iconst (v := 1) hX d_Pl_join_10 rfl ?_
  refine Z_iadd hX d_Pl_join_11 ?_
  refine Z_putI (k0 := 14) hX d_Pl_join_12 rfl rfl u_Pl (by decide) lk_Pl_55 rfl t_Pl to_Pl n_Pl rfl rfl rfl rfl ?_
  refine Z_aload_n (i := 0) hX d_Pl_join_15 rfl rfl ?_
  refine Z_getR (k0 := 13) hX d_Pl_join_16 rfl rfl u_Pl (by decide) lk_Pl_52 rfl ?_
  refine Z_iload_n (i := 3) hX d_Pl_join_19 rfl rfl ?_
  refine Z_iload_n (i := 1) hX d_Pl_join_20 rfl rfl ?_
  refine Z_iast hX d_Pl_join_21 rfl rfl (by omega) (by decide) ?_
  refine Z_aload_n (i := 0) hX d_Pl_join_22 rfl rfl ?_
  refine Z_getR (k0 := 7) hX d_Pl_join_23 rfl rfl u_Pl (by decide) lk_Pl_34 rfl ?_
  refine Z_iload_n (i := 1) hX d_Pl_join_26 rfl rfl ?_
  refine Z_iload_n (i := 3) hX d_Pl_join_27 rfl rfl ?_
  refine Z_iast hX d_Pl_join_28 rfl rfl (by omega) (by decide) ?_
  refine Z_aload_n (i := 0) hX d_Pl_join_29 rfl rfl ?_
  refine Z_getR (k0 := 7) hX d_Pl_join_30 rfl rfl u_Pl (by decide) lk_Pl_34 rfl ?_
  refine Z_iload_n (i := 2) hX d_Pl_join_33 rfl rfl ?_
  refine Z_iload_n (i := 3) hX d_Pl_join_34 rfl rfl ?_
  refine Z_iast hX d_Pl_join_35 rfl rfl (by omega) (by decide) ?_
  refine Z_aload_n (i := 0) hX d_Pl_join_36 rfl rfl ?_
  refine Z_getR (k0 := 8) hX d_Pl_join_37 rfl rfl u_Pl (by decide) lk_Pl_37 rfl ?_
  refine Z_iload_n (i := 1) hX d_Pl_join_40 rfl rfl ?_
  refine Z_iload_n (i := 2) hX d_Pl_join_41 rfl rfl ?_
  refine Z_iast hX d_Pl_join_42 rfl rfl (by omega) (by decide) ?_
  refine Z_aload_n (i := 0) hX d_Pl_join_43 rfl rfl ?_
  refine Z_getR (k0 := 8) hX d_Pl_join_44 rfl rfl u_Pl (by decide) lk_Pl_37 rfl ?_
  refine Z_iload_n (i := 2) hX d_Pl_join_47 rfl rfl ?_
  refine Z_iload_n (i := 1) hX d_Pl_join_48 rfl rfl ?_
  refine Z_iast hX d_Pl_join_49 rfl rfl (by omega) (by decide) ?_
  refine Z_iload_n (i := 3) hX d_Pl_join_50 rfl rfl ?_
  exact Z_ri (hR _ _ d_Pl_join_51) (by rfl) (by first | rfl | simp [p_jo, hk]) (by rfl)

set_option maxRecDepth 100000 in
set_option maxHeartbeats 4000000 in
theorem c_Pl_longestRestore {la : Launch} {G : zG} {I : zI} {J : zJ}  : zCi la G y_Pl_longestRestore (Cond.code y_Pl_longestRestore prog_5_method_8_code 3 (some .int) :: TBL) (zR 1) [.ref (zad G 1)] I J (p_lo I 16) (I) (J) := by
  refine zCi_of (by decide) (by simp [lg_sl, Value.category]) (rfl) (fun X hla hX hR => ?_)
  subst hla
  refine Z_loc (l' := [(0, .ref (zad G 1))]) (by simp [lv_args, Value.category, List.lookup]) ?_
  refine Z_iconst (v := 0) hX d_Pl_longestRestore_0 rfl ?_
  refine Z_istore_n (i := 1) hX d_Pl_longestRestore_1 rfl (by decide) rfl ?_
  refine Z_iconst (v := nI 0) hX d_Pl_longestRestore_2 rfl ?_
  refine Z_istore_n (i := 2) hX d_Pl_longestRestore_3 rfl (by decide) rfl ?_
  have hL4 : ∀ k i : Nat, k + i = 16 → Z X G 3 0 0 4 [(2, .int (nI i)), (1, .int (p_lo I i)), (0, .ref (zad G 1))] [] (I) (J) := by
    intro k
    induction k with
    | zero =>
      intro i hi
      obtain rfl : i = 16 := by omega
      refine Z_iload_n (i := 2) hX d_Pl_longestRestore_4 rfl rfl ?_
      refine Z_bipush (v := 16) hX d_Pl_longestRestore_5 rfl ?_
      refine Z_icge (tgt := 27) hX d_Pl_longestRestore_7 rfl (fun h7 => ?_) (fun h => absurd (by decide) h)
      refine Z_iload_n (i := 1) hX d_Pl_longestRestore_27 rfl rfl ?_
      exact Z_ri (hR _ _ d_Pl_longestRestore_28) (by rfl) rfl rfl
    | succ k ih =>
      intro i hi
      have hi2 : i < 16 := by omega
      refine Z_iload_n (i := 2) hX d_Pl_longestRestore_4 rfl rfl ?_
      refine Z_bipush (v := 16) hX d_Pl_longestRestore_5 rfl ?_
      refine Z_icge (tgt := 27) hX d_Pl_longestRestore_7 rfl (fun h => absurd h (nI_ge hi2 (by decide))) (fun h7 => ?_)
      refine Z_iload_n (i := 1) hX d_Pl_longestRestore_10 rfl rfl ?_
      refine Z_aload_n (i := 0) hX d_Pl_longestRestore_11 rfl rfl ?_
      refine Z_getR (k0 := 4) hX d_Pl_longestRestore_12 rfl rfl u_Pl (by decide) lk_Pl_25 rfl ?_
      refine Z_iload_n (i := 2) hX d_Pl_longestRestore_15 rfl rfl ?_
      refine Z_iald hX d_Pl_longestRestore_16 rfl rfl (by omega) (by decide) ?_
      refine Z_max hX d_Pl_longestRestore_17 lk_Pl_80 m_max.1 m_max.2.1 m_max.2.2 (by decide) (Nat.le_of_ble_eq_true rfl) (by decide) (by decide) ?_
      refine Z_istore_n (i := 1) hX d_Pl_longestRestore_20 rfl (by decide) rfl ?_
      refine Z_iinc (v := nI (i + 1)) hX d_Pl_longestRestore_21 rfl (by rw [nI_succ]; rfl) (by decide) rfl ?_
      refine Z_goto (tgt := 4) hX d_Pl_longestRestore_24 rfl ?_
      refine Z_loc ?_ (Z_mem ?_ ?_ (ih (i + 1) (by omega)))
      · rfl
      · rfl
      · rfl
  refine Z_loc ?_ (Z_mem ?_ ?_ (hL4 16 0 (by omega)))
  · rfl
  · rfl
  · rfl

set_option maxRecDepth 100000 in
set_option maxHeartbeats 4000000 in
theorem c_Wo_write {la : Launch} {G : zG} {I : zI} {J : zJ} {w : Nat} (hw : isW w) {s : Nat} {q h t : Int32} (hs : s < 64) : zCv la G y_Wo_write (Cond.code y_Wo_write prog_6_method_2_code 5 none :: TBL) (zR 1) [.ref (zad G w), .int (nI s), .int q, .int h, .int t] I J (w_wr I w s q h t) (J) := by
  refine zCv_of (by decide) (by simp [lg_sl, Value.category]) (fun X hla hX hR => ?_)
  subst hla
  refine Z_loc (l' := [(0, .ref (zad G w)), (1, .int (nI s)), (2, .int q), (3, .int h), (4, .int t)]) (by simp [lv_args, Value.category, List.lookup]) ?_
  refine Z_aload_n (i := 0) hX d_Wo_write_0 rfl rfl ?_
  refine Z_getR (k0 := 0) hX d_Wo_write_1 (lW hw) rfl u_Wo (by decide) lk_Wo_9 rfl ?_
  refine Z_iload_n (i := 1) hX d_Wo_write_4 rfl rfl ?_
  refine Z_iload_n (i := 2) hX d_Wo_write_5 rfl rfl ?_
  refine Z_iast hX d_Wo_write_6 (lW1 hw) rfl (by omega) (by decide) ?_
  refine Z_aload_n (i := 0) hX d_Wo_write_7 rfl rfl ?_
  refine Z_getR (k0 := 1) hX d_Wo_write_8 (lW hw) rfl u_Wo (by decide) lk_Wo_15 rfl ?_
  refine Z_iload_n (i := 1) hX d_Wo_write_11 rfl rfl ?_
  refine Z_iload_n (i := 3) hX d_Wo_write_12 rfl rfl ?_
  refine Z_iast hX d_Wo_write_13 (lW2 hw) rfl (by omega) (by decide) ?_
  refine Z_aload_n (i := 0) hX d_Wo_write_14 rfl rfl ?_
  refine Z_getR (k0 := 2) hX d_Wo_write_15 (lW hw) rfl u_Wo (by decide) lk_Wo_18 rfl ?_
  refine Z_iload_n (i := 1) hX d_Wo_write_18 rfl rfl ?_
  refine Z_iload hX d_Wo_write_19 rfl ?_
  refine Z_iast hX d_Wo_write_21 (lW3 hw) rfl (by omega) (by decide) ?_
  exact Z_mem (by rfl) (by rfl) (hR _ _ d_Wo_write_22)

set_option maxRecDepth 100000 in
set_option maxHeartbeats 4000000 in
theorem c_Wo_isSame {la : Launch} {G : zG} {I : zI} {J : zJ} {w : Nat} (hw : isW w) {w' s s' : Nat} (hw2 : isW w') (hs : s < 64) (hs2 : s' < 64) : zCi la G y_Wo_isSame (Cond.code y_Wo_isSame prog_6_method_3_code 4 (some .boolean) :: TBL) (zR 1) [.ref (zad G w), .int (nI s), .ref (zad G w'), .int (nI s')] I J (zB (w_eq I w s w' s')) (I) (J) := by
  refine zCi_of (by decide) (by simp [lg_sl, Value.category]) (zB_nar _) (fun X hla hX hR => ?_)
  subst hla
  refine Z_loc (l' := [(0, .ref (zad G w)), (1, .int (nI s)), (2, .ref (zad G w')), (3, .int (nI s'))]) (by simp [lv_args, Value.category, List.lookup]) ?_
  refine Z_aload_n (i := 0) hX d_Wo_isSame_0 rfl rfl ?_
  refine Z_getR (k0 := 0) hX d_Wo_isSame_1 (lW hw) rfl u_Wo (by decide) lk_Wo_9 rfl ?_
  refine Z_iload_n (i := 1) hX d_Wo_isSame_4 rfl rfl ?_
  refine Z_iald hX d_Wo_isSame_5 (lW1 hw) rfl (by omega) (by decide) ?_
  refine Z_aload_n (i := 2) hX d_Wo_isSame_6 rfl rfl ?_
  refine Z_getR (k0 := 0) hX d_Wo_isSame_7 (lW hw2) rfl u_Wo (by decide) lk_Wo_9 rfl ?_
  refine Z_iload_n (i := 3) hX d_Wo_isSame_10 rfl rfl ?_
  refine Z_iald hX d_Wo_isSame_11 (lW1 hw2) rfl (by omega) (by decide) ?_
  refine Z_icne (tgt := 49) hX d_Wo_isSame_12 rfl (fun h12 => ?_) (fun h12 => ?_)
  · refine Z_iconst (v := 0) hX d_Wo_isSame_49 rfl ?_
    exact Z_ri (hR _ _ d_Wo_isSame_50) (by simp [w_eq, zB, *]) rfl rfl
  · refine Z_aload_n (i := 0) hX d_Wo_isSame_15 rfl rfl ?_
    refine Z_getR (k0 := 1) hX d_Wo_isSame_16 (lW hw) rfl u_Wo (by decide) lk_Wo_15 rfl ?_
    refine Z_iload_n (i := 1) hX d_Wo_isSame_19 rfl rfl ?_
    refine Z_iald hX d_Wo_isSame_20 (lW2 hw) rfl (by omega) (by decide) ?_
    refine Z_aload_n (i := 2) hX d_Wo_isSame_21 rfl rfl ?_
    refine Z_getR (k0 := 1) hX d_Wo_isSame_22 (lW hw2) rfl u_Wo (by decide) lk_Wo_15 rfl ?_
    refine Z_iload_n (i := 3) hX d_Wo_isSame_25 rfl rfl ?_
    refine Z_iald hX d_Wo_isSame_26 (lW2 hw2) rfl (by omega) (by decide) ?_
    refine Z_icne (tgt := 49) hX d_Wo_isSame_27 rfl (fun h27 => ?_) (fun h27 => ?_)
    · refine Z_iconst (v := 0) hX d_Wo_isSame_49 rfl ?_
      exact Z_ri (hR _ _ d_Wo_isSame_50) (by simp [w_eq, zB, *]) rfl rfl
    · refine Z_aload_n (i := 0) hX d_Wo_isSame_30 rfl rfl ?_
      refine Z_getR (k0 := 2) hX d_Wo_isSame_31 (lW hw) rfl u_Wo (by decide) lk_Wo_18 rfl ?_
      refine Z_iload_n (i := 1) hX d_Wo_isSame_34 rfl rfl ?_
      refine Z_iald hX d_Wo_isSame_35 (lW3 hw) rfl (by omega) (by decide) ?_
      refine Z_aload_n (i := 2) hX d_Wo_isSame_36 rfl rfl ?_
      refine Z_getR (k0 := 2) hX d_Wo_isSame_37 (lW hw2) rfl u_Wo (by decide) lk_Wo_18 rfl ?_
      refine Z_iload_n (i := 3) hX d_Wo_isSame_40 rfl rfl ?_
      refine Z_iald hX d_Wo_isSame_41 (lW3 hw2) rfl (by omega) (by decide) ?_
      refine Z_icne (tgt := 49) hX d_Wo_isSame_42 rfl (fun h42 => ?_) (fun h42 => ?_)
      · refine Z_iconst (v := 0) hX d_Wo_isSame_49 rfl ?_
        exact Z_ri (hR _ _ d_Wo_isSame_50) (by simp [w_eq, zB, *]) rfl rfl
      · refine Z_iconst (v := 1) hX d_Wo_isSame_45 rfl ?_
        refine Z_goto (tgt := 50) hX d_Wo_isSame_46 rfl ?_
        exact Z_ri (hR _ _ d_Wo_isSame_50) (by simp [w_eq, zB, *]) rfl rfl
end
section
/-! Flow's methods -/
def f_ls (J : zJ) (b q : Nat) : Bool := decide (lg_cmp (J b 13 >>> ((nI q).toInt64 &&& 63) &&& 1) 0 = 0)
def f_co (I : zI) (J : zJ) (b s q : Nat) : Bool := f_lw I b (I 9 s) && f_wh I b (q / 4) && decide (¬ I (b + 6) q = -1) && f_ls J b q
def f_mo (I : zI) (b : Nat) (x : Bool) : zI := zup I b 14 (zB (decide (¬ I b 14 = 0) || x))
def f_h1 (I : zI) (b s q : Nat) : zI := f_mo I b (!w_eq I (b + 1) s (b + 5) q)
def f_h2 (I : zI) (b s q : Nat) : zI := w_wr I (b + 1) s (I (b + 6) q) (I (b + 7) q) (I (b + 8) q)
def f_h3 (I : zI) (b s : Nat) (a : Int32) : zI := zup (f_mo I b (decide (¬ a = I (b + 13) s))) (b + 13) s a
def f_he (I : zI) (J : zJ) (b s q : Nat) : zI := if f_co I J b s q = true then f_h3 (f_h2 (f_h1 I b s q) b s q) b s 0 else f_h3 I b s (if 3 < I (b + 13) s + 1 then 3 else I (b + 13) s + 1)
theorem f_he_t {I : zI} {J : zJ} {b s q : Nat} (h : f_co I J b s q = true) : f_he I J b s q = f_h3 (f_h2 (f_h1 I b s q) b s q) b s 0 := if_pos h
theorem f_he_f {I : zI} {J : zJ} {b s q : Nat} (h : f_co I J b s q = false) : f_he I J b s q = f_h3 I b s (if 3 < I (b + 13) s + 1 then 3 else I (b + 13) s + 1) := if_neg (by simp [h])
def f_we (I : zI) (b s : Nat) : zI := if p_so I s = true then w_wr I (b + 9) s (I 11 s) 0 0 else if 3 ≤ I (b + 13) s then w_wr I (b + 9) s (-1) 0 0 else w_wr I (b + 9) s (I (b + 2) s) (I (b + 3) s) (I (b + 4) s)
def f_us (I : zI) (b e s : Nat) : Bool := p_in (I (b + 10) s) 0 6 && decide (I 14 s = 0) && (decide (I 1 15 = 0) || decide (¬ f_bit (I (b + 12) s) (nI e) = 1))
def f_cn (I : zI) (b e s : Nat) : Int32 := if f_us I b e s = true then (if 11 < I (b + 14) s + 1 then 11 else I (b + 14) s + 1) else 0
def f_cu (I : zI) (b e s : Nat) : zI := zup (f_mo I b (decide (¬ f_cn I b e s = I (b + 14) s))) (b + 14) s (f_cn I b e s)
def pe (I : zI) (s : Nat) : Nat := (I 10 s).toNatClampNeg
def f_lp (I : zI) (J : zJ) (b e s : Nat) : zI := f_cu (f_we (if I 9 s = -1 then I else f_he I J b s (pe I s)) b s) b e s
def f_li (I : zI) (J : zJ) (b e : Nat) : Nat → zI
  | 0 => I
  | p + 1 => f_lp (f_li I J b e p) J b e (4 * e + p)
def f_bt (I : zI) (b s t : Nat) : Bool := if I (b + 10) s = I (b + 10) t then (if I (b + 11) s = I (b + 11) t then decide (¬ I 13 t ≤ I 13 s) else decide (¬ I (b + 11) t ≤ I (b + 11) s)) else decide (¬ I (b + 10) t ≤ I (b + 10) s)
def zO (r : Option Nat) : Int32 := match r with
  | none => -1
  | some k => nI k
def f_bp (I : zI) (b e : Nat) (m : Int32) : Nat → Option Nat
  | 0 => none
  | p + 1 => match f_bp I b e m p with
    | none => if I (b + 14) (4 * e + p) < m then none else some p
    | some k => if I (b + 14) (4 * e + p) < m then some k else if f_bt I b (4 * e + p) (4 * e + k) = true then some p else some k
def f_ch (I : zI) (b e : Nat) : Int32 := if I 7 e = -1 then (if I 8 e = -1 ∨ I (b + 14) (4 * e + (I 8 e).toNatClampNeg) ≤ 0 then (match f_bp I b e (I 6 e + 1) 4 with
    | none => zO (f_bp I b e 1 4)
    | some k => nI k) else I 8 e) else I 7 e
def f_de1 (I : zI) (b e k : Nat) : zI :=
  let I1 := zup I (b + 15) e 1
  let I2 := zup I1 b 10 (I1 b 10 ||| 1 <<< (nI e &&& 31))
  let I3 := zup I2 (b + 18) e (I2 (b + 10) (4 * e + k))
  zup I3 (b + 17) e (I3 (b + 11) (4 * e + k))
def f_de0 (I : zI) (b e : Nat) : zI := zup (zup (zup I (b + 15) e (if f_bit (I b 10) (nI e) = 1 then 2 else 0)) (b + 18) e (-1)) (b + 17) e (-1)
def f_de (I : zI) (b e : Nat) : zI :=
  let c := f_ch I b e
  let I1 := zup I (b + 16) e c
  if c = -1 ∨ I1 (b + 14) (4 * e + c.toNatClampNeg) ≤ 0 then f_de0 I1 b e else f_de1 I1 b e c.toNatClampNeg
def f_sp1 (I : zI) (b e p : Nat) : zI := if I 9 (4 * e + p) = -1 then I else
  if nI p = I (b + 16) e then w_wr I (b + 5) (4 * e + p) 7 0 0 else
  if f_lo I b e = true then w_wr I (b + 5) (4 * e + p) (I (b + 18) e) (I (b + 17) e + 1) (I (b + 12) (4 * e + (I (b + 16) e).toNatClampNeg) ||| 1 <<< (nI e &&& 31)) else
  w_wr I (b + 5) (4 * e + p) (8 + I 3 e) 0 0
def f_sp (I : zI) (b e : Nat) : Nat → zI
  | 0 => I
  | p + 1 => f_sp1 (f_sp I b e p) b e p
def f_r1 (I : zI) (J : zJ) (b : Nat) : Nat → zI
  | 0 => I
  | e + 1 => if f_wh (f_r1 I J b e) b e = true then f_li (f_r1 I J b e) J b e 4 else f_r1 I J b e
def f_r2 (I : zI) (b : Nat) : Nat → zI
  | 0 => I
  | e + 1 => if f_wh (f_r2 I b e) b e = true then f_sp (f_de (f_r2 I b e) b e) b e 4 else f_r2 I b e
def f_ro (I : zI) (J : zJ) (b : Nat) : zI := f_r2 (f_r1 (zup I b 14 0) J b 16) b 16
def f_fg0 (I : zI) (b e : Nat) : zI :=
  let I1 := zup (zup (zup (zup I (b + 15) e 0) (b + 16) e (-1)) (b + 17) e (-1)) (b + 18) e (-1)
  zup I1 b 10 (I1 b 10 &&& (1 <<< (nI e &&& 31) ^^^ (-1)))
def f_fp (I : zI) (b s : Nat) : zI := zup (zup (w_wr I (b + 5) s (-1) 0 0) (b + 13) s 3) (b + 14) s 0
def f_fl (I : zI) (b e : Nat) : Nat → zI
  | 0 => I
  | p + 1 => f_fp (f_fl I b e p) b (4 * e + p)
def f_fg (I : zI) (b e : Nat) : zI := f_fl (f_fg0 I b e) b e 4
def f_se (I : zI) (b e : Nat) (on : Int32) : zI := if on = 0 then zup I b 11 (I b 11 &&& (1 <<< (nI e &&& 31) ^^^ (-1))) else f_fg (zup I b 11 (I b 11 ||| 1 <<< (nI e &&& 31))) b e
def f_sl (I : zI) (b : Nat) (k on : Int32) : zI := zup I b 12 (if on = 0 then I b 12 &&& (1 <<< (k &&& 31) ^^^ (-1)) else I b 12 ||| 1 <<< (k &&& 31))
def f_lf (J : zJ) (b s : Nat) : zJ := zupL J b 13 (J b 13 ||| 1 <<< ((nI s).toInt64 &&& 63))
set_option maxRecDepth 100000 in
set_option maxHeartbeats 4000000 in
theorem c_Fl_isWhole {la : Launch} {G : zG} {I : zI} {J : zJ} {b : Nat} (hb : b = 16 ∨ b = 35) {e : Nat} (he : e < 16) : zCi la G y_Fl_isWhole (Cond.code y_Fl_isWhole prog_4_method_3_code 2 (some .boolean) :: TBL) (zR 1) [.ref (zad G b), .int (nI e)] I J (zB (f_wh I b e)) (I) (J) := by
  refine zCi_of (by decide) (by simp [lg_sl, Value.category]) (zB_nar _) (fun X hla hX hR => ?_)
  subst hla
  refine Z_loc (l' := [(0, .ref (zad G b)), (1, .int (nI e))]) (by simp [lv_args, Value.category, List.lookup]) ?_
  refine Z_aload_n (i := 0) hX d_Fl_isWhole_0 rfl rfl ?_
  refine Z_getR (k0 := 0) hX d_Fl_isWhole_1 (lF hb) rfl u_Fl (by decide) lk_Fl_61 rfl ?_
  refine Z_getR (k0 := 0) hX d_Fl_isWhole_4 rfl rfl u_Pl (by decide) lk_Fl_81 rfl ?_
  refine Z_iload_n (i := 1) hX d_Fl_isWhole_7 rfl rfl ?_
  refine Z_zald hX d_Fl_isWhole_8 rfl rfl (by omega) (by decide) ?_
  refine Z_ifeq (tgt := 27) hX d_Fl_isWhole_9 rfl (fun h9 => ?_) (fun h9 => ?_)
  · refine Z_iconst (v := 0) hX d_Fl_isWhole_27 rfl ?_
    exact Z_ri (hR _ _ d_Fl_isWhole_28) (by simp [f_wh, f_bit, zB, *]) rfl rfl
  · refine Z_aload_n (i := 0) hX d_Fl_isWhole_12 rfl rfl ?_
    refine Z_getI (k0 := 11) hX d_Fl_isWhole_13 (lF hb) rfl u_Fl (by decide) lk_Fl_47 rfl ?_
    refine Z_iload_n (i := 1) hX d_Fl_isWhole_16 rfl rfl ?_
    refine Z_ishr hX d_Fl_isWhole_17 ?_
    refine Z_iconst (v := 1) hX d_Fl_isWhole_18 rfl ?_
    refine Z_iand hX d_Fl_isWhole_19 ?_
    refine Z_ifne (tgt := 27) hX d_Fl_isWhole_20 rfl (fun h20 => ?_) (fun h20 => ?_)
    · refine Z_iconst (v := 0) hX d_Fl_isWhole_27 rfl ?_
      exact Z_ri (hR _ _ d_Fl_isWhole_28) (by simp [f_wh, f_bit, zB, *]) rfl rfl
    · refine Z_iconst (v := 1) hX d_Fl_isWhole_23 rfl ?_
      refine Z_goto (tgt := 28) hX d_Fl_isWhole_24 rfl ?_
      exact Z_ri (hR _ _ d_Fl_isWhole_28) (by simp [f_wh, f_bit, zB, *]) rfl rfl

set_option maxRecDepth 100000 in
set_option maxHeartbeats 4000000 in
theorem c_Fl_isLinkWhole {la : Launch} {G : zG} {I : zI} {J : zJ} {b : Nat} (hb : b = 16 ∨ b = 35) {k : Int32} : zCi la G y_Fl_isLinkWhole (Cond.code y_Fl_isLinkWhole prog_4_method_4_code 2 (some .boolean) :: TBL) (zR 1) [.ref (zad G b), .int k] I J (zB (f_lw I b k)) (I) (J) := by
  refine zCi_of (by decide) (by simp [lg_sl, Value.category]) (zB_nar _) (fun X hla hX hR => ?_)
  subst hla
  refine Z_loc (l' := [(0, .ref (zad G b)), (1, .int k)]) (by simp [lv_args, Value.category, List.lookup]) ?_
  refine Z_aload_n (i := 0) hX d_Fl_isLinkWhole_0 rfl rfl ?_
  refine Z_getI (k0 := 12) hX d_Fl_isLinkWhole_1 (lF hb) rfl u_Fl (by decide) lk_Fl_50 rfl ?_
  refine Z_iload_n (i := 1) hX d_Fl_isLinkWhole_4 rfl rfl ?_
  refine Z_ishr hX d_Fl_isLinkWhole_5 ?_
  refine Z_iconst (v := 1) hX d_Fl_isLinkWhole_6 rfl ?_
  refine Z_iand hX d_Fl_isLinkWhole_7 ?_
  refine Z_ifne (tgt := 15) hX d_Fl_isLinkWhole_8 rfl (fun h8 => ?_) (fun h8 => ?_)
  · refine Z_iconst (v := 0) hX d_Fl_isLinkWhole_15 rfl ?_
    exact Z_ri (hR _ _ d_Fl_isLinkWhole_16) (by simp [f_lw, f_bit, zB, *]) rfl rfl
  · refine Z_iconst (v := 1) hX d_Fl_isLinkWhole_11 rfl ?_
    refine Z_goto (tgt := 16) hX d_Fl_isLinkWhole_12 rfl ?_
    exact Z_ri (hR _ _ d_Fl_isLinkWhole_16) (by simp [f_lw, f_bit, zB, *]) rfl rfl

set_option maxRecDepth 100000 in
set_option maxHeartbeats 4000000 in
theorem c_Fl_isLocked {la : Launch} {G : zG} {I : zI} {J : zJ} {b : Nat} (hb : b = 16 ∨ b = 35) {e : Nat} (he : e < 16) : zCi la G y_Fl_isLocked (Cond.code y_Fl_isLocked prog_4_method_5_code 2 (some .boolean) :: TBL) (zR 1) [.ref (zad G b), .int (nI e)] I J (zB (f_lo I b e)) (I) (J) := by
  refine zCi_of (by decide) (by simp [lg_sl, Value.category]) (zB_nar _) (fun X hla hX hR => ?_)
  subst hla
  refine Z_loc (l' := [(0, .ref (zad G b)), (1, .int (nI e))]) (by simp [lv_args, Value.category, List.lookup]) ?_
  refine Z_aload_n (i := 0) hX d_Fl_isLocked_0 rfl rfl ?_
  refine Z_getR (k0 := 6) hX d_Fl_isLocked_1 (lF hb) rfl u_Fl (by decide) lk_Fl_31 rfl ?_
  refine Z_iload_n (i := 1) hX d_Fl_isLocked_4 rfl rfl ?_
  refine Z_iald hX d_Fl_isLocked_5 (lF15 hb) rfl (by omega) (by decide) ?_
  refine Z_iconst (v := 1) hX d_Fl_isLocked_6 rfl ?_
  refine Z_icne (tgt := 14) hX d_Fl_isLocked_7 rfl (fun h7 => ?_) (fun h7 => ?_)
  · refine Z_iconst (v := 0) hX d_Fl_isLocked_14 rfl ?_
    exact Z_ri (hR _ _ d_Fl_isLocked_15) (by simp [f_lo, zB, *]) rfl rfl
  · refine Z_iconst (v := 1) hX d_Fl_isLocked_10 rfl ?_
    refine Z_goto (tgt := 15) hX d_Fl_isLocked_11 rfl ?_
    exact Z_ri (hR _ _ d_Fl_isLocked_15) (by simp [f_lo, zB, *]) rfl rfl

set_option maxRecDepth 100000 in
set_option maxHeartbeats 4000000 in
theorem c_Fl_shownCondition {la : Launch} {G : zG} {I : zI} {J : zJ} {b : Nat} (hb : b = 16 ∨ b = 35) {e : Nat} (he : e < 16) : zCi la G y_Fl_shownCondition (Cond.code y_Fl_shownCondition prog_4_method_6_code 2 (some .int) :: TBL) (zR 1) [.ref (zad G b), .int (nI e)] I J (f_sc I b e) (I) (J) := by
  refine zCi_of (by decide) (by simp [lg_sl, Value.category]) (rfl) (fun X hla hX hR => ?_)
  subst hla
  refine Z_loc (l' := [(0, .ref (zad G b)), (1, .int (nI e))]) (by simp [lv_args, Value.category, List.lookup]) ?_
  refine Z_aload_n (i := 0) hX d_Fl_shownCondition_0 rfl rfl ?_
  refine Z_getI (k0 := 11) hX d_Fl_shownCondition_1 (lF hb) rfl u_Fl (by decide) lk_Fl_47 rfl ?_
  refine Z_iload_n (i := 1) hX d_Fl_shownCondition_4 rfl rfl ?_
  refine Z_ishr hX d_Fl_shownCondition_5 ?_
  refine Z_iconst (v := 1) hX d_Fl_shownCondition_6 rfl ?_
  refine Z_iand hX d_Fl_shownCondition_7 ?_
  refine Z_iconst (v := 1) hX d_Fl_shownCondition_8 rfl ?_
  refine Z_icne (tgt := 16) hX d_Fl_shownCondition_9 rfl (fun h9 => ?_) (fun h9 => ?_)
  · refine Z_aload_n (i := 0) hX d_Fl_shownCondition_16 rfl rfl ?_
    refine Z_getR (k0 := 6) hX d_Fl_shownCondition_17 (lF hb) rfl u_Fl (by decide) lk_Fl_31 rfl ?_
    refine Z_iload_n (i := 1) hX d_Fl_shownCondition_20 rfl rfl ?_
    refine Z_iald hX d_Fl_shownCondition_21 (lF15 hb) rfl (by omega) (by decide) ?_
    exact Z_ri (hR _ _ d_Fl_shownCondition_22) (by simp [f_sc, f_bit, *]) rfl rfl
  · refine Z_iconst (v := 3) hX d_Fl_shownCondition_12 rfl ?_
    refine Z_goto (tgt := 22) hX d_Fl_shownCondition_13 rfl ?_
    exact Z_ri (hR _ _ d_Fl_shownCondition_22) (by simp [f_sc, f_bit, *]) rfl rfl

set_option maxRecDepth 100000 in
set_option maxHeartbeats 4000000 in
theorem c_Fl_setLinkFailed {la : Launch} {G : zG} {I : zI} {J : zJ} {b : Nat} (hb : b = 16 ∨ b = 35) {k on : Int32} : zCv la G y_Fl_setLinkFailed (Cond.code y_Fl_setLinkFailed prog_4_method_7_code 3 none :: TBL) (zR 1) [.ref (zad G b), .int k, .int on] I J (f_sl I b k on) (J) := by
  refine zCv_of (by decide) (by simp [lg_sl, Value.category]) (fun X hla hX hR => ?_)
  subst hla
  refine Z_loc (l' := [(0, .ref (zad G b)), (1, .int k), (2, .int on)]) (by simp [lv_args, Value.category, List.lookup]) ?_
  refine Z_aload_n (i := 0) hX d_Fl_setLinkFailed_0 rfl rfl ?_
  refine Z_iload_n (i := 2) hX d_Fl_setLinkFailed_1 rfl rfl ?_
  refine Z_ifeq (tgt := 16) hX d_Fl_setLinkFailed_2 rfl (fun h2 => ?_) (fun h2 => ?_)
  · refine Z_aload_n (i := 0) hX d_Fl_setLinkFailed_16 rfl rfl ?_
    refine Z_getI (k0 := 12) hX d_Fl_setLinkFailed_17 (lF hb) rfl u_Fl (by decide) lk_Fl_50 rfl ?_
    refine Z_iconst (v := 1) hX d_Fl_setLinkFailed_20 rfl ?_
    refine Z_iload_n (i := 1) hX d_Fl_setLinkFailed_21 rfl rfl ?_
    refine Z_ishl hX d_Fl_setLinkFailed_22 ?_
    refine Z_iconst (v := (-1)) hX d_Fl_setLinkFailed_23 rfl ?_
    refine Z_ixor hX d_Fl_setLinkFailed_24 ?_
    refine Z_iand hX d_Fl_setLinkFailed_25 ?_
    refine Z_putI (k0 := 12) hX d_Fl_setLinkFailed_26 (lF hb) rfl u_Fl (by decide) lk_Fl_50 rfl t_Fl to_Fl n_Fl rfl rfl rfl rfl ?_
    exact Z_mem (by simp [f_sl, *]) (by rfl) (hR _ _ d_Fl_setLinkFailed_29)
  · refine Z_aload_n (i := 0) hX d_Fl_setLinkFailed_5 rfl rfl ?_
    refine Z_getI (k0 := 12) hX d_Fl_setLinkFailed_6 (lF hb) rfl u_Fl (by decide) lk_Fl_50 rfl ?_
    refine Z_iconst (v := 1) hX d_Fl_setLinkFailed_9 rfl ?_
    refine Z_iload_n (i := 1) hX d_Fl_setLinkFailed_10 rfl rfl ?_
    refine Z_ishl hX d_Fl_setLinkFailed_11 ?_
    refine Z_ior hX d_Fl_setLinkFailed_12 ?_
    refine Z_goto (tgt := 26) hX d_Fl_setLinkFailed_13 rfl ?_
    refine Z_putI (k0 := 12) hX d_Fl_setLinkFailed_26 (lF hb) rfl u_Fl (by decide) lk_Fl_50 rfl t_Fl to_Fl n_Fl rfl rfl rfl rfl ?_
    exact Z_mem (by simp [f_sl, *]) (by rfl) (hR _ _ d_Fl_setLinkFailed_29)

set_option maxRecDepth 100000 in
set_option maxHeartbeats 4000000 in
theorem c_Fl_loseFrom {la : Launch} {G : zG} {I : zI} {J : zJ} {b : Nat} (hb : b = 16 ∨ b = 35) {s : Nat} : zCv la G y_Fl_loseFrom (Cond.code y_Fl_loseFrom prog_4_method_9_code 2 none :: TBL) (zR 1) [.ref (zad G b), .int (nI s)] I J (I) (f_lf J b s) := by
  refine zCv_of (by decide) (by simp [lg_sl, Value.category]) (fun X hla hX hR => ?_)
  subst hla
  refine Z_loc (l' := [(0, .ref (zad G b)), (1, .int (nI s))]) (by simp [lv_args, Value.category, List.lookup]) ?_
  refine Z_aload_n (i := 0) hX d_Fl_loseFrom_0 rfl rfl ?_
  refine Z_dup hX d_Fl_loseFrom_1 rfl ?_
  refine Z_getL (k0 := 13) hX d_Fl_loseFrom_2 (lF hb) rfl u_Fl (by decide) lk_Fl_53 rfl ?_
  refine Z_lconst (v := 1) hX d_Fl_loseFrom_5 rfl ?_
  refine Z_iload_n (i := 1) hX d_Fl_loseFrom_6 rfl rfl ?_
  refine Z_lshl hX d_Fl_loseFrom_7 ?_
  refine Z_lor hX d_Fl_loseFrom_8 ?_
  refine Z_putL (k0 := 13) hX d_Fl_loseFrom_9 (lF hb) rfl u_Fl (by decide) lk_Fl_53 rfl t_Fl to_Fl n_Fl rfl rfl ?_
  exact Z_mem (by rfl) (by rfl) (hR _ _ d_Fl_loseFrom_12)

set_option maxRecDepth 100000 in
set_option maxHeartbeats 4000000 in
theorem c_Fl_forget {la : Launch} {G : zG} {I : zI} {J : zJ} {b : Nat} (hb : b = 16 ∨ b = 35) {e : Nat} (he : e < 16) : zCv la G y_Fl_forget (Cond.code y_Fl_forget prog_4_method_10_code 4 none :: TBL) (zR 2) [.ref (zad G b), .int (nI e)] I J (f_fg I b e) (J) := by
  refine zCv_of (by decide) (by simp [lg_sl, Value.category]) (fun X hla hX hR => ?_)
  subst hla
  refine Z_loc (l' := [(0, .ref (zad G b)), (1, .int (nI e))]) (by simp [lv_args, Value.category, List.lookup]) ?_
  refine Z_aload_n (i := 0) hX d_Fl_forget_0 rfl rfl ?_
  refine Z_getR (k0 := 6) hX d_Fl_forget_1 (lF hb) rfl u_Fl (by decide) lk_Fl_31 rfl ?_
  refine Z_iload_n (i := 1) hX d_Fl_forget_4 rfl rfl ?_
  refine Z_iconst (v := 0) hX d_Fl_forget_5 rfl ?_
  refine Z_iast hX d_Fl_forget_6 (lF15 hb) rfl (by omega) (by decide) ?_
  refine Z_aload_n (i := 0) hX d_Fl_forget_7 rfl rfl ?_
  refine Z_getR (k0 := 7) hX d_Fl_forget_8 (lF hb) rfl u_Fl (by decide) lk_Fl_34 rfl ?_
  refine Z_iload_n (i := 1) hX d_Fl_forget_11 rfl rfl ?_
  refine Z_iconst (v := (-1)) hX d_Fl_forget_12 rfl ?_
  refine Z_iast hX d_Fl_forget_13 (lF16 hb) rfl (by omega) (by decide) ?_
  refine Z_aload_n (i := 0) hX d_Fl_forget_14 rfl rfl ?_
  refine Z_getR (k0 := 8) hX d_Fl_forget_15 (lF hb) rfl u_Fl (by decide) lk_Fl_37 rfl ?_
  refine Z_iload_n (i := 1) hX d_Fl_forget_18 rfl rfl ?_
  refine Z_iconst (v := (-1)) hX d_Fl_forget_19 rfl ?_
  refine Z_iast hX d_Fl_forget_20 (lF17 hb) rfl (by omega) (by decide) ?_
  refine Z_aload_n (i := 0) hX d_Fl_forget_21 rfl rfl ?_
  refine Z_getR (k0 := 9) hX d_Fl_forget_22 (lF hb) rfl u_Fl (by decide) lk_Fl_40 rfl ?_
  refine Z_iload_n (i := 1) hX d_Fl_forget_25 rfl rfl ?_
  refine Z_iconst (v := (-1)) hX d_Fl_forget_26 rfl ?_
  refine Z_iast hX d_Fl_forget_27 (lF18 hb) rfl (by omega) (by decide) ?_
  refine Z_aload_n (i := 0) hX d_Fl_forget_28 rfl rfl ?_
  refine Z_dup hX d_Fl_forget_29 rfl ?_
  refine Z_getI (k0 := 10) hX d_Fl_forget_30 (lF hb) rfl u_Fl (by decide) lk_Fl_43 rfl ?_
  refine Z_iconst (v := 1) hX d_Fl_forget_33 rfl ?_
  refine Z_iload_n (i := 1) hX d_Fl_forget_34 rfl rfl ?_
  refine Z_ishl hX d_Fl_forget_35 ?_
  refine Z_iconst (v := (-1)) hX d_Fl_forget_36 rfl ?_
  refine Z_ixor hX d_Fl_forget_37 ?_
  refine Z_iand hX d_Fl_forget_38 ?_
  refine Z_putI (k0 := 10) hX d_Fl_forget_39 (lF hb) rfl u_Fl (by decide) lk_Fl_43 rfl t_Fl to_Fl n_Fl rfl rfl rfl rfl ?_
  refine Z_iconst (v := nI 0) hX d_Fl_forget_42 rfl ?_
  refine Z_istore_n (i := 2) hX d_Fl_forget_43 rfl (by decide) rfl ?_
  have hL44 : ∀ k i : Nat, k + i = 4 → Z X G 4 0 0 44 [(2, .int (nI i)), (1, .int (nI e)), (0, .ref (zad G b))] [] (f_fl (f_fg0 I b e) b e i) (J) := by
    intro k
    induction k with
    | zero =>
      intro i hi
      obtain rfl : i = 4 := by omega
      refine Z_iload_n (i := 2) hX d_Fl_forget_44 rfl rfl ?_
      refine Z_iconst (v := 4) hX d_Fl_forget_45 rfl ?_
      refine Z_icge (tgt := 86) hX d_Fl_forget_46 rfl (fun h46 => ?_) (fun h => absurd (by decide) h)
      exact Z_mem (by rfl) (by rfl) (hR _ _ d_Fl_forget_86)
    | succ k ih =>
      intro i hi
      have hi2 : i < 4 := by omega
      refine Z_iload_n (i := 2) hX d_Fl_forget_44 rfl rfl ?_
      refine Z_iconst (v := 4) hX d_Fl_forget_45 rfl ?_
      refine Z_icge (tgt := 86) hX d_Fl_forget_46 rfl (fun h => absurd h (nI_ge hi2 (by decide))) (fun h46 => ?_)
      refine Z_iload_n (i := 1) hX d_Fl_forget_49 rfl rfl ?_
      refine Z_iload_n (i := 2) hX d_Fl_forget_50 rfl rfl ?_
      refine Z_cNi2 hX d_Fl_forget_51 c_CT_slotOf m_CT_slotOf ne_Fl_91 ⟨by decide, by decide⟩ ⟨by decide, by decide⟩ (Nat.le_of_ble_eq_true rfl) ?_
      refine Z_istore_n (i := 3) hX d_Fl_forget_54 rfl (by decide) rfl ?_
      refine Z_aload_n (i := 0) hX d_Fl_forget_55 rfl rfl ?_
      refine Z_getR (k0 := 2) hX d_Fl_forget_56 (lF hb) rfl u_Fl (by decide) lk_Fl_18 rfl ?_
      refine Z_iload_n (i := 3) hX d_Fl_forget_59 rfl rfl ?_
      refine Z_iconst (v := (-1)) hX d_Fl_forget_60 rfl ?_
      refine Z_iconst (v := 0) hX d_Fl_forget_61 rfl ?_
      refine Z_iconst (v := 0) hX d_Fl_forget_62 rfl ?_
      refine Z_cVv4 hX d_Fl_forget_63 (c_Wo_write (wF5 hb) (by omega)) m_Wo_write (lF5 hb) rfl lk_Fl_95 ⟨by decide, by decide⟩ ⟨by decide, by decide⟩ (Nat.le_of_ble_eq_true rfl) ?_
      refine Z_aload_n (i := 0) hX d_Fl_forget_66 rfl rfl ?_
      refine Z_getR (k0 := 4) hX d_Fl_forget_67 (lF hb) rfl u_Fl (by decide) lk_Fl_24 rfl ?_
      refine Z_iload_n (i := 3) hX d_Fl_forget_70 rfl rfl ?_
      refine Z_iconst (v := 3) hX d_Fl_forget_71 rfl ?_
      refine Z_iast hX d_Fl_forget_72 (lF13 hb) rfl (by omega) (by decide) ?_
      refine Z_aload_n (i := 0) hX d_Fl_forget_73 rfl rfl ?_
      refine Z_getR (k0 := 5) hX d_Fl_forget_74 (lF hb) rfl u_Fl (by decide) lk_Fl_28 rfl ?_
      refine Z_iload_n (i := 3) hX d_Fl_forget_77 rfl rfl ?_
      refine Z_iconst (v := 0) hX d_Fl_forget_78 rfl ?_
      refine Z_iast hX d_Fl_forget_79 (lF14 hb) rfl (by omega) (by decide) ?_
      refine Z_iinc (v := nI (i + 1)) hX d_Fl_forget_80 rfl (by rw [nI_succ]; rfl) (by decide) rfl ?_
      refine Z_goto (tgt := 44) hX d_Fl_forget_83 rfl ?_
      refine Z_loc ?_ (Z_mem ?_ ?_ (ih (i + 1) (by omega)))
      · rfl
      · rfl
      · rfl
  refine Z_loc ?_ (Z_mem ?_ ?_ (hL44 4 0 (by omega)))
  · rfl
  · rfl
  · rfl

set_option maxRecDepth 100000 in
set_option maxHeartbeats 4000000 in
theorem c_Fl_setElementFailed {la : Launch} {G : zG} {I : zI} {J : zJ} {b : Nat} (hb : b = 16 ∨ b = 35) {e : Nat} (he : e < 16) {on : Int32} : zCv la G y_Fl_setElementFailed (Cond.code y_Fl_setElementFailed prog_4_method_8_code 3 none :: TBL) (zR 3) [.ref (zad G b), .int (nI e), .int on] I J (f_se I b e on) (J) := by
  refine zCv_of (by decide) (by simp [lg_sl, Value.category]) (fun X hla hX hR => ?_)
  subst hla
  refine Z_loc (l' := [(0, .ref (zad G b)), (1, .int (nI e)), (2, .int on)]) (by simp [lv_args, Value.category, List.lookup]) ?_
  refine Z_iload_n (i := 2) hX d_Fl_setElementFailed_0 rfl rfl ?_
  refine Z_ifeq (tgt := 24) hX d_Fl_setElementFailed_1 rfl (fun h1 => ?_) (fun h1 => ?_)
  · refine Z_aload_n (i := 0) hX d_Fl_setElementFailed_24 rfl rfl ?_
    refine Z_dup hX d_Fl_setElementFailed_25 rfl ?_
    refine Z_getI (k0 := 11) hX d_Fl_setElementFailed_26 (lF hb) rfl u_Fl (by decide) lk_Fl_47 rfl ?_
    refine Z_iconst (v := 1) hX d_Fl_setElementFailed_29 rfl ?_
    refine Z_iload_n (i := 1) hX d_Fl_setElementFailed_30 rfl rfl ?_
    refine Z_ishl hX d_Fl_setElementFailed_31 ?_
    refine Z_iconst (v := (-1)) hX d_Fl_setElementFailed_32 rfl ?_
    refine Z_ixor hX d_Fl_setElementFailed_33 ?_
    refine Z_iand hX d_Fl_setElementFailed_34 ?_
    refine Z_putI (k0 := 11) hX d_Fl_setElementFailed_35 (lF hb) rfl u_Fl (by decide) lk_Fl_47 rfl t_Fl to_Fl n_Fl rfl rfl rfl rfl ?_
    exact Z_mem (by simp [f_se, *]) (by rfl) (hR _ _ d_Fl_setElementFailed_38)
  · refine Z_aload_n (i := 0) hX d_Fl_setElementFailed_4 rfl rfl ?_
    refine Z_dup hX d_Fl_setElementFailed_5 rfl ?_
    refine Z_getI (k0 := 11) hX d_Fl_setElementFailed_6 (lF hb) rfl u_Fl (by decide) lk_Fl_47 rfl ?_
    refine Z_iconst (v := 1) hX d_Fl_setElementFailed_9 rfl ?_
    refine Z_iload_n (i := 1) hX d_Fl_setElementFailed_10 rfl rfl ?_
    refine Z_ishl hX d_Fl_setElementFailed_11 ?_
    refine Z_ior hX d_Fl_setElementFailed_12 ?_
    refine Z_putI (k0 := 11) hX d_Fl_setElementFailed_13 (lF hb) rfl u_Fl (by decide) lk_Fl_47 rfl t_Fl to_Fl n_Fl rfl rfl rfl rfl ?_
    refine Z_aload_n (i := 0) hX d_Fl_setElementFailed_16 rfl rfl ?_
    refine Z_iload_n (i := 1) hX d_Fl_setElementFailed_17 rfl rfl ?_
    refine Z_cVv1 hX d_Fl_setElementFailed_18 (c_Fl_forget hb (by omega)) m_Fl_forget (lF hb) rfl lk_Fl_87 ⟨by decide, by decide⟩ ⟨by decide, by decide⟩ (Nat.le_of_ble_eq_true rfl) ?_
    refine Z_goto (tgt := 38) hX d_Fl_setElementFailed_21 rfl ?_
    exact Z_mem (by simp [f_se, *]) (by rfl) (hR _ _ d_Fl_setElementFailed_38)

set_option maxRecDepth 100000 in
set_option maxHeartbeats 4000000 in
theorem c_Fl_comes {la : Launch} {G : zG} {I : zI} {J : zJ} {b : Nat} (hb : b = 16 ∨ b = 35) {s q : Nat} (hs : s < 64) (hq : q < 64) : zCi la G y_Fl_comes (Cond.code y_Fl_comes prog_4_method_15_code 3 (some .boolean) :: TBL) (zR 2) [.ref (zad G b), .int (nI s), .int (nI q)] I J (zB (f_co I J b s q)) (I) (J) := by
  refine zCi_of (by decide) (by simp [lg_sl, Value.category]) (zB_nar _) (fun X hla hX hR => ?_)
  subst hla
  refine Z_loc (l' := [(0, .ref (zad G b)), (1, .int (nI s)), (2, .int (nI q))]) (by simp [lv_args, Value.category, List.lookup]) ?_
  refine Z_aload_n (i := 0) hX d_Fl_comes_0 rfl rfl ?_
  refine Z_aload_n (i := 0) hX d_Fl_comes_1 rfl rfl ?_
  refine Z_getR (k0 := 0) hX d_Fl_comes_2 (lF hb) rfl u_Fl (by decide) lk_Fl_61 rfl ?_
  refine Z_getR (k0 := 7) hX d_Fl_comes_5 rfl rfl u_Pl (by decide) lk_Fl_115 rfl ?_
  refine Z_iload_n (i := 1) hX d_Fl_comes_8 rfl rfl ?_
  refine Z_iald hX d_Fl_comes_9 rfl rfl (by omega) (by decide) ?_
  refine Z_cVi1 hX d_Fl_comes_10 (c_Fl_isLinkWhole hb) m_Fl_isLinkWhole (lF hb) rfl lk_Fl_149 ⟨by decide, by decide⟩ ⟨by decide, by decide⟩ (Nat.le_of_ble_eq_true rfl) ?_
  refine Z_ifeqB (tgt := 57) hX d_Fl_comes_13 rfl (fun h13 => ?_) (fun h13 => ?_)
  · refine Z_iconst (v := 0) hX d_Fl_comes_57 rfl ?_
    exact Z_ri (hR _ _ d_Fl_comes_58) (by simp [f_co, f_ls, zB, *]) rfl rfl
  · refine Z_aload_n (i := 0) hX d_Fl_comes_16 rfl rfl ?_
    refine Z_iload_n (i := 2) hX d_Fl_comes_17 rfl rfl ?_
    refine Z_cNi1 hX d_Fl_comes_18 (c_CT_elementOf (by omega)) m_CT_elementOf ne_Fl_152 ⟨by decide, by decide⟩ ⟨by decide, by decide⟩ (Nat.le_of_ble_eq_true rfl) ?_
    refine Z_cVi1 hX d_Fl_comes_21 (c_Fl_isWhole hb (by omega)) m_Fl_isWhole (lF hb) rfl lk_Fl_102 ⟨by decide, by decide⟩ ⟨by decide, by decide⟩ (Nat.le_of_ble_eq_true rfl) ?_
    refine Z_ifeqB (tgt := 57) hX d_Fl_comes_24 rfl (fun h24 => ?_) (fun h24 => ?_)
    · refine Z_iconst (v := 0) hX d_Fl_comes_57 rfl ?_
      exact Z_ri (hR _ _ d_Fl_comes_58) (by simp [f_co, f_ls, zB, *]) rfl rfl
    · refine Z_aload_n (i := 0) hX d_Fl_comes_27 rfl rfl ?_
      refine Z_getR (k0 := 2) hX d_Fl_comes_28 (lF hb) rfl u_Fl (by decide) lk_Fl_18 rfl ?_
      refine Z_getR (k0 := 0) hX d_Fl_comes_31 (lF5 hb) rfl u_Wo (by decide) lk_Fl_144 rfl ?_
      refine Z_iload_n (i := 2) hX d_Fl_comes_34 rfl rfl ?_
      refine Z_iald hX d_Fl_comes_35 (lF6 hb) rfl (by omega) (by decide) ?_
      refine Z_iconst (v := (-1)) hX d_Fl_comes_36 rfl ?_
      refine Z_iceq (tgt := 57) hX d_Fl_comes_37 rfl (fun h37 => ?_) (fun h37 => ?_)
      · refine Z_iconst (v := 0) hX d_Fl_comes_57 rfl ?_
        exact Z_ri (hR _ _ d_Fl_comes_58) (by simp [f_co, f_ls, zB, *]) rfl rfl
      · refine Z_aload_n (i := 0) hX d_Fl_comes_40 rfl rfl ?_
        refine Z_getL (k0 := 13) hX d_Fl_comes_41 (lF hb) rfl u_Fl (by decide) lk_Fl_53 rfl ?_
        refine Z_iload_n (i := 2) hX d_Fl_comes_44 rfl rfl ?_
        refine Z_lshr hX d_Fl_comes_45 ?_
        refine Z_lconst (v := 1) hX d_Fl_comes_46 rfl ?_
        refine Z_land hX d_Fl_comes_47 ?_
        refine Z_lconst (v := 0) hX d_Fl_comes_48 rfl ?_
        refine Z_lcmp hX d_Fl_comes_49 ?_
        refine Z_ifne (tgt := 57) hX d_Fl_comes_50 rfl (fun h50 => ?_) (fun h50 => ?_)
        · refine Z_iconst (v := 0) hX d_Fl_comes_57 rfl ?_
          exact Z_ri (hR _ _ d_Fl_comes_58) (by simp [f_co, f_ls, zB, *]) rfl rfl
        · refine Z_iconst (v := 1) hX d_Fl_comes_53 rfl ?_
          refine Z_goto (tgt := 58) hX d_Fl_comes_54 rfl ?_
          exact Z_ri (hR _ _ d_Fl_comes_58) (by simp [f_co, f_ls, zB, *]) rfl rfl

set_option maxRecDepth 100000 in
set_option maxHeartbeats 4000000 in
theorem c_Fl_hear {la : Launch} {G : zG} {I : zI} {J : zJ} {b : Nat} (hb : b = 16 ∨ b = 35) {s q : Nat} (hs : s < 64) (hq : I 10 s = nI q) (hq2 : q < 64) : zCv la G y_Fl_hear (Cond.code y_Fl_hear prog_4_method_14_code 4 none :: TBL) (zR 3) [.ref (zad G b), .int (nI s)] I J (f_he I J b s q) (J) := by
  refine zCv_of (by decide) (by simp [lg_sl, Value.category]) (fun X hla hX hR => ?_)
  subst hla
  refine Z_loc (l' := [(0, .ref (zad G b)), (1, .int (nI s))]) (by simp [lv_args, Value.category, List.lookup]) ?_
  refine Z_aload_n (i := 0) hX d_Fl_hear_0 rfl rfl ?_
  refine Z_getR (k0 := 0) hX d_Fl_hear_1 (lF hb) rfl u_Fl (by decide) lk_Fl_61 rfl ?_
  refine Z_getR (k0 := 8) hX d_Fl_hear_4 rfl rfl u_Pl (by decide) lk_Fl_128 rfl ?_
  refine Z_iload_n (i := 1) hX d_Fl_hear_7 rfl rfl ?_
  refine Z_iald hX d_Fl_hear_8 rfl rfl (by omega) (by decide) ?_
  refine Z_top hq ?_
  refine Z_istore_n (i := 2) hX d_Fl_hear_9 rfl (by decide) rfl ?_
  refine Z_aload_n (i := 0) hX d_Fl_hear_10 rfl rfl ?_
  refine Z_getR (k0 := 4) hX d_Fl_hear_11 (lF hb) rfl u_Fl (by decide) lk_Fl_24 rfl ?_
  refine Z_iload_n (i := 1) hX d_Fl_hear_14 rfl rfl ?_
  refine Z_iald hX d_Fl_hear_15 (lF13 hb) rfl (by omega) (by decide) ?_
  refine Z_iconst (v := 1) hX d_Fl_hear_16 rfl ?_
  refine Z_iadd hX d_Fl_hear_17 ?_
  refine Z_iconst (v := 3) hX d_Fl_hear_18 rfl ?_
  refine Z_min hX d_Fl_hear_19 lk_Fl_131 m_min.1 m_min.2.1 m_min.2.2 (by decide) (Nat.le_of_ble_eq_true rfl) (by decide) (by decide) ?_
  refine Z_istore_n (i := 3) hX d_Fl_hear_22 rfl (by decide) rfl ?_
  refine Z_aload_n (i := 0) hX d_Fl_hear_23 rfl rfl ?_
  refine Z_iload_n (i := 1) hX d_Fl_hear_24 rfl rfl ?_
  refine Z_iload_n (i := 2) hX d_Fl_hear_25 rfl rfl ?_
  refine Z_cVi2 hX d_Fl_hear_26 (c_Fl_comes hb (by omega) (by omega)) m_Fl_comes (lF hb) rfl lk_Fl_136 ⟨by decide, by decide⟩ ⟨by decide, by decide⟩ (Nat.le_of_ble_eq_true rfl) ?_
  refine Z_ifeqB (tgt := 101) hX d_Fl_hear_29 rfl (fun h29 => ?_) (fun h29 => ?_)
  · refine Z_aload_n (i := 0) hX d_Fl_hear_101 rfl rfl ?_
    refine Z_cut (pc' := 124) (P := fun v => v = zB (decide (¬ I b 14 = 0) || decide (¬ (if 3 < I (b + 13) s + 1 then 3 else I (b + 13) s + 1) = I (b + 13) s))) ?_ (fun hJ124 => ?_)
    · intro v hv124
      subst hv124
      refine Z_putI (k0 := 14) hX d_Fl_hear_124 (lF hb) rfl u_Fl (by decide) lk_Fl_57 rfl t_Fl to_Fl n_Fl rfl rfl (zB_nar _) (zB_fit _) ?_
      refine Z_aload_n (i := 0) hX d_Fl_hear_127 rfl rfl ?_
      refine Z_getR (k0 := 4) hX d_Fl_hear_128 (lF hb) rfl u_Fl (by decide) lk_Fl_24 rfl ?_
      refine Z_iload_n (i := 1) hX d_Fl_hear_131 rfl rfl ?_
      refine Z_iload_n (i := 3) hX d_Fl_hear_132 rfl rfl ?_
      refine Z_iast hX d_Fl_hear_133 (lF13 hb) rfl (by omega) (by decide) ?_
      exact Z_mem (by first | exact (f_he_t h29).symm | exact (f_he_f h29).symm) (by rfl) (hR _ _ d_Fl_hear_134)
    · refine Z_aload_n (i := 0) hX d_Fl_hear_102 rfl rfl ?_
      refine Z_getI (k0 := 14) hX d_Fl_hear_103 (lF hb) rfl u_Fl (by decide) lk_Fl_57 rfl ?_
      refine Z_ifne (tgt := 119) hX d_Fl_hear_106 rfl (fun h106 => ?_) (fun h106 => ?_)
      · refine Z_iconst (v := 1) hX d_Fl_hear_119 rfl ?_
        refine Z_goto (tgt := 124) hX d_Fl_hear_120 rfl ?_
        exact hJ124 _ (by simp [zB, *])
      · refine Z_iload_n (i := 3) hX d_Fl_hear_109 rfl rfl ?_
        refine Z_aload_n (i := 0) hX d_Fl_hear_110 rfl rfl ?_
        refine Z_getR (k0 := 4) hX d_Fl_hear_111 (lF hb) rfl u_Fl (by decide) lk_Fl_24 rfl ?_
        refine Z_iload_n (i := 1) hX d_Fl_hear_114 rfl rfl ?_
        refine Z_iald hX d_Fl_hear_115 (lF13 hb) rfl (by omega) (by decide) ?_
        refine Z_iceq (tgt := 123) hX d_Fl_hear_116 rfl (fun h116 => ?_) (fun h116 => ?_)
        · refine Z_iconst (v := 0) hX d_Fl_hear_123 rfl ?_
          exact hJ124 _ (by simp [zB, *])
        · refine Z_iconst (v := 1) hX d_Fl_hear_119 rfl ?_
          refine Z_goto (tgt := 124) hX d_Fl_hear_120 rfl ?_
          exact hJ124 _ (by simp [zB, *])
  · refine Z_aload_n (i := 0) hX d_Fl_hear_32 rfl rfl ?_
    refine Z_cut (pc' := 61) (P := fun v => v = zB (decide (¬ I b 14 = 0) || !w_eq I (b + 1) s (b + 5) q)) ?_ (fun hJ61 => ?_)
    · intro v hv61
      subst hv61
      refine Z_putI (k0 := 14) hX d_Fl_hear_61 (lF hb) rfl u_Fl (by decide) lk_Fl_57 rfl t_Fl to_Fl n_Fl rfl rfl (zB_nar _) (zB_fit _) ?_
      refine Z_aload_n (i := 0) hX d_Fl_hear_64 rfl rfl ?_
      refine Z_getR (k0 := 1) hX d_Fl_hear_65 (lF hb) rfl u_Fl (by decide) lk_Fl_12 rfl ?_
      refine Z_iload_n (i := 1) hX d_Fl_hear_68 rfl rfl ?_
      refine Z_aload_n (i := 0) hX d_Fl_hear_69 rfl rfl ?_
      refine Z_getR (k0 := 2) hX d_Fl_hear_70 (lF hb) rfl u_Fl (by decide) lk_Fl_18 rfl ?_
      refine Z_getR (k0 := 0) hX d_Fl_hear_73 (lF5 hb) rfl u_Wo (by decide) lk_Fl_144 rfl ?_
      refine Z_iload_n (i := 2) hX d_Fl_hear_76 rfl rfl ?_
      refine Z_iald hX d_Fl_hear_77 (lF6 hb) rfl (by omega) (by decide) ?_
      refine Z_aload_n (i := 0) hX d_Fl_hear_78 rfl rfl ?_
      refine Z_getR (k0 := 2) hX d_Fl_hear_79 (lF hb) rfl u_Fl (by decide) lk_Fl_18 rfl ?_
      refine Z_getR (k0 := 1) hX d_Fl_hear_82 (lF5 hb) rfl u_Wo (by decide) lk_Fl_145 rfl ?_
      refine Z_iload_n (i := 2) hX d_Fl_hear_85 rfl rfl ?_
      refine Z_iald hX d_Fl_hear_86 (lF7 hb) rfl (by omega) (by decide) ?_
      refine Z_aload_n (i := 0) hX d_Fl_hear_87 rfl rfl ?_
      refine Z_getR (k0 := 2) hX d_Fl_hear_88 (lF hb) rfl u_Fl (by decide) lk_Fl_18 rfl ?_
      refine Z_getR (k0 := 2) hX d_Fl_hear_91 (lF5 hb) rfl u_Wo (by decide) lk_Fl_146 rfl ?_
      refine Z_iload_n (i := 2) hX d_Fl_hear_94 rfl rfl ?_
      refine Z_iald hX d_Fl_hear_95 (lF8 hb) rfl (by omega) (by decide) ?_
      refine Z_cVv4 hX d_Fl_hear_96 (c_Wo_write (wF1 hb) (by omega)) m_Wo_write (lF1 hb) rfl lk_Fl_95 ⟨by decide, by decide⟩ ⟨by decide, by decide⟩ (Nat.le_of_ble_eq_true rfl) ?_
      refine Z_iconst (v := 0) hX d_Fl_hear_99 rfl ?_
      refine Z_istore_n (i := 3) hX d_Fl_hear_100 rfl (by decide) rfl ?_
      refine Z_mem (I' := f_h2 (f_h1 I b s q) b s q) rfl rfl ?_
      refine Z_aload_n (i := 0) hX d_Fl_hear_101 rfl rfl ?_
      refine Z_cut (pc' := 124) (P := fun v => v = zB (decide (¬ (f_h2 (f_h1 I b s q) b s q) b 14 = 0) || decide (¬ 0 = (f_h2 (f_h1 I b s q) b s q) (b + 13) s))) ?_ (fun hJ124 => ?_)
      · intro v hv124
        subst hv124
        refine Z_putI (k0 := 14) hX d_Fl_hear_124 (lF hb) rfl u_Fl (by decide) lk_Fl_57 rfl t_Fl to_Fl n_Fl rfl rfl (zB_nar _) (zB_fit _) ?_
        refine Z_aload_n (i := 0) hX d_Fl_hear_127 rfl rfl ?_
        refine Z_getR (k0 := 4) hX d_Fl_hear_128 (lF hb) rfl u_Fl (by decide) lk_Fl_24 rfl ?_
        refine Z_iload_n (i := 1) hX d_Fl_hear_131 rfl rfl ?_
        refine Z_iload_n (i := 3) hX d_Fl_hear_132 rfl rfl ?_
        refine Z_iast hX d_Fl_hear_133 (lF13 hb) rfl (by omega) (by decide) ?_
        exact Z_mem (by first | exact (f_he_t h29).symm | exact (f_he_f h29).symm) (by rfl) (hR _ _ d_Fl_hear_134)
      · refine Z_aload_n (i := 0) hX d_Fl_hear_102 rfl rfl ?_
        refine Z_getI (k0 := 14) hX d_Fl_hear_103 (lF hb) rfl u_Fl (by decide) lk_Fl_57 rfl ?_
        refine Z_ifne (tgt := 119) hX d_Fl_hear_106 rfl (fun h106 => ?_) (fun h106 => ?_)
        · refine Z_iconst (v := 1) hX d_Fl_hear_119 rfl ?_
          refine Z_goto (tgt := 124) hX d_Fl_hear_120 rfl ?_
          exact hJ124 _ (by simp [zB, *])
        · refine Z_iload_n (i := 3) hX d_Fl_hear_109 rfl rfl ?_
          refine Z_aload_n (i := 0) hX d_Fl_hear_110 rfl rfl ?_
          refine Z_getR (k0 := 4) hX d_Fl_hear_111 (lF hb) rfl u_Fl (by decide) lk_Fl_24 rfl ?_
          refine Z_iload_n (i := 1) hX d_Fl_hear_114 rfl rfl ?_
          refine Z_iald hX d_Fl_hear_115 (lF13 hb) rfl (by omega) (by decide) ?_
          refine Z_iceq (tgt := 123) hX d_Fl_hear_116 rfl (fun h116 => ?_) (fun h116 => ?_)
          · refine Z_iconst (v := 0) hX d_Fl_hear_123 rfl ?_
            exact hJ124 _ (by simp [zB, *])
          · refine Z_iconst (v := 1) hX d_Fl_hear_119 rfl ?_
            refine Z_goto (tgt := 124) hX d_Fl_hear_120 rfl ?_
            exact hJ124 _ (by simp [zB, *])
    · refine Z_aload_n (i := 0) hX d_Fl_hear_33 rfl rfl ?_
      refine Z_getI (k0 := 14) hX d_Fl_hear_34 (lF hb) rfl u_Fl (by decide) lk_Fl_57 rfl ?_
      refine Z_ifne (tgt := 56) hX d_Fl_hear_37 rfl (fun h37 => ?_) (fun h37 => ?_)
      · refine Z_iconst (v := 1) hX d_Fl_hear_56 rfl ?_
        refine Z_goto (tgt := 61) hX d_Fl_hear_57 rfl ?_
        exact hJ61 _ (by simp [zB, *])
      · refine Z_aload_n (i := 0) hX d_Fl_hear_40 rfl rfl ?_
        refine Z_getR (k0 := 1) hX d_Fl_hear_41 (lF hb) rfl u_Fl (by decide) lk_Fl_12 rfl ?_
        refine Z_iload_n (i := 1) hX d_Fl_hear_44 rfl rfl ?_
        refine Z_aload_n (i := 0) hX d_Fl_hear_45 rfl rfl ?_
        refine Z_getR (k0 := 2) hX d_Fl_hear_46 (lF hb) rfl u_Fl (by decide) lk_Fl_18 rfl ?_
        refine Z_iload_n (i := 2) hX d_Fl_hear_49 rfl rfl ?_
        refine Z_cVi3 hX d_Fl_hear_50 (c_Wo_isSame (wF1 hb) (wF5 hb) (by omega) (by omega)) m_Wo_isSame (lF1 hb) rfl lk_Fl_140 ⟨by decide, by decide⟩ ⟨by decide, by decide⟩ (Nat.le_of_ble_eq_true rfl) ?_
        refine Z_ifneB (tgt := 60) hX d_Fl_hear_53 rfl (fun h53 => ?_) (fun h53 => ?_)
        · refine Z_iconst (v := 0) hX d_Fl_hear_60 rfl ?_
          exact hJ61 _ (by simp [zB, *])
        · refine Z_iconst (v := 1) hX d_Fl_hear_56 rfl ?_
          refine Z_goto (tgt := 61) hX d_Fl_hear_57 rfl ?_
          exact hJ61 _ (by simp [zB, *])

set_option maxRecDepth 100000 in
set_option maxHeartbeats 4000000 in
theorem c_Fl_weigh {la : Launch} {G : zG} {I : zI} {J : zJ} {b : Nat} (hb : b = 16 ∨ b = 35) {s : Nat} (hs : s < 64) : zCv la G y_Fl_weigh (Cond.code y_Fl_weigh prog_4_method_16_code 2 none :: TBL) (zR 2) [.ref (zad G b), .int (nI s)] I J (f_we I b s) (J) := by
  refine zCv_of (by decide) (by simp [lg_sl, Value.category]) (fun X hla hX hR => ?_)
  subst hla
  refine Z_loc (l' := [(0, .ref (zad G b)), (1, .int (nI s))]) (by simp [lv_args, Value.category, List.lookup]) ?_
  refine Z_aload_n (i := 0) hX d_Fl_weigh_0 rfl rfl ?_
  refine Z_getR (k0 := 0) hX d_Fl_weigh_1 (lF hb) rfl u_Fl (by decide) lk_Fl_61 rfl ?_
  refine Z_iload_n (i := 1) hX d_Fl_weigh_4 rfl rfl ?_
  refine Z_cVi1 hX d_Fl_weigh_5 (c_Pl_hasSource (by omega)) m_Pl_hasSource rfl rfl lk_Fl_156 ⟨by decide, by decide⟩ ⟨by decide, by decide⟩ (Nat.le_of_ble_eq_true rfl) ?_
  refine Z_ifeqB (tgt := 33) hX d_Fl_weigh_8 rfl (fun h8 => ?_) (fun h8 => ?_)
  · refine Z_aload_n (i := 0) hX d_Fl_weigh_33 rfl rfl ?_
    refine Z_getR (k0 := 4) hX d_Fl_weigh_34 (lF hb) rfl u_Fl (by decide) lk_Fl_24 rfl ?_
    refine Z_iload_n (i := 1) hX d_Fl_weigh_37 rfl rfl ?_
    refine Z_iald hX d_Fl_weigh_38 (lF13 hb) rfl (by omega) (by decide) ?_
    refine Z_iconst (v := 3) hX d_Fl_weigh_39 rfl ?_
    refine Z_icge (tgt := 81) hX d_Fl_weigh_40 rfl (fun h40 => ?_) (fun h40 => ?_)
    · refine Z_aload_n (i := 0) hX d_Fl_weigh_81 rfl rfl ?_
      refine Z_getR (k0 := 3) hX d_Fl_weigh_82 (lF hb) rfl u_Fl (by decide) lk_Fl_21 rfl ?_
      refine Z_iload_n (i := 1) hX d_Fl_weigh_85 rfl rfl ?_
      refine Z_iconst (v := (-1)) hX d_Fl_weigh_86 rfl ?_
      refine Z_iconst (v := 0) hX d_Fl_weigh_87 rfl ?_
      refine Z_iconst (v := 0) hX d_Fl_weigh_88 rfl ?_
      refine Z_cVv4 hX d_Fl_weigh_89 (c_Wo_write (wF9 hb) (by omega)) m_Wo_write (lF9 hb) rfl lk_Fl_95 ⟨by decide, by decide⟩ ⟨by decide, by decide⟩ (Nat.le_of_ble_eq_true rfl) ?_
      exact Z_mem (by simp [f_we, *]) (by rfl) (hR _ _ d_Fl_weigh_92)
    · refine Z_aload_n (i := 0) hX d_Fl_weigh_43 rfl rfl ?_
      refine Z_getR (k0 := 3) hX d_Fl_weigh_44 (lF hb) rfl u_Fl (by decide) lk_Fl_21 rfl ?_
      refine Z_iload_n (i := 1) hX d_Fl_weigh_47 rfl rfl ?_
      refine Z_aload_n (i := 0) hX d_Fl_weigh_48 rfl rfl ?_
      refine Z_getR (k0 := 1) hX d_Fl_weigh_49 (lF hb) rfl u_Fl (by decide) lk_Fl_12 rfl ?_
      refine Z_getR (k0 := 0) hX d_Fl_weigh_52 (lF1 hb) rfl u_Wo (by decide) lk_Fl_144 rfl ?_
      refine Z_iload_n (i := 1) hX d_Fl_weigh_55 rfl rfl ?_
      refine Z_iald hX d_Fl_weigh_56 (lF2 hb) rfl (by omega) (by decide) ?_
      refine Z_aload_n (i := 0) hX d_Fl_weigh_57 rfl rfl ?_
      refine Z_getR (k0 := 1) hX d_Fl_weigh_58 (lF hb) rfl u_Fl (by decide) lk_Fl_12 rfl ?_
      refine Z_getR (k0 := 1) hX d_Fl_weigh_61 (lF1 hb) rfl u_Wo (by decide) lk_Fl_145 rfl ?_
      refine Z_iload_n (i := 1) hX d_Fl_weigh_64 rfl rfl ?_
      refine Z_iald hX d_Fl_weigh_65 (lF3 hb) rfl (by omega) (by decide) ?_
      refine Z_aload_n (i := 0) hX d_Fl_weigh_66 rfl rfl ?_
      refine Z_getR (k0 := 1) hX d_Fl_weigh_67 (lF hb) rfl u_Fl (by decide) lk_Fl_12 rfl ?_
      refine Z_getR (k0 := 2) hX d_Fl_weigh_70 (lF1 hb) rfl u_Wo (by decide) lk_Fl_146 rfl ?_
      refine Z_iload_n (i := 1) hX d_Fl_weigh_73 rfl rfl ?_
      refine Z_iald hX d_Fl_weigh_74 (lF4 hb) rfl (by omega) (by decide) ?_
      refine Z_cVv4 hX d_Fl_weigh_75 (c_Wo_write (wF9 hb) (by omega)) m_Wo_write (lF9 hb) rfl lk_Fl_95 ⟨by decide, by decide⟩ ⟨by decide, by decide⟩ (Nat.le_of_ble_eq_true rfl) ?_
      refine Z_goto (tgt := 92) hX d_Fl_weigh_78 rfl ?_
      exact Z_mem (by simp [f_we, *]) (by rfl) (hR _ _ d_Fl_weigh_92)
  · refine Z_aload_n (i := 0) hX d_Fl_weigh_11 rfl rfl ?_
    refine Z_getR (k0 := 3) hX d_Fl_weigh_12 (lF hb) rfl u_Fl (by decide) lk_Fl_21 rfl ?_
    refine Z_iload_n (i := 1) hX d_Fl_weigh_15 rfl rfl ?_
    refine Z_aload_n (i := 0) hX d_Fl_weigh_16 rfl rfl ?_
    refine Z_getR (k0 := 0) hX d_Fl_weigh_17 (lF hb) rfl u_Fl (by decide) lk_Fl_61 rfl ?_
    refine Z_getR (k0 := 9) hX d_Fl_weigh_20 rfl rfl u_Pl (by decide) lk_Fl_159 rfl ?_
    refine Z_iload_n (i := 1) hX d_Fl_weigh_23 rfl rfl ?_
    refine Z_iald hX d_Fl_weigh_24 rfl rfl (by omega) (by decide) ?_
    refine Z_iconst (v := 0) hX d_Fl_weigh_25 rfl ?_
    refine Z_iconst (v := 0) hX d_Fl_weigh_26 rfl ?_
    refine Z_cVv4 hX d_Fl_weigh_27 (c_Wo_write (wF9 hb) (by omega)) m_Wo_write (lF9 hb) rfl lk_Fl_95 ⟨by decide, by decide⟩ ⟨by decide, by decide⟩ (Nat.le_of_ble_eq_true rfl) ?_
    refine Z_goto (tgt := 92) hX d_Fl_weigh_30 rfl ?_
    exact Z_mem (by simp [f_we, *]) (by rfl) (hR _ _ d_Fl_weigh_92)

set_option maxRecDepth 100000 in
set_option maxHeartbeats 4000000 in
theorem c_Fl_isUsable {la : Launch} {G : zG} {I : zI} {J : zJ} {b : Nat} (hb : b = 16 ∨ b = 35) {e s : Nat} (he : e < 16) (hs : s < 64) : zCi la G y_Fl_isUsable (Cond.code y_Fl_isUsable prog_4_method_18_code 5 (some .boolean) :: TBL) (zR 2) [.ref (zad G b), .int (nI e), .int (nI s)] I J (zB (f_us I b e s)) (I) (J) := by
  refine zCi_of (by decide) (by simp [lg_sl, Value.category]) (zB_nar _) (fun X hla hX hR => ?_)
  subst hla
  refine Z_loc (l' := [(0, .ref (zad G b)), (1, .int (nI e)), (2, .int (nI s))]) (by simp [lv_args, Value.category, List.lookup]) ?_
  refine Z_aload_n (i := 0) hX d_Fl_isUsable_0 rfl rfl ?_
  refine Z_getR (k0 := 3) hX d_Fl_isUsable_1 (lF hb) rfl u_Fl (by decide) lk_Fl_21 rfl ?_
  refine Z_getR (k0 := 0) hX d_Fl_isUsable_4 (lF9 hb) rfl u_Wo (by decide) lk_Fl_144 rfl ?_
  refine Z_iload_n (i := 2) hX d_Fl_isUsable_7 rfl rfl ?_
  refine Z_iald hX d_Fl_isUsable_8 (lF10 hb) rfl (by omega) (by decide) ?_
  refine Z_iconst (v := 0) hX d_Fl_isUsable_9 rfl ?_
  refine Z_bipush (v := 6) hX d_Fl_isUsable_10 rfl ?_
  refine Z_cNi3 hX d_Fl_isUsable_12 c_CT_isWithin m_CT_isWithin ne_Fl_165 ⟨by decide, by decide⟩ ⟨by decide, by decide⟩ (Nat.le_of_ble_eq_true rfl) ?_
  refine Z_istore_n (i := 3) hX d_Fl_isUsable_15 rfl (by decide) rfl ?_
  refine Z_aload_n (i := 0) hX d_Fl_isUsable_16 rfl rfl ?_
  refine Z_getR (k0 := 3) hX d_Fl_isUsable_17 (lF hb) rfl u_Fl (by decide) lk_Fl_21 rfl ?_
  refine Z_getR (k0 := 2) hX d_Fl_isUsable_20 (lF9 hb) rfl u_Wo (by decide) lk_Fl_146 rfl ?_
  refine Z_iload_n (i := 2) hX d_Fl_isUsable_23 rfl rfl ?_
  refine Z_iald hX d_Fl_isUsable_24 (lF12 hb) rfl (by omega) (by decide) ?_
  refine Z_iload_n (i := 1) hX d_Fl_isUsable_25 rfl rfl ?_
  refine Z_ishr hX d_Fl_isUsable_26 ?_
  refine Z_iconst (v := 1) hX d_Fl_isUsable_27 rfl ?_
  refine Z_iand hX d_Fl_isUsable_28 ?_
  refine Z_iconst (v := 1) hX d_Fl_isUsable_29 rfl ?_
  refine Z_icne (tgt := 37) hX d_Fl_isUsable_30 rfl (fun h30 => ?_) (fun h30 => ?_)
  · refine Z_iconst (v := 0) hX d_Fl_isUsable_37 rfl ?_
    refine Z_istore hX d_Fl_isUsable_38 (by decide) rfl ?_
    refine Z_iload_n (i := 3) hX d_Fl_isUsable_40 rfl rfl ?_
    refine Z_ifeqB (tgt := 75) hX d_Fl_isUsable_41 rfl (fun h41 => ?_) (fun h41 => ?_)
    · refine Z_iconst (v := 0) hX d_Fl_isUsable_75 rfl ?_
      exact Z_ri (hR _ _ d_Fl_isUsable_76) (by first | (simp [f_us, f_bit, zB, *]; done) | simp_all) rfl rfl
    · refine Z_aload_n (i := 0) hX d_Fl_isUsable_44 rfl rfl ?_
      refine Z_getR (k0 := 0) hX d_Fl_isUsable_45 (lF hb) rfl u_Fl (by decide) lk_Fl_61 rfl ?_
      refine Z_getR (k0 := 12) hX d_Fl_isUsable_48 rfl rfl u_Pl (by decide) lk_Fl_169 rfl ?_
      refine Z_iload_n (i := 2) hX d_Fl_isUsable_51 rfl rfl ?_
      refine Z_zald hX d_Fl_isUsable_52 rfl rfl (by omega) (by decide) ?_
      refine Z_ifne (tgt := 75) hX d_Fl_isUsable_53 rfl (fun h53 => ?_) (fun h53 => ?_)
      · refine Z_iconst (v := 0) hX d_Fl_isUsable_75 rfl ?_
        exact Z_ri (hR _ _ d_Fl_isUsable_76) (by first | (simp [f_us, f_bit, zB, *]; done) | simp_all) rfl rfl
      · refine Z_aload_n (i := 0) hX d_Fl_isUsable_56 rfl rfl ?_
        refine Z_getR (k0 := 0) hX d_Fl_isUsable_57 (lF hb) rfl u_Fl (by decide) lk_Fl_61 rfl ?_
        refine Z_getI (k0 := 15) hX d_Fl_isUsable_60 rfl rfl u_Pl (by decide) lk_Fl_172 rfl ?_
        refine Z_ifeq (tgt := 71) hX d_Fl_isUsable_63 rfl (fun h63 => ?_) (fun h63 => ?_)
        · refine Z_iconst (v := 1) hX d_Fl_isUsable_71 rfl ?_
          refine Z_goto (tgt := 76) hX d_Fl_isUsable_72 rfl ?_
          exact Z_ri (hR _ _ d_Fl_isUsable_76) (by first | (simp [f_us, f_bit, zB, *]; done) | simp_all) rfl rfl
        · refine Z_iload hX d_Fl_isUsable_66 rfl ?_
          refine Z_ifne (tgt := 75) hX d_Fl_isUsable_68 rfl (fun h68 => ?_) (fun h68 => ?_)
          · refine Z_iconst (v := 0) hX d_Fl_isUsable_75 rfl ?_
            exact Z_ri (hR _ _ d_Fl_isUsable_76) (by first | (simp [f_us, f_bit, zB, *]; done) | simp_all) rfl rfl
          · refine Z_iconst (v := 1) hX d_Fl_isUsable_71 rfl ?_
            refine Z_goto (tgt := 76) hX d_Fl_isUsable_72 rfl ?_
            exact Z_ri (hR _ _ d_Fl_isUsable_76) (by first | (simp [f_us, f_bit, zB, *]; done) | simp_all) rfl rfl
  · refine Z_iconst (v := 1) hX d_Fl_isUsable_33 rfl ?_
    refine Z_goto (tgt := 38) hX d_Fl_isUsable_34 rfl ?_
    refine Z_istore hX d_Fl_isUsable_38 (by decide) rfl ?_
    refine Z_iload_n (i := 3) hX d_Fl_isUsable_40 rfl rfl ?_
    refine Z_ifeqB (tgt := 75) hX d_Fl_isUsable_41 rfl (fun h41 => ?_) (fun h41 => ?_)
    · refine Z_iconst (v := 0) hX d_Fl_isUsable_75 rfl ?_
      exact Z_ri (hR _ _ d_Fl_isUsable_76) (by first | (simp [f_us, f_bit, zB, *]; done) | simp_all) rfl rfl
    · refine Z_aload_n (i := 0) hX d_Fl_isUsable_44 rfl rfl ?_
      refine Z_getR (k0 := 0) hX d_Fl_isUsable_45 (lF hb) rfl u_Fl (by decide) lk_Fl_61 rfl ?_
      refine Z_getR (k0 := 12) hX d_Fl_isUsable_48 rfl rfl u_Pl (by decide) lk_Fl_169 rfl ?_
      refine Z_iload_n (i := 2) hX d_Fl_isUsable_51 rfl rfl ?_
      refine Z_zald hX d_Fl_isUsable_52 rfl rfl (by omega) (by decide) ?_
      refine Z_ifne (tgt := 75) hX d_Fl_isUsable_53 rfl (fun h53 => ?_) (fun h53 => ?_)
      · refine Z_iconst (v := 0) hX d_Fl_isUsable_75 rfl ?_
        exact Z_ri (hR _ _ d_Fl_isUsable_76) (by first | (simp [f_us, f_bit, zB, *]; done) | simp_all) rfl rfl
      · refine Z_aload_n (i := 0) hX d_Fl_isUsable_56 rfl rfl ?_
        refine Z_getR (k0 := 0) hX d_Fl_isUsable_57 (lF hb) rfl u_Fl (by decide) lk_Fl_61 rfl ?_
        refine Z_getI (k0 := 15) hX d_Fl_isUsable_60 rfl rfl u_Pl (by decide) lk_Fl_172 rfl ?_
        refine Z_ifeq (tgt := 71) hX d_Fl_isUsable_63 rfl (fun h63 => ?_) (fun h63 => ?_)
        · refine Z_iconst (v := 1) hX d_Fl_isUsable_71 rfl ?_
          refine Z_goto (tgt := 76) hX d_Fl_isUsable_72 rfl ?_
          exact Z_ri (hR _ _ d_Fl_isUsable_76) (by first | (simp [f_us, f_bit, zB, *]; done) | simp_all) rfl rfl
        · refine Z_iload hX d_Fl_isUsable_66 rfl ?_
          refine Z_ifne (tgt := 75) hX d_Fl_isUsable_68 rfl (fun h68 => ?_) (fun h68 => ?_)
          · refine Z_iconst (v := 0) hX d_Fl_isUsable_75 rfl ?_
            exact Z_ri (hR _ _ d_Fl_isUsable_76) (by first | (simp [f_us, f_bit, zB, *]; done) | simp_all) rfl rfl
          · refine Z_iconst (v := 1) hX d_Fl_isUsable_71 rfl ?_
            refine Z_goto (tgt := 76) hX d_Fl_isUsable_72 rfl ?_
            exact Z_ri (hR _ _ d_Fl_isUsable_76) (by first | (simp [f_us, f_bit, zB, *]; done) | simp_all) rfl rfl

set_option maxRecDepth 100000 in
set_option maxHeartbeats 4000000 in
theorem c_Fl_countUsable {la : Launch} {G : zG} {I : zI} {J : zJ} {b : Nat} (hb : b = 16 ∨ b = 35) {e s : Nat} (he : e < 16) (hs : s < 64) : zCv la G y_Fl_countUsable (Cond.code y_Fl_countUsable prog_4_method_17_code 4 none :: TBL) (zR 3) [.ref (zad G b), .int (nI e), .int (nI s)] I J (f_cu I b e s) (J) := by
  refine zCv_of (by decide) (by simp [lg_sl, Value.category]) (fun X hla hX hR => ?_)
  subst hla
  refine Z_loc (l' := [(0, .ref (zad G b)), (1, .int (nI e)), (2, .int (nI s))]) (by simp [lv_args, Value.category, List.lookup]) ?_
  refine Z_cut (pc' := 26) (P := fun v => v = f_cn I b e s) ?_ (fun hJ26 => ?_)
  · intro v hv26
    subst hv26
    refine Z_istore_n (i := 3) hX d_Fl_countUsable_26 rfl (by decide) rfl ?_
    refine Z_aload_n (i := 0) hX d_Fl_countUsable_27 rfl rfl ?_
    refine Z_cut (pc' := 50) (P := fun v => v = zB (decide (¬ I b 14 = 0) || decide (¬ f_cn I b e s = I (b + 14) s))) ?_ (fun hJ50 => ?_)
    · intro v hv50
      subst hv50
      refine Z_putI (k0 := 14) hX d_Fl_countUsable_50 (lF hb) rfl u_Fl (by decide) lk_Fl_57 rfl t_Fl to_Fl n_Fl rfl rfl (zB_nar _) (zB_fit _) ?_
      refine Z_aload_n (i := 0) hX d_Fl_countUsable_53 rfl rfl ?_
      refine Z_getR (k0 := 5) hX d_Fl_countUsable_54 (lF hb) rfl u_Fl (by decide) lk_Fl_28 rfl ?_
      refine Z_iload_n (i := 2) hX d_Fl_countUsable_57 rfl rfl ?_
      refine Z_iload_n (i := 3) hX d_Fl_countUsable_58 rfl rfl ?_
      refine Z_iast hX d_Fl_countUsable_59 (lF14 hb) rfl (by omega) (by decide) ?_
      exact Z_mem (by rfl) (by rfl) (hR _ _ d_Fl_countUsable_60)
    · refine Z_aload_n (i := 0) hX d_Fl_countUsable_28 rfl rfl ?_
      refine Z_getI (k0 := 14) hX d_Fl_countUsable_29 (lF hb) rfl u_Fl (by decide) lk_Fl_57 rfl ?_
      refine Z_ifne (tgt := 45) hX d_Fl_countUsable_32 rfl (fun h32 => ?_) (fun h32 => ?_)
      · refine Z_iconst (v := 1) hX d_Fl_countUsable_45 rfl ?_
        refine Z_goto (tgt := 50) hX d_Fl_countUsable_46 rfl ?_
        exact hJ50 _ (by simp [zB, *])
      · refine Z_iload_n (i := 3) hX d_Fl_countUsable_35 rfl rfl ?_
        refine Z_aload_n (i := 0) hX d_Fl_countUsable_36 rfl rfl ?_
        refine Z_getR (k0 := 5) hX d_Fl_countUsable_37 (lF hb) rfl u_Fl (by decide) lk_Fl_28 rfl ?_
        refine Z_iload_n (i := 2) hX d_Fl_countUsable_40 rfl rfl ?_
        refine Z_iald hX d_Fl_countUsable_41 (lF14 hb) rfl (by omega) (by decide) ?_
        refine Z_iceq (tgt := 49) hX d_Fl_countUsable_42 rfl (fun h42 => ?_) (fun h42 => ?_)
        · refine Z_iconst (v := 0) hX d_Fl_countUsable_49 rfl ?_
          exact hJ50 _ (by simp [zB, *])
        · refine Z_iconst (v := 1) hX d_Fl_countUsable_45 rfl ?_
          refine Z_goto (tgt := 50) hX d_Fl_countUsable_46 rfl ?_
          exact hJ50 _ (by simp [zB, *])
  · refine Z_aload_n (i := 0) hX d_Fl_countUsable_0 rfl rfl ?_
    refine Z_iload_n (i := 1) hX d_Fl_countUsable_1 rfl rfl ?_
    refine Z_iload_n (i := 2) hX d_Fl_countUsable_2 rfl rfl ?_
    refine Z_cVi2 hX d_Fl_countUsable_3 (c_Fl_isUsable hb (by omega) (by omega)) m_Fl_isUsable (lF hb) rfl lk_Fl_162 ⟨by decide, by decide⟩ ⟨by decide, by decide⟩ (Nat.le_of_ble_eq_true rfl) ?_
    refine Z_ifeqB (tgt := 25) hX d_Fl_countUsable_6 rfl (fun h6 => ?_) (fun h6 => ?_)
    · refine Z_iconst (v := 0) hX d_Fl_countUsable_25 rfl ?_
      exact hJ26 _ (by simp [f_cn, zB, *])
    · refine Z_aload_n (i := 0) hX d_Fl_countUsable_9 rfl rfl ?_
      refine Z_getR (k0 := 5) hX d_Fl_countUsable_10 (lF hb) rfl u_Fl (by decide) lk_Fl_28 rfl ?_
      refine Z_iload_n (i := 2) hX d_Fl_countUsable_13 rfl rfl ?_
      refine Z_iald hX d_Fl_countUsable_14 (lF14 hb) rfl (by omega) (by decide) ?_
      refine Z_iconst (v := 1) hX d_Fl_countUsable_15 rfl ?_
      refine Z_iadd hX d_Fl_countUsable_16 ?_
      refine Z_bipush (v := 11) hX d_Fl_countUsable_17 rfl ?_
      refine Z_min hX d_Fl_countUsable_19 lk_Fl_131 m_min.1 m_min.2.1 m_min.2.2 (by decide) (Nat.le_of_ble_eq_true rfl) (by decide) (by decide) ?_
      refine Z_goto (tgt := 26) hX d_Fl_countUsable_22 rfl ?_
      exact hJ26 _ (by simp [f_cn, zB, *])
end
section
/-! what a Flow's method leaves alone; what of the plan it needs -/
theorem fr_wr {I : zI} {w s c : Nat} {q h t : Int32} (hc : c < w + 1 ∨ w + 4 ≤ c) : w_wr I w s q h t c = I c := by
  unfold w_wr
  rw [zup_ne (by omega), zup_ne (by omega), zup_ne (by omega)]
theorem fr_mo {I : zI} {b c : Nat} {x : Bool} (hc : c ≠ b) : f_mo I b x c = I c := by
  unfold f_mo
  rw [zup_ne hc]
theorem fr_h3 {I : zI} {b s c : Nat} {a : Int32} (hc : c < b ∨ b + 19 ≤ c) : f_h3 I b s a c = I c := by
  unfold f_h3
  rw [zup_ne (by omega), fr_mo (by omega)]
theorem fr_he {I : zI} {J : zJ} {b s q c : Nat} (hc : c < b ∨ b + 19 ≤ c) : f_he I J b s q c = I c := by
  unfold f_he
  split
  · rw [fr_h3 hc]
    unfold f_h2
    rw [fr_wr (by omega)]
    unfold f_h1
    rw [fr_mo (by omega)]
  · exact fr_h3 hc
theorem fr_we {I : zI} {b s c : Nat} (hc : c < b ∨ b + 19 ≤ c) : f_we I b s c = I c := by
  unfold f_we
  split
  · exact fr_wr (by omega)
  · split
    · exact fr_wr (by omega)
    · exact fr_wr (by omega)
theorem fr_cu {I : zI} {b e s c : Nat} (hc : c < b ∨ b + 19 ≤ c) : f_cu I b e s c = I c := by
  unfold f_cu
  rw [zup_ne (by omega), fr_mo (by omega)]
theorem fr_lp {I : zI} {J : zJ} {b e s c : Nat} (hc : c < b ∨ b + 19 ≤ c) : f_lp I J b e s c = I c := by
  unfold f_lp
  rw [fr_cu hc, fr_we hc]
  split
  · rfl
  · exact fr_he hc
theorem fr_li {I : zI} {J : zJ} {b e c : Nat} (hc : c < b ∨ b + 19 ≤ c) : ∀ p, f_li I J b e p c = I c
  | 0 => rfl
  | p + 1 => by
    unfold f_li
    rw [fr_lp hc, fr_li hc p]
/-- the ends of links lie in the net -/
def okL (I : zI) : Prop := ∀ s, s < 64 → I 9 s = -1 ∨ ∃ q, q < 64 ∧ I 10 s = nI q
theorem okL_of {I I' : zI} (h9 : I' 9 = I 9) (h10 : I' 10 = I 10) (h : okL I) : okL I' := by
  intro s hs
  rw [h9, h10]
  exact h s hs
theorem okL_pe {I : zI} (h : okL I) {s : Nat} (hs : s < 64) (h9 : ¬ I 9 s = -1) : I 10 s = nI (pe I s) ∧ pe I s < 64 := by
  obtain ⟨q, hq, e⟩ := (h s hs).resolve_left h9
  unfold pe
  rw [e, nI_clamp (by omega)]
  exact ⟨rfl, hq⟩
theorem f_lp_0 {I : zI} {J : zJ} {b e s : Nat} (h : I 9 s = -1) : f_lp I J b e s = f_cu (f_we I b s) b e s := by
  unfold f_lp
  rw [if_pos h]
theorem f_lp_1 {I : zI} {J : zJ} {b e s : Nat} (h : ¬ I 9 s = -1) : f_lp I J b e s = f_cu (f_we (f_he I J b s (pe I s)) b s) b e s := by
  unfold f_lp
  rw [if_neg h]
theorem f_bp_lt {I : zI} {b e : Nat} {m : Int32} : ∀ (n k : Nat), f_bp I b e m n = some k → k < n
  | 0, k, h => by simp [f_bp] at h
  | n + 1, k, h => by
    unfold f_bp at h
    split at h
    · split at h
      · cases h
      · cases h
        omega
    · rename_i k0 h0
      have h1 := f_bp_lt n k0 h0
      split at h
      · cases h
        omega
      · split at h
        · cases h
          omega
        · cases h
          omega
theorem zO_m1 {r : Option Nat} (h : zO r = -1) (hr : ∀ k, r = some k → k < 64) : r = none := by
  cases r with
  | none => rfl
  | some k => exact absurd h (nI_neg1 (Nat.lt_trans (hr k rfl) (by decide)))
theorem zO_n1 {r : Option Nat} (h : ¬ zO r = -1) : ∃ k, r = some k := by
  cases r with
  | none => exact absurd rfl h
  | some k => exact ⟨k, rfl⟩
/-- a port that a command names -/
def okQ (x : Int32) : Prop := x = -1 ∨ ∃ k, k < 4 ∧ x = nI k
theorem okQ_O {I : zI} {b e : Nat} {m : Int32} : okQ (zO (f_bp I b e m 4)) := by
  cases h : f_bp I b e m 4 with
  | none => exact Or.inl rfl
  | some k => exact Or.inr ⟨k, f_bp_lt 4 k h, rfl⟩
theorem f_ch_ok {I : zI} {b e : Nat} (h7 : okQ (I 7 e)) (h8 : okQ (I 8 e)) : okQ (f_ch I b e) := by
  unfold f_ch
  split
  · split
    · split
      · exact okQ_O
      · rename_i k hk
        exact Or.inr ⟨k, f_bp_lt 4 k hk, rfl⟩
    · exact h8
  · exact h7
theorem f_de_0 {I : zI} {b e : Nat} (h : f_ch I b e = -1) : f_de I b e = f_de0 (zup I (b + 16) e (f_ch I b e)) b e := if_pos (Or.inl h)
theorem f_de_2 {I : zI} {b e k : Nat} (hk : k < 4) (h : f_ch I b e = nI k) (h2 : zup I (b + 16) e (f_ch I b e) (b + 14) (4 * e + k) ≤ 0) : f_de I b e = f_de0 (zup I (b + 16) e (f_ch I b e)) b e := by
  refine if_pos (Or.inr ?_)
  rw [h, nI_clamp (by omega), ← h]
  exact h2
theorem f_de_1 {I : zI} {b e k : Nat} (hk : k < 4) (h1 : ¬ f_ch I b e = -1) (h : f_ch I b e = nI k) (h2 : ¬ zup I (b + 16) e (f_ch I b e) (b + 14) (4 * e + k) ≤ 0) : f_de I b e = f_de1 (zup I (b + 16) e (f_ch I b e)) b e k := by
  have e1 : (f_ch I b e).toNatClampNeg = k := by rw [h, nI_clamp (by omega)]
  have h3 : ¬ (f_ch I b e = -1 ∨ zup I (b + 16) e (f_ch I b e) (b + 14) (4 * e + (f_ch I b e).toNatClampNeg) ≤ 0) := by
    rw [e1]
    exact fun h9 => h9.elim h1 h2
  have h4 : f_de I b e = f_de1 (zup I (b + 16) e (f_ch I b e)) b e (f_ch I b e).toNatClampNeg := if_neg h3
  rw [e1] at h4
  exact h4
theorem f_bp_a {I : zI} {b e i : Nat} {m : Int32} (h : I (b + 14) (4 * e + i) < m) : f_bp I b e m (i + 1) = f_bp I b e m i := by
  cases hz : f_bp I b e m i with
  | none => simp [f_bp, hz, h]
  | some k => simp [f_bp, hz, h]
theorem f_bp_b {I : zI} {b e i : Nat} {m : Int32} (h : ¬ I (b + 14) (4 * e + i) < m) (hr : f_bp I b e m i = none) : f_bp I b e m (i + 1) = some i := by
  simp only [f_bp, hr, if_neg h]
theorem f_bp_c {I : zI} {b e i r : Nat} {m : Int32} (h : ¬ I (b + 14) (4 * e + i) < m) (hr : f_bp I b e m i = some r) (hb : f_bt I b (4 * e + i) (4 * e + r) = true) : f_bp I b e m (i + 1) = some i := by
  simp only [f_bp, hr, if_neg h, if_pos hb]
theorem f_bp_d {I : zI} {b e i r : Nat} {m : Int32} (h : ¬ I (b + 14) (4 * e + i) < m) (hr : f_bp I b e m i = some r) (hb : f_bt I b (4 * e + i) (4 * e + r) = false) : f_bp I b e m (i + 1) = f_bp I b e m i := by
  simp [f_bp, hr, if_neg h, hb]
theorem f_ch_a {I : zI} {b e : Nat} (h : ¬ I 7 e = -1) : f_ch I b e = I 7 e := if_neg h
theorem f_ch_b {I : zI} {b e k : Nat} (h : I 7 e = -1) (h8 : ¬ I 8 e = -1) (hk : k < 4) (hk2 : I 8 e = nI k) (h2 : ¬ I (b + 14) (4 * e + k) ≤ 0) : f_ch I b e = I 8 e := by
  have e1 : (I 8 e).toNatClampNeg = k := by rw [hk2, nI_clamp (by omega)]
  have h3 : ¬ (I 8 e = -1 ∨ I (b + 14) (4 * e + (I 8 e).toNatClampNeg) ≤ 0) := by
    rw [e1]
    exact fun h9 => h9.elim h8 h2
  unfold f_ch
  rw [if_pos h, if_neg h3]
theorem f_ch_x {I : zI} {b e : Nat} (h : I 7 e = -1) (h8 : I 8 e = -1 ∨ ∃ k, k < 4 ∧ I 8 e = nI k ∧ I (b + 14) (4 * e + k) ≤ 0) : f_ch I b e = match f_bp I b e (I 6 e + 1) 4 with
    | none => zO (f_bp I b e 1 4)
    | some k => nI k := by
  have h3 : I 8 e = -1 ∨ I (b + 14) (4 * e + (I 8 e).toNatClampNeg) ≤ 0 := by
    rcases h8 with h8 | ⟨k, hk, hk2, h2⟩
    · exact Or.inl h8
    · right
      rw [hk2, nI_clamp (by omega)]
      exact h2
  unfold f_ch
  rw [if_pos h, if_pos h3]
  cases f_bp I b e (I 6 e + 1) 4 <;> rfl
theorem f_ch_x0 {I : zI} {b e : Nat} (h : I 7 e = -1) (h8 : I 8 e = -1 ∨ ∃ k, k < 4 ∧ I 8 e = nI k ∧ I (b + 14) (4 * e + k) ≤ 0) (hr : f_bp I b e (I 6 e + 1) 4 = none) : zO (f_bp I b e 1 4) = f_ch I b e := by
  rw [f_ch_x h h8, hr]
theorem f_ch_x1 {I : zI} {b e r : Nat} (h : I 7 e = -1) (h8 : I 8 e = -1 ∨ ∃ k, k < 4 ∧ I 8 e = nI k ∧ I (b + 14) (4 * e + k) ≤ 0) (hr : f_bp I b e (I 6 e + 1) 4 = some r) : zO (f_bp I b e (I 6 e + 1) 4) = f_ch I b e := by
  rw [f_ch_x h h8, hr]
  rfl
set_option maxRecDepth 100000 in
set_option maxHeartbeats 4000000 in
theorem c_Fl_listen {la : Launch} {G : zG} {I : zI} {J : zJ} {b : Nat} (hb : b = 16 ∨ b = 35) {e : Nat} (he : e < 16) (hP : okL I) : zCv la G y_Fl_listen (Cond.code y_Fl_listen prog_4_method_13_code 4 none :: TBL) (zR 4) [.ref (zad G b), .int (nI e)] I J (f_li I J b e 4) (J) := by
  refine zCv_of (by decide) (by simp [lg_sl, Value.category]) (fun X hla hX hR => ?_)
  subst hla
  refine Z_loc (l' := [(0, .ref (zad G b)), (1, .int (nI e))]) (by simp [lv_args, Value.category, List.lookup]) ?_
  refine Z_iconst (v := nI 0) hX d_Fl_listen_0 rfl ?_
  refine Z_istore_n (i := 2) hX d_Fl_listen_1 rfl (by decide) rfl ?_
  have hL2 : ∀ k i : Nat, k + i = 4 → Z X G 4 0 0 2 [(2, .int (nI i)), (1, .int (nI e)), (0, .ref (zad G b))] [] (f_li I J b e i) (J) := by
    intro k
    induction k with
    | zero =>
      intro i hi
      obtain rfl : i = 4 := by omega
      refine Z_iload_n (i := 2) hX d_Fl_listen_2 rfl rfl ?_
      refine Z_iconst (v := 4) hX d_Fl_listen_3 rfl ?_
      refine Z_icge (tgt := 48) hX d_Fl_listen_4 rfl (fun h4 => ?_) (fun h => absurd (by decide) h)
      exact Z_mem (by rfl) (by rfl) (hR _ _ d_Fl_listen_48)
    | succ k ih =>
      intro i hi
      have hi2 : i < 4 := by omega
      refine Z_iload_n (i := 2) hX d_Fl_listen_2 rfl rfl ?_
      refine Z_iconst (v := 4) hX d_Fl_listen_3 rfl ?_
      refine Z_icge (tgt := 48) hX d_Fl_listen_4 rfl (fun h => absurd h (nI_ge hi2 (by decide))) (fun h4 => ?_)
      refine Z_iload_n (i := 1) hX d_Fl_listen_7 rfl rfl ?_
      refine Z_iload_n (i := 2) hX d_Fl_listen_8 rfl rfl ?_
      refine Z_cNi2 hX d_Fl_listen_9 c_CT_slotOf m_CT_slotOf ne_Fl_91 ⟨by decide, by decide⟩ ⟨by decide, by decide⟩ (Nat.le_of_ble_eq_true rfl) ?_
      refine Z_istore_n (i := 3) hX d_Fl_listen_12 rfl (by decide) rfl ?_
      refine Z_aload_n (i := 0) hX d_Fl_listen_13 rfl rfl ?_
      refine Z_getR (k0 := 0) hX d_Fl_listen_14 (lF hb) rfl u_Fl (by decide) lk_Fl_61 rfl ?_
      refine Z_getR (k0 := 7) hX d_Fl_listen_17 rfl rfl u_Pl (by decide) lk_Fl_115 rfl ?_
      refine Z_iload_n (i := 3) hX d_Fl_listen_20 rfl rfl ?_
      refine Z_iald hX d_Fl_listen_21 rfl rfl (by omega) (by decide) ?_
      refine Z_iconst (v := (-1)) hX d_Fl_listen_22 rfl ?_
      refine Z_iceq (tgt := 31) hX d_Fl_listen_23 rfl (fun h23 => ?_) (fun h23 => ?_)
      · refine Z_aload_n (i := 0) hX d_Fl_listen_31 rfl rfl ?_
        refine Z_iload_n (i := 3) hX d_Fl_listen_32 rfl rfl ?_
        refine Z_cVv1 hX d_Fl_listen_33 (c_Fl_weigh hb (by omega)) m_Fl_weigh (lF hb) rfl lk_Fl_121 ⟨by decide, by decide⟩ ⟨by decide, by decide⟩ (Nat.le_of_ble_eq_true rfl) ?_
        refine Z_aload_n (i := 0) hX d_Fl_listen_36 rfl rfl ?_
        refine Z_iload_n (i := 1) hX d_Fl_listen_37 rfl rfl ?_
        refine Z_iload_n (i := 3) hX d_Fl_listen_38 rfl rfl ?_
        refine Z_cVv2 hX d_Fl_listen_39 (c_Fl_countUsable hb (by omega) (by omega)) m_Fl_countUsable (lF hb) rfl lk_Fl_124 ⟨by decide, by decide⟩ ⟨by decide, by decide⟩ (Nat.le_of_ble_eq_true rfl) ?_
        refine Z_iinc (v := nI (i + 1)) hX d_Fl_listen_42 rfl (by rw [nI_succ]; rfl) (by decide) rfl ?_
        refine Z_goto (tgt := 2) hX d_Fl_listen_45 rfl ?_
        refine Z_loc ?_ (Z_mem ?_ ?_ (ih (i + 1) (by omega)))
        · rfl
        · first | exact (f_lp_0 h23).symm | exact (f_lp_1 h23).symm
        · rfl
      · have hq := okL_pe (okL_of (fr_li (by omega) i) (fr_li (by omega) i) hP) (by omega) h23
        refine Z_aload_n (i := 0) hX d_Fl_listen_26 rfl rfl ?_
        refine Z_iload_n (i := 3) hX d_Fl_listen_27 rfl rfl ?_
        refine Z_cVv1 hX d_Fl_listen_28 (c_Fl_hear hb (by omega) hq.1 hq.2) m_Fl_hear (lF hb) rfl lk_Fl_118 ⟨by decide, by decide⟩ ⟨by decide, by decide⟩ (Nat.le_of_ble_eq_true rfl) ?_
        refine Z_aload_n (i := 0) hX d_Fl_listen_31 rfl rfl ?_
        refine Z_iload_n (i := 3) hX d_Fl_listen_32 rfl rfl ?_
        refine Z_cVv1 hX d_Fl_listen_33 (c_Fl_weigh hb (by omega)) m_Fl_weigh (lF hb) rfl lk_Fl_121 ⟨by decide, by decide⟩ ⟨by decide, by decide⟩ (Nat.le_of_ble_eq_true rfl) ?_
        refine Z_aload_n (i := 0) hX d_Fl_listen_36 rfl rfl ?_
        refine Z_iload_n (i := 1) hX d_Fl_listen_37 rfl rfl ?_
        refine Z_iload_n (i := 3) hX d_Fl_listen_38 rfl rfl ?_
        refine Z_cVv2 hX d_Fl_listen_39 (c_Fl_countUsable hb (by omega) (by omega)) m_Fl_countUsable (lF hb) rfl lk_Fl_124 ⟨by decide, by decide⟩ ⟨by decide, by decide⟩ (Nat.le_of_ble_eq_true rfl) ?_
        refine Z_iinc (v := nI (i + 1)) hX d_Fl_listen_42 rfl (by rw [nI_succ]; rfl) (by decide) rfl ?_
        refine Z_goto (tgt := 2) hX d_Fl_listen_45 rfl ?_
        refine Z_loc ?_ (Z_mem ?_ ?_ (ih (i + 1) (by omega)))
        · rfl
        · first | exact (f_lp_0 h23).symm | exact (f_lp_1 h23).symm
        · rfl
  refine Z_loc ?_ (Z_mem ?_ ?_ (hL2 4 0 (by omega)))
  · rfl
  · rfl
  · rfl

set_option maxRecDepth 100000 in
set_option maxHeartbeats 4000000 in
theorem c_Fl_isBetter {la : Launch} {G : zG} {I : zI} {J : zJ} {b : Nat} (hb : b = 16 ∨ b = 35) {s t : Nat} (hs : s < 64) (ht : t < 64) : zCi la G y_Fl_isBetter (Cond.code y_Fl_isBetter prog_4_method_22_code 3 (some .boolean) :: TBL) (zR 1) [.ref (zad G b), .int (nI s), .int (nI t)] I J (zB (f_bt I b s t)) (I) (J) := by
  refine zCi_of (by decide) (by simp [lg_sl, Value.category]) (zB_nar _) (fun X hla hX hR => ?_)
  subst hla
  refine Z_loc (l' := [(0, .ref (zad G b)), (1, .int (nI s)), (2, .int (nI t))]) (by simp [lv_args, Value.category, List.lookup]) ?_
  refine Z_aload_n (i := 0) hX d_Fl_isBetter_0 rfl rfl ?_
  refine Z_getR (k0 := 3) hX d_Fl_isBetter_1 (lF hb) rfl u_Fl (by decide) lk_Fl_21 rfl ?_
  refine Z_getR (k0 := 0) hX d_Fl_isBetter_4 (lF9 hb) rfl u_Wo (by decide) lk_Fl_144 rfl ?_
  refine Z_iload_n (i := 1) hX d_Fl_isBetter_7 rfl rfl ?_
  refine Z_iald hX d_Fl_isBetter_8 (lF10 hb) rfl (by omega) (by decide) ?_
  refine Z_aload_n (i := 0) hX d_Fl_isBetter_9 rfl rfl ?_
  refine Z_getR (k0 := 3) hX d_Fl_isBetter_10 (lF hb) rfl u_Fl (by decide) lk_Fl_21 rfl ?_
  refine Z_getR (k0 := 0) hX d_Fl_isBetter_13 (lF9 hb) rfl u_Wo (by decide) lk_Fl_144 rfl ?_
  refine Z_iload_n (i := 2) hX d_Fl_isBetter_16 rfl rfl ?_
  refine Z_iald hX d_Fl_isBetter_17 (lF10 hb) rfl (by omega) (by decide) ?_
  refine Z_iceq (tgt := 48) hX d_Fl_isBetter_18 rfl (fun h18 => ?_) (fun h18 => ?_)
  · refine Z_aload_n (i := 0) hX d_Fl_isBetter_48 rfl rfl ?_
    refine Z_getR (k0 := 3) hX d_Fl_isBetter_49 (lF hb) rfl u_Fl (by decide) lk_Fl_21 rfl ?_
    refine Z_getR (k0 := 1) hX d_Fl_isBetter_52 (lF9 hb) rfl u_Wo (by decide) lk_Fl_145 rfl ?_
    refine Z_iload_n (i := 1) hX d_Fl_isBetter_55 rfl rfl ?_
    refine Z_iald hX d_Fl_isBetter_56 (lF11 hb) rfl (by omega) (by decide) ?_
    refine Z_aload_n (i := 0) hX d_Fl_isBetter_57 rfl rfl ?_
    refine Z_getR (k0 := 3) hX d_Fl_isBetter_58 (lF hb) rfl u_Fl (by decide) lk_Fl_21 rfl ?_
    refine Z_getR (k0 := 1) hX d_Fl_isBetter_61 (lF9 hb) rfl u_Wo (by decide) lk_Fl_145 rfl ?_
    refine Z_iload_n (i := 2) hX d_Fl_isBetter_64 rfl rfl ?_
    refine Z_iald hX d_Fl_isBetter_65 (lF11 hb) rfl (by omega) (by decide) ?_
    refine Z_iceq (tgt := 96) hX d_Fl_isBetter_66 rfl (fun h66 => ?_) (fun h66 => ?_)
    · refine Z_aload_n (i := 0) hX d_Fl_isBetter_96 rfl rfl ?_
      refine Z_getR (k0 := 0) hX d_Fl_isBetter_97 (lF hb) rfl u_Fl (by decide) lk_Fl_61 rfl ?_
      refine Z_getR (k0 := 11) hX d_Fl_isBetter_100 rfl rfl u_Pl (by decide) lk_Fl_193 rfl ?_
      refine Z_iload_n (i := 1) hX d_Fl_isBetter_103 rfl rfl ?_
      refine Z_iald hX d_Fl_isBetter_104 rfl rfl (by omega) (by decide) ?_
      refine Z_aload_n (i := 0) hX d_Fl_isBetter_105 rfl rfl ?_
      refine Z_getR (k0 := 0) hX d_Fl_isBetter_106 (lF hb) rfl u_Fl (by decide) lk_Fl_61 rfl ?_
      refine Z_getR (k0 := 11) hX d_Fl_isBetter_109 rfl rfl u_Pl (by decide) lk_Fl_193 rfl ?_
      refine Z_iload_n (i := 2) hX d_Fl_isBetter_112 rfl rfl ?_
      refine Z_iald hX d_Fl_isBetter_113 rfl rfl (by omega) (by decide) ?_
      refine Z_icge (tgt := 121) hX d_Fl_isBetter_114 rfl (fun h114 => ?_) (fun h114 => ?_)
      · refine Z_iconst (v := 0) hX d_Fl_isBetter_121 rfl ?_
        exact Z_ri (hR _ _ d_Fl_isBetter_122) (by simp [f_bt, zB, *]) rfl rfl
      · refine Z_iconst (v := 1) hX d_Fl_isBetter_117 rfl ?_
        refine Z_goto (tgt := 122) hX d_Fl_isBetter_118 rfl ?_
        exact Z_ri (hR _ _ d_Fl_isBetter_122) (by simp [f_bt, zB, *]) rfl rfl
    · refine Z_aload_n (i := 0) hX d_Fl_isBetter_69 rfl rfl ?_
      refine Z_getR (k0 := 3) hX d_Fl_isBetter_70 (lF hb) rfl u_Fl (by decide) lk_Fl_21 rfl ?_
      refine Z_getR (k0 := 1) hX d_Fl_isBetter_73 (lF9 hb) rfl u_Wo (by decide) lk_Fl_145 rfl ?_
      refine Z_iload_n (i := 1) hX d_Fl_isBetter_76 rfl rfl ?_
      refine Z_iald hX d_Fl_isBetter_77 (lF11 hb) rfl (by omega) (by decide) ?_
      refine Z_aload_n (i := 0) hX d_Fl_isBetter_78 rfl rfl ?_
      refine Z_getR (k0 := 3) hX d_Fl_isBetter_79 (lF hb) rfl u_Fl (by decide) lk_Fl_21 rfl ?_
      refine Z_getR (k0 := 1) hX d_Fl_isBetter_82 (lF9 hb) rfl u_Wo (by decide) lk_Fl_145 rfl ?_
      refine Z_iload_n (i := 2) hX d_Fl_isBetter_85 rfl rfl ?_
      refine Z_iald hX d_Fl_isBetter_86 (lF11 hb) rfl (by omega) (by decide) ?_
      refine Z_icge (tgt := 94) hX d_Fl_isBetter_87 rfl (fun h87 => ?_) (fun h87 => ?_)
      · refine Z_iconst (v := 0) hX d_Fl_isBetter_94 rfl ?_
        exact Z_ri (hR _ _ d_Fl_isBetter_95) (by simp [f_bt, zB, *]) rfl rfl
      · refine Z_iconst (v := 1) hX d_Fl_isBetter_90 rfl ?_
        refine Z_goto (tgt := 95) hX d_Fl_isBetter_91 rfl ?_
        exact Z_ri (hR _ _ d_Fl_isBetter_95) (by simp [f_bt, zB, *]) rfl rfl
  · refine Z_aload_n (i := 0) hX d_Fl_isBetter_21 rfl rfl ?_
    refine Z_getR (k0 := 3) hX d_Fl_isBetter_22 (lF hb) rfl u_Fl (by decide) lk_Fl_21 rfl ?_
    refine Z_getR (k0 := 0) hX d_Fl_isBetter_25 (lF9 hb) rfl u_Wo (by decide) lk_Fl_144 rfl ?_
    refine Z_iload_n (i := 1) hX d_Fl_isBetter_28 rfl rfl ?_
    refine Z_iald hX d_Fl_isBetter_29 (lF10 hb) rfl (by omega) (by decide) ?_
    refine Z_aload_n (i := 0) hX d_Fl_isBetter_30 rfl rfl ?_
    refine Z_getR (k0 := 3) hX d_Fl_isBetter_31 (lF hb) rfl u_Fl (by decide) lk_Fl_21 rfl ?_
    refine Z_getR (k0 := 0) hX d_Fl_isBetter_34 (lF9 hb) rfl u_Wo (by decide) lk_Fl_144 rfl ?_
    refine Z_iload_n (i := 2) hX d_Fl_isBetter_37 rfl rfl ?_
    refine Z_iald hX d_Fl_isBetter_38 (lF10 hb) rfl (by omega) (by decide) ?_
    refine Z_icge (tgt := 46) hX d_Fl_isBetter_39 rfl (fun h39 => ?_) (fun h39 => ?_)
    · refine Z_iconst (v := 0) hX d_Fl_isBetter_46 rfl ?_
      exact Z_ri (hR _ _ d_Fl_isBetter_47) (by simp [f_bt, zB, *]) rfl rfl
    · refine Z_iconst (v := 1) hX d_Fl_isBetter_42 rfl ?_
      refine Z_goto (tgt := 47) hX d_Fl_isBetter_43 rfl ?_
      exact Z_ri (hR _ _ d_Fl_isBetter_47) (by simp [f_bt, zB, *]) rfl rfl

set_option maxRecDepth 100000 in
set_option maxHeartbeats 4000000 in
theorem c_Fl_bestPort {la : Launch} {G : zG} {I : zI} {J : zJ} {b : Nat} (hb : b = 16 ∨ b = 35) {e : Nat} (he : e < 16) {m : Int32} : zCi la G y_Fl_bestPort (Cond.code y_Fl_bestPort prog_4_method_21_code 6 (some .int) :: TBL) (zR 2) [.ref (zad G b), .int (nI e), .int m] I J (zO (f_bp I b e m 4)) (I) (J) := by
  refine zCi_of (by decide) (by simp [lg_sl, Value.category]) (rfl) (fun X hla hX hR => ?_)
  subst hla
  refine Z_loc (l' := [(0, .ref (zad G b)), (1, .int (nI e)), (2, .int m)]) (by simp [lv_args, Value.category, List.lookup]) ?_
  refine Z_iconst (v := (-1)) hX d_Fl_bestPort_0 rfl ?_
  refine Z_istore_n (i := 3) hX d_Fl_bestPort_1 rfl (by decide) rfl ?_
  refine Z_iconst (v := nI 0) hX d_Fl_bestPort_2 rfl ?_
  refine Z_istore hX d_Fl_bestPort_3 (by decide) rfl ?_
  have hL5 : ∀ k i : Nat, k + i = 4 → Z X G 6 0 0 5 [(4, .int (nI i)), (3, .int (zO (f_bp I b e m i))), (2, .int m), (1, .int (nI e)), (0, .ref (zad G b))] [] (I) (J) := by
    intro k
    induction k with
    | zero =>
      intro i hi
      obtain rfl : i = 4 := by omega
      refine Z_iload hX d_Fl_bestPort_5 rfl ?_
      refine Z_iconst (v := 4) hX d_Fl_bestPort_7 rfl ?_
      refine Z_icge (tgt := 58) hX d_Fl_bestPort_8 rfl (fun h8 => ?_) (fun h => absurd (by decide) h)
      refine Z_iload_n (i := 3) hX d_Fl_bestPort_58 rfl rfl ?_
      exact Z_ri (hR _ _ d_Fl_bestPort_59) (by rfl) rfl rfl
    | succ k ih =>
      intro i hi
      have hi2 : i < 4 := by omega
      refine Z_iload hX d_Fl_bestPort_5 rfl ?_
      refine Z_iconst (v := 4) hX d_Fl_bestPort_7 rfl ?_
      refine Z_icge (tgt := 58) hX d_Fl_bestPort_8 rfl (fun h => absurd h (nI_ge hi2 (by decide))) (fun h8 => ?_)
      refine Z_iload_n (i := 1) hX d_Fl_bestPort_11 rfl rfl ?_
      refine Z_iload hX d_Fl_bestPort_12 rfl ?_
      refine Z_cNi2 hX d_Fl_bestPort_14 c_CT_slotOf m_CT_slotOf ne_Fl_91 ⟨by decide, by decide⟩ ⟨by decide, by decide⟩ (Nat.le_of_ble_eq_true rfl) ?_
      refine Z_istore hX d_Fl_bestPort_17 (by decide) rfl ?_
      refine Z_aload_n (i := 0) hX d_Fl_bestPort_19 rfl rfl ?_
      refine Z_getR (k0 := 5) hX d_Fl_bestPort_20 (lF hb) rfl u_Fl (by decide) lk_Fl_28 rfl ?_
      refine Z_iload hX d_Fl_bestPort_23 rfl ?_
      refine Z_iald hX d_Fl_bestPort_25 (lF14 hb) rfl (by omega) (by decide) ?_
      refine Z_iload_n (i := 2) hX d_Fl_bestPort_26 rfl rfl ?_
      refine Z_iclt (tgt := 52) hX d_Fl_bestPort_27 rfl (fun h27 => ?_) (fun h27 => ?_)
      · refine Z_iinc (v := nI (i + 1)) hX d_Fl_bestPort_52 rfl (by rw [nI_succ]; rfl) (by decide) rfl ?_
        refine Z_goto (tgt := 5) hX d_Fl_bestPort_55 rfl ?_
        refine Z_loc ?_ (Z_mem ?_ ?_ (ih (i + 1) (by omega)))
        · first | (rw [f_bp_a h27]; rfl) | (rw [f_bp_b h27 hr]; rfl) | (rw [f_bp_c h27 hr h46]; rfl) | (rw [f_bp_d h27 hr h46]; rfl)
        · rfl
        · rfl
      · refine Z_iload_n (i := 3) hX d_Fl_bestPort_30 rfl rfl ?_
        refine Z_iconst (v := (-1)) hX d_Fl_bestPort_31 rfl ?_
        refine Z_iceq (tgt := 49) hX d_Fl_bestPort_32 rfl (fun h32 => ?_) (fun h32 => ?_)
        · have hr := zO_m1 h32 (fun k hk => Nat.lt_trans (f_bp_lt i k hk) (by omega))
          refine Z_iload hX d_Fl_bestPort_49 rfl ?_
          refine Z_istore_n (i := 3) hX d_Fl_bestPort_51 rfl (by decide) rfl ?_
          refine Z_iinc (v := nI (i + 1)) hX d_Fl_bestPort_52 rfl (by rw [nI_succ]; rfl) (by decide) rfl ?_
          refine Z_goto (tgt := 5) hX d_Fl_bestPort_55 rfl ?_
          refine Z_loc ?_ (Z_mem ?_ ?_ (ih (i + 1) (by omega)))
          · first | (rw [f_bp_a h27]; rfl) | (rw [f_bp_b h27 hr]; rfl) | (rw [f_bp_c h27 hr h46]; rfl) | (rw [f_bp_d h27 hr h46]; rfl)
          · rfl
          · rfl
        · obtain ⟨r, hr⟩ := zO_n1 h32
          have hr2 := f_bp_lt i r hr
          refine Z_aload_n (i := 0) hX d_Fl_bestPort_35 rfl rfl ?_
          refine Z_iload hX d_Fl_bestPort_36 rfl ?_
          refine Z_iload_n (i := 1) hX d_Fl_bestPort_38 rfl rfl ?_
          refine Z_iload_n (i := 3) hX d_Fl_bestPort_39 rfl rfl ?_
          refine Z_top (y := nI r) (by rw [hr]; rfl) ?_
          refine Z_cNi2 hX d_Fl_bestPort_40 c_CT_slotOf m_CT_slotOf ne_Fl_91 ⟨by decide, by decide⟩ ⟨by decide, by decide⟩ (Nat.le_of_ble_eq_true rfl) ?_
          refine Z_cVi2 hX d_Fl_bestPort_43 (c_Fl_isBetter hb (by omega) (by omega)) m_Fl_isBetter (lF hb) rfl lk_Fl_190 ⟨by decide, by decide⟩ ⟨by decide, by decide⟩ (Nat.le_of_ble_eq_true rfl) ?_
          refine Z_ifeqB (tgt := 52) hX d_Fl_bestPort_46 rfl (fun h46 => ?_) (fun h46 => ?_)
          · refine Z_iinc (v := nI (i + 1)) hX d_Fl_bestPort_52 rfl (by rw [nI_succ]; rfl) (by decide) rfl ?_
            refine Z_goto (tgt := 5) hX d_Fl_bestPort_55 rfl ?_
            refine Z_loc ?_ (Z_mem ?_ ?_ (ih (i + 1) (by omega)))
            · first | (rw [f_bp_a h27]; rfl) | (rw [f_bp_b h27 hr]; rfl) | (rw [f_bp_c h27 hr h46]; rfl) | (rw [f_bp_d h27 hr h46]; rfl)
            · rfl
            · rfl
          · refine Z_iload hX d_Fl_bestPort_49 rfl ?_
            refine Z_istore_n (i := 3) hX d_Fl_bestPort_51 rfl (by decide) rfl ?_
            refine Z_iinc (v := nI (i + 1)) hX d_Fl_bestPort_52 rfl (by rw [nI_succ]; rfl) (by decide) rfl ?_
            refine Z_goto (tgt := 5) hX d_Fl_bestPort_55 rfl ?_
            refine Z_loc ?_ (Z_mem ?_ ?_ (ih (i + 1) (by omega)))
            · first | (rw [f_bp_a h27]; rfl) | (rw [f_bp_b h27 hr]; rfl) | (rw [f_bp_c h27 hr h46]; rfl) | (rw [f_bp_d h27 hr h46]; rfl)
            · rfl
            · rfl
  refine Z_loc ?_ (Z_mem ?_ ?_ (hL5 4 0 (by omega)))
  · rfl
  · rfl
  · rfl

set_option maxRecDepth 100000 in
set_option maxHeartbeats 4000000 in
theorem c_Fl_choose {la : Launch} {G : zG} {I : zI} {J : zJ} {b : Nat} (hb : b = 16 ∨ b = 35) {e : Nat} (he : e < 16) (h7 : okQ (I 7 e)) (h8 : okQ (I 8 e)) : zCi la G y_Fl_choose (Cond.code y_Fl_choose prog_4_method_20_code 4 (some .int) :: TBL) (zR 3) [.ref (zad G b), .int (nI e)] I J (f_ch I b e) (I) (J) := by
  refine zCi_of (by decide) (by simp [lg_sl, Value.category]) (rfl) (fun X hla hX hR => ?_)
  subst hla
  refine Z_loc (l' := [(0, .ref (zad G b)), (1, .int (nI e))]) (by simp [lv_args, Value.category, List.lookup]) ?_
  refine Z_aload_n (i := 0) hX d_Fl_choose_0 rfl rfl ?_
  refine Z_getR (k0 := 0) hX d_Fl_choose_1 (lF hb) rfl u_Fl (by decide) lk_Fl_61 rfl ?_
  refine Z_getR (k0 := 5) hX d_Fl_choose_4 rfl rfl u_Pl (by decide) lk_Fl_178 rfl ?_
  refine Z_iload_n (i := 1) hX d_Fl_choose_7 rfl rfl ?_
  refine Z_iald hX d_Fl_choose_8 rfl rfl (by omega) (by decide) ?_
  refine Z_iconst (v := (-1)) hX d_Fl_choose_9 rfl ?_
  refine Z_iceq (tgt := 23) hX d_Fl_choose_10 rfl (fun h10 => ?_) (fun h10 => ?_)
  · refine Z_aload_n (i := 0) hX d_Fl_choose_23 rfl rfl ?_
    refine Z_getR (k0 := 0) hX d_Fl_choose_24 (lF hb) rfl u_Fl (by decide) lk_Fl_61 rfl ?_
    refine Z_getR (k0 := 6) hX d_Fl_choose_27 rfl rfl u_Pl (by decide) lk_Fl_181 rfl ?_
    refine Z_iload_n (i := 1) hX d_Fl_choose_30 rfl rfl ?_
    refine Z_iald hX d_Fl_choose_31 rfl rfl (by omega) (by decide) ?_
    refine Z_istore_n (i := 2) hX d_Fl_choose_32 rfl (by decide) rfl ?_
    refine Z_iload_n (i := 2) hX d_Fl_choose_33 rfl rfl ?_
    refine Z_iconst (v := (-1)) hX d_Fl_choose_34 rfl ?_
    refine Z_iceq (tgt := 53) hX d_Fl_choose_35 rfl (fun h35 => ?_) (fun h35 => ?_)
    · refine Z_aload_n (i := 0) hX d_Fl_choose_53 rfl rfl ?_
      refine Z_iload_n (i := 1) hX d_Fl_choose_54 rfl rfl ?_
      refine Z_aload_n (i := 0) hX d_Fl_choose_55 rfl rfl ?_
      refine Z_getR (k0 := 0) hX d_Fl_choose_56 (lF hb) rfl u_Fl (by decide) lk_Fl_61 rfl ?_
      refine Z_getR (k0 := 4) hX d_Fl_choose_59 rfl rfl u_Pl (by decide) lk_Fl_184 rfl ?_
      refine Z_iload_n (i := 1) hX d_Fl_choose_62 rfl rfl ?_
      refine Z_iald hX d_Fl_choose_63 rfl rfl (by omega) (by decide) ?_
      refine Z_iconst (v := 1) hX d_Fl_choose_64 rfl ?_
      refine Z_iadd hX d_Fl_choose_65 ?_
      refine Z_cVi2 hX d_Fl_choose_66 (c_Fl_bestPort hb (by omega)) m_Fl_bestPort (lF hb) rfl lk_Fl_187 ⟨by decide, by decide⟩ ⟨by decide, by decide⟩ (Nat.le_of_ble_eq_true rfl) ?_
      refine Z_istore_n (i := 3) hX d_Fl_choose_69 rfl (by decide) rfl ?_
      refine Z_iload_n (i := 3) hX d_Fl_choose_70 rfl rfl ?_
      refine Z_iconst (v := (-1)) hX d_Fl_choose_71 rfl ?_
      refine Z_iceq (tgt := 79) hX d_Fl_choose_72 rfl (fun h72 => ?_) (fun h72 => ?_)
      · have hr := zO_m1 h72 (fun k hk => Nat.lt_trans (f_bp_lt 4 k hk) (by omega))
        refine Z_aload_n (i := 0) hX d_Fl_choose_79 rfl rfl ?_
        refine Z_iload_n (i := 1) hX d_Fl_choose_80 rfl rfl ?_
        refine Z_iconst (v := 1) hX d_Fl_choose_81 rfl ?_
        refine Z_cVi2 hX d_Fl_choose_82 (c_Fl_bestPort hb (by omega)) m_Fl_bestPort (lF hb) rfl lk_Fl_187 ⟨by decide, by decide⟩ ⟨by decide, by decide⟩ (Nat.le_of_ble_eq_true rfl) ?_
        exact Z_ri (hR _ _ d_Fl_choose_85) (by exact f_ch_x0 h10 (Or.inl h35) hr) rfl rfl
      · obtain ⟨r, hr⟩ := zO_n1 h72
        refine Z_iload_n (i := 3) hX d_Fl_choose_75 rfl rfl ?_
        refine Z_goto (tgt := 85) hX d_Fl_choose_76 rfl ?_
        exact Z_ri (hR _ _ d_Fl_choose_85) (by exact f_ch_x1 h10 (Or.inl h35) hr) rfl rfl
    · obtain ⟨k, hk, hk2⟩ := h8.resolve_left h35
      refine Z_aload_n (i := 0) hX d_Fl_choose_38 rfl rfl ?_
      refine Z_getR (k0 := 5) hX d_Fl_choose_39 (lF hb) rfl u_Fl (by decide) lk_Fl_28 rfl ?_
      refine Z_iload_n (i := 1) hX d_Fl_choose_42 rfl rfl ?_
      refine Z_iload_n (i := 2) hX d_Fl_choose_43 rfl rfl ?_
      refine Z_top hk2 ?_
      refine Z_cNi2 hX d_Fl_choose_44 c_CT_slotOf m_CT_slotOf ne_Fl_91 ⟨by decide, by decide⟩ ⟨by decide, by decide⟩ (Nat.le_of_ble_eq_true rfl) ?_
      refine Z_iald hX d_Fl_choose_47 (lF14 hb) rfl (by omega) (by decide) ?_
      refine Z_ifle (tgt := 53) hX d_Fl_choose_48 rfl (fun h48 => ?_) (fun h48 => ?_)
      · refine Z_aload_n (i := 0) hX d_Fl_choose_53 rfl rfl ?_
        refine Z_iload_n (i := 1) hX d_Fl_choose_54 rfl rfl ?_
        refine Z_aload_n (i := 0) hX d_Fl_choose_55 rfl rfl ?_
        refine Z_getR (k0 := 0) hX d_Fl_choose_56 (lF hb) rfl u_Fl (by decide) lk_Fl_61 rfl ?_
        refine Z_getR (k0 := 4) hX d_Fl_choose_59 rfl rfl u_Pl (by decide) lk_Fl_184 rfl ?_
        refine Z_iload_n (i := 1) hX d_Fl_choose_62 rfl rfl ?_
        refine Z_iald hX d_Fl_choose_63 rfl rfl (by omega) (by decide) ?_
        refine Z_iconst (v := 1) hX d_Fl_choose_64 rfl ?_
        refine Z_iadd hX d_Fl_choose_65 ?_
        refine Z_cVi2 hX d_Fl_choose_66 (c_Fl_bestPort hb (by omega)) m_Fl_bestPort (lF hb) rfl lk_Fl_187 ⟨by decide, by decide⟩ ⟨by decide, by decide⟩ (Nat.le_of_ble_eq_true rfl) ?_
        refine Z_istore_n (i := 3) hX d_Fl_choose_69 rfl (by decide) rfl ?_
        refine Z_iload_n (i := 3) hX d_Fl_choose_70 rfl rfl ?_
        refine Z_iconst (v := (-1)) hX d_Fl_choose_71 rfl ?_
        refine Z_iceq (tgt := 79) hX d_Fl_choose_72 rfl (fun h72 => ?_) (fun h72 => ?_)
        · have hr := zO_m1 h72 (fun k hk => Nat.lt_trans (f_bp_lt 4 k hk) (by omega))
          refine Z_aload_n (i := 0) hX d_Fl_choose_79 rfl rfl ?_
          refine Z_iload_n (i := 1) hX d_Fl_choose_80 rfl rfl ?_
          refine Z_iconst (v := 1) hX d_Fl_choose_81 rfl ?_
          refine Z_cVi2 hX d_Fl_choose_82 (c_Fl_bestPort hb (by omega)) m_Fl_bestPort (lF hb) rfl lk_Fl_187 ⟨by decide, by decide⟩ ⟨by decide, by decide⟩ (Nat.le_of_ble_eq_true rfl) ?_
          exact Z_ri (hR _ _ d_Fl_choose_85) (by exact f_ch_x0 h10 (Or.inr ⟨k, hk, hk2, h48⟩) hr) rfl rfl
        · obtain ⟨r, hr⟩ := zO_n1 h72
          refine Z_iload_n (i := 3) hX d_Fl_choose_75 rfl rfl ?_
          refine Z_goto (tgt := 85) hX d_Fl_choose_76 rfl ?_
          exact Z_ri (hR _ _ d_Fl_choose_85) (by exact f_ch_x1 h10 (Or.inr ⟨k, hk, hk2, h48⟩) hr) rfl rfl
      · refine Z_iload_n (i := 2) hX d_Fl_choose_51 rfl rfl ?_
        exact Z_ri (hR _ _ d_Fl_choose_52) (by exact (f_ch_b h10 h35 hk hk2 h48).symm) rfl rfl
  · refine Z_aload_n (i := 0) hX d_Fl_choose_13 rfl rfl ?_
    refine Z_getR (k0 := 0) hX d_Fl_choose_14 (lF hb) rfl u_Fl (by decide) lk_Fl_61 rfl ?_
    refine Z_getR (k0 := 5) hX d_Fl_choose_17 rfl rfl u_Pl (by decide) lk_Fl_178 rfl ?_
    refine Z_iload_n (i := 1) hX d_Fl_choose_20 rfl rfl ?_
    refine Z_iald hX d_Fl_choose_21 rfl rfl (by omega) (by decide) ?_
    exact Z_ri (hR _ _ d_Fl_choose_22) (by exact (f_ch_a h10).symm) rfl rfl

set_option maxRecDepth 100000 in
set_option maxHeartbeats 4000000 in
theorem c_Fl_decide {la : Launch} {G : zG} {I : zI} {J : zJ} {b : Nat} (hb : b = 16 ∨ b = 35) {e : Nat} (he : e < 16) (h7 : okQ (I 7 e)) (h8 : okQ (I 8 e)) : zCv la G y_Fl_decide (Cond.code y_Fl_decide prog_4_method_19_code 4 none :: TBL) (zR 4) [.ref (zad G b), .int (nI e)] I J (f_de I b e) (J) := by
  refine zCv_of (by decide) (by simp [lg_sl, Value.category]) (fun X hla hX hR => ?_)
  subst hla
  refine Z_loc (l' := [(0, .ref (zad G b)), (1, .int (nI e))]) (by simp [lv_args, Value.category, List.lookup]) ?_
  refine Z_aload_n (i := 0) hX d_Fl_decide_0 rfl rfl ?_
  refine Z_iload_n (i := 1) hX d_Fl_decide_1 rfl rfl ?_
  refine Z_cVi1 hX d_Fl_decide_2 (c_Fl_choose hb (by omega) h7 h8) m_Fl_choose (lF hb) rfl lk_Fl_175 ⟨by decide, by decide⟩ ⟨by decide, by decide⟩ (Nat.le_of_ble_eq_true rfl) ?_
  refine Z_istore_n (i := 2) hX d_Fl_decide_5 rfl (by decide) rfl ?_
  refine Z_aload_n (i := 0) hX d_Fl_decide_6 rfl rfl ?_
  refine Z_getR (k0 := 7) hX d_Fl_decide_7 (lF hb) rfl u_Fl (by decide) lk_Fl_34 rfl ?_
  refine Z_iload_n (i := 1) hX d_Fl_decide_10 rfl rfl ?_
  refine Z_iload_n (i := 2) hX d_Fl_decide_11 rfl rfl ?_
  refine Z_iast hX d_Fl_decide_12 (lF16 hb) rfl (by omega) (by decide) ?_
  refine Z_iload_n (i := 2) hX d_Fl_decide_13 rfl rfl ?_
  refine Z_iconst (v := (-1)) hX d_Fl_decide_14 rfl ?_
  refine Z_iceq (tgt := 89) hX d_Fl_decide_15 rfl (fun h15 => ?_) (fun h15 => ?_)
  · refine Z_aload_n (i := 0) hX d_Fl_decide_89 rfl rfl ?_
    refine Z_getR (k0 := 6) hX d_Fl_decide_90 (lF hb) rfl u_Fl (by decide) lk_Fl_31 rfl ?_
    refine Z_iload_n (i := 1) hX d_Fl_decide_93 rfl rfl ?_
    refine Z_cut (pc' := 111) (P := fun v => v = (if f_bit (zup I (b + 16) e (f_ch I b e) b 10) (nI e) = 1 then 2 else 0)) ?_ (fun hJ111 => ?_)
    · intro v hv111
      subst hv111
      refine Z_iast hX d_Fl_decide_111 (lF15 hb) rfl (by omega) (by decide) ?_
      refine Z_aload_n (i := 0) hX d_Fl_decide_112 rfl rfl ?_
      refine Z_getR (k0 := 9) hX d_Fl_decide_113 (lF hb) rfl u_Fl (by decide) lk_Fl_40 rfl ?_
      refine Z_iload_n (i := 1) hX d_Fl_decide_116 rfl rfl ?_
      refine Z_iconst (v := (-1)) hX d_Fl_decide_117 rfl ?_
      refine Z_iast hX d_Fl_decide_118 (lF18 hb) rfl (by omega) (by decide) ?_
      refine Z_aload_n (i := 0) hX d_Fl_decide_119 rfl rfl ?_
      refine Z_getR (k0 := 8) hX d_Fl_decide_120 (lF hb) rfl u_Fl (by decide) lk_Fl_37 rfl ?_
      refine Z_iload_n (i := 1) hX d_Fl_decide_123 rfl rfl ?_
      refine Z_iconst (v := (-1)) hX d_Fl_decide_124 rfl ?_
      refine Z_iast hX d_Fl_decide_125 (lF17 hb) rfl (by omega) (by decide) ?_
      exact Z_mem (by exact (f_de_0 h15).symm) (by rfl) (hR _ _ d_Fl_decide_126)
    · refine Z_aload_n (i := 0) hX d_Fl_decide_94 rfl rfl ?_
      refine Z_getI (k0 := 10) hX d_Fl_decide_95 (lF hb) rfl u_Fl (by decide) lk_Fl_43 rfl ?_
      refine Z_iload_n (i := 1) hX d_Fl_decide_98 rfl rfl ?_
      refine Z_ishr hX d_Fl_decide_99 ?_
      refine Z_iconst (v := 1) hX d_Fl_decide_100 rfl ?_
      refine Z_iand hX d_Fl_decide_101 ?_
      refine Z_iconst (v := 1) hX d_Fl_decide_102 rfl ?_
      refine Z_icne (tgt := 110) hX d_Fl_decide_103 rfl (fun h103 => ?_) (fun h103 => ?_)
      · refine Z_iconst (v := 0) hX d_Fl_decide_110 rfl ?_
        exact hJ111 _ (by first | exact (if_pos h103).symm | exact (if_neg h103).symm)
      · refine Z_iconst (v := 2) hX d_Fl_decide_106 rfl ?_
        refine Z_goto (tgt := 111) hX d_Fl_decide_107 rfl ?_
        exact hJ111 _ (by first | exact (if_pos h103).symm | exact (if_neg h103).symm)
  · obtain ⟨k, hk, hk2⟩ := (f_ch_ok (b := b) h7 h8).resolve_left h15
    refine Z_aload_n (i := 0) hX d_Fl_decide_18 rfl rfl ?_
    refine Z_getR (k0 := 5) hX d_Fl_decide_19 (lF hb) rfl u_Fl (by decide) lk_Fl_28 rfl ?_
    refine Z_iload_n (i := 1) hX d_Fl_decide_22 rfl rfl ?_
    refine Z_iload_n (i := 2) hX d_Fl_decide_23 rfl rfl ?_
    refine Z_top hk2 ?_
    refine Z_cNi2 hX d_Fl_decide_24 c_CT_slotOf m_CT_slotOf ne_Fl_91 ⟨by decide, by decide⟩ ⟨by decide, by decide⟩ (Nat.le_of_ble_eq_true rfl) ?_
    refine Z_iald hX d_Fl_decide_27 (lF14 hb) rfl (by omega) (by decide) ?_
    refine Z_ifle (tgt := 89) hX d_Fl_decide_28 rfl (fun h28 => ?_) (fun h28 => ?_)
    · refine Z_aload_n (i := 0) hX d_Fl_decide_89 rfl rfl ?_
      refine Z_getR (k0 := 6) hX d_Fl_decide_90 (lF hb) rfl u_Fl (by decide) lk_Fl_31 rfl ?_
      refine Z_iload_n (i := 1) hX d_Fl_decide_93 rfl rfl ?_
      refine Z_cut (pc' := 111) (P := fun v => v = (if f_bit (zup I (b + 16) e (f_ch I b e) b 10) (nI e) = 1 then 2 else 0)) ?_ (fun hJ111 => ?_)
      · intro v hv111
        subst hv111
        refine Z_iast hX d_Fl_decide_111 (lF15 hb) rfl (by omega) (by decide) ?_
        refine Z_aload_n (i := 0) hX d_Fl_decide_112 rfl rfl ?_
        refine Z_getR (k0 := 9) hX d_Fl_decide_113 (lF hb) rfl u_Fl (by decide) lk_Fl_40 rfl ?_
        refine Z_iload_n (i := 1) hX d_Fl_decide_116 rfl rfl ?_
        refine Z_iconst (v := (-1)) hX d_Fl_decide_117 rfl ?_
        refine Z_iast hX d_Fl_decide_118 (lF18 hb) rfl (by omega) (by decide) ?_
        refine Z_aload_n (i := 0) hX d_Fl_decide_119 rfl rfl ?_
        refine Z_getR (k0 := 8) hX d_Fl_decide_120 (lF hb) rfl u_Fl (by decide) lk_Fl_37 rfl ?_
        refine Z_iload_n (i := 1) hX d_Fl_decide_123 rfl rfl ?_
        refine Z_iconst (v := (-1)) hX d_Fl_decide_124 rfl ?_
        refine Z_iast hX d_Fl_decide_125 (lF17 hb) rfl (by omega) (by decide) ?_
        exact Z_mem (by exact (f_de_2 hk hk2 h28).symm) (by rfl) (hR _ _ d_Fl_decide_126)
      · refine Z_aload_n (i := 0) hX d_Fl_decide_94 rfl rfl ?_
        refine Z_getI (k0 := 10) hX d_Fl_decide_95 (lF hb) rfl u_Fl (by decide) lk_Fl_43 rfl ?_
        refine Z_iload_n (i := 1) hX d_Fl_decide_98 rfl rfl ?_
        refine Z_ishr hX d_Fl_decide_99 ?_
        refine Z_iconst (v := 1) hX d_Fl_decide_100 rfl ?_
        refine Z_iand hX d_Fl_decide_101 ?_
        refine Z_iconst (v := 1) hX d_Fl_decide_102 rfl ?_
        refine Z_icne (tgt := 110) hX d_Fl_decide_103 rfl (fun h103 => ?_) (fun h103 => ?_)
        · refine Z_iconst (v := 0) hX d_Fl_decide_110 rfl ?_
          exact hJ111 _ (by first | exact (if_pos h103).symm | exact (if_neg h103).symm)
        · refine Z_iconst (v := 2) hX d_Fl_decide_106 rfl ?_
          refine Z_goto (tgt := 111) hX d_Fl_decide_107 rfl ?_
          exact hJ111 _ (by first | exact (if_pos h103).symm | exact (if_neg h103).symm)
    · refine Z_iload_n (i := 1) hX d_Fl_decide_31 rfl rfl ?_
      refine Z_iload_n (i := 2) hX d_Fl_decide_32 rfl rfl ?_
      refine Z_top hk2 ?_
      refine Z_cNi2 hX d_Fl_decide_33 c_CT_slotOf m_CT_slotOf ne_Fl_91 ⟨by decide, by decide⟩ ⟨by decide, by decide⟩ (Nat.le_of_ble_eq_true rfl) ?_
      refine Z_istore_n (i := 3) hX d_Fl_decide_36 rfl (by decide) rfl ?_
      refine Z_aload_n (i := 0) hX d_Fl_decide_37 rfl rfl ?_
      refine Z_getR (k0 := 6) hX d_Fl_decide_38 (lF hb) rfl u_Fl (by decide) lk_Fl_31 rfl ?_
      refine Z_iload_n (i := 1) hX d_Fl_decide_41 rfl rfl ?_
      refine Z_iconst (v := 1) hX d_Fl_decide_42 rfl ?_
      refine Z_iast hX d_Fl_decide_43 (lF15 hb) rfl (by omega) (by decide) ?_
      refine Z_aload_n (i := 0) hX d_Fl_decide_44 rfl rfl ?_
      refine Z_dup hX d_Fl_decide_45 rfl ?_
      refine Z_getI (k0 := 10) hX d_Fl_decide_46 (lF hb) rfl u_Fl (by decide) lk_Fl_43 rfl ?_
      refine Z_iconst (v := 1) hX d_Fl_decide_49 rfl ?_
      refine Z_iload_n (i := 1) hX d_Fl_decide_50 rfl rfl ?_
      refine Z_ishl hX d_Fl_decide_51 ?_
      refine Z_ior hX d_Fl_decide_52 ?_
      refine Z_putI (k0 := 10) hX d_Fl_decide_53 (lF hb) rfl u_Fl (by decide) lk_Fl_43 rfl t_Fl to_Fl n_Fl rfl rfl rfl rfl ?_
      refine Z_aload_n (i := 0) hX d_Fl_decide_56 rfl rfl ?_
      refine Z_getR (k0 := 9) hX d_Fl_decide_57 (lF hb) rfl u_Fl (by decide) lk_Fl_40 rfl ?_
      refine Z_iload_n (i := 1) hX d_Fl_decide_60 rfl rfl ?_
      refine Z_aload_n (i := 0) hX d_Fl_decide_61 rfl rfl ?_
      refine Z_getR (k0 := 3) hX d_Fl_decide_62 (lF hb) rfl u_Fl (by decide) lk_Fl_21 rfl ?_
      refine Z_getR (k0 := 0) hX d_Fl_decide_65 (lF9 hb) rfl u_Wo (by decide) lk_Fl_144 rfl ?_
      refine Z_iload_n (i := 3) hX d_Fl_decide_68 rfl rfl ?_
      refine Z_iald hX d_Fl_decide_69 (lF10 hb) rfl (by omega) (by decide) ?_
      refine Z_iast hX d_Fl_decide_70 (lF18 hb) rfl (by omega) (by decide) ?_
      refine Z_aload_n (i := 0) hX d_Fl_decide_71 rfl rfl ?_
      refine Z_getR (k0 := 8) hX d_Fl_decide_72 (lF hb) rfl u_Fl (by decide) lk_Fl_37 rfl ?_
      refine Z_iload_n (i := 1) hX d_Fl_decide_75 rfl rfl ?_
      refine Z_aload_n (i := 0) hX d_Fl_decide_76 rfl rfl ?_
      refine Z_getR (k0 := 3) hX d_Fl_decide_77 (lF hb) rfl u_Fl (by decide) lk_Fl_21 rfl ?_
      refine Z_getR (k0 := 1) hX d_Fl_decide_80 (lF9 hb) rfl u_Wo (by decide) lk_Fl_145 rfl ?_
      refine Z_iload_n (i := 3) hX d_Fl_decide_83 rfl rfl ?_
      refine Z_iald hX d_Fl_decide_84 (lF11 hb) rfl (by omega) (by decide) ?_
      refine Z_iast hX d_Fl_decide_85 (lF17 hb) rfl (by omega) (by decide) ?_
      refine Z_goto (tgt := 126) hX d_Fl_decide_86 rfl ?_
      exact Z_mem (by exact (f_de_1 hk h15 hk2 h28).symm) (by rfl) (hR _ _ d_Fl_decide_126)
end
section
theorem fr_sp1 {I : zI} {b e p c : Nat} (hc : c < b + 6 ∨ b + 9 ≤ c) : f_sp1 I b e p c = I c := by
  unfold f_sp1
  split
  · rfl
  · split
    · exact fr_wr (by omega)
    · split
      · exact fr_wr (by omega)
      · exact fr_wr (by omega)
theorem fr_sp {I : zI} {b e c : Nat} (hc : c < b + 6 ∨ b + 9 ≤ c) : ∀ p, f_sp I b e p c = I c
  | 0 => rfl
  | p + 1 => by
    unfold f_sp
    rw [fr_sp1 hc, fr_sp hc p]
theorem f_sp1_0 {I : zI} {b e p : Nat} (h : I 9 (4 * e + p) = -1) : f_sp1 I b e p = I := if_pos h
theorem f_sp1_1 {I : zI} {b e p : Nat} (h : ¬ I 9 (4 * e + p) = -1) (h2 : nI p = I (b + 16) e) : f_sp1 I b e p = w_wr I (b + 5) (4 * e + p) 7 0 0 := by
  unfold f_sp1
  rw [if_neg h, if_pos h2]
theorem f_sp1_2 {I : zI} {b e p k : Nat} (h : ¬ I 9 (4 * e + p) = -1) (h2 : ¬ nI p = I (b + 16) e) (h3 : f_lo I b e = true) (hk : k < 4) (hk2 : I (b + 16) e = nI k) : f_sp1 I b e p = w_wr I (b + 5) (4 * e + p) (I (b + 18) e) (I (b + 17) e + 1) (I (b + 12) (4 * e + k) ||| 1 <<< (nI e &&& 31)) := by
  unfold f_sp1
  rw [if_neg h, if_neg h2, if_pos h3, hk2, nI_clamp (by omega)]
theorem f_sp1_3 {I : zI} {b e p : Nat} (h : ¬ I 9 (4 * e + p) = -1) (h2 : ¬ nI p = I (b + 16) e) (h3 : f_lo I b e = false) : f_sp1 I b e p = w_wr I (b + 5) (4 * e + p) (8 + I 3 e) 0 0 := by
  unfold f_sp1
  rw [if_neg h, if_neg h2, if_neg (by rw [h3]; decide)]
/-- a locked element has a port -/
def okK (I : zI) (b e : Nat) : Prop := f_lo I b e = true → ∃ k, k < 4 ∧ I (b + 16) e = nI k
theorem okK_of {I I' : zI} {b e : Nat} (h1 : I' (b + 15) = I (b + 15)) (h2 : I' (b + 16) = I (b + 16)) (h : okK I b e) : okK I' b e := by
  unfold okK f_lo at *
  rw [h1, h2]
  exact h
theorem fr_de0 {I : zI} {b e c : Nat} (hc : c < b + 15 ∨ b + 19 ≤ c) : f_de0 I b e c = I c := by
  unfold f_de0
  rw [zup_ne (by omega), zup_ne (by omega), zup_ne (by omega)]
theorem fr_de1 {I : zI} {b e k c : Nat} (hb : c ≠ b) (hc : c < b + 15 ∨ b + 19 ≤ c) : f_de1 I b e k c = I c := by
  unfold f_de1
  rw [zup_ne (by omega), zup_ne (by omega), zup_ne (by omega), zup_ne (by omega)]
theorem fr_de {I : zI} {b e c : Nat} (hb : c ≠ b) (hc : c < b + 15 ∨ b + 19 ≤ c) : f_de I b e c = I c := by
  unfold f_de
  try dsimp only
  split
  · rw [fr_de0 hc, zup_ne (by omega)]
  · rw [fr_de1 hb hc, zup_ne (by omega)]
theorem de_lk {I : zI} {b e : Nat} (h7 : okQ (I 7 e)) (h8 : okQ (I 8 e)) : okK (f_de I b e) b e := by
  unfold okK f_lo f_de
  try dsimp only
  split
  · intro h
    exfalso
    unfold f_de0 at h
    rw [zup_ne (by omega), zup_ne (by omega), zup_same, pk_us] at h
    split at h
    · exact absurd h (by decide)
    · exact absurd h (by decide)
  · rename_i h
    intro _
    obtain ⟨k, hk, hk2⟩ := (f_ch_ok (b := b) h7 h8).resolve_left (fun q => h (Or.inl q))
    refine ⟨k, hk, ?_⟩
    unfold f_de1
    try dsimp only
    rw [zup_ne (by omega), zup_ne (by omega), zup_ne (by omega), zup_ne (by omega), zup_same, pk_us]
    exact hk2
theorem fr_r1 {I : zI} {J : zJ} {b c : Nat} (hc : c < b ∨ b + 19 ≤ c) : ∀ e, f_r1 I J b e c = I c
  | 0 => rfl
  | e + 1 => by
    unfold f_r1
    split
    · rw [fr_li hc, fr_r1 hc e]
    · exact fr_r1 hc e
theorem fr_r2 {I : zI} {b c : Nat} (hc : c < b ∨ b + 19 ≤ c) : ∀ e, f_r2 I b e c = I c
  | 0 => rfl
  | e + 1 => by
    unfold f_r2
    split
    · rw [fr_sp (by omega), fr_de (by omega) (by omega), fr_r2 hc e]
    · exact fr_r2 hc e
theorem fr_ro {I : zI} {J : zJ} {b c : Nat} (hc : c < b ∨ b + 19 ≤ c) : f_ro I J b c = I c := by
  unfold f_ro
  rw [fr_r2 hc, fr_r1 hc, zup_ne (by omega)]
theorem f_r1_t {I : zI} {J : zJ} {b e : Nat} (h : f_wh (f_r1 I J b e) b e = true) : f_r1 I J b (e + 1) = f_li (f_r1 I J b e) J b e 4 := if_pos h
theorem f_r1_f {I : zI} {J : zJ} {b e : Nat} (h : f_wh (f_r1 I J b e) b e = false) : f_r1 I J b (e + 1) = f_r1 I J b e := if_neg (by rw [h]; decide)
theorem f_r2_t {I : zI} {b e : Nat} (h : f_wh (f_r2 I b e) b e = true) : f_r2 I b (e + 1) = f_sp (f_de (f_r2 I b e) b e) b e 4 := if_pos h
theorem f_r2_f {I : zI} {b e : Nat} (h : f_wh (f_r2 I b e) b e = false) : f_r2 I b (e + 1) = f_r2 I b e := if_neg (by rw [h]; decide)
/-- what of the plan a round needs -/
def okP (I : zI) : Prop := okL I ∧ ∀ e, e < 16 → okQ (I 7 e) ∧ okQ (I 8 e)
theorem okP_of {I I' : zI} (h : ∀ c, c < 16 → I' c = I c) (hP : okP I) : okP I' := by
  refine ⟨okL_of (h 9 (by decide)) (h 10 (by decide)) hP.1, fun e he => ?_⟩
  rw [h 7 (by decide), h 8 (by decide)]
  exact hP.2 e he
def f_rs (b : Nat) : Nat → Nat → zI → zJ → zI × zJ
  | 0, _, I, J => (I, J)
  | k + 1, i, I, J => if i < 2 ∨ ¬ I b 14 = 0 then f_rs b k (i + 1) (f_ro I J b) (zupL J b 13 0) else (I, J)
theorem f_rs_t {b k i : Nat} {I : zI} {J : zJ} (h : i < 2 ∨ ¬ I b 14 = 0) : f_rs b (k + 1) i I J = f_rs b k (i + 1) (f_ro I J b) (zupL J b 13 0) := if_pos h
theorem f_rs_f {b k i : Nat} {I : zI} {J : zJ} (h : ¬ i < 2) (h2 : I b 14 = 0) : f_rs b (k + 1) i I J = (I, J) := if_neg (fun q => q.elim h (fun q => q h2))
set_option maxRecDepth 100000 in
set_option maxHeartbeats 4000000 in
theorem c_Fl_speak {la : Launch} {G : zG} {I : zI} {J : zJ} {b : Nat} (hb : b = 16 ∨ b = 35) {e : Nat} (he : e < 16) (hK : okK I b e) : zCv la G y_Fl_speak (Cond.code y_Fl_speak prog_4_method_23_code 5 none :: TBL) (zR 2) [.ref (zad G b), .int (nI e)] I J (f_sp I b e 4) (J) := by
  refine zCv_of (by decide) (by simp [lg_sl, Value.category]) (fun X hla hX hR => ?_)
  subst hla
  refine Z_loc (l' := [(0, .ref (zad G b)), (1, .int (nI e))]) (by simp [lv_args, Value.category, List.lookup]) ?_
  refine Z_iconst (v := nI 0) hX d_Fl_speak_0 rfl ?_
  refine Z_istore_n (i := 2) hX d_Fl_speak_1 rfl (by decide) rfl ?_
  have hL2 : ∀ k i : Nat, k + i = 4 → Z X G 5 0 0 2 [(2, .int (nI i)), (1, .int (nI e)), (0, .ref (zad G b))] [] (f_sp I b e i) (J) := by
    intro k
    induction k with
    | zero =>
      intro i hi
      obtain rfl : i = 4 := by omega
      refine Z_iload_n (i := 2) hX d_Fl_speak_2 rfl rfl ?_
      refine Z_iconst (v := 4) hX d_Fl_speak_3 rfl ?_
      refine Z_icge (tgt := 141) hX d_Fl_speak_4 rfl (fun h4 => ?_) (fun h => absurd (by decide) h)
      exact Z_mem (by rfl) (by rfl) (hR _ _ d_Fl_speak_141)
    | succ k ih =>
      intro i hi
      have hi2 : i < 4 := by omega
      refine Z_iload_n (i := 2) hX d_Fl_speak_2 rfl rfl ?_
      refine Z_iconst (v := 4) hX d_Fl_speak_3 rfl ?_
      refine Z_icge (tgt := 141) hX d_Fl_speak_4 rfl (fun h => absurd h (nI_ge hi2 (by decide))) (fun h4 => ?_)
      refine Z_iload_n (i := 1) hX d_Fl_speak_7 rfl rfl ?_
      refine Z_iload_n (i := 2) hX d_Fl_speak_8 rfl rfl ?_
      refine Z_cNi2 hX d_Fl_speak_9 c_CT_slotOf m_CT_slotOf ne_Fl_91 ⟨by decide, by decide⟩ ⟨by decide, by decide⟩ (Nat.le_of_ble_eq_true rfl) ?_
      refine Z_istore_n (i := 3) hX d_Fl_speak_12 rfl (by decide) rfl ?_
      refine Z_aload_n (i := 0) hX d_Fl_speak_13 rfl rfl ?_
      refine Z_getR (k0 := 0) hX d_Fl_speak_14 (lF hb) rfl u_Fl (by decide) lk_Fl_61 rfl ?_
      refine Z_getR (k0 := 7) hX d_Fl_speak_17 rfl rfl u_Pl (by decide) lk_Fl_115 rfl ?_
      refine Z_iload_n (i := 3) hX d_Fl_speak_20 rfl rfl ?_
      refine Z_iald hX d_Fl_speak_21 rfl rfl (by omega) (by decide) ?_
      refine Z_iconst (v := (-1)) hX d_Fl_speak_22 rfl ?_
      refine Z_icne (tgt := 29) hX d_Fl_speak_23 rfl (fun h23 => ?_) (fun h23 => ?_)
      · refine Z_iload_n (i := 2) hX d_Fl_speak_29 rfl rfl ?_
        refine Z_aload_n (i := 0) hX d_Fl_speak_30 rfl rfl ?_
        refine Z_getR (k0 := 7) hX d_Fl_speak_31 (lF hb) rfl u_Fl (by decide) lk_Fl_34 rfl ?_
        refine Z_iload_n (i := 1) hX d_Fl_speak_34 rfl rfl ?_
        refine Z_iald hX d_Fl_speak_35 (lF16 hb) rfl (by omega) (by decide) ?_
        refine Z_icne (tgt := 54) hX d_Fl_speak_36 rfl (fun h36 => ?_) (fun h36 => ?_)
        · refine Z_aload_n (i := 0) hX d_Fl_speak_54 rfl rfl ?_
          refine Z_iload_n (i := 1) hX d_Fl_speak_55 rfl rfl ?_
          refine Z_cVi1 hX d_Fl_speak_56 (c_Fl_isLocked hb (by omega)) m_Fl_isLocked (lF hb) rfl lk_Fl_196 ⟨by decide, by decide⟩ ⟨by decide, by decide⟩ (Nat.le_of_ble_eq_true rfl) ?_
          refine Z_ifeqB (tgt := 113) hX d_Fl_speak_59 rfl (fun h59 => ?_) (fun h59 => ?_)
          · refine Z_aload_n (i := 0) hX d_Fl_speak_113 rfl rfl ?_
            refine Z_getR (k0 := 2) hX d_Fl_speak_114 (lF hb) rfl u_Fl (by decide) lk_Fl_18 rfl ?_
            refine Z_iload_n (i := 3) hX d_Fl_speak_117 rfl rfl ?_
            refine Z_bipush (v := 8) hX d_Fl_speak_118 rfl ?_
            refine Z_aload_n (i := 0) hX d_Fl_speak_120 rfl rfl ?_
            refine Z_getR (k0 := 0) hX d_Fl_speak_121 (lF hb) rfl u_Fl (by decide) lk_Fl_61 rfl ?_
            refine Z_getR (k0 := 1) hX d_Fl_speak_124 rfl rfl u_Pl (by decide) lk_Fl_199 rfl ?_
            refine Z_iload_n (i := 1) hX d_Fl_speak_127 rfl rfl ?_
            refine Z_iald hX d_Fl_speak_128 rfl rfl (by omega) (by decide) ?_
            refine Z_iadd hX d_Fl_speak_129 ?_
            refine Z_iconst (v := 0) hX d_Fl_speak_130 rfl ?_
            refine Z_iconst (v := 0) hX d_Fl_speak_131 rfl ?_
            refine Z_cVv4 hX d_Fl_speak_132 (c_Wo_write (wF5 hb) (by omega)) m_Wo_write (lF5 hb) rfl lk_Fl_95 ⟨by decide, by decide⟩ ⟨by decide, by decide⟩ (Nat.le_of_ble_eq_true rfl) ?_
            refine Z_iinc (v := nI (i + 1)) hX d_Fl_speak_135 rfl (by rw [nI_succ]; rfl) (by decide) rfl ?_
            refine Z_goto (tgt := 2) hX d_Fl_speak_138 rfl ?_
            refine Z_loc ?_ (Z_mem ?_ ?_ (ih (i + 1) (by omega)))
            · rfl
            · exact (f_sp1_3 h23 h36 h59).symm
            · rfl
          · obtain ⟨k9, hk, hk2⟩ := okK_of (fr_sp (by omega) i) (fr_sp (by omega) i) hK h59
            refine Z_aload_n (i := 0) hX d_Fl_speak_62 rfl rfl ?_
            refine Z_getR (k0 := 3) hX d_Fl_speak_63 (lF hb) rfl u_Fl (by decide) lk_Fl_21 rfl ?_
            refine Z_getR (k0 := 2) hX d_Fl_speak_66 (lF9 hb) rfl u_Wo (by decide) lk_Fl_146 rfl ?_
            refine Z_iload_n (i := 1) hX d_Fl_speak_69 rfl rfl ?_
            refine Z_aload_n (i := 0) hX d_Fl_speak_70 rfl rfl ?_
            refine Z_getR (k0 := 7) hX d_Fl_speak_71 (lF hb) rfl u_Fl (by decide) lk_Fl_34 rfl ?_
            refine Z_iload_n (i := 1) hX d_Fl_speak_74 rfl rfl ?_
            refine Z_iald hX d_Fl_speak_75 (lF16 hb) rfl (by omega) (by decide) ?_
            refine Z_top hk2 ?_
            refine Z_cNi2 hX d_Fl_speak_76 c_CT_slotOf m_CT_slotOf ne_Fl_91 ⟨by decide, by decide⟩ ⟨by decide, by decide⟩ (Nat.le_of_ble_eq_true rfl) ?_
            refine Z_iald hX d_Fl_speak_79 (lF12 hb) rfl (by omega) (by decide) ?_
            refine Z_iconst (v := 1) hX d_Fl_speak_80 rfl ?_
            refine Z_iload_n (i := 1) hX d_Fl_speak_81 rfl rfl ?_
            refine Z_ishl hX d_Fl_speak_82 ?_
            refine Z_ior hX d_Fl_speak_83 ?_
            refine Z_istore hX d_Fl_speak_84 (by decide) rfl ?_
            refine Z_aload_n (i := 0) hX d_Fl_speak_86 rfl rfl ?_
            refine Z_getR (k0 := 2) hX d_Fl_speak_87 (lF hb) rfl u_Fl (by decide) lk_Fl_18 rfl ?_
            refine Z_iload_n (i := 3) hX d_Fl_speak_90 rfl rfl ?_
            refine Z_aload_n (i := 0) hX d_Fl_speak_91 rfl rfl ?_
            refine Z_getR (k0 := 9) hX d_Fl_speak_92 (lF hb) rfl u_Fl (by decide) lk_Fl_40 rfl ?_
            refine Z_iload_n (i := 1) hX d_Fl_speak_95 rfl rfl ?_
            refine Z_iald hX d_Fl_speak_96 (lF18 hb) rfl (by omega) (by decide) ?_
            refine Z_aload_n (i := 0) hX d_Fl_speak_97 rfl rfl ?_
            refine Z_getR (k0 := 8) hX d_Fl_speak_98 (lF hb) rfl u_Fl (by decide) lk_Fl_37 rfl ?_
            refine Z_iload_n (i := 1) hX d_Fl_speak_101 rfl rfl ?_
            refine Z_iald hX d_Fl_speak_102 (lF17 hb) rfl (by omega) (by decide) ?_
            refine Z_iconst (v := 1) hX d_Fl_speak_103 rfl ?_
            refine Z_iadd hX d_Fl_speak_104 ?_
            refine Z_iload hX d_Fl_speak_105 rfl ?_
            refine Z_cVv4 hX d_Fl_speak_107 (c_Wo_write (wF5 hb) (by omega)) m_Wo_write (lF5 hb) rfl lk_Fl_95 ⟨by decide, by decide⟩ ⟨by decide, by decide⟩ (Nat.le_of_ble_eq_true rfl) ?_
            refine Z_goto (tgt := 135) hX d_Fl_speak_110 rfl ?_
            refine Z_iinc (v := nI (i + 1)) hX d_Fl_speak_135 rfl (by rw [nI_succ]; rfl) (by decide) rfl ?_
            refine Z_goto (tgt := 2) hX d_Fl_speak_138 rfl ?_
            refine Z_loc ?_ (Z_mem ?_ ?_ (ih (i + 1) (by omega)))
            · rfl
            · exact (f_sp1_2 h23 h36 h59 hk hk2).symm
            · rfl
        · refine Z_aload_n (i := 0) hX d_Fl_speak_39 rfl rfl ?_
          refine Z_getR (k0 := 2) hX d_Fl_speak_40 (lF hb) rfl u_Fl (by decide) lk_Fl_18 rfl ?_
          refine Z_iload_n (i := 3) hX d_Fl_speak_43 rfl rfl ?_
          refine Z_bipush (v := 7) hX d_Fl_speak_44 rfl ?_
          refine Z_iconst (v := 0) hX d_Fl_speak_46 rfl ?_
          refine Z_iconst (v := 0) hX d_Fl_speak_47 rfl ?_
          refine Z_cVv4 hX d_Fl_speak_48 (c_Wo_write (wF5 hb) (by omega)) m_Wo_write (lF5 hb) rfl lk_Fl_95 ⟨by decide, by decide⟩ ⟨by decide, by decide⟩ (Nat.le_of_ble_eq_true rfl) ?_
          refine Z_goto (tgt := 135) hX d_Fl_speak_51 rfl ?_
          refine Z_iinc (v := nI (i + 1)) hX d_Fl_speak_135 rfl (by rw [nI_succ]; rfl) (by decide) rfl ?_
          refine Z_goto (tgt := 2) hX d_Fl_speak_138 rfl ?_
          refine Z_loc ?_ (Z_mem ?_ ?_ (ih (i + 1) (by omega)))
          · rfl
          · exact (f_sp1_1 h23 h36).symm
          · rfl
      · refine Z_goto (tgt := 135) hX d_Fl_speak_26 rfl ?_
        refine Z_iinc (v := nI (i + 1)) hX d_Fl_speak_135 rfl (by rw [nI_succ]; rfl) (by decide) rfl ?_
        refine Z_goto (tgt := 2) hX d_Fl_speak_138 rfl ?_
        refine Z_loc ?_ (Z_mem ?_ ?_ (ih (i + 1) (by omega)))
        · rfl
        · exact (f_sp1_0 h23).symm
        · rfl
  refine Z_loc ?_ (Z_mem ?_ ?_ (hL2 4 0 (by omega)))
  · rfl
  · rfl
  · rfl

set_option maxRecDepth 100000 in
set_option maxHeartbeats 4000000 in
theorem c_Fl_passRound {la : Launch} {G : zG} {I : zI} {J : zJ} {b : Nat} (hb : b = 16 ∨ b = 35) (hP : okP I) : zCv la G y_Fl_passRound (Cond.code y_Fl_passRound prog_4_method_12_code 2 none :: TBL) (zR 5) [.ref (zad G b)] I J (f_ro I J b) (zupL J b 13 0) := by
  refine zCv_of (by decide) (by simp [lg_sl, Value.category]) (fun X hla hX hR => ?_)
  subst hla
  refine Z_loc (l' := [(0, .ref (zad G b))]) (by simp [lv_args, Value.category, List.lookup]) ?_
  refine Z_aload_n (i := 0) hX d_Fl_passRound_0 rfl rfl ?_
  refine Z_iconst (v := 0) hX d_Fl_passRound_1 rfl ?_
  refine Z_putI (k0 := 14) hX d_Fl_passRound_2 (lF hb) rfl u_Fl (by decide) lk_Fl_57 rfl t_Fl to_Fl n_Fl rfl rfl rfl rfl ?_
  refine Z_iconst (v := nI 0) hX d_Fl_passRound_5 rfl ?_
  refine Z_istore_n (i := 1) hX d_Fl_passRound_6 rfl (by decide) rfl ?_
  have hL7 : ∀ k i : Nat, k + i = 16 → Z X G 2 0 0 7 [(1, .int (nI i)), (0, .ref (zad G b))] [] (f_r1 (zup I b 14 0) J b i) (J) := by
    intro k
    induction k with
    | zero =>
      intro i hi
      obtain rfl : i = 16 := by omega
      refine Z_iload_n (i := 1) hX d_Fl_passRound_7 rfl rfl ?_
      refine Z_bipush (v := 16) hX d_Fl_passRound_8 rfl ?_
      refine Z_icge (tgt := 32) hX d_Fl_passRound_10 rfl (fun h10 => ?_) (fun h => absurd (by decide) h)
      refine Z_aload_n (i := 0) hX d_Fl_passRound_32 rfl rfl ?_
      refine Z_lconst (v := 0) hX d_Fl_passRound_33 rfl ?_
      refine Z_putL (k0 := 13) hX d_Fl_passRound_34 (lF hb) rfl u_Fl (by decide) lk_Fl_53 rfl t_Fl to_Fl n_Fl rfl rfl ?_
      refine Z_iconst (v := nI 0) hX d_Fl_passRound_37 rfl ?_
      refine Z_istore_n (i := 1) hX d_Fl_passRound_38 rfl (by decide) rfl ?_
      have hL39 : ∀ k i : Nat, k + i = 16 → Z X G 2 0 0 39 [(1, .int (nI i)), (0, .ref (zad G b))] [] (f_r2 (f_r1 (zup I b 14 0) J b 16) b i) (zupL J b 13 0) := by
        intro k
        induction k with
        | zero =>
          intro i hi
          obtain rfl : i = 16 := by omega
          refine Z_iload_n (i := 1) hX d_Fl_passRound_39 rfl rfl ?_
          refine Z_bipush (v := 16) hX d_Fl_passRound_40 rfl ?_
          refine Z_icge (tgt := 69) hX d_Fl_passRound_42 rfl (fun h42 => ?_) (fun h => absurd (by decide) h)
          exact Z_mem (by rfl) (by rfl) (hR _ _ d_Fl_passRound_69)
        | succ k ih =>
          intro i hi
          have hi2 : i < 16 := by omega
          refine Z_iload_n (i := 1) hX d_Fl_passRound_39 rfl rfl ?_
          refine Z_bipush (v := 16) hX d_Fl_passRound_40 rfl ?_
          refine Z_icge (tgt := 69) hX d_Fl_passRound_42 rfl (fun h => absurd h (nI_ge hi2 (by decide))) (fun h42 => ?_)
          refine Z_aload_n (i := 0) hX d_Fl_passRound_45 rfl rfl ?_
          refine Z_iload_n (i := 1) hX d_Fl_passRound_46 rfl rfl ?_
          refine Z_cVi1 hX d_Fl_passRound_47 (c_Fl_isWhole hb (by omega)) m_Fl_isWhole (lF hb) rfl lk_Fl_102 ⟨by decide, by decide⟩ ⟨by decide, by decide⟩ (Nat.le_of_ble_eq_true rfl) ?_
          refine Z_ifeqB (tgt := 63) hX d_Fl_passRound_50 rfl (fun h50 => ?_) (fun h50 => ?_)
          · refine Z_iinc (v := nI (i + 1)) hX d_Fl_passRound_63 rfl (by rw [nI_succ]; rfl) (by decide) rfl ?_
            refine Z_goto (tgt := 39) hX d_Fl_passRound_66 rfl ?_
            refine Z_loc ?_ (Z_mem ?_ ?_ (ih (i + 1) (by omega)))
            · rfl
            · exact (f_r2_f h50).symm
            · rfl
          · have hq7 : okQ (f_r2 (f_r1 (zup I b 14 0) J b 16) b i 7 i) := by rw [fr_r2 (by omega), fr_r1 (by omega), zup_ne (by omega)]; exact (hP.2 i hi2).1
            have hq8 : okQ (f_r2 (f_r1 (zup I b 14 0) J b 16) b i 8 i) := by rw [fr_r2 (by omega), fr_r1 (by omega), zup_ne (by omega)]; exact (hP.2 i hi2).2
            refine Z_aload_n (i := 0) hX d_Fl_passRound_53 rfl rfl ?_
            refine Z_iload_n (i := 1) hX d_Fl_passRound_54 rfl rfl ?_
            refine Z_cVv1 hX d_Fl_passRound_55 (c_Fl_decide hb (by omega) hq7 hq8) m_Fl_decide (lF hb) rfl lk_Fl_109 ⟨by decide, by decide⟩ ⟨by decide, by decide⟩ (Nat.le_of_ble_eq_true rfl) ?_
            refine Z_aload_n (i := 0) hX d_Fl_passRound_58 rfl rfl ?_
            refine Z_iload_n (i := 1) hX d_Fl_passRound_59 rfl rfl ?_
            refine Z_cVv1 hX d_Fl_passRound_60 (c_Fl_speak hb (by omega) (de_lk hq7 hq8)) m_Fl_speak (lF hb) rfl lk_Fl_112 ⟨by decide, by decide⟩ ⟨by decide, by decide⟩ (Nat.le_of_ble_eq_true rfl) ?_
            refine Z_iinc (v := nI (i + 1)) hX d_Fl_passRound_63 rfl (by rw [nI_succ]; rfl) (by decide) rfl ?_
            refine Z_goto (tgt := 39) hX d_Fl_passRound_66 rfl ?_
            refine Z_loc ?_ (Z_mem ?_ ?_ (ih (i + 1) (by omega)))
            · rfl
            · exact (f_r2_t h50).symm
            · rfl
      refine Z_loc ?_ (Z_mem ?_ ?_ (hL39 16 0 (by omega)))
      · rfl
      · rfl
      · rfl
    | succ k ih =>
      intro i hi
      have hi2 : i < 16 := by omega
      refine Z_iload_n (i := 1) hX d_Fl_passRound_7 rfl rfl ?_
      refine Z_bipush (v := 16) hX d_Fl_passRound_8 rfl ?_
      refine Z_icge (tgt := 32) hX d_Fl_passRound_10 rfl (fun h => absurd h (nI_ge hi2 (by decide))) (fun h10 => ?_)
      refine Z_aload_n (i := 0) hX d_Fl_passRound_13 rfl rfl ?_
      refine Z_iload_n (i := 1) hX d_Fl_passRound_14 rfl rfl ?_
      refine Z_cVi1 hX d_Fl_passRound_15 (c_Fl_isWhole hb (by omega)) m_Fl_isWhole (lF hb) rfl lk_Fl_102 ⟨by decide, by decide⟩ ⟨by decide, by decide⟩ (Nat.le_of_ble_eq_true rfl) ?_
      refine Z_ifeqB (tgt := 26) hX d_Fl_passRound_18 rfl (fun h18 => ?_) (fun h18 => ?_)
      · refine Z_iinc (v := nI (i + 1)) hX d_Fl_passRound_26 rfl (by rw [nI_succ]; rfl) (by decide) rfl ?_
        refine Z_goto (tgt := 7) hX d_Fl_passRound_29 rfl ?_
        refine Z_loc ?_ (Z_mem ?_ ?_ (ih (i + 1) (by omega)))
        · rfl
        · exact (f_r1_f h18).symm
        · rfl
      · refine Z_aload_n (i := 0) hX d_Fl_passRound_21 rfl rfl ?_
        refine Z_iload_n (i := 1) hX d_Fl_passRound_22 rfl rfl ?_
        refine Z_cVv1 hX d_Fl_passRound_23 (c_Fl_listen hb (by omega) (okL_of ((fr_r1 (by omega) i).trans (zup_ne (by omega))) ((fr_r1 (by omega) i).trans (zup_ne (by omega))) hP.1)) m_Fl_listen (lF hb) rfl lk_Fl_106 ⟨by decide, by decide⟩ ⟨by decide, by decide⟩ (Nat.le_of_ble_eq_true rfl) ?_
        refine Z_iinc (v := nI (i + 1)) hX d_Fl_passRound_26 rfl (by rw [nI_succ]; rfl) (by decide) rfl ?_
        refine Z_goto (tgt := 7) hX d_Fl_passRound_29 rfl ?_
        refine Z_loc ?_ (Z_mem ?_ ?_ (ih (i + 1) (by omega)))
        · rfl
        · exact (f_r1_t h18).symm
        · rfl
  refine Z_loc ?_ (Z_mem ?_ ?_ (hL7 16 0 (by omega)))
  · rfl
  · rfl
  · rfl

set_option maxRecDepth 100000 in
set_option maxHeartbeats 4000000 in
theorem c_Fl_passRounds {la : Launch} {G : zG} {I : zI} {J : zJ} {b : Nat} (hb : b = 16 ∨ b = 35) {n : Nat} (hn : n < 1000) (hP : okP I) : zCv la G y_Fl_passRounds (Cond.code y_Fl_passRounds prog_4_method_11_code 3 none :: TBL) (zR 6) [.ref (zad G b), .int (nI n)] I J ((f_rs b n 0 I J).1) ((f_rs b n 0 I J).2) := by
  refine zCv_of (by decide) (by simp [lg_sl, Value.category]) (fun X hla hX hR => ?_)
  subst hla
  refine Z_loc (l' := [(0, .ref (zad G b)), (1, .int (nI n))]) (by simp [lv_args, Value.category, List.lookup]) ?_
  refine Z_iconst (v := nI 0) hX d_Fl_passRounds_0 rfl ?_
  refine Z_istore_n (i := 2) hX d_Fl_passRounds_1 rfl (by decide) rfl ?_
  have hL2 : ∀ (k i : Nat) (I' : zI) (J' : zJ), k + i = n → okP I' → f_rs b k i I' J' = f_rs b n 0 I J → Z X G 3 0 0 2 [(2, .int (nI i)), (1, .int (nI n)), (0, .ref (zad G b))] [] I' J' := by
    intro k
    induction k with
    | zero =>
      intro i I' J' hi hok hf
      obtain rfl : i = n := by omega
      refine Z_iload_n (i := 2) hX d_Fl_passRounds_2 rfl rfl ?_
      refine Z_iload_n (i := 1) hX d_Fl_passRounds_3 rfl rfl ?_
      refine Z_icge (tgt := 29) hX d_Fl_passRounds_4 rfl (fun h4 => ?_) (fun h => absurd (nI_le (Nat.le_refl _) (by omega)) h)
      exact Z_mem (by rw [← hf]; rfl) (by rw [← hf]; rfl) (hR _ _ d_Fl_passRounds_29)
    | succ k ih =>
      intro i I' J' hi hok hf
      have hi2 : i < n := by omega
      refine Z_iload_n (i := 2) hX d_Fl_passRounds_2 rfl rfl ?_
      refine Z_iload_n (i := 1) hX d_Fl_passRounds_3 rfl rfl ?_
      refine Z_icge (tgt := 29) hX d_Fl_passRounds_4 rfl (fun h => absurd h (nI_ge hi2 (by omega))) (fun h4 => ?_)
      refine Z_iload_n (i := 2) hX d_Fl_passRounds_7 rfl rfl ?_
      refine Z_iconst (v := 2) hX d_Fl_passRounds_8 rfl ?_
      refine Z_iclt (tgt := 19) hX d_Fl_passRounds_9 rfl (fun h9 => ?_) (fun h9 => ?_)
      · refine Z_aload_n (i := 0) hX d_Fl_passRounds_19 rfl rfl ?_
        refine Z_cVv0 hX d_Fl_passRounds_20 (c_Fl_passRound hb hok) m_Fl_passRound (lF hb) rfl lk_Fl_99 ⟨by decide, by decide⟩ ⟨by decide, by decide⟩ (Nat.le_of_ble_eq_true rfl) ?_
        refine Z_iinc (v := nI (i + 1)) hX d_Fl_passRounds_23 rfl (by rw [nI_succ]; rfl) (by decide) rfl ?_
        refine Z_goto (tgt := 2) hX d_Fl_passRounds_26 rfl ?_
        refine Z_loc ?_ (ih (i + 1) _ _ (by omega) (okP_of (fun c hc => fr_ro (by omega)) hok) ?_)
        · rfl
        · rw [← hf]; exact (f_rs_t (Or.inl ((nI_ltI (by omega) (by decide)).mp h9))).symm
      · refine Z_aload_n (i := 0) hX d_Fl_passRounds_12 rfl rfl ?_
        refine Z_getI (k0 := 14) hX d_Fl_passRounds_13 (lF hb) rfl u_Fl (by decide) lk_Fl_57 rfl ?_
        refine Z_ifeq (tgt := 29) hX d_Fl_passRounds_16 rfl (fun h16 => ?_) (fun h16 => ?_)
        · exact Z_mem (by rw [← hf, f_rs_f (fun q => h9 (nI_lt q (by decide))) h16]) (by rw [← hf, f_rs_f (fun q => h9 (nI_lt q (by decide))) h16]) (hR _ _ d_Fl_passRounds_29)
        · refine Z_aload_n (i := 0) hX d_Fl_passRounds_19 rfl rfl ?_
          refine Z_cVv0 hX d_Fl_passRounds_20 (c_Fl_passRound hb hok) m_Fl_passRound (lF hb) rfl lk_Fl_99 ⟨by decide, by decide⟩ ⟨by decide, by decide⟩ (Nat.le_of_ble_eq_true rfl) ?_
          refine Z_iinc (v := nI (i + 1)) hX d_Fl_passRounds_23 rfl (by rw [nI_succ]; rfl) (by decide) rfl ?_
          refine Z_goto (tgt := 2) hX d_Fl_passRounds_26 rfl ?_
          refine Z_loc ?_ (ih (i + 1) _ _ (by omega) (okP_of (fun c hc => fr_ro (by omega)) hok) ?_)
          · rfl
          · rw [← hf]; exact (f_rs_t (Or.inr h16)).symm
  refine Z_loc ?_ (hL2 n 0 I J (by omega) hP rfl)
  rfl
end
section
/-! following, reaching, copying; the clocks and the calm -/
def f_fo (I : zI) (b : Nat) : Nat → Nat → Int32
  | 0, _ => -2
  | k + 1, e => if f_wh I b e = true then (if f_lo I b e = true then (if I 9 (4 * e + (I (b + 16) e).toNatClampNeg) = -1 then nI (4 * e + (I (b + 16) e).toNatClampNeg) else f_fo I b k (pe I (4 * e + (I (b + 16) e).toNatClampNeg) / 4)) else -1) else -1
theorem f_fo_w {I : zI} {b k e : Nat} (h : f_wh I b e = false) : f_fo I b (k + 1) e = -1 := if_neg (by rw [h]; decide)
theorem f_fo_l {I : zI} {b k e : Nat} (h : f_wh I b e = true) (h2 : f_lo I b e = false) : f_fo I b (k + 1) e = -1 := by
  unfold f_fo
  rw [if_pos h, if_neg (by rw [h2]; decide)]
theorem f_fo_s {I : zI} {b k e q : Nat} (h : f_wh I b e = true) (h2 : f_lo I b e = true) (hq : q < 4) (hq2 : I (b + 16) e = nI q) (h3 : I 9 (4 * e + q) = -1) : f_fo I b (k + 1) e = nI (4 * e + q) := by
  have e1 : (I (b + 16) e).toNatClampNeg = q := by rw [hq2, nI_clamp (by omega)]
  unfold f_fo
  rw [e1, if_pos h, if_pos h2, if_pos h3]
theorem f_fo_x {I : zI} {b k e q : Nat} (h : f_wh I b e = true) (h2 : f_lo I b e = true) (hq : q < 4) (hq2 : I (b + 16) e = nI q) (h3 : ¬ I 9 (4 * e + q) = -1) : f_fo I b (k + 1) e = f_fo I b k (pe I (4 * e + q) / 4) := by
  have e1 : (I (b + 16) e).toNatClampNeg = q := by rw [hq2, nI_clamp (by omega)]
  rw [f_fo, e1, if_pos h, if_pos h2, if_neg h3]
def fe (I : zI) (k : Nat) : Nat := (I 15 k).toNatClampNeg
/-- the links: how many, and their ends -/
def okE (I : zI) (m : Nat) : Prop := I 1 14 = nI m ∧ m ≤ 24 ∧ ∀ k, k < m → I 15 k = nI (fe I k) ∧ fe I k < 64 ∧ I 10 (fe I k) = nI (pe I (fe I k)) ∧ pe I (fe I k) < 64
def f_ends (I : zI) (k : Nat) : Int32 := 1 <<< (nI (fe I k / 4) &&& 31) ||| 1 <<< (nI (pe I (fe I k) / 4) &&& 31)
def f_on (I : zI) (b k : Nat) : Bool := f_lw I b (nI k) && f_wh I b (fe I k / 4) && f_wh I b (pe I (fe I k) / 4)
def f_ac (I : zI) (b k : Nat) (r : Int32) : Int32 := if f_on I b k = true then (if r &&& f_ends I k = 0 then 0 else f_ends I k) else 0
def f_wi (I : zI) (b : Nat) (r : Int32) : Nat → Int32
  | 0 => r
  | k + 1 => f_wi I b r k ||| f_ac I b k r
def f_rf (I : zI) (b m : Nat) : Nat → Int32 → Int32
  | 0, r => r
  | k + 1, r => if f_wi I b r m = r then r else f_rf I b m k (f_wi I b r m)
def f_bs (I : zI) (r : Int32) : Nat → Int32
  | 0 => 7
  | i + 1 => if f_bit r (nI (i / 4)) = 1 then (if p_so I i = true then (if I 11 i < f_bs I r i then I 11 i else f_bs I r i) else f_bs I r i) else f_bs I r i
def f_rch (I : zI) (b m e : Nat) : Int32 := f_rf I b m 16 (1 <<< (nI e &&& 31))
def f_br (I : zI) (b m e : Nat) : Int32 := if f_wh I b e = true then f_bs I (f_rch I b m e) 64 else 7
def f_st (I : zI) (b m e : Nat) : Bool := f_wh I b e && !f_lo I b e && decide (¬ 7 ≤ f_br I b m e)
def w_cp (I : zI) (w' w : Nat) : zI := zcp (zcp (zcp I (w' + 1) (w + 1) 64) (w' + 2) (w + 2) 64) (w' + 3) (w + 3) 64
def f_cpA (I : zI) (a b : Nat) : zI := zcp (zcp (zcp (zcp (zcp (zcp (w_cp (w_cp I (a + 1) (b + 1)) (a + 5) (b + 5)) (a + 13) (b + 13) 64) (a + 14) (b + 14) 64) (a + 15) (b + 15) 16) (a + 16) (b + 16) 16) (a + 17) (b + 17) 16) (a + 18) (b + 18) 16
def f_cpu (I : zI) (a b k : Nat) : zI := zup I b k (I a k)
def f_cp (I : zI) (a b : Nat) : zI := f_cpu (f_cpu (f_cpu (f_cpA I a b) a b 10) a b 11) a b 12
def f_cpJ (J : zJ) (a b : Nat) : zJ := zupL J b 13 (J a 13)
def k_off (I : zI) (e : Nat) : Int32 := if f_lo I 16 e = true then (if I 9 (4 * e + (I 32 e).toNatClampNeg) = -1 then I 12 (4 * e + (I 32 e).toNatClampNeg) else I 56 (pe I (4 * e + (I 32 e).toNatClampNeg) / 4)) else (if I 31 e = 2 then I 55 e + I 5 e else I 4 e)
theorem k_off_s {I : zI} {e q : Nat} (h2 : f_lo I 16 e = true) (hq : q < 4) (hq2 : I 32 e = nI q) (h3 : I 9 (4 * e + q) = -1) : k_off I e = I 12 (4 * e + q) := by
  have e1 : (I 32 e).toNatClampNeg = q := by rw [hq2, nI_clamp (by omega)]
  unfold k_off
  rw [e1, if_pos h2, if_pos h3]
theorem k_off_x {I : zI} {e q : Nat} (h2 : f_lo I 16 e = true) (hq : q < 4) (hq2 : I 32 e = nI q) (h3 : ¬ I 9 (4 * e + q) = -1) : k_off I e = I 56 (pe I (4 * e + q) / 4) := by
  have e1 : (I 32 e).toNatClampNeg = q := by rw [hq2, nI_clamp (by omega)]
  unfold k_off
  rw [e1, if_pos h2, if_neg h3]
theorem k_off_h {I : zI} {e : Nat} (h2 : f_lo I 16 e = false) (h3 : I 31 e = 2) : k_off I e = I 55 e + I 5 e := by
  unfold k_off
  rw [if_neg (by rw [h2]; decide), if_pos h3]
theorem k_off_f {I : zI} {e : Nat} (h2 : f_lo I 16 e = false) (h3 : ¬ I 31 e = 2) : k_off I e = I 4 e := by
  unfold k_off
  rw [if_neg (by rw [h2]; decide), if_neg h3]
def k_n (I : zI) : Nat → zI
  | 0 => I
  | e + 1 => zup (k_n I e) 57 e (if f_wh (k_n I e) 16 e = true then k_off (k_n I e) e else k_n I e 55 e)
theorem fr_kn {I : zI} {c : Nat} (hc : c ≠ 57) : ∀ e, k_n I e c = I c
  | 0 => rfl
  | e + 1 => by
    unfold k_n
    rw [zup_ne hc, fr_kn hc e]
def k_s1 (I : zI) (e : Nat) : zI := zup (zup I 56 e (I 55 e)) 55 e (zup I 56 e (I 55 e) 57 e)
def k_s (I : zI) : Nat → zI
  | 0 => I
  | e + 1 => k_s1 (k_s I e) e
def k_sJ (I : zI) (J : zJ) : Nat → zJ
  | 0 => J
  | e + 1 => if f_wh (k_s I (e + 1)) 16 e = true then zupL (k_sJ I J e) 58 e (k_sJ I J e 58 e + (k_s I (e + 1) 55 e).toInt64) else k_sJ I J e
def k_ro (I : zI) : zI := k_s (k_n I 16) 16
def k_roJ (I : zI) (J : zJ) : zJ := k_sJ (k_n I 16) J 16
def l_1 (I : zI) (e : Nat) : zI := zup (zup I 60 e (f_sc I 16 e)) 61 e (zup I 60 e (f_sc I 16 e) 32 e)
def l_m (I : zI) : Nat → zI
  | 0 => I
  | e + 1 => l_1 (l_m I e) e
def l_s (I : zI) : Nat → Bool
  | 0 => true
  | e + 1 => l_s I e && decide (l_m I e 60 e = f_sc (l_m I e) 16 e) && decide (l_m I e 61 e = l_m I e 32 e)
def l_ro (I : zI) : zI := zup (l_m I 16) 59 2 (if l_s I 16 = true then l_m I 16 59 2 + 1 else 0)
set_option maxRecDepth 100000 in
set_option maxHeartbeats 4000000 in
theorem c_Fl_follow {la : Launch} {G : zG} {I : zI} {J : zJ} {b : Nat} (hb : b = 16 ∨ b = 35) {e : Nat} (he : e < 16) (hL : okL I) (hK : ∀ e, e < 16 → okK I b e) : zCi la G y_Fl_follow (Cond.code y_Fl_follow prog_4_method_24_code 5 (some .int) :: TBL) (zR 2) [.ref (zad G b), .int (nI e)] I J (f_fo I b 16 e) (I) (J) := by
  refine zCi_of (by decide) (by simp [lg_sl, Value.category]) (rfl) (fun X hla hX hR => ?_)
  subst hla
  refine Z_loc (l' := [(0, .ref (zad G b)), (1, .int (nI e))]) (by simp [lv_args, Value.category, List.lookup]) ?_
  refine Z_iload_n (i := 1) hX d_Fl_follow_0 rfl rfl ?_
  refine Z_istore_n (i := 2) hX d_Fl_follow_1 rfl (by decide) rfl ?_
  refine Z_iconst (v := nI 0) hX d_Fl_follow_2 rfl ?_
  refine Z_istore_n (i := 3) hX d_Fl_follow_3 rfl (by decide) rfl ?_
  have hL4 : ∀ (k i e' : Nat), k + i = 16 → e' < 16 → f_fo I b k e' = f_fo I b 16 e → Z X G 5 0 0 4 [(3, .int (nI i)), (2, .int (nI e')), (1, .int (nI e)), (0, .ref (zad G b))] [] I J := by
    intro k
    induction k with
    | zero =>
      intro i e' hi he' hf
      obtain rfl : i = 16 := by omega
      refine Z_iload_n (i := 3) hX d_Fl_follow_4 rfl rfl ?_
      refine Z_bipush (v := 16) hX d_Fl_follow_5 rfl ?_
      refine Z_icge (tgt := 77) hX d_Fl_follow_7 rfl (fun h7 => ?_) (fun h => absurd (by decide) h)
      refine Z_bipush (v := (-2)) hX d_Fl_follow_77 rfl ?_
      exact Z_ri (hR _ _ d_Fl_follow_79) (by rw [← hf]; rfl) rfl rfl
    | succ k ih =>
      intro i e' hi he' hf
      have hi2 : i < 16 := by omega
      refine Z_iload_n (i := 3) hX d_Fl_follow_4 rfl rfl ?_
      refine Z_bipush (v := 16) hX d_Fl_follow_5 rfl ?_
      refine Z_icge (tgt := 77) hX d_Fl_follow_7 rfl (fun h => absurd h (nI_ge hi2 (by decide))) (fun h7 => ?_)
      refine Z_aload_n (i := 0) hX d_Fl_follow_10 rfl rfl ?_
      refine Z_iload_n (i := 2) hX d_Fl_follow_11 rfl rfl ?_
      refine Z_cVi1 hX d_Fl_follow_12 (c_Fl_isWhole hb (by omega)) m_Fl_isWhole (lF hb) rfl lk_Fl_102 ⟨by decide, by decide⟩ ⟨by decide, by decide⟩ (Nat.le_of_ble_eq_true rfl) ?_
      refine Z_ifeqB (tgt := 26) hX d_Fl_follow_15 rfl (fun h15 => ?_) (fun h15 => ?_)
      · refine Z_iconst (v := (-1)) hX d_Fl_follow_26 rfl ?_
        exact Z_ri (hR _ _ d_Fl_follow_27) (by rw [← hf]; exact (f_fo_w h15).symm) rfl rfl
      · refine Z_aload_n (i := 0) hX d_Fl_follow_18 rfl rfl ?_
        refine Z_iload_n (i := 2) hX d_Fl_follow_19 rfl rfl ?_
        refine Z_cVi1 hX d_Fl_follow_20 (c_Fl_isLocked hb (by omega)) m_Fl_isLocked (lF hb) rfl lk_Fl_196 ⟨by decide, by decide⟩ ⟨by decide, by decide⟩ (Nat.le_of_ble_eq_true rfl) ?_
        refine Z_ifneB (tgt := 28) hX d_Fl_follow_23 rfl (fun h23 => ?_) (fun h23 => ?_)
        · obtain ⟨q9, hk, hk2⟩ := hK e' he' h23
          refine Z_iload_n (i := 2) hX d_Fl_follow_28 rfl rfl ?_
          refine Z_aload_n (i := 0) hX d_Fl_follow_29 rfl rfl ?_
          refine Z_getR (k0 := 7) hX d_Fl_follow_30 (lF hb) rfl u_Fl (by decide) lk_Fl_34 rfl ?_
          refine Z_iload_n (i := 2) hX d_Fl_follow_33 rfl rfl ?_
          refine Z_iald hX d_Fl_follow_34 (lF16 hb) rfl (by omega) (by decide) ?_
          refine Z_top hk2 ?_
          refine Z_cNi2 hX d_Fl_follow_35 c_CT_slotOf m_CT_slotOf ne_Fl_91 ⟨by decide, by decide⟩ ⟨by decide, by decide⟩ (Nat.le_of_ble_eq_true rfl) ?_
          refine Z_istore hX d_Fl_follow_38 (by decide) rfl ?_
          refine Z_aload_n (i := 0) hX d_Fl_follow_40 rfl rfl ?_
          refine Z_getR (k0 := 0) hX d_Fl_follow_41 (lF hb) rfl u_Fl (by decide) lk_Fl_61 rfl ?_
          refine Z_getR (k0 := 7) hX d_Fl_follow_44 rfl rfl u_Pl (by decide) lk_Fl_115 rfl ?_
          refine Z_iload hX d_Fl_follow_47 rfl ?_
          refine Z_iald hX d_Fl_follow_49 rfl rfl (by omega) (by decide) ?_
          refine Z_iconst (v := (-1)) hX d_Fl_follow_50 rfl ?_
          refine Z_icne (tgt := 57) hX d_Fl_follow_51 rfl (fun h51 => ?_) (fun h51 => ?_)
          · have hq := okL_pe hL (by omega) h51
            refine Z_aload_n (i := 0) hX d_Fl_follow_57 rfl rfl ?_
            refine Z_getR (k0 := 0) hX d_Fl_follow_58 (lF hb) rfl u_Fl (by decide) lk_Fl_61 rfl ?_
            refine Z_getR (k0 := 8) hX d_Fl_follow_61 rfl rfl u_Pl (by decide) lk_Fl_128 rfl ?_
            refine Z_iload hX d_Fl_follow_64 rfl ?_
            refine Z_iald hX d_Fl_follow_66 rfl rfl (by omega) (by decide) ?_
            refine Z_top hq.1 ?_
            refine Z_cNi1 hX d_Fl_follow_67 (c_CT_elementOf (by omega)) m_CT_elementOf ne_Fl_152 ⟨by decide, by decide⟩ ⟨by decide, by decide⟩ (Nat.le_of_ble_eq_true rfl) ?_
            refine Z_istore_n (i := 2) hX d_Fl_follow_70 rfl (by decide) rfl ?_
            refine Z_iinc (v := nI (i + 1)) hX d_Fl_follow_71 rfl (by rw [nI_succ]; rfl) (by decide) rfl ?_
            refine Z_goto (tgt := 4) hX d_Fl_follow_74 rfl ?_
            refine Z_loc ?_ (ih (i + 1) (pe I (4 * e' + q9) / 4) (by omega) ?_ ?_)
            · rfl
            · omega
            · rw [← hf]; exact (f_fo_x h15 h23 hk hk2 h51).symm
          · refine Z_iload hX d_Fl_follow_54 rfl ?_
            exact Z_ri (hR _ _ d_Fl_follow_56) (by rw [← hf]; exact (f_fo_s h15 h23 hk hk2 h51).symm) rfl rfl
        · refine Z_iconst (v := (-1)) hX d_Fl_follow_26 rfl ?_
          exact Z_ri (hR _ _ d_Fl_follow_27) (by rw [← hf]; exact (f_fo_l h15 h23).symm) rfl rfl
  refine Z_loc ?_ (hL4 16 0 e (by omega) he rfl)
  rfl

set_option maxRecDepth 100000 in
set_option maxHeartbeats 4000000 in
theorem c_Fl_across {la : Launch} {G : zG} {I : zI} {J : zJ} {b : Nat} (hb : b = 16 ∨ b = 35) {k m : Nat} {r : Int32} (hE : okE I m) (hk : k < m) : zCi la G y_Fl_across (Cond.code y_Fl_across prog_4_method_27_code 7 (some .int) :: TBL) (zR 2) [.ref (zad G b), .int (nI k), .int r] I J (f_ac I b k r) (I) (J) := by
  refine zCi_of (by decide) (by simp [lg_sl, Value.category]) (rfl) (fun X hla hX hR => ?_)
  subst hla
  refine Z_loc (l' := [(0, .ref (zad G b)), (1, .int (nI k)), (2, .int r)]) (by simp [lv_args, Value.category, List.lookup]) ?_
  have hm := hE.2.1
  obtain ⟨h15, h15b, h10, h10b⟩ := hE.2.2 k hk
  refine Z_aload_n (i := 0) hX d_Fl_across_0 rfl rfl ?_
  refine Z_getR (k0 := 0) hX d_Fl_across_1 (lF hb) rfl u_Fl (by decide) lk_Fl_61 rfl ?_
  refine Z_getR (k0 := 13) hX d_Fl_across_4 rfl rfl u_Pl (by decide) lk_Fl_209 rfl ?_
  refine Z_iload_n (i := 1) hX d_Fl_across_7 rfl rfl ?_
  refine Z_iald hX d_Fl_across_8 rfl rfl (by omega) (by decide) ?_
  refine Z_top h15 ?_
  refine Z_cNi1 hX d_Fl_across_9 (c_CT_elementOf (by omega)) m_CT_elementOf ne_Fl_152 ⟨by decide, by decide⟩ ⟨by decide, by decide⟩ (Nat.le_of_ble_eq_true rfl) ?_
  refine Z_istore_n (i := 3) hX d_Fl_across_12 rfl (by decide) rfl ?_
  refine Z_aload_n (i := 0) hX d_Fl_across_13 rfl rfl ?_
  refine Z_getR (k0 := 0) hX d_Fl_across_14 (lF hb) rfl u_Fl (by decide) lk_Fl_61 rfl ?_
  refine Z_getR (k0 := 8) hX d_Fl_across_17 rfl rfl u_Pl (by decide) lk_Fl_128 rfl ?_
  refine Z_aload_n (i := 0) hX d_Fl_across_20 rfl rfl ?_
  refine Z_getR (k0 := 0) hX d_Fl_across_21 (lF hb) rfl u_Fl (by decide) lk_Fl_61 rfl ?_
  refine Z_getR (k0 := 13) hX d_Fl_across_24 rfl rfl u_Pl (by decide) lk_Fl_209 rfl ?_
  refine Z_iload_n (i := 1) hX d_Fl_across_27 rfl rfl ?_
  refine Z_iald hX d_Fl_across_28 rfl rfl (by omega) (by decide) ?_
  refine Z_top h15 ?_
  refine Z_iald hX d_Fl_across_29 rfl rfl (by omega) (by decide) ?_
  refine Z_top h10 ?_
  refine Z_cNi1 hX d_Fl_across_30 (c_CT_elementOf (by omega)) m_CT_elementOf ne_Fl_152 ⟨by decide, by decide⟩ ⟨by decide, by decide⟩ (Nat.le_of_ble_eq_true rfl) ?_
  refine Z_istore hX d_Fl_across_33 (by decide) rfl ?_
  refine Z_cut (pc' := 65) (P := fun v => v = zB (f_on I b k)) ?_ (fun hJ65 => ?_)
  · intro v hv65
    subst hv65
    refine Z_istore hX d_Fl_across_65 (by decide) rfl ?_
    refine Z_iconst (v := 1) hX d_Fl_across_67 rfl ?_
    refine Z_iload_n (i := 3) hX d_Fl_across_68 rfl rfl ?_
    refine Z_ishl hX d_Fl_across_69 ?_
    refine Z_iconst (v := 1) hX d_Fl_across_70 rfl ?_
    refine Z_iload hX d_Fl_across_71 rfl ?_
    refine Z_ishl hX d_Fl_across_73 ?_
    refine Z_ior hX d_Fl_across_74 ?_
    refine Z_istore hX d_Fl_across_75 (by decide) rfl ?_
    refine Z_iload hX d_Fl_across_77 rfl ?_
    refine Z_ifeqB (tgt := 94) hX d_Fl_across_79 rfl (fun h79 => ?_) (fun h79 => ?_)
    · refine Z_iconst (v := 0) hX d_Fl_across_94 rfl ?_
      exact Z_ri (hR _ _ d_Fl_across_95) (by exact (if_neg (by rw [h79]; decide)).symm) rfl rfl
    · refine Z_iload_n (i := 2) hX d_Fl_across_82 rfl rfl ?_
      refine Z_iload hX d_Fl_across_83 rfl ?_
      refine Z_iand hX d_Fl_across_85 ?_
      refine Z_ifeq (tgt := 94) hX d_Fl_across_86 rfl (fun h86 => ?_) (fun h86 => ?_)
      · refine Z_iconst (v := 0) hX d_Fl_across_94 rfl ?_
        exact Z_ri (hR _ _ d_Fl_across_95) (by exact ((if_pos h79).trans (if_pos h86)).symm) rfl rfl
      · refine Z_iload hX d_Fl_across_89 rfl ?_
        refine Z_goto (tgt := 95) hX d_Fl_across_91 rfl ?_
        exact Z_ri (hR _ _ d_Fl_across_95) (by exact ((if_pos h79).trans (if_neg h86)).symm) rfl rfl
  · refine Z_aload_n (i := 0) hX d_Fl_across_35 rfl rfl ?_
    refine Z_iload_n (i := 1) hX d_Fl_across_36 rfl rfl ?_
    refine Z_cVi1 hX d_Fl_across_37 (c_Fl_isLinkWhole hb) m_Fl_isLinkWhole (lF hb) rfl lk_Fl_149 ⟨by decide, by decide⟩ ⟨by decide, by decide⟩ (Nat.le_of_ble_eq_true rfl) ?_
    refine Z_ifeqB (tgt := 64) hX d_Fl_across_40 rfl (fun h40 => ?_) (fun h40 => ?_)
    · refine Z_iconst (v := 0) hX d_Fl_across_64 rfl ?_
      exact hJ65 _ (by simp [f_on, zB, *])
    · refine Z_aload_n (i := 0) hX d_Fl_across_43 rfl rfl ?_
      refine Z_iload_n (i := 3) hX d_Fl_across_44 rfl rfl ?_
      refine Z_cVi1 hX d_Fl_across_45 (c_Fl_isWhole hb (by omega)) m_Fl_isWhole (lF hb) rfl lk_Fl_102 ⟨by decide, by decide⟩ ⟨by decide, by decide⟩ (Nat.le_of_ble_eq_true rfl) ?_
      refine Z_ifeqB (tgt := 64) hX d_Fl_across_48 rfl (fun h48 => ?_) (fun h48 => ?_)
      · refine Z_iconst (v := 0) hX d_Fl_across_64 rfl ?_
        exact hJ65 _ (by simp [f_on, zB, *])
      · refine Z_aload_n (i := 0) hX d_Fl_across_51 rfl rfl ?_
        refine Z_iload hX d_Fl_across_52 rfl ?_
        refine Z_cVi1 hX d_Fl_across_54 (c_Fl_isWhole hb (by omega)) m_Fl_isWhole (lF hb) rfl lk_Fl_102 ⟨by decide, by decide⟩ ⟨by decide, by decide⟩ (Nat.le_of_ble_eq_true rfl) ?_
        refine Z_ifeqB (tgt := 64) hX d_Fl_across_57 rfl (fun h57 => ?_) (fun h57 => ?_)
        · refine Z_iconst (v := 0) hX d_Fl_across_64 rfl ?_
          exact hJ65 _ (by simp [f_on, zB, *])
        · refine Z_iconst (v := 1) hX d_Fl_across_60 rfl ?_
          refine Z_goto (tgt := 65) hX d_Fl_across_61 rfl ?_
          exact hJ65 _ (by simp [f_on, zB, *])

set_option maxRecDepth 100000 in
set_option maxHeartbeats 4000000 in
theorem c_Fl_reachedFrom {la : Launch} {G : zG} {I : zI} {J : zJ} {b : Nat} (hb : b = 16 ∨ b = 35) {e m : Nat} (he : e < 16) (hE : okE I m) : zCi la G y_Fl_reachedFrom (Cond.code y_Fl_reachedFrom prog_4_method_26_code 6 (some .int) :: TBL) (zR 3) [.ref (zad G b), .int (nI e)] I J (f_rch I b m e) (I) (J) := by
  refine zCi_of (by decide) (by simp [lg_sl, Value.category]) (rfl) (fun X hla hX hR => ?_)
  subst hla
  refine Z_loc (l' := [(0, .ref (zad G b)), (1, .int (nI e))]) (by simp [lv_args, Value.category, List.lookup]) ?_
  refine Z_iconst (v := 1) hX d_Fl_reachedFrom_0 rfl ?_
  refine Z_iload_n (i := 1) hX d_Fl_reachedFrom_1 rfl rfl ?_
  refine Z_ishl hX d_Fl_reachedFrom_2 ?_
  refine Z_istore_n (i := 2) hX d_Fl_reachedFrom_3 rfl (by decide) rfl ?_
  refine Z_iconst (v := nI 0) hX d_Fl_reachedFrom_4 rfl ?_
  refine Z_istore_n (i := 3) hX d_Fl_reachedFrom_5 rfl (by decide) rfl ?_
  have hL6 : ∀ (k i : Nat) (r : Int32), k + i = 16 → f_rf I b m k r = f_rch I b m e → Z X G 6 0 0 6 [(3, .int (nI i)), (2, .int r), (1, .int (nI e)), (0, .ref (zad G b))] [] I J := by
    intro k
    induction k with
    | zero =>
      intro i r hi hf
      obtain rfl : i = 16 := by omega
      refine Z_iload_n (i := 3) hX d_Fl_reachedFrom_6 rfl rfl ?_
      refine Z_bipush (v := 16) hX d_Fl_reachedFrom_7 rfl ?_
      refine Z_icge (tgt := 66) hX d_Fl_reachedFrom_9 rfl (fun h9 => ?_) (fun h => absurd (by decide) h)
      refine Z_iload_n (i := 2) hX d_Fl_reachedFrom_66 rfl rfl ?_
      exact Z_ri (hR _ _ d_Fl_reachedFrom_67) (by exact hf) rfl rfl
    | succ k ih =>
      intro i r hi hf
      have hi3 : i < 16 := by omega
      refine Z_iload_n (i := 3) hX d_Fl_reachedFrom_6 rfl rfl ?_
      refine Z_bipush (v := 16) hX d_Fl_reachedFrom_7 rfl ?_
      refine Z_icge (tgt := 66) hX d_Fl_reachedFrom_9 rfl (fun h => absurd h (nI_ge hi3 (by decide))) (fun h9 => ?_)
      refine Z_iload_n (i := 2) hX d_Fl_reachedFrom_12 rfl rfl ?_
      refine Z_istore hX d_Fl_reachedFrom_13 (by decide) rfl ?_
      refine Z_iconst (v := nI 0) hX d_Fl_reachedFrom_15 rfl ?_
      refine Z_istore hX d_Fl_reachedFrom_16 (by decide) rfl ?_
      have hL18 : ∀ (k2 j : Nat), k2 + j = m → Z X G 6 0 0 18 [(5, .int (nI j)), (4, .int (f_wi I b r j)), (3, .int (nI i)), (2, .int r), (1, .int (nI e)), (0, .ref (zad G b))] [] I J := by
        intro k2
        induction k2 with
        | zero =>
          intro j hj
          obtain rfl : m = j := by omega
          have hm := hE.2.1
          refine Z_iload hX d_Fl_reachedFrom_18 rfl ?_
          refine Z_aload_n (i := 0) hX d_Fl_reachedFrom_20 rfl rfl ?_
          refine Z_getR (k0 := 0) hX d_Fl_reachedFrom_21 (lF hb) rfl u_Fl (by decide) lk_Fl_61 rfl ?_
          refine Z_getI (k0 := 14) hX d_Fl_reachedFrom_24 rfl rfl u_Pl (by decide) lk_Fl_203 rfl ?_
          refine Z_top hE.1 ?_
          refine Z_icge (tgt := 48) hX d_Fl_reachedFrom_27 rfl (fun h27 => ?_) (fun h => absurd (nI_le (Nat.le_refl _) (by omega)) h)
          refine Z_iload hX d_Fl_reachedFrom_48 rfl ?_
          refine Z_iload_n (i := 2) hX d_Fl_reachedFrom_50 rfl rfl ?_
          refine Z_icne (tgt := 57) hX d_Fl_reachedFrom_51 rfl (fun h51 => ?_) (fun h51 => ?_)
          · refine Z_iload hX d_Fl_reachedFrom_57 rfl ?_
            refine Z_istore_n (i := 2) hX d_Fl_reachedFrom_59 rfl (by decide) rfl ?_
            refine Z_iinc (v := nI (i + 1)) hX d_Fl_reachedFrom_60 rfl (by rw [nI_succ]; rfl) (by decide) rfl ?_
            refine Z_goto (tgt := 6) hX d_Fl_reachedFrom_63 rfl ?_
            refine Z_loc ?_ (ih (i + 1) (f_wi I b r m) (by omega) ?_)
            · rfl
            · rw [← hf]; exact (if_neg h51).symm
          · refine Z_goto (tgt := 66) hX d_Fl_reachedFrom_54 rfl ?_
            refine Z_iload_n (i := 2) hX d_Fl_reachedFrom_66 rfl rfl ?_
            exact Z_ri (hR _ _ d_Fl_reachedFrom_67) (by rw [← hf]; exact (if_pos h51).symm) rfl rfl
        | succ k2 ih2 =>
          intro j hj
          have hm := hE.2.1
          have hi2 : j < m := by omega
          refine Z_iload hX d_Fl_reachedFrom_18 rfl ?_
          refine Z_aload_n (i := 0) hX d_Fl_reachedFrom_20 rfl rfl ?_
          refine Z_getR (k0 := 0) hX d_Fl_reachedFrom_21 (lF hb) rfl u_Fl (by decide) lk_Fl_61 rfl ?_
          refine Z_getI (k0 := 14) hX d_Fl_reachedFrom_24 rfl rfl u_Pl (by decide) lk_Fl_203 rfl ?_
          refine Z_top hE.1 ?_
          refine Z_icge (tgt := 48) hX d_Fl_reachedFrom_27 rfl (fun h => absurd h (nI_ge hi2 (by omega))) (fun h27 => ?_)
          refine Z_iload hX d_Fl_reachedFrom_30 rfl ?_
          refine Z_aload_n (i := 0) hX d_Fl_reachedFrom_32 rfl rfl ?_
          refine Z_iload hX d_Fl_reachedFrom_33 rfl ?_
          refine Z_iload_n (i := 2) hX d_Fl_reachedFrom_35 rfl rfl ?_
          refine Z_cVi2 hX d_Fl_reachedFrom_36 (c_Fl_across hb hE hi2) m_Fl_across (lF hb) rfl lk_Fl_206 ⟨by decide, by decide⟩ ⟨by decide, by decide⟩ (Nat.le_of_ble_eq_true rfl) ?_
          refine Z_ior hX d_Fl_reachedFrom_39 ?_
          refine Z_istore hX d_Fl_reachedFrom_40 (by decide) rfl ?_
          refine Z_iinc (v := nI (j + 1)) hX d_Fl_reachedFrom_42 rfl (by rw [nI_succ]; rfl) (by decide) rfl ?_
          refine Z_goto (tgt := 18) hX d_Fl_reachedFrom_45 rfl ?_
          refine Z_loc ?_ (ih2 (j + 1) (by omega))
          rfl
      refine Z_loc ?_ (hL18 m 0 (by omega))
      rfl
  refine Z_loc ?_ (hL6 16 0 _ (by omega) rfl)
  rfl

set_option maxRecDepth 100000 in
set_option maxHeartbeats 4000000 in
theorem c_Fl_bestReached {la : Launch} {G : zG} {I : zI} {J : zJ} {b : Nat} (hb : b = 16 ∨ b = 35) {e m : Nat} (he : e < 16) (hE : okE I m) : zCi la G y_Fl_bestReached (Cond.code y_Fl_bestReached prog_4_method_25_code 5 (some .int) :: TBL) (zR 4) [.ref (zad G b), .int (nI e)] I J (f_br I b m e) (I) (J) := by
  refine zCi_of (by decide) (by simp [lg_sl, Value.category]) (rfl) (fun X hla hX hR => ?_)
  subst hla
  refine Z_loc (l' := [(0, .ref (zad G b)), (1, .int (nI e))]) (by simp [lv_args, Value.category, List.lookup]) ?_
  refine Z_aload_n (i := 0) hX d_Fl_bestReached_0 rfl rfl ?_
  refine Z_iload_n (i := 1) hX d_Fl_bestReached_1 rfl rfl ?_
  refine Z_cVi1 hX d_Fl_bestReached_2 (c_Fl_isWhole hb (by omega)) m_Fl_isWhole (lF hb) rfl lk_Fl_102 ⟨by decide, by decide⟩ ⟨by decide, by decide⟩ (Nat.le_of_ble_eq_true rfl) ?_
  refine Z_ifneB (tgt := 11) hX d_Fl_bestReached_5 rfl (fun h5 => ?_) (fun h5 => ?_)
  · refine Z_aload_n (i := 0) hX d_Fl_bestReached_11 rfl rfl ?_
    refine Z_iload_n (i := 1) hX d_Fl_bestReached_12 rfl rfl ?_
    refine Z_cVi1 hX d_Fl_bestReached_13 (c_Fl_reachedFrom hb (by omega) hE) m_Fl_reachedFrom (lF hb) rfl lk_Fl_200 ⟨by decide, by decide⟩ ⟨by decide, by decide⟩ (Nat.le_of_ble_eq_true rfl) ?_
    refine Z_istore_n (i := 2) hX d_Fl_bestReached_16 rfl (by decide) rfl ?_
    refine Z_bipush (v := 7) hX d_Fl_bestReached_17 rfl ?_
    refine Z_istore_n (i := 3) hX d_Fl_bestReached_19 rfl (by decide) rfl ?_
    refine Z_iconst (v := nI 0) hX d_Fl_bestReached_20 rfl ?_
    refine Z_istore hX d_Fl_bestReached_21 (by decide) rfl ?_
    have hL23 : ∀ k i : Nat, k + i = 64 → Z X G 5 0 0 23 [(4, .int (nI i)), (3, .int (f_bs I (f_rch I b m e) i)), (2, .int (f_rch I b m e)), (1, .int (nI e)), (0, .ref (zad G b))] [] (I) (J) := by
      intro k
      induction k with
      | zero =>
        intro i hi
        obtain rfl : i = 64 := by omega
        refine Z_iload hX d_Fl_bestReached_23 rfl ?_
        refine Z_bipush (v := 64) hX d_Fl_bestReached_25 rfl ?_
        refine Z_icge (tgt := 76) hX d_Fl_bestReached_27 rfl (fun h27 => ?_) (fun h => absurd (by decide) h)
        refine Z_iload_n (i := 3) hX d_Fl_bestReached_76 rfl rfl ?_
        exact Z_ri (hR _ _ d_Fl_bestReached_77) (by exact (if_pos h5).symm) rfl rfl
      | succ k ih =>
        intro i hi
        have hi2 : i < 64 := by omega
        refine Z_iload hX d_Fl_bestReached_23 rfl ?_
        refine Z_bipush (v := 64) hX d_Fl_bestReached_25 rfl ?_
        refine Z_icge (tgt := 76) hX d_Fl_bestReached_27 rfl (fun h => absurd h (nI_ge hi2 (by decide))) (fun h27 => ?_)
        refine Z_iload_n (i := 2) hX d_Fl_bestReached_30 rfl rfl ?_
        refine Z_iload hX d_Fl_bestReached_31 rfl ?_
        refine Z_cNi1 hX d_Fl_bestReached_33 (c_CT_elementOf (by omega)) m_CT_elementOf ne_Fl_152 ⟨by decide, by decide⟩ ⟨by decide, by decide⟩ (Nat.le_of_ble_eq_true rfl) ?_
        refine Z_ishr hX d_Fl_bestReached_36 ?_
        refine Z_iconst (v := 1) hX d_Fl_bestReached_37 rfl ?_
        refine Z_iand hX d_Fl_bestReached_38 ?_
        refine Z_iconst (v := 1) hX d_Fl_bestReached_39 rfl ?_
        refine Z_icne (tgt := 70) hX d_Fl_bestReached_40 rfl (fun h40 => ?_) (fun h40 => ?_)
        · refine Z_iinc (v := nI (i + 1)) hX d_Fl_bestReached_70 rfl (by rw [nI_succ]; rfl) (by decide) rfl ?_
          refine Z_goto (tgt := 23) hX d_Fl_bestReached_73 rfl ?_
          refine Z_loc ?_ (Z_mem ?_ ?_ (ih (i + 1) (by omega)))
          · (rw [show f_bs I (f_rch I b m e) (i + 1) = f_bs I (f_rch I b m e) i from if_neg h40]; rfl)
          · rfl
          · rfl
        · refine Z_aload_n (i := 0) hX d_Fl_bestReached_43 rfl rfl ?_
          refine Z_getR (k0 := 0) hX d_Fl_bestReached_44 (lF hb) rfl u_Fl (by decide) lk_Fl_61 rfl ?_
          refine Z_iload hX d_Fl_bestReached_47 rfl ?_
          refine Z_cVi1 hX d_Fl_bestReached_49 (c_Pl_hasSource (by omega)) m_Pl_hasSource rfl rfl lk_Fl_156 ⟨by decide, by decide⟩ ⟨by decide, by decide⟩ (Nat.le_of_ble_eq_true rfl) ?_
          refine Z_ifeqB (tgt := 70) hX d_Fl_bestReached_52 rfl (fun h52 => ?_) (fun h52 => ?_)
          · refine Z_iinc (v := nI (i + 1)) hX d_Fl_bestReached_70 rfl (by rw [nI_succ]; rfl) (by decide) rfl ?_
            refine Z_goto (tgt := 23) hX d_Fl_bestReached_73 rfl ?_
            refine Z_loc ?_ (Z_mem ?_ ?_ (ih (i + 1) (by omega)))
            · (rw [show f_bs I (f_rch I b m e) (i + 1) = f_bs I (f_rch I b m e) i from (if_pos h40).trans (if_neg (by rw [h52]; decide))]; rfl)
            · rfl
            · rfl
          · refine Z_iload_n (i := 3) hX d_Fl_bestReached_55 rfl rfl ?_
            refine Z_aload_n (i := 0) hX d_Fl_bestReached_56 rfl rfl ?_
            refine Z_getR (k0 := 0) hX d_Fl_bestReached_57 (lF hb) rfl u_Fl (by decide) lk_Fl_61 rfl ?_
            refine Z_getR (k0 := 9) hX d_Fl_bestReached_60 rfl rfl u_Pl (by decide) lk_Fl_159 rfl ?_
            refine Z_iload hX d_Fl_bestReached_63 rfl ?_
            refine Z_iald hX d_Fl_bestReached_65 rfl rfl (by omega) (by decide) ?_
            refine Z_min hX d_Fl_bestReached_66 lk_Fl_131 m_min.1 m_min.2.1 m_min.2.2 (by decide) (Nat.le_of_ble_eq_true rfl) (by decide) (by decide) ?_
            refine Z_istore_n (i := 3) hX d_Fl_bestReached_69 rfl (by decide) rfl ?_
            refine Z_iinc (v := nI (i + 1)) hX d_Fl_bestReached_70 rfl (by rw [nI_succ]; rfl) (by decide) rfl ?_
            refine Z_goto (tgt := 23) hX d_Fl_bestReached_73 rfl ?_
            refine Z_loc ?_ (Z_mem ?_ ?_ (ih (i + 1) (by omega)))
            · (rw [show f_bs I (f_rch I b m e) (i + 1) = _ from (if_pos h40).trans (if_pos h52)]; rfl)
            · rfl
            · rfl
    refine Z_loc ?_ (Z_mem ?_ ?_ (hL23 64 0 (by omega)))
    · rfl
    · rfl
    · rfl
  · refine Z_bipush (v := 7) hX d_Fl_bestReached_8 rfl ?_
    exact Z_ri (hR _ _ d_Fl_bestReached_10) (by exact (if_neg (by rw [h5]; decide)).symm) rfl rfl

set_option maxRecDepth 100000 in
set_option maxHeartbeats 4000000 in
theorem c_Fl_isStarved {la : Launch} {G : zG} {I : zI} {J : zJ} {b : Nat} (hb : b = 16 ∨ b = 35) {e m : Nat} (he : e < 16) (hE : okE I m) : zCi la G y_Fl_isStarved (Cond.code y_Fl_isStarved prog_4_method_28_code 2 (some .boolean) :: TBL) (zR 5) [.ref (zad G b), .int (nI e)] I J (zB (f_st I b m e)) (I) (J) := by
  refine zCi_of (by decide) (by simp [lg_sl, Value.category]) (zB_nar _) (fun X hla hX hR => ?_)
  subst hla
  refine Z_loc (l' := [(0, .ref (zad G b)), (1, .int (nI e))]) (by simp [lv_args, Value.category, List.lookup]) ?_
  refine Z_aload_n (i := 0) hX d_Fl_isStarved_0 rfl rfl ?_
  refine Z_iload_n (i := 1) hX d_Fl_isStarved_1 rfl rfl ?_
  refine Z_cVi1 hX d_Fl_isStarved_2 (c_Fl_isWhole hb (by omega)) m_Fl_isWhole (lF hb) rfl lk_Fl_102 ⟨by decide, by decide⟩ ⟨by decide, by decide⟩ (Nat.le_of_ble_eq_true rfl) ?_
  refine Z_ifeqB (tgt := 30) hX d_Fl_isStarved_5 rfl (fun h5 => ?_) (fun h5 => ?_)
  · refine Z_iconst (v := 0) hX d_Fl_isStarved_30 rfl ?_
    exact Z_ri (hR _ _ d_Fl_isStarved_31) (by simp [f_st, zB, *]) rfl rfl
  · refine Z_aload_n (i := 0) hX d_Fl_isStarved_8 rfl rfl ?_
    refine Z_iload_n (i := 1) hX d_Fl_isStarved_9 rfl rfl ?_
    refine Z_cVi1 hX d_Fl_isStarved_10 (c_Fl_isLocked hb (by omega)) m_Fl_isLocked (lF hb) rfl lk_Fl_196 ⟨by decide, by decide⟩ ⟨by decide, by decide⟩ (Nat.le_of_ble_eq_true rfl) ?_
    refine Z_ifneB (tgt := 30) hX d_Fl_isStarved_13 rfl (fun h13 => ?_) (fun h13 => ?_)
    · refine Z_iconst (v := 0) hX d_Fl_isStarved_30 rfl ?_
      exact Z_ri (hR _ _ d_Fl_isStarved_31) (by simp [f_st, zB, *]) rfl rfl
    · refine Z_aload_n (i := 0) hX d_Fl_isStarved_16 rfl rfl ?_
      refine Z_iload_n (i := 1) hX d_Fl_isStarved_17 rfl rfl ?_
      refine Z_cVi1 hX d_Fl_isStarved_18 (c_Fl_bestReached hb (by omega) hE) m_Fl_bestReached (lF hb) rfl lk_Fl_212 ⟨by decide, by decide⟩ ⟨by decide, by decide⟩ (Nat.le_of_ble_eq_true rfl) ?_
      refine Z_bipush (v := 7) hX d_Fl_isStarved_21 rfl ?_
      refine Z_icge (tgt := 30) hX d_Fl_isStarved_23 rfl (fun h23 => ?_) (fun h23 => ?_)
      · refine Z_iconst (v := 0) hX d_Fl_isStarved_30 rfl ?_
        exact Z_ri (hR _ _ d_Fl_isStarved_31) (by simp [f_st, zB, *]) rfl rfl
      · refine Z_iconst (v := 1) hX d_Fl_isStarved_26 rfl ?_
        refine Z_goto (tgt := 31) hX d_Fl_isStarved_27 rfl ?_
        exact Z_ri (hR _ _ d_Fl_isStarved_31) (by simp [f_st, zB, *]) rfl rfl

set_option maxRecDepth 100000 in
set_option maxHeartbeats 4000000 in
theorem c_Wo_copy {la : Launch} {G : zG} {I : zI} {J : zJ} {w : Nat} (hw : isW w) {w' : Nat} (hw2 : isW w') : zCv la G y_Wo_copy (Cond.code y_Wo_copy prog_6_method_4_code 2 none :: TBL) (zR 1) [.ref (zad G w), .ref (zad G w')] I J (w_cp I w' w) (J) := by
  refine zCv_of (by decide) (by simp [lg_sl, Value.category]) (fun X hla hX hR => ?_)
  subst hla
  refine Z_loc (l' := [(0, .ref (zad G w)), (1, .ref (zad G w'))]) (by simp [lv_args, Value.category, List.lookup]) ?_
  refine Z_aload_n (i := 1) hX d_Wo_copy_0 rfl rfl ?_
  refine Z_getR (k0 := 0) hX d_Wo_copy_1 (lW hw2) rfl u_Wo (by decide) lk_Wo_9 rfl ?_
  refine Z_iconst (v := 0) hX d_Wo_copy_4 rfl ?_
  refine Z_aload_n (i := 0) hX d_Wo_copy_5 rfl rfl ?_
  refine Z_getR (k0 := 0) hX d_Wo_copy_6 (lW hw) rfl u_Wo (by decide) lk_Wo_9 rfl ?_
  refine Z_iconst (v := 0) hX d_Wo_copy_9 rfl ?_
  refine Z_bipush (v := 64) hX d_Wo_copy_10 rfl ?_
  refine Z_copy (n := 64) hX d_Wo_copy_12 rfl rfl rfl (by decide) (lW1 hw2) (lW1 hw) lk_Wo_27 m_copy.1 m_copy.2.1 m_copy.2.2 (by decide) (Nat.le_of_ble_eq_true rfl) ?_
  refine Z_aload_n (i := 1) hX d_Wo_copy_15 rfl rfl ?_
  refine Z_getR (k0 := 1) hX d_Wo_copy_16 (lW hw2) rfl u_Wo (by decide) lk_Wo_15 rfl ?_
  refine Z_iconst (v := 0) hX d_Wo_copy_19 rfl ?_
  refine Z_aload_n (i := 0) hX d_Wo_copy_20 rfl rfl ?_
  refine Z_getR (k0 := 1) hX d_Wo_copy_21 (lW hw) rfl u_Wo (by decide) lk_Wo_15 rfl ?_
  refine Z_iconst (v := 0) hX d_Wo_copy_24 rfl ?_
  refine Z_bipush (v := 64) hX d_Wo_copy_25 rfl ?_
  refine Z_copy (n := 64) hX d_Wo_copy_27 rfl rfl rfl (by decide) (lW2 hw2) (lW2 hw) lk_Wo_27 m_copy.1 m_copy.2.1 m_copy.2.2 (by decide) (Nat.le_of_ble_eq_true rfl) ?_
  refine Z_aload_n (i := 1) hX d_Wo_copy_30 rfl rfl ?_
  refine Z_getR (k0 := 2) hX d_Wo_copy_31 (lW hw2) rfl u_Wo (by decide) lk_Wo_18 rfl ?_
  refine Z_iconst (v := 0) hX d_Wo_copy_34 rfl ?_
  refine Z_aload_n (i := 0) hX d_Wo_copy_35 rfl rfl ?_
  refine Z_getR (k0 := 2) hX d_Wo_copy_36 (lW hw) rfl u_Wo (by decide) lk_Wo_18 rfl ?_
  refine Z_iconst (v := 0) hX d_Wo_copy_39 rfl ?_
  refine Z_bipush (v := 64) hX d_Wo_copy_40 rfl ?_
  refine Z_copy (n := 64) hX d_Wo_copy_42 rfl rfl rfl (by decide) (lW3 hw2) (lW3 hw) lk_Wo_27 m_copy.1 m_copy.2.1 m_copy.2.2 (by decide) (Nat.le_of_ble_eq_true rfl) ?_
  exact Z_mem (by rfl) (by rfl) (hR _ _ d_Wo_copy_45)

set_option maxRecDepth 100000 in
set_option maxHeartbeats 4000000 in
theorem c_Fl_copy {la : Launch} {G : zG} {I : zI} {J : zJ} {b : Nat} (hb : b = 16 ∨ b = 35) {a : Nat} (hb2 : a = 16 ∨ a = 35) : zCv la G y_Fl_copy (Cond.code y_Fl_copy prog_4_method_2_code 2 none :: TBL) (zR 2) [.ref (zad G b), .ref (zad G a)] I J (f_cp I a b) (f_cpJ J a b) := by
  refine zCv_of (by decide) (by simp [lg_sl, Value.category]) (fun X hla hX hR => ?_)
  subst hla
  refine Z_loc (l' := [(0, .ref (zad G b)), (1, .ref (zad G a))]) (by simp [lv_args, Value.category, List.lookup]) ?_
  refine Z_aload_n (i := 0) hX d_Fl_copy_0 rfl rfl ?_
  refine Z_getR (k0 := 1) hX d_Fl_copy_1 (lF hb) rfl u_Fl (by decide) lk_Fl_12 rfl ?_
  refine Z_aload_n (i := 1) hX d_Fl_copy_4 rfl rfl ?_
  refine Z_getR (k0 := 1) hX d_Fl_copy_5 (lF hb2) rfl u_Fl (by decide) lk_Fl_12 rfl ?_
  refine Z_cVv1 hX d_Fl_copy_8 (c_Wo_copy (wF1 hb) (wF1 hb2)) m_Wo_copy (lF1 hb) rfl lk_Fl_71 ⟨by decide, by decide⟩ ⟨by decide, by decide⟩ (Nat.le_of_ble_eq_true rfl) ?_
  refine Z_aload_n (i := 0) hX d_Fl_copy_11 rfl rfl ?_
  refine Z_getR (k0 := 2) hX d_Fl_copy_12 (lF hb) rfl u_Fl (by decide) lk_Fl_18 rfl ?_
  refine Z_aload_n (i := 1) hX d_Fl_copy_15 rfl rfl ?_
  refine Z_getR (k0 := 2) hX d_Fl_copy_16 (lF hb2) rfl u_Fl (by decide) lk_Fl_18 rfl ?_
  refine Z_cVv1 hX d_Fl_copy_19 (c_Wo_copy (wF5 hb) (wF5 hb2)) m_Wo_copy (lF5 hb) rfl lk_Fl_71 ⟨by decide, by decide⟩ ⟨by decide, by decide⟩ (Nat.le_of_ble_eq_true rfl) ?_
  refine Z_aload_n (i := 1) hX d_Fl_copy_22 rfl rfl ?_
  refine Z_getR (k0 := 4) hX d_Fl_copy_23 (lF hb2) rfl u_Fl (by decide) lk_Fl_24 rfl ?_
  refine Z_iconst (v := 0) hX d_Fl_copy_26 rfl ?_
  refine Z_aload_n (i := 0) hX d_Fl_copy_27 rfl rfl ?_
  refine Z_getR (k0 := 4) hX d_Fl_copy_28 (lF hb) rfl u_Fl (by decide) lk_Fl_24 rfl ?_
  refine Z_iconst (v := 0) hX d_Fl_copy_31 rfl ?_
  refine Z_bipush (v := 64) hX d_Fl_copy_32 rfl ?_
  refine Z_copy (n := 64) hX d_Fl_copy_34 rfl rfl rfl (by decide) (lF13 hb2) (lF13 hb) lk_Fl_75 m_copy.1 m_copy.2.1 m_copy.2.2 (by decide) (Nat.le_of_ble_eq_true rfl) ?_
  refine Z_aload_n (i := 1) hX d_Fl_copy_37 rfl rfl ?_
  refine Z_getR (k0 := 5) hX d_Fl_copy_38 (lF hb2) rfl u_Fl (by decide) lk_Fl_28 rfl ?_
  refine Z_iconst (v := 0) hX d_Fl_copy_41 rfl ?_
  refine Z_aload_n (i := 0) hX d_Fl_copy_42 rfl rfl ?_
  refine Z_getR (k0 := 5) hX d_Fl_copy_43 (lF hb) rfl u_Fl (by decide) lk_Fl_28 rfl ?_
  refine Z_iconst (v := 0) hX d_Fl_copy_46 rfl ?_
  refine Z_bipush (v := 64) hX d_Fl_copy_47 rfl ?_
  refine Z_copy (n := 64) hX d_Fl_copy_49 rfl rfl rfl (by decide) (lF14 hb2) (lF14 hb) lk_Fl_75 m_copy.1 m_copy.2.1 m_copy.2.2 (by decide) (Nat.le_of_ble_eq_true rfl) ?_
  refine Z_aload_n (i := 1) hX d_Fl_copy_52 rfl rfl ?_
  refine Z_getR (k0 := 6) hX d_Fl_copy_53 (lF hb2) rfl u_Fl (by decide) lk_Fl_31 rfl ?_
  refine Z_iconst (v := 0) hX d_Fl_copy_56 rfl ?_
  refine Z_aload_n (i := 0) hX d_Fl_copy_57 rfl rfl ?_
  refine Z_getR (k0 := 6) hX d_Fl_copy_58 (lF hb) rfl u_Fl (by decide) lk_Fl_31 rfl ?_
  refine Z_iconst (v := 0) hX d_Fl_copy_61 rfl ?_
  refine Z_bipush (v := 16) hX d_Fl_copy_62 rfl ?_
  refine Z_copy (n := 16) hX d_Fl_copy_64 rfl rfl rfl (by decide) (lF15 hb2) (lF15 hb) lk_Fl_75 m_copy.1 m_copy.2.1 m_copy.2.2 (by decide) (Nat.le_of_ble_eq_true rfl) ?_
  refine Z_aload_n (i := 1) hX d_Fl_copy_67 rfl rfl ?_
  refine Z_getR (k0 := 7) hX d_Fl_copy_68 (lF hb2) rfl u_Fl (by decide) lk_Fl_34 rfl ?_
  refine Z_iconst (v := 0) hX d_Fl_copy_71 rfl ?_
  refine Z_aload_n (i := 0) hX d_Fl_copy_72 rfl rfl ?_
  refine Z_getR (k0 := 7) hX d_Fl_copy_73 (lF hb) rfl u_Fl (by decide) lk_Fl_34 rfl ?_
  refine Z_iconst (v := 0) hX d_Fl_copy_76 rfl ?_
  refine Z_bipush (v := 16) hX d_Fl_copy_77 rfl ?_
  refine Z_copy (n := 16) hX d_Fl_copy_79 rfl rfl rfl (by decide) (lF16 hb2) (lF16 hb) lk_Fl_75 m_copy.1 m_copy.2.1 m_copy.2.2 (by decide) (Nat.le_of_ble_eq_true rfl) ?_
  refine Z_aload_n (i := 1) hX d_Fl_copy_82 rfl rfl ?_
  refine Z_getR (k0 := 8) hX d_Fl_copy_83 (lF hb2) rfl u_Fl (by decide) lk_Fl_37 rfl ?_
  refine Z_iconst (v := 0) hX d_Fl_copy_86 rfl ?_
  refine Z_aload_n (i := 0) hX d_Fl_copy_87 rfl rfl ?_
  refine Z_getR (k0 := 8) hX d_Fl_copy_88 (lF hb) rfl u_Fl (by decide) lk_Fl_37 rfl ?_
  refine Z_iconst (v := 0) hX d_Fl_copy_91 rfl ?_
  refine Z_bipush (v := 16) hX d_Fl_copy_92 rfl ?_
  refine Z_copy (n := 16) hX d_Fl_copy_94 rfl rfl rfl (by decide) (lF17 hb2) (lF17 hb) lk_Fl_75 m_copy.1 m_copy.2.1 m_copy.2.2 (by decide) (Nat.le_of_ble_eq_true rfl) ?_
  refine Z_aload_n (i := 1) hX d_Fl_copy_97 rfl rfl ?_
  refine Z_getR (k0 := 9) hX d_Fl_copy_98 (lF hb2) rfl u_Fl (by decide) lk_Fl_40 rfl ?_
  refine Z_iconst (v := 0) hX d_Fl_copy_101 rfl ?_
  refine Z_aload_n (i := 0) hX d_Fl_copy_102 rfl rfl ?_
  refine Z_getR (k0 := 9) hX d_Fl_copy_103 (lF hb) rfl u_Fl (by decide) lk_Fl_40 rfl ?_
  refine Z_iconst (v := 0) hX d_Fl_copy_106 rfl ?_
  refine Z_bipush (v := 16) hX d_Fl_copy_107 rfl ?_
  refine Z_copy (n := 16) hX d_Fl_copy_109 rfl rfl rfl (by decide) (lF18 hb2) (lF18 hb) lk_Fl_75 m_copy.1 m_copy.2.1 m_copy.2.2 (by decide) (Nat.le_of_ble_eq_true rfl) ?_
  refine Z_aload_n (i := 0) hX d_Fl_copy_112 rfl rfl ?_
  refine Z_aload_n (i := 1) hX d_Fl_copy_113 rfl rfl ?_
  refine Z_getI (k0 := 10) hX d_Fl_copy_114 (lF hb2) rfl u_Fl (by decide) lk_Fl_43 rfl ?_
  refine Z_putI (k0 := 10) hX d_Fl_copy_117 (lF hb) rfl u_Fl (by decide) lk_Fl_43 rfl t_Fl to_Fl n_Fl rfl rfl rfl rfl ?_
  refine Z_aload_n (i := 0) hX d_Fl_copy_120 rfl rfl ?_
  refine Z_aload_n (i := 1) hX d_Fl_copy_121 rfl rfl ?_
  refine Z_getI (k0 := 11) hX d_Fl_copy_122 (lF hb2) rfl u_Fl (by decide) lk_Fl_47 rfl ?_
  refine Z_putI (k0 := 11) hX d_Fl_copy_125 (lF hb) rfl u_Fl (by decide) lk_Fl_47 rfl t_Fl to_Fl n_Fl rfl rfl rfl rfl ?_
  refine Z_aload_n (i := 0) hX d_Fl_copy_128 rfl rfl ?_
  refine Z_aload_n (i := 1) hX d_Fl_copy_129 rfl rfl ?_
  refine Z_getI (k0 := 12) hX d_Fl_copy_130 (lF hb2) rfl u_Fl (by decide) lk_Fl_50 rfl ?_
  refine Z_putI (k0 := 12) hX d_Fl_copy_133 (lF hb) rfl u_Fl (by decide) lk_Fl_50 rfl t_Fl to_Fl n_Fl rfl rfl rfl rfl ?_
  refine Z_aload_n (i := 0) hX d_Fl_copy_136 rfl rfl ?_
  refine Z_aload_n (i := 1) hX d_Fl_copy_137 rfl rfl ?_
  refine Z_getL (k0 := 13) hX d_Fl_copy_138 (lF hb2) rfl u_Fl (by decide) lk_Fl_53 rfl ?_
  refine Z_putL (k0 := 13) hX d_Fl_copy_141 (lF hb) rfl u_Fl (by decide) lk_Fl_53 rfl t_Fl to_Fl n_Fl rfl rfl ?_
  exact Z_mem (by rfl) (by rfl) (hR _ _ d_Fl_copy_144)
end
section
/-! the object itself: loop, check -/
def c_lo (I : zI) : Nat → Bool
  | 0 => false
  | i + 1 => c_lo I i || decide (f_fo I 16 16 i = -2)
theorem c_lo_le {I : zI} {j : Nat} (h : c_lo I j = true) : ∀ n, c_lo I (j + n) = true
  | 0 => h
  | n + 1 => by
    show (c_lo I (j + n) || _) = true
    rw [c_lo_le h n]
    rfl
def s_1 (I : zI) (f : Int32) (i : Nat) : zI :=
  let I1 := zup I 62 (I 0 7).toNatClampNeg f
  let I2 := zup I1 63 (I1 0 7).toNatClampNeg (nI i)
  zup I2 0 7 (I2 0 7 + 1)
def s_f (m : Nat) (f : Int32) (I : zI) : Nat → zI
  | 0 => I
  | i + 1 => if 100 ≤ s_f m f I i 0 7 then s_f m f I i else if f_st (s_f m f I i) 35 m i = true then s_1 (s_f m f I i) f i else s_f m f I i
theorem fr_s1 {I : zI} {f : Int32} {i c : Nat} (h : c ≠ 0 ∧ c ≠ 62 ∧ c ≠ 63) : s_1 I f i c = I c := by
  unfold s_1
  try dsimp only
  rw [zup_ne h.1, zup_ne h.2.2, zup_ne h.2.1]
theorem fr_sf {m : Nat} {f : Int32} {I : zI} {c : Nat} (h : c ≠ 0 ∧ c ≠ 62 ∧ c ≠ 63) : ∀ i, s_f m f I i c = I c
  | 0 => rfl
  | i + 1 => by
    unfold s_f
    split
    · exact fr_sf h i
    · split
      · rw [fr_s1 h, fr_sf h i]
      · exact fr_sf h i
theorem s_f_stop {m : Nat} {f : Int32} {I : zI} {i : Nat} (h : 100 ≤ s_f m f I i 0 7) : ∀ n, s_f m f I (i + n) = s_f m f I i
  | 0 => rfl
  | n + 1 => by
    have e := s_f_stop h n
    show s_f m f I ((i + n) + 1) = _
    rw [s_f, e, if_pos h]
/-- how many findings there are -/
def okN (I : zI) : Prop := ∃ c, c ≤ 100 ∧ I 0 7 = nI c
theorem okN_lt {I : zI} (h : okN I) (h2 : ¬ 100 ≤ I 0 7) : ∃ c, c < 100 ∧ I 0 7 = nI c := by
  obtain ⟨c, hc, e⟩ := h
  refine ⟨c, ?_, e⟩
  by_cases h3 : c < 100
  · exact h3
  · exfalso
    apply h2
    rw [e]
    exact nI_le (a := 100) (by omega) (by omega)
theorem okN_s1 {I : zI} {f : Int32} {i c : Nat} (hc : c < 100) (e : I 0 7 = nI c) : s_1 I f i = zup (zup (zup I 62 c f) 63 c (nI i)) 0 7 (nI (c + 1)) := by
  unfold s_1
  try dsimp only
  have e2 : zup I 62 (I 0 7).toNatClampNeg f 0 7 = nI c := by rw [zup_ne (by decide)]; exact e
  have e1 : (I 0 7).toNatClampNeg = c := by rw [e, nI_clamp (by omega)]
  have e3 : zup (zup I 62 c f) 63 c (nI i) 0 7 = nI c := by rw [zup_ne (by decide), zup_ne (by decide)]; exact e
  rw [e2, e1, nI_clamp (by omega), e3, nI_1]
theorem okN_sf {m : Nat} {f : Int32} {I : zI} (h : okN I) : ∀ i, okN (s_f m f I i)
  | 0 => h
  | i + 1 => by
    have h1 := okN_sf (m := m) (f := f) h i
    unfold s_f
    split
    · exact h1
    · rename_i h2
      obtain ⟨c, hc, e⟩ := okN_lt h1 h2
      split
      · rw [okN_s1 hc e]
        exact ⟨c + 1, by omega, by rw [zup_same, pk_us]⟩
      · exact h1
theorem okE_of {I I' : zI} {m : Nat} (h1 : I' 1 = I 1) (h10 : I' 10 = I 10) (h15 : I' 15 = I 15) (h : okE I m) : okE I' m := by
  unfold okE fe pe at *
  rw [h1, h10, h15]
  exact h
def c_try (m rn : Nat) (f : Int32) (I : zI) (J : zJ) : zI × zJ := (s_f m f (f_rs 35 rn 0 I J).1 16, (f_rs 35 rn 0 I J).2)
def c_l (m rn : Nat) (I : zI) (J : zJ) : Nat → zI × zJ
  | 0 => (I, J)
  | j + 1 => if 100 ≤ (c_l m rn I J j).1 0 7 then c_l m rn I J j else if f_lw (c_l m rn I J j).1 16 (nI j) = true then c_try m rn (nI j) (f_sl (f_cp (c_l m rn I J j).1 16 35) 35 (nI j) 1) (f_cpJ (c_l m rn I J j).2 16 35) else c_l m rn I J j
def c_e (m rn : Nat) (I : zI) (J : zJ) : Nat → zI × zJ
  | 0 => (I, J)
  | j + 1 => if 100 ≤ (c_e m rn I J j).1 0 7 then c_e m rn I J j else if f_wh (c_e m rn I J j).1 16 j = true then c_try m rn (100 + nI j) (f_se (f_cp (c_e m rn I J j).1 16 35) 35 j 1) (f_cpJ (c_e m rn I J j).2 16 35) else c_e m rn I J j
set_option maxRecDepth 100000 in
set_option maxHeartbeats 4000000 in
theorem c_Ck_start {la : Launch} {G : zG} {I : zI} {J : zJ} {e : Nat} (he : e < 16) {off : Int32} : zCv la G y_Ck_start (Cond.code y_Ck_start prog_3_method_2_code 3 none :: TBL) (zR 1) [.ref (zad G 54), .int (nI e), .int off] I J (zup (zup I 55 e off) 56 e off) (J) := by
  refine zCv_of (by decide) (by simp [lg_sl, Value.category]) (fun X hla hX hR => ?_)
  subst hla
  refine Z_loc (l' := [(0, .ref (zad G 54)), (1, .int (nI e)), (2, .int off)]) (by simp [lv_args, Value.category, List.lookup]) ?_
  refine Z_aload_n (i := 0) hX d_Ck_start_0 rfl rfl ?_
  refine Z_getR (k0 := 0) hX d_Ck_start_1 rfl rfl u_Ck (by decide) lk_Ck_9 rfl ?_
  refine Z_iload_n (i := 1) hX d_Ck_start_4 rfl rfl ?_
  refine Z_iload_n (i := 2) hX d_Ck_start_5 rfl rfl ?_
  refine Z_iast hX d_Ck_start_6 rfl rfl (by omega) (by decide) ?_
  refine Z_aload_n (i := 0) hX d_Ck_start_7 rfl rfl ?_
  refine Z_getR (k0 := 1) hX d_Ck_start_8 rfl rfl u_Ck (by decide) lk_Ck_15 rfl ?_
  refine Z_iload_n (i := 1) hX d_Ck_start_11 rfl rfl ?_
  refine Z_iload_n (i := 2) hX d_Ck_start_12 rfl rfl ?_
  refine Z_iast hX d_Ck_start_13 rfl rfl (by omega) (by decide) ?_
  exact Z_mem (by rfl) (by rfl) (hR _ _ d_Ck_start_14)

set_option maxRecDepth 100000 in
set_option maxHeartbeats 4000000 in
theorem c_Ck_offsetAfter {la : Launch} {G : zG} {I : zI} {J : zJ} {e : Nat} (he : e < 16) (hL : okL I) (hK : okK I 16 e) : zCi la G y_Ck_offsetAfter (Cond.code y_Ck_offsetAfter prog_3_method_4_code 6 (some .int) :: TBL) (zR 2) [.ref (zad G 54), .int (nI e), .ref (zad G 1), .ref (zad G 16)] I J (k_off I e) (I) (J) := by
  refine zCi_of (by decide) (by simp [lg_sl, Value.category]) (rfl) (fun X hla hX hR => ?_)
  subst hla
  refine Z_loc (l' := [(0, .ref (zad G 54)), (1, .int (nI e)), (2, .ref (zad G 1)), (3, .ref (zad G 16))]) (by simp [lv_args, Value.category, List.lookup]) ?_
  refine Z_aload_n (i := 3) hX d_Ck_offsetAfter_0 rfl rfl ?_
  refine Z_iload_n (i := 1) hX d_Ck_offsetAfter_1 rfl rfl ?_
  refine Z_cVi1 hX d_Ck_offsetAfter_2 (c_Fl_isLocked (Or.inl rfl) (by omega)) m_Fl_isLocked rfl rfl lk_Ck_35 ⟨by decide, by decide⟩ ⟨by decide, by decide⟩ (Nat.le_of_ble_eq_true rfl) ?_
  refine Z_ifeqB (tgt := 69) hX d_Ck_offsetAfter_5 rfl (fun h5 => ?_) (fun h5 => ?_)
  · refine Z_aload_n (i := 3) hX d_Ck_offsetAfter_69 rfl rfl ?_
    refine Z_getR (k0 := 6) hX d_Ck_offsetAfter_70 rfl rfl u_Fl (by decide) lk_Ck_60 rfl ?_
    refine Z_iload_n (i := 1) hX d_Ck_offsetAfter_73 rfl rfl ?_
    refine Z_iald hX d_Ck_offsetAfter_74 rfl rfl (by omega) (by decide) ?_
    refine Z_iconst (v := 2) hX d_Ck_offsetAfter_75 rfl ?_
    refine Z_icne (tgt := 95) hX d_Ck_offsetAfter_76 rfl (fun h76 => ?_) (fun h76 => ?_)
    · refine Z_aload_n (i := 2) hX d_Ck_offsetAfter_95 rfl rfl ?_
      refine Z_getR (k0 := 2) hX d_Ck_offsetAfter_96 rfl rfl u_Pl (by decide) lk_Ck_66 rfl ?_
      refine Z_iload_n (i := 1) hX d_Ck_offsetAfter_99 rfl rfl ?_
      refine Z_iald hX d_Ck_offsetAfter_100 rfl rfl (by omega) (by decide) ?_
      exact Z_ri (hR _ _ d_Ck_offsetAfter_101) (by exact (k_off_f h5 h76).symm) rfl rfl
    · refine Z_aload_n (i := 0) hX d_Ck_offsetAfter_79 rfl rfl ?_
      refine Z_getR (k0 := 0) hX d_Ck_offsetAfter_80 rfl rfl u_Ck (by decide) lk_Ck_9 rfl ?_
      refine Z_iload_n (i := 1) hX d_Ck_offsetAfter_83 rfl rfl ?_
      refine Z_iald hX d_Ck_offsetAfter_84 rfl rfl (by omega) (by decide) ?_
      refine Z_aload_n (i := 2) hX d_Ck_offsetAfter_85 rfl rfl ?_
      refine Z_getR (k0 := 3) hX d_Ck_offsetAfter_86 rfl rfl u_Pl (by decide) lk_Ck_63 rfl ?_
      refine Z_iload_n (i := 1) hX d_Ck_offsetAfter_89 rfl rfl ?_
      refine Z_iald hX d_Ck_offsetAfter_90 rfl rfl (by omega) (by decide) ?_
      refine Z_iadd hX d_Ck_offsetAfter_91 ?_
      refine Z_goto (tgt := 101) hX d_Ck_offsetAfter_92 rfl ?_
      exact Z_ri (hR _ _ d_Ck_offsetAfter_101) (by exact (k_off_h h5 h76).symm) rfl rfl
  · obtain ⟨q, hk, hk2⟩ := hK h5
    refine Z_iload_n (i := 1) hX d_Ck_offsetAfter_8 rfl rfl ?_
    refine Z_aload_n (i := 3) hX d_Ck_offsetAfter_9 rfl rfl ?_
    refine Z_getR (k0 := 7) hX d_Ck_offsetAfter_10 rfl rfl u_Fl (by decide) lk_Ck_38 rfl ?_
    refine Z_iload_n (i := 1) hX d_Ck_offsetAfter_13 rfl rfl ?_
    refine Z_iald hX d_Ck_offsetAfter_14 rfl rfl (by omega) (by decide) ?_
    refine Z_top hk2 ?_
    refine Z_cNi2 hX d_Ck_offsetAfter_15 c_CT_slotOf m_CT_slotOf ne_Ck_41 ⟨by decide, by decide⟩ ⟨by decide, by decide⟩ (Nat.le_of_ble_eq_true rfl) ?_
    refine Z_istore hX d_Ck_offsetAfter_18 (by decide) rfl ?_
    refine Z_cut (pc' := 36) (P := fun v => v = zB (decide (¬ I 9 (4 * e + q) = -1))) ?_ (fun hJ36 => ?_)
    · intro v hv36
      subst hv36
      refine Z_istore hX d_Ck_offsetAfter_36 (by decide) rfl ?_
      refine Z_iload hX d_Ck_offsetAfter_38 rfl ?_
      refine Z_ifeqB (tgt := 61) hX d_Ck_offsetAfter_40 rfl (fun h40 => ?_) (fun h40 => ?_)
      · have h28 : I 9 (4 * e + q) = -1 := by simpa using h40
        refine Z_aload_n (i := 2) hX d_Ck_offsetAfter_61 rfl rfl ?_
        refine Z_getR (k0 := 10) hX d_Ck_offsetAfter_62 rfl rfl u_Pl (by decide) lk_Ck_57 rfl ?_
        refine Z_iload hX d_Ck_offsetAfter_65 rfl ?_
        refine Z_iald hX d_Ck_offsetAfter_67 rfl rfl (by omega) (by decide) ?_
        exact Z_ri (hR _ _ d_Ck_offsetAfter_68) (by exact (k_off_s h5 hk hk2 h28).symm) rfl rfl
      · have h28 : ¬ I 9 (4 * e + q) = -1 := by simpa using h40
        have hq := okL_pe hL (by omega) h28
        refine Z_aload_n (i := 0) hX d_Ck_offsetAfter_43 rfl rfl ?_
        refine Z_getR (k0 := 1) hX d_Ck_offsetAfter_44 rfl rfl u_Ck (by decide) lk_Ck_15 rfl ?_
        refine Z_aload_n (i := 2) hX d_Ck_offsetAfter_47 rfl rfl ?_
        refine Z_getR (k0 := 8) hX d_Ck_offsetAfter_48 rfl rfl u_Pl (by decide) lk_Ck_50 rfl ?_
        refine Z_iload hX d_Ck_offsetAfter_51 rfl ?_
        refine Z_iald hX d_Ck_offsetAfter_53 rfl rfl (by omega) (by decide) ?_
        refine Z_top hq.1 ?_
        refine Z_cNi1 hX d_Ck_offsetAfter_54 (c_CT_elementOf (by omega)) m_CT_elementOf ne_Ck_53 ⟨by decide, by decide⟩ ⟨by decide, by decide⟩ (Nat.le_of_ble_eq_true rfl) ?_
        refine Z_iald hX d_Ck_offsetAfter_57 rfl rfl (by omega) (by decide) ?_
        refine Z_goto (tgt := 68) hX d_Ck_offsetAfter_58 rfl ?_
        exact Z_ri (hR _ _ d_Ck_offsetAfter_68) (by exact (k_off_x h5 hk hk2 h28).symm) rfl rfl
    · refine Z_aload_n (i := 2) hX d_Ck_offsetAfter_20 rfl rfl ?_
      refine Z_getR (k0 := 7) hX d_Ck_offsetAfter_21 rfl rfl u_Pl (by decide) lk_Ck_45 rfl ?_
      refine Z_iload hX d_Ck_offsetAfter_24 rfl ?_
      refine Z_iald hX d_Ck_offsetAfter_26 rfl rfl (by omega) (by decide) ?_
      refine Z_iconst (v := (-1)) hX d_Ck_offsetAfter_27 rfl ?_
      refine Z_iceq (tgt := 35) hX d_Ck_offsetAfter_28 rfl (fun h28 => ?_) (fun h28 => ?_)
      · refine Z_iconst (v := 0) hX d_Ck_offsetAfter_35 rfl ?_
        exact hJ36 _ (by simp [zB, *])
      · refine Z_iconst (v := 1) hX d_Ck_offsetAfter_31 rfl ?_
        refine Z_goto (tgt := 36) hX d_Ck_offsetAfter_32 rfl ?_
        exact hJ36 _ (by simp [zB, *])

set_option maxRecDepth 100000 in
set_option maxHeartbeats 4000000 in
theorem c_Ck_passRound {la : Launch} {G : zG} {I : zI} {J : zJ} (hL : okL I) (hK : ∀ e, e < 16 → okK I 16 e) : zCv la G y_Ck_passRound (Cond.code y_Ck_passRound prog_3_method_3_code 4 none :: TBL) (zR 3) [.ref (zad G 54), .ref (zad G 1), .ref (zad G 16)] I J (k_ro I) (k_roJ I J) := by
  refine zCv_of (by decide) (by simp [lg_sl, Value.category]) (fun X hla hX hR => ?_)
  subst hla
  refine Z_loc (l' := [(0, .ref (zad G 54)), (1, .ref (zad G 1)), (2, .ref (zad G 16))]) (by simp [lv_args, Value.category, List.lookup]) ?_
  refine Z_iconst (v := nI 0) hX d_Ck_passRound_0 rfl ?_
  refine Z_istore_n (i := 3) hX d_Ck_passRound_1 rfl (by decide) rfl ?_
  have hL2 : ∀ k i : Nat, k + i = 16 → Z X G 4 0 0 2 [(3, .int (nI i)), (2, .ref (zad G 16)), (1, .ref (zad G 1)), (0, .ref (zad G 54))] [] (k_n I i) (J) := by
    intro k
    induction k with
    | zero =>
      intro i hi
      obtain rfl : i = 16 := by omega
      refine Z_iload_n (i := 3) hX d_Ck_passRound_2 rfl rfl ?_
      refine Z_bipush (v := 16) hX d_Ck_passRound_3 rfl ?_
      refine Z_icge (tgt := 44) hX d_Ck_passRound_5 rfl (fun h5 => ?_) (fun h => absurd (by decide) h)
      refine Z_iconst (v := nI 0) hX d_Ck_passRound_44 rfl ?_
      refine Z_istore_n (i := 3) hX d_Ck_passRound_45 rfl (by decide) rfl ?_
      have hL46 : ∀ k i : Nat, k + i = 16 → Z X G 4 0 0 46 [(3, .int (nI i)), (2, .ref (zad G 16)), (1, .ref (zad G 1)), (0, .ref (zad G 54))] [] (k_s (k_n I 16) i) (k_sJ (k_n I 16) J i) := by
        intro k
        induction k with
        | zero =>
          intro i hi
          obtain rfl : i = 16 := by omega
          refine Z_iload_n (i := 3) hX d_Ck_passRound_46 rfl rfl ?_
          refine Z_bipush (v := 16) hX d_Ck_passRound_47 rfl ?_
          refine Z_icge (tgt := 106) hX d_Ck_passRound_49 rfl (fun h49 => ?_) (fun h => absurd (by decide) h)
          exact Z_mem (by rfl) (by rfl) (hR _ _ d_Ck_passRound_106)
        | succ k ih =>
          intro i hi
          have hi2 : i < 16 := by omega
          refine Z_iload_n (i := 3) hX d_Ck_passRound_46 rfl rfl ?_
          refine Z_bipush (v := 16) hX d_Ck_passRound_47 rfl ?_
          refine Z_icge (tgt := 106) hX d_Ck_passRound_49 rfl (fun h => absurd h (nI_ge hi2 (by decide))) (fun h49 => ?_)
          refine Z_aload_n (i := 0) hX d_Ck_passRound_52 rfl rfl ?_
          refine Z_getR (k0 := 1) hX d_Ck_passRound_53 rfl rfl u_Ck (by decide) lk_Ck_15 rfl ?_
          refine Z_iload_n (i := 3) hX d_Ck_passRound_56 rfl rfl ?_
          refine Z_aload_n (i := 0) hX d_Ck_passRound_57 rfl rfl ?_
          refine Z_getR (k0 := 0) hX d_Ck_passRound_58 rfl rfl u_Ck (by decide) lk_Ck_9 rfl ?_
          refine Z_iload_n (i := 3) hX d_Ck_passRound_61 rfl rfl ?_
          refine Z_iald hX d_Ck_passRound_62 rfl rfl (by omega) (by decide) ?_
          refine Z_iast hX d_Ck_passRound_63 rfl rfl (by omega) (by decide) ?_
          refine Z_aload_n (i := 0) hX d_Ck_passRound_64 rfl rfl ?_
          refine Z_getR (k0 := 0) hX d_Ck_passRound_65 rfl rfl u_Ck (by decide) lk_Ck_9 rfl ?_
          refine Z_iload_n (i := 3) hX d_Ck_passRound_68 rfl rfl ?_
          refine Z_aload_n (i := 0) hX d_Ck_passRound_69 rfl rfl ?_
          refine Z_getR (k0 := 2) hX d_Ck_passRound_70 rfl rfl u_Ck (by decide) lk_Ck_18 rfl ?_
          refine Z_iload_n (i := 3) hX d_Ck_passRound_73 rfl rfl ?_
          refine Z_iald hX d_Ck_passRound_74 rfl rfl (by omega) (by decide) ?_
          refine Z_iast hX d_Ck_passRound_75 rfl rfl (by omega) (by decide) ?_
          refine Z_aload_n (i := 2) hX d_Ck_passRound_76 rfl rfl ?_
          refine Z_iload_n (i := 3) hX d_Ck_passRound_77 rfl rfl ?_
          refine Z_cVi1 hX d_Ck_passRound_78 (c_Fl_isWhole (Or.inl rfl) (by omega)) m_Fl_isWhole rfl rfl lk_Ck_25 ⟨by decide, by decide⟩ ⟨by decide, by decide⟩ (Nat.le_of_ble_eq_true rfl) ?_
          refine Z_ifeqB (tgt := 100) hX d_Ck_passRound_81 rfl (fun h81 => ?_) (fun h81 => ?_)
          · refine Z_iinc (v := nI (i + 1)) hX d_Ck_passRound_100 rfl (by rw [nI_succ]; rfl) (by decide) rfl ?_
            refine Z_goto (tgt := 46) hX d_Ck_passRound_103 rfl ?_
            refine Z_loc ?_ (Z_mem ?_ ?_ (ih (i + 1) (by omega)))
            · rfl
            · rfl
            · exact (if_neg (fun q => absurd (h81.symm.trans q) (by decide))).symm
          · refine Z_aload_n (i := 0) hX d_Ck_passRound_84 rfl rfl ?_
            refine Z_getR (k0 := 3) hX d_Ck_passRound_85 rfl rfl u_Ck (by decide) lk_Ck_21 rfl ?_
            refine Z_iload_n (i := 3) hX d_Ck_passRound_88 rfl rfl ?_
            refine Z_dup2 hX d_Ck_passRound_89 rfl rfl ?_
            refine Z_lald hX d_Ck_passRound_90 rfl rfl (by omega) (by decide) ?_
            refine Z_aload_n (i := 0) hX d_Ck_passRound_91 rfl rfl ?_
            refine Z_getR (k0 := 0) hX d_Ck_passRound_92 rfl rfl u_Ck (by decide) lk_Ck_9 rfl ?_
            refine Z_iload_n (i := 3) hX d_Ck_passRound_95 rfl rfl ?_
            refine Z_iald hX d_Ck_passRound_96 rfl rfl (by omega) (by decide) ?_
            refine Z_i2l hX d_Ck_passRound_97 ?_
            refine Z_ladd hX d_Ck_passRound_98 ?_
            refine Z_last hX d_Ck_passRound_99 rfl rfl (by omega) (by decide) ?_
            refine Z_iinc (v := nI (i + 1)) hX d_Ck_passRound_100 rfl (by rw [nI_succ]; rfl) (by decide) rfl ?_
            refine Z_goto (tgt := 46) hX d_Ck_passRound_103 rfl ?_
            refine Z_loc ?_ (Z_mem ?_ ?_ (ih (i + 1) (by omega)))
            · rfl
            · rfl
            · exact (if_pos h81).symm
      refine Z_loc ?_ (Z_mem ?_ ?_ (hL46 16 0 (by omega)))
      · rfl
      · rfl
      · rfl
    | succ k ih =>
      intro i hi
      have hi2 : i < 16 := by omega
      refine Z_iload_n (i := 3) hX d_Ck_passRound_2 rfl rfl ?_
      refine Z_bipush (v := 16) hX d_Ck_passRound_3 rfl ?_
      refine Z_icge (tgt := 44) hX d_Ck_passRound_5 rfl (fun h => absurd h (nI_ge hi2 (by decide))) (fun h5 => ?_)
      refine Z_aload_n (i := 0) hX d_Ck_passRound_8 rfl rfl ?_
      refine Z_getR (k0 := 2) hX d_Ck_passRound_9 rfl rfl u_Ck (by decide) lk_Ck_18 rfl ?_
      refine Z_iload_n (i := 3) hX d_Ck_passRound_12 rfl rfl ?_
      refine Z_cut (pc' := 37) (P := fun v => v = (if f_wh (k_n I i) 16 i = true then k_off (k_n I i) i else k_n I i 55 i)) ?_ (fun hJ37 => ?_)
      · intro v hv37
        subst hv37
        refine Z_iast hX d_Ck_passRound_37 rfl rfl (by omega) (by decide) ?_
        refine Z_iinc (v := nI (i + 1)) hX d_Ck_passRound_38 rfl (by rw [nI_succ]; rfl) (by decide) rfl ?_
        refine Z_goto (tgt := 2) hX d_Ck_passRound_41 rfl ?_
        refine Z_loc ?_ (Z_mem ?_ ?_ (ih (i + 1) (by omega)))
        · rfl
        · rfl
        · rfl
      · refine Z_aload_n (i := 2) hX d_Ck_passRound_13 rfl rfl ?_
        refine Z_iload_n (i := 3) hX d_Ck_passRound_14 rfl rfl ?_
        refine Z_cVi1 hX d_Ck_passRound_15 (c_Fl_isWhole (Or.inl rfl) (by omega)) m_Fl_isWhole rfl rfl lk_Ck_25 ⟨by decide, by decide⟩ ⟨by decide, by decide⟩ (Nat.le_of_ble_eq_true rfl) ?_
        refine Z_ifeqB (tgt := 31) hX d_Ck_passRound_18 rfl (fun h18 => ?_) (fun h18 => ?_)
        · refine Z_aload_n (i := 0) hX d_Ck_passRound_31 rfl rfl ?_
          refine Z_getR (k0 := 0) hX d_Ck_passRound_32 rfl rfl u_Ck (by decide) lk_Ck_9 rfl ?_
          refine Z_iload_n (i := 3) hX d_Ck_passRound_35 rfl rfl ?_
          refine Z_iald hX d_Ck_passRound_36 rfl rfl (by omega) (by decide) ?_
          exact hJ37 _ (by first | exact (if_pos h18).symm | exact (if_neg (by rw [h18]; decide)).symm)
        · refine Z_aload_n (i := 0) hX d_Ck_passRound_21 rfl rfl ?_
          refine Z_iload_n (i := 3) hX d_Ck_passRound_22 rfl rfl ?_
          refine Z_aload_n (i := 1) hX d_Ck_passRound_23 rfl rfl ?_
          refine Z_aload_n (i := 2) hX d_Ck_passRound_24 rfl rfl ?_
          refine Z_cVi3 hX d_Ck_passRound_25 (c_Ck_offsetAfter (by omega) (okL_of (fr_kn (by decide) i) (fr_kn (by decide) i) hL) (okK_of (fr_kn (by decide) i) (fr_kn (by decide) i) (hK i hi2))) m_Ck_offsetAfter rfl rfl lk_Ck_31 ⟨by decide, by decide⟩ ⟨by decide, by decide⟩ (Nat.le_of_ble_eq_true rfl) ?_
          refine Z_goto (tgt := 37) hX d_Ck_passRound_28 rfl ?_
          exact hJ37 _ (by first | exact (if_pos h18).symm | exact (if_neg (by rw [h18]; decide)).symm)
  refine Z_loc ?_ (Z_mem ?_ ?_ (hL2 16 0 (by omega)))
  · rfl
  · rfl
  · rfl

set_option maxRecDepth 100000 in
set_option maxHeartbeats 4000000 in
theorem c_Ca_passRound {la : Launch} {G : zG} {I : zI} {J : zJ}  : zCv la G y_Ca_passRound (Cond.code y_Ca_passRound prog_2_method_2_code 4 none :: TBL) (zR 2) [.ref (zad G 59), .ref (zad G 16)] I J (l_ro I) (J) := by
  refine zCv_of (by decide) (by simp [lg_sl, Value.category]) (fun X hla hX hR => ?_)
  subst hla
  refine Z_loc (l' := [(0, .ref (zad G 59)), (1, .ref (zad G 16))]) (by simp [lv_args, Value.category, List.lookup]) ?_
  refine Z_iconst (v := 1) hX d_Ca_passRound_0 rfl ?_
  refine Z_istore_n (i := 2) hX d_Ca_passRound_1 rfl (by decide) rfl ?_
  refine Z_iconst (v := nI 0) hX d_Ca_passRound_2 rfl ?_
  refine Z_istore_n (i := 3) hX d_Ca_passRound_3 rfl (by decide) rfl ?_
  have hL4 : ∀ k i : Nat, k + i = 16 → Z X G 4 0 0 4 [(3, .int (nI i)), (2, .int (zB (l_s I i))), (1, .ref (zad G 16)), (0, .ref (zad G 59))] [] (l_m I i) (J) := by
    intro k
    induction k with
    | zero =>
      intro i hi
      obtain rfl : i = 16 := by omega
      refine Z_iload_n (i := 3) hX d_Ca_passRound_4 rfl rfl ?_
      refine Z_bipush (v := 16) hX d_Ca_passRound_5 rfl ?_
      refine Z_icge (tgt := 70) hX d_Ca_passRound_7 rfl (fun h7 => ?_) (fun h => absurd (by decide) h)
      refine Z_aload_n (i := 0) hX d_Ca_passRound_70 rfl rfl ?_
      refine Z_cut (pc' := 85) (P := fun v => v = (if l_s I 16 = true then l_m I 16 59 2 + 1 else 0)) ?_ (fun hJ85 => ?_)
      · intro v hv85
        subst hv85
        refine Z_putI (k0 := 2) hX d_Ca_passRound_85 rfl rfl u_Ca (by decide) lk_Ca_18 rfl t_Ca to_Ca n_Ca rfl rfl rfl rfl ?_
        exact Z_mem (by rfl) (by rfl) (hR _ _ d_Ca_passRound_88)
      · refine Z_iload_n (i := 2) hX d_Ca_passRound_71 rfl rfl ?_
        refine Z_ifeq (tgt := 84) hX d_Ca_passRound_72 rfl (fun h72 => ?_) (fun h72 => ?_)
        · refine Z_iconst (v := 0) hX d_Ca_passRound_84 rfl ?_
          exact hJ85 _ (by first | exact (if_pos (zB_ne h72)).symm | exact (if_neg (by rw [zB_eq h72]; decide)).symm)
        · refine Z_aload_n (i := 0) hX d_Ca_passRound_75 rfl rfl ?_
          refine Z_getI (k0 := 2) hX d_Ca_passRound_76 rfl rfl u_Ca (by decide) lk_Ca_18 rfl ?_
          refine Z_iconst (v := 1) hX d_Ca_passRound_79 rfl ?_
          refine Z_iadd hX d_Ca_passRound_80 ?_
          refine Z_goto (tgt := 85) hX d_Ca_passRound_81 rfl ?_
          exact hJ85 _ (by first | exact (if_pos (zB_ne h72)).symm | exact (if_neg (by rw [zB_eq h72]; decide)).symm)
    | succ k ih =>
      intro i hi
      have hi2 : i < 16 := by omega
      refine Z_iload_n (i := 3) hX d_Ca_passRound_4 rfl rfl ?_
      refine Z_bipush (v := 16) hX d_Ca_passRound_5 rfl ?_
      refine Z_icge (tgt := 70) hX d_Ca_passRound_7 rfl (fun h => absurd h (nI_ge hi2 (by decide))) (fun h7 => ?_)
      refine Z_aload_n (i := 0) hX d_Ca_passRound_10 rfl rfl ?_
      refine Z_getR (k0 := 0) hX d_Ca_passRound_11 rfl rfl u_Ca (by decide) lk_Ca_9 rfl ?_
      refine Z_iload_n (i := 3) hX d_Ca_passRound_14 rfl rfl ?_
      refine Z_iald hX d_Ca_passRound_15 rfl rfl (by omega) (by decide) ?_
      refine Z_aload_n (i := 1) hX d_Ca_passRound_16 rfl rfl ?_
      refine Z_iload_n (i := 3) hX d_Ca_passRound_17 rfl rfl ?_
      refine Z_cVi1 hX d_Ca_passRound_18 (c_Fl_shownCondition (Or.inl rfl) (by omega)) m_Fl_shownCondition rfl rfl lk_Ca_28 ⟨by decide, by decide⟩ ⟨by decide, by decide⟩ (Nat.le_of_ble_eq_true rfl) ?_
      refine Z_icne (tgt := 39) hX d_Ca_passRound_21 rfl (fun h21 => ?_) (fun h21 => ?_)
      · refine Z_iconst (v := 0) hX d_Ca_passRound_39 rfl ?_
        refine Z_istore_n (i := 2) hX d_Ca_passRound_40 rfl (by decide) rfl ?_
        refine Z_aload_n (i := 0) hX d_Ca_passRound_41 rfl rfl ?_
        refine Z_getR (k0 := 0) hX d_Ca_passRound_42 rfl rfl u_Ca (by decide) lk_Ca_9 rfl ?_
        refine Z_iload_n (i := 3) hX d_Ca_passRound_45 rfl rfl ?_
        refine Z_aload_n (i := 1) hX d_Ca_passRound_46 rfl rfl ?_
        refine Z_iload_n (i := 3) hX d_Ca_passRound_47 rfl rfl ?_
        refine Z_cVi1 hX d_Ca_passRound_48 (c_Fl_shownCondition (Or.inl rfl) (by omega)) m_Fl_shownCondition rfl rfl lk_Ca_28 ⟨by decide, by decide⟩ ⟨by decide, by decide⟩ (Nat.le_of_ble_eq_true rfl) ?_
        refine Z_iast hX d_Ca_passRound_51 rfl rfl (by omega) (by decide) ?_
        refine Z_aload_n (i := 0) hX d_Ca_passRound_52 rfl rfl ?_
        refine Z_getR (k0 := 1) hX d_Ca_passRound_53 rfl rfl u_Ca (by decide) lk_Ca_15 rfl ?_
        refine Z_iload_n (i := 3) hX d_Ca_passRound_56 rfl rfl ?_
        refine Z_aload_n (i := 1) hX d_Ca_passRound_57 rfl rfl ?_
        refine Z_getR (k0 := 7) hX d_Ca_passRound_58 rfl rfl u_Fl (by decide) lk_Ca_34 rfl ?_
        refine Z_iload_n (i := 3) hX d_Ca_passRound_61 rfl rfl ?_
        refine Z_iald hX d_Ca_passRound_62 rfl rfl (by omega) (by decide) ?_
        refine Z_iast hX d_Ca_passRound_63 rfl rfl (by omega) (by decide) ?_
        refine Z_iinc (v := nI (i + 1)) hX d_Ca_passRound_64 rfl (by rw [nI_succ]; rfl) (by decide) rfl ?_
        refine Z_goto (tgt := 4) hX d_Ca_passRound_67 rfl ?_
        refine Z_loc ?_ (Z_mem ?_ ?_ (ih (i + 1) (by omega)))
        · (rw [show zB (l_s I (i + 1)) = 0 from by simp [l_s, h21, zB]]; rfl)
        · rfl
        · rfl
      · refine Z_aload_n (i := 0) hX d_Ca_passRound_24 rfl rfl ?_
        refine Z_getR (k0 := 1) hX d_Ca_passRound_25 rfl rfl u_Ca (by decide) lk_Ca_15 rfl ?_
        refine Z_iload_n (i := 3) hX d_Ca_passRound_28 rfl rfl ?_
        refine Z_iald hX d_Ca_passRound_29 rfl rfl (by omega) (by decide) ?_
        refine Z_aload_n (i := 1) hX d_Ca_passRound_30 rfl rfl ?_
        refine Z_getR (k0 := 7) hX d_Ca_passRound_31 rfl rfl u_Fl (by decide) lk_Ca_34 rfl ?_
        refine Z_iload_n (i := 3) hX d_Ca_passRound_34 rfl rfl ?_
        refine Z_iald hX d_Ca_passRound_35 rfl rfl (by omega) (by decide) ?_
        refine Z_iceq (tgt := 41) hX d_Ca_passRound_36 rfl (fun h36 => ?_) (fun h36 => ?_)
        · refine Z_aload_n (i := 0) hX d_Ca_passRound_41 rfl rfl ?_
          refine Z_getR (k0 := 0) hX d_Ca_passRound_42 rfl rfl u_Ca (by decide) lk_Ca_9 rfl ?_
          refine Z_iload_n (i := 3) hX d_Ca_passRound_45 rfl rfl ?_
          refine Z_aload_n (i := 1) hX d_Ca_passRound_46 rfl rfl ?_
          refine Z_iload_n (i := 3) hX d_Ca_passRound_47 rfl rfl ?_
          refine Z_cVi1 hX d_Ca_passRound_48 (c_Fl_shownCondition (Or.inl rfl) (by omega)) m_Fl_shownCondition rfl rfl lk_Ca_28 ⟨by decide, by decide⟩ ⟨by decide, by decide⟩ (Nat.le_of_ble_eq_true rfl) ?_
          refine Z_iast hX d_Ca_passRound_51 rfl rfl (by omega) (by decide) ?_
          refine Z_aload_n (i := 0) hX d_Ca_passRound_52 rfl rfl ?_
          refine Z_getR (k0 := 1) hX d_Ca_passRound_53 rfl rfl u_Ca (by decide) lk_Ca_15 rfl ?_
          refine Z_iload_n (i := 3) hX d_Ca_passRound_56 rfl rfl ?_
          refine Z_aload_n (i := 1) hX d_Ca_passRound_57 rfl rfl ?_
          refine Z_getR (k0 := 7) hX d_Ca_passRound_58 rfl rfl u_Fl (by decide) lk_Ca_34 rfl ?_
          refine Z_iload_n (i := 3) hX d_Ca_passRound_61 rfl rfl ?_
          refine Z_iald hX d_Ca_passRound_62 rfl rfl (by omega) (by decide) ?_
          refine Z_iast hX d_Ca_passRound_63 rfl rfl (by omega) (by decide) ?_
          refine Z_iinc (v := nI (i + 1)) hX d_Ca_passRound_64 rfl (by rw [nI_succ]; rfl) (by decide) rfl ?_
          refine Z_goto (tgt := 4) hX d_Ca_passRound_67 rfl ?_
          refine Z_loc ?_ (Z_mem ?_ ?_ (ih (i + 1) (by omega)))
          · (rw [show l_s I (i + 1) = l_s I i from by simp [l_s, h21, h36]]; rfl)
          · rfl
          · rfl
        · refine Z_iconst (v := 0) hX d_Ca_passRound_39 rfl ?_
          refine Z_istore_n (i := 2) hX d_Ca_passRound_40 rfl (by decide) rfl ?_
          refine Z_aload_n (i := 0) hX d_Ca_passRound_41 rfl rfl ?_
          refine Z_getR (k0 := 0) hX d_Ca_passRound_42 rfl rfl u_Ca (by decide) lk_Ca_9 rfl ?_
          refine Z_iload_n (i := 3) hX d_Ca_passRound_45 rfl rfl ?_
          refine Z_aload_n (i := 1) hX d_Ca_passRound_46 rfl rfl ?_
          refine Z_iload_n (i := 3) hX d_Ca_passRound_47 rfl rfl ?_
          refine Z_cVi1 hX d_Ca_passRound_48 (c_Fl_shownCondition (Or.inl rfl) (by omega)) m_Fl_shownCondition rfl rfl lk_Ca_28 ⟨by decide, by decide⟩ ⟨by decide, by decide⟩ (Nat.le_of_ble_eq_true rfl) ?_
          refine Z_iast hX d_Ca_passRound_51 rfl rfl (by omega) (by decide) ?_
          refine Z_aload_n (i := 0) hX d_Ca_passRound_52 rfl rfl ?_
          refine Z_getR (k0 := 1) hX d_Ca_passRound_53 rfl rfl u_Ca (by decide) lk_Ca_15 rfl ?_
          refine Z_iload_n (i := 3) hX d_Ca_passRound_56 rfl rfl ?_
          refine Z_aload_n (i := 1) hX d_Ca_passRound_57 rfl rfl ?_
          refine Z_getR (k0 := 7) hX d_Ca_passRound_58 rfl rfl u_Fl (by decide) lk_Ca_34 rfl ?_
          refine Z_iload_n (i := 3) hX d_Ca_passRound_61 rfl rfl ?_
          refine Z_iald hX d_Ca_passRound_62 rfl rfl (by omega) (by decide) ?_
          refine Z_iast hX d_Ca_passRound_63 rfl rfl (by omega) (by decide) ?_
          refine Z_iinc (v := nI (i + 1)) hX d_Ca_passRound_64 rfl (by rw [nI_succ]; rfl) (by decide) rfl ?_
          refine Z_goto (tgt := 4) hX d_Ca_passRound_67 rfl ?_
          refine Z_loc ?_ (Z_mem ?_ ?_ (ih (i + 1) (by omega)))
          · (rw [show zB (l_s I (i + 1)) = 0 from by simp [l_s, h21, h36, zB]]; rfl)
          · rfl
          · rfl
  refine Z_loc ?_ (Z_mem ?_ ?_ (hL4 16 0 (by omega)))
  · rfl
  · rfl
  · rfl

set_option maxRecDepth 100000 in
set_option maxHeartbeats 4000000 in
theorem c_CT_settled {la : Launch} {G : zG} {I : zI} {J : zJ}  : zCi la G y_CT_settled (Cond.code y_CT_settled prog_1_method_14_code 1 (some .int) :: TBL) (zR 1) [.ref (zad G 0)] I J (I 59 2) (I) (J) := by
  refine zCi_of (by decide) (by simp [lg_sl, Value.category]) (rfl) (fun X hla hX hR => ?_)
  subst hla
  refine Z_loc (l' := [(0, .ref (zad G 0))]) (by simp [lv_args, Value.category, List.lookup]) ?_
  refine Z_aload_n (i := 0) hX d_CT_settled_0 rfl rfl ?_
  refine Z_getR (k0 := 4) hX d_CT_settled_1 rfl rfl u_CT (by decide) lk_CT_38 rfl ?_
  refine Z_getI (k0 := 2) hX d_CT_settled_4 rfl rfl u_Ca (by decide) lk_CT_173 rfl ?_
  exact Z_ri (hR _ _ d_CT_settled_7) (by rfl) rfl rfl

set_option maxRecDepth 100000 in
set_option maxHeartbeats 4000000 in
theorem c_CT_tracing {la : Launch} {G : zG} {I : zI} {J : zJ} {o t : Bool} (ht : I 1 15 = zB t) : zCi la G y_CT_tracing (Cond.code y_CT_tracing prog_1_method_7_code 3 (some .boolean) :: TBL) (zR 1) [.ref (zad G 0), .int (zB o)] I J (zB t) (zup I 1 15 (zB o)) (J) := by
  refine zCi_of (by decide) (by simp [lg_sl, Value.category]) (zB_nar _) (fun X hla hX hR => ?_)
  subst hla
  refine Z_loc (l' := [(0, .ref (zad G 0)), (1, .int (zB o))]) (by simp [lv_args, Value.category, List.lookup]) ?_
  refine Z_aload_n (i := 0) hX d_CT_tracing_0 rfl rfl ?_
  refine Z_getR (k0 := 0) hX d_CT_tracing_1 rfl rfl u_CT (by decide) lk_CT_12 rfl ?_
  refine Z_getI (k0 := 15) hX d_CT_tracing_4 rfl rfl u_Pl (by decide) lk_CT_125 rfl ?_
  refine Z_istore_n (i := 2) hX d_CT_tracing_7 rfl (by decide) rfl ?_
  refine Z_aload_n (i := 0) hX d_CT_tracing_8 rfl rfl ?_
  refine Z_getR (k0 := 0) hX d_CT_tracing_9 rfl rfl u_CT (by decide) lk_CT_12 rfl ?_
  refine Z_iload_n (i := 1) hX d_CT_tracing_12 rfl rfl ?_
  refine Z_putI (k0 := 15) hX d_CT_tracing_13 rfl rfl u_Pl (by decide) lk_CT_125 rfl t_Pl to_Pl n_Pl rfl rfl (zB_nar _) (zB_fit _) ?_
  refine Z_iload_n (i := 2) hX d_CT_tracing_16 rfl rfl ?_
  exact Z_ri (hR _ _ d_CT_tracing_17) (by exact ht) (by rfl) (by rfl)

set_option maxRecDepth 100000 in
set_option maxHeartbeats 4000000 in
theorem c_CT_loop {la : Launch} {G : zG} {I : zI} {J : zJ} (hL : okL I) (hK : ∀ e, e < 16 → okK I 16 e) : zCi la G y_CT_loop (Cond.code y_CT_loop prog_1_method_19_code 2 (some .boolean) :: TBL) (zR 3) [.ref (zad G 0)] I J (zB (c_lo I 16)) (I) (J) := by
  refine zCi_of (by decide) (by simp [lg_sl, Value.category]) (zB_nar _) (fun X hla hX hR => ?_)
  subst hla
  refine Z_loc (l' := [(0, .ref (zad G 0))]) (by simp [lv_args, Value.category, List.lookup]) ?_
  refine Z_iconst (v := nI 0) hX d_CT_loop_0 rfl ?_
  refine Z_istore_n (i := 1) hX d_CT_loop_1 rfl (by decide) rfl ?_
  have hL2 : ∀ k i : Nat, k + i = 16 → c_lo I i = false → Z X G 2 0 0 2 [(1, .int (nI i)), (0, .ref (zad G 0))] [] I J := by
    intro k
    induction k with
    | zero =>
      intro i hi hf
      obtain rfl : i = 16 := by omega
      refine Z_iload_n (i := 1) hX d_CT_loop_2 rfl rfl ?_
      refine Z_bipush (v := 16) hX d_CT_loop_3 rfl ?_
      refine Z_icge (tgt := 29) hX d_CT_loop_5 rfl (fun h5 => ?_) (fun h => absurd (by decide) h)
      refine Z_iconst (v := 0) hX d_CT_loop_29 rfl ?_
      exact Z_ri (hR _ _ d_CT_loop_30) (by rw [hf]; rfl) rfl rfl
    | succ k ih =>
      intro i hi hf
      have hi2 : i < 16 := by omega
      refine Z_iload_n (i := 1) hX d_CT_loop_2 rfl rfl ?_
      refine Z_bipush (v := 16) hX d_CT_loop_3 rfl ?_
      refine Z_icge (tgt := 29) hX d_CT_loop_5 rfl (fun h => absurd h (nI_ge hi2 (by decide))) (fun h5 => ?_)
      refine Z_aload_n (i := 0) hX d_CT_loop_8 rfl rfl ?_
      refine Z_getR (k0 := 1) hX d_CT_loop_9 rfl rfl u_CT (by decide) lk_CT_21 rfl ?_
      refine Z_iload_n (i := 1) hX d_CT_loop_12 rfl rfl ?_
      refine Z_cVi1 hX d_CT_loop_13 (c_Fl_follow (Or.inl rfl) (by omega) hL hK) m_Fl_follow rfl rfl lk_CT_206 ⟨by decide, by decide⟩ ⟨by decide, by decide⟩ (Nat.le_of_ble_eq_true rfl) ?_
      refine Z_bipush (v := (-2)) hX d_CT_loop_16 rfl ?_
      refine Z_icne (tgt := 23) hX d_CT_loop_18 rfl (fun h18 => ?_) (fun h18 => ?_)
      · refine Z_iinc (v := nI (i + 1)) hX d_CT_loop_23 rfl (by rw [nI_succ]; rfl) (by decide) rfl ?_
        refine Z_goto (tgt := 2) hX d_CT_loop_26 rfl ?_
        refine Z_loc ?_ (ih (i + 1) (by omega) ?_)
        · rfl
        · simp [c_lo, hf, h18]
      · refine Z_iconst (v := 1) hX d_CT_loop_21 rfl ?_
        exact Z_ri (hR _ _ d_CT_loop_22) (by rw [show (16 : Nat) = (i + 1) + k by omega, c_lo_le (by simp [c_lo, h18]) k]; rfl) rfl rfl
  refine Z_loc ?_ (hL2 16 0 (by omega) rfl)
  rfl

set_option maxRecDepth 100000 in
set_option maxHeartbeats 4000000 in
theorem c_CT_findStarved {la : Launch} {G : zG} {I : zI} {J : zJ} {m : Nat} {f : Int32} (hE : okE I m) (hN : okN I) : zCv la G y_CT_findStarved (Cond.code y_CT_findStarved prog_1_method_23_code 3 none :: TBL) (zR 6) [.ref (zad G 0), .int f] I J (s_f m f I 16) (J) := by
  refine zCv_of (by decide) (by simp [lg_sl, Value.category]) (fun X hla hX hR => ?_)
  subst hla
  refine Z_loc (l' := [(0, .ref (zad G 0)), (1, .int f)]) (by simp [lv_args, Value.category, List.lookup]) ?_
  refine Z_iconst (v := nI 0) hX d_CT_findStarved_0 rfl ?_
  refine Z_istore_n (i := 2) hX d_CT_findStarved_1 rfl (by decide) rfl ?_
  have hL2 : ∀ k i : Nat, k + i = 16 → Z X G 3 0 0 2 [(2, .int (nI i)), (1, .int f), (0, .ref (zad G 0))] [] (s_f m f I i) (J) := by
    intro k
    induction k with
    | zero =>
      intro i hi
      obtain rfl : i = 16 := by omega
      refine Z_iload_n (i := 2) hX d_CT_findStarved_2 rfl rfl ?_
      refine Z_bipush (v := 16) hX d_CT_findStarved_3 rfl ?_
      refine Z_icge (tgt := 64) hX d_CT_findStarved_5 rfl (fun h5 => ?_) (fun h => absurd (by decide) h)
      exact Z_mem (by rfl) (by rfl) (hR _ _ d_CT_findStarved_64)
    | succ k ih =>
      intro i hi
      have hi2 : i < 16 := by omega
      refine Z_iload_n (i := 2) hX d_CT_findStarved_2 rfl rfl ?_
      refine Z_bipush (v := 16) hX d_CT_findStarved_3 rfl ?_
      refine Z_icge (tgt := 64) hX d_CT_findStarved_5 rfl (fun h => absurd h (nI_ge hi2 (by decide))) (fun h5 => ?_)
      refine Z_aload_n (i := 0) hX d_CT_findStarved_8 rfl rfl ?_
      refine Z_getI (k0 := 7) hX d_CT_findStarved_9 rfl rfl u_CT (by decide) lk_CT_49 rfl ?_
      refine Z_bipush (v := 100) hX d_CT_findStarved_12 rfl ?_
      refine Z_icge (tgt := 64) hX d_CT_findStarved_14 rfl (fun h14 => ?_) (fun h14 => ?_)
      · exact Z_mem (by (rw [show (16 : Nat) = i + (k + 1) by omega]; exact (s_f_stop h14 (k + 1)).symm)) (by rfl) (hR _ _ d_CT_findStarved_64)
      · refine Z_aload_n (i := 0) hX d_CT_findStarved_17 rfl rfl ?_
        refine Z_getR (k0 := 2) hX d_CT_findStarved_18 rfl rfl u_CT (by decide) lk_CT_25 rfl ?_
        refine Z_iload_n (i := 2) hX d_CT_findStarved_21 rfl rfl ?_
        refine Z_cVi1 hX d_CT_findStarved_22 (c_Fl_isStarved (Or.inr rfl) (by omega) (okE_of (fr_sf (by decide) i) (fr_sf (by decide) i) (fr_sf (by decide) i) hE)) m_Fl_isStarved rfl rfl lk_CT_225 ⟨by decide, by decide⟩ ⟨by decide, by decide⟩ (Nat.le_of_ble_eq_true rfl) ?_
        refine Z_ifeqB (tgt := 58) hX d_CT_findStarved_25 rfl (fun h25 => ?_) (fun h25 => ?_)
        · refine Z_iinc (v := nI (i + 1)) hX d_CT_findStarved_58 rfl (by rw [nI_succ]; rfl) (by decide) rfl ?_
          refine Z_goto (tgt := 2) hX d_CT_findStarved_61 rfl ?_
          refine Z_loc ?_ (Z_mem ?_ ?_ (ih (i + 1) (by omega)))
          · rfl
          · exact ((if_neg h14).trans (if_neg (by rw [h25]; decide))).symm
          · rfl
        · obtain ⟨c, hc, hc2⟩ := okN_lt (okN_sf hN i) h14
          refine Z_aload_n (i := 0) hX d_CT_findStarved_28 rfl rfl ?_
          refine Z_getR (k0 := 5) hX d_CT_findStarved_29 rfl rfl u_CT (by decide) lk_CT_42 rfl ?_
          refine Z_aload_n (i := 0) hX d_CT_findStarved_32 rfl rfl ?_
          refine Z_getI (k0 := 7) hX d_CT_findStarved_33 rfl rfl u_CT (by decide) lk_CT_49 rfl ?_
          refine Z_top hc2 ?_
          refine Z_iload_n (i := 1) hX d_CT_findStarved_36 rfl rfl ?_
          refine Z_iast hX d_CT_findStarved_37 rfl rfl (by omega) (by decide) ?_
          refine Z_aload_n (i := 0) hX d_CT_findStarved_38 rfl rfl ?_
          refine Z_getR (k0 := 6) hX d_CT_findStarved_39 rfl rfl u_CT (by decide) lk_CT_46 rfl ?_
          refine Z_aload_n (i := 0) hX d_CT_findStarved_42 rfl rfl ?_
          refine Z_getI (k0 := 7) hX d_CT_findStarved_43 rfl rfl u_CT (by decide) lk_CT_49 rfl ?_
          refine Z_top (y := nI c) (by rw [zup_ne (by decide)]; exact hc2) ?_
          refine Z_iload_n (i := 2) hX d_CT_findStarved_46 rfl rfl ?_
          refine Z_iast hX d_CT_findStarved_47 rfl rfl (by omega) (by decide) ?_
          refine Z_aload_n (i := 0) hX d_CT_findStarved_48 rfl rfl ?_
          refine Z_dup hX d_CT_findStarved_49 rfl ?_
          refine Z_getI (k0 := 7) hX d_CT_findStarved_50 rfl rfl u_CT (by decide) lk_CT_49 rfl ?_
          refine Z_iconst (v := 1) hX d_CT_findStarved_53 rfl ?_
          refine Z_iadd hX d_CT_findStarved_54 ?_
          refine Z_putI (k0 := 7) hX d_CT_findStarved_55 rfl rfl u_CT (by decide) lk_CT_49 rfl t_CT to_CT n_CT rfl rfl rfl rfl ?_
          refine Z_iinc (v := nI (i + 1)) hX d_CT_findStarved_58 rfl (by rw [nI_succ]; rfl) (by decide) rfl ?_
          refine Z_goto (tgt := 2) hX d_CT_findStarved_61 rfl ?_
          refine Z_loc ?_ (Z_mem ?_ ?_ (ih (i + 1) (by omega)))
          · rfl
          · (rw [s_f, if_neg h14, if_pos h25, okN_s1 hc hc2]; try rw [show zup (zup (s_f m f I i) 62 c f) 63 c (nI i) 0 7 = nI c from by rw [zup_ne (by decide), zup_ne (by decide)]; exact hc2]; try rw [← nI_1]; try rfl)
          · rfl
  refine Z_loc ?_ (Z_mem ?_ ?_ (hL2 16 0 (by omega)))
  · rfl
  · rfl
  · rfl
end
section
theorem fr_wcp {I : zI} {a w c : Nat} (hc : c < w + 1 ∨ w + 4 ≤ c) : w_cp I a w c = I c := by
  unfold w_cp
  rw [zcp_ne (by omega), zcp_ne (by omega), zcp_ne (by omega)]
theorem fr_cp {I : zI} {a b c : Nat} (hc : c < b ∨ b + 19 ≤ c) : f_cp I a b c = I c := by
  unfold f_cp f_cpu f_cpA
  rw [zup_ne (by omega), zup_ne (by omega), zup_ne (by omega), zcp_ne (by omega), zcp_ne (by omega), zcp_ne (by omega), zcp_ne (by omega), zcp_ne (by omega), zcp_ne (by omega), fr_wcp (by omega), fr_wcp (by omega)]
theorem fr_sl {I : zI} {b c : Nat} {k on : Int32} (hc : c ≠ b) : f_sl I b k on c = I c := zup_ne hc
theorem fr_fp {I : zI} {b s c : Nat} (hc : c < b ∨ b + 19 ≤ c) : f_fp I b s c = I c := by
  unfold f_fp
  rw [zup_ne (by omega), zup_ne (by omega), fr_wr (by omega)]
theorem fr_fl {I : zI} {b e c : Nat} (hc : c < b ∨ b + 19 ≤ c) : ∀ p, f_fl I b e p c = I c
  | 0 => rfl
  | p + 1 => by
    unfold f_fl
    rw [fr_fp hc, fr_fl hc p]
theorem fr_fg {I : zI} {b e c : Nat} (hc : c < b ∨ b + 19 ≤ c) : f_fg I b e c = I c := by
  unfold f_fg
  rw [fr_fl hc]
  unfold f_fg0
  rw [zup_ne (by omega), zup_ne (by omega), zup_ne (by omega), zup_ne (by omega), zup_ne (by omega)]
theorem fr_se {I : zI} {b e c : Nat} {on : Int32} (hc : c < b ∨ b + 19 ≤ c) : f_se I b e on c = I c := by
  unfold f_se
  split
  · exact zup_ne (by omega)
  · rw [fr_fg hc, zup_ne (by omega)]
theorem fr_rs {b c : Nat} (hc : c < b ∨ b + 19 ≤ c) : ∀ (k i : Nat) (I : zI) (J : zJ), (f_rs b k i I J).1 c = I c
  | 0, _, _, _ => rfl
  | k + 1, i, I, J => by
    unfold f_rs
    split
    · rw [fr_rs hc k, fr_ro hc]
    · rfl
/-- cells that a check leaves alone -/
def ckc (c : Nat) : Prop := c ≠ 0 ∧ c ≠ 62 ∧ c ≠ 63 ∧ (c < 35 ∨ 54 ≤ c)
theorem c_try_1 {m rn : Nat} {f : Int32} {I : zI} {J : zJ} : (c_try m rn f I J).1 = s_f m f (f_rs 35 rn 0 I J).1 16 := by simp only [c_try]
theorem c_try_2 {m rn : Nat} {f : Int32} {I : zI} {J : zJ} : (c_try m rn f I J).2 = (f_rs 35 rn 0 I J).2 := by simp only [c_try]
theorem fr_try {m rn : Nat} {f : Int32} {I : zI} {J : zJ} {c : Nat} (h : ckc c) : (c_try m rn f I J).1 c = I c := by
  rw [c_try_1, fr_sf ⟨h.1, h.2.1, h.2.2.1⟩, fr_rs h.2.2.2]
theorem fr_cl {m rn : Nat} {I : zI} {J : zJ} {c : Nat} (h : ckc c) : ∀ j, (c_l m rn I J j).1 c = I c
  | 0 => rfl
  | j + 1 => by
    unfold c_l
    have h1 := fr_cl (m := m) (rn := rn) (I := I) (J := J) h j
    have h2 := h.2.2.2
    split
    · exact h1
    · split
      · rw [fr_try h, fr_sl (by omega), fr_cp (by omega), h1]
      · exact h1
theorem fr_ce {m rn : Nat} {I : zI} {J : zJ} {c : Nat} (h : ckc c) : ∀ j, (c_e m rn I J j).1 c = I c
  | 0 => rfl
  | j + 1 => by
    unfold c_e
    have h1 := fr_ce (m := m) (rn := rn) (I := I) (J := J) h j
    have h2 := h.2.2.2
    split
    · exact h1
    · split
      · rw [fr_try h, fr_se (by omega), fr_cp (by omega), h1]
      · exact h1
theorem okN_of {I I' : zI} (h : I' 0 = I 0) (hN : okN I) : okN I' := by
  unfold okN
  rw [h]
  exact hN
theorem okN_try {m rn : Nat} {f : Int32} {I : zI} {J : zJ} (h : okN I) : okN (c_try m rn f I J).1 := by
  rw [c_try_1]
  exact okN_sf (okN_of (fr_rs (by omega) _ _ _ _) h) 16
theorem okN_cl {m rn : Nat} {I : zI} {J : zJ} (h : okN I) : ∀ j, okN (c_l m rn I J j).1
  | 0 => h
  | j + 1 => by
    have h1 := okN_cl (m := m) (rn := rn) (J := J) h j
    unfold c_l
    split
    · exact h1
    · split
      · exact okN_try (okN_of ((fr_sl (by decide)).trans (fr_cp (by decide))) h1)
      · exact h1
theorem okN_ce {m rn : Nat} {I : zI} {J : zJ} (h : okN I) : ∀ j, okN (c_e m rn I J j).1
  | 0 => h
  | j + 1 => by
    have h1 := okN_ce (m := m) (rn := rn) (J := J) h j
    unfold c_e
    split
    · exact h1
    · split
      · exact okN_try (okN_of ((fr_se (by decide)).trans (fr_cp (by decide))) h1)
      · exact h1
theorem c_l_stop {m rn : Nat} {I : zI} {J : zJ} {j : Nat} (h : 100 ≤ (c_l m rn I J j).1 0 7) : ∀ n, c_l m rn I J (j + n) = c_l m rn I J j
  | 0 => rfl
  | n + 1 => by
    have e := c_l_stop h n
    show c_l m rn I J ((j + n) + 1) = _
    rw [c_l, e, if_pos h]
theorem c_e_stop {m rn : Nat} {I : zI} {J : zJ} {j : Nat} (h : 100 ≤ (c_e m rn I J j).1 0 7) : ∀ n, c_e m rn I J (j + n) = c_e m rn I J j
  | 0 => rfl
  | n + 1 => by
    have e := c_e_stop h n
    show c_e m rn I J ((j + n) + 1) = _
    rw [c_e, e, if_pos h]
def c_A (m rn : Nat) (I : zI) (J : zJ) : zI × zJ := c_l m rn (zup I 0 7 0) J m
def c_ck (m rn : Nat) (I : zI) (J : zJ) : zI × zJ := c_e m rn (c_A m rn I J).1 (c_A m rn I J).2 16
theorem fr_cA {m rn : Nat} {I : zI} {J : zJ} {c : Nat} (h : ckc c) : (c_A m rn I J).1 c = I c := by
  unfold c_A
  rw [fr_cl h, zup_ne h.1]
theorem fr_ck {m rn : Nat} {I : zI} {J : zJ} {c : Nat} (h : ckc c) : (c_ck m rn I J).1 c = I c := by
  unfold c_ck
  rw [fr_ce h, fr_cA h]
theorem ckc_lt {c : Nat} (h : c < 16) (h0 : c ≠ 0) : ckc c := ⟨h0, by omega, by omega, by omega⟩
theorem okP_ck {I I' : zI} (h : ∀ c, ckc c → I' c = I c) (hP : okP I) : okP I' := by
  refine ⟨okL_of (h 9 (ckc_lt (by decide) (by decide))) (h 10 (ckc_lt (by decide) (by decide))) hP.1, fun e he => ?_⟩
  rw [h 7 (ckc_lt (by decide) (by decide)), h 8 (ckc_lt (by decide) (by decide))]
  exact hP.2 e he
theorem okE_ck {I I' : zI} {m : Nat} (h : ∀ c, ckc c → I' c = I c) (hE : okE I m) : okE I' m := okE_of (h 1 (ckc_lt (by decide) (by decide))) (h 10 (ckc_lt (by decide) (by decide))) (h 15 (ckc_lt (by decide) (by decide))) hE
theorem p_lo_of {I I' : zI} (h : I' 6 = I 6) : ∀ n, p_lo I' n = p_lo I n
  | 0 => rfl
  | n + 1 => by
    unfold p_lo
    rw [p_lo_of h n, h]
theorem c_ent1 {m rn : Nat} {I : zI} {J : zJ} : (c_l m rn (zup I 0 7 0) J m).1 = (c_e m rn (c_A m rn I J).1 (c_A m rn I J).2 0).1 := by rw [c_e, c_A]
theorem c_ent2 {m rn : Nat} {I : zI} {J : zJ} : (c_l m rn (zup I 0 7 0) J m).2 = (c_e m rn (c_A m rn I J).1 (c_A m rn I J).2 0).2 := by rw [c_e, c_A]
theorem c_l_n {m rn : Nat} {I : zI} {J : zJ} {j : Nat} (h : ¬ 100 ≤ (c_l m rn I J j).1 0 7) (h2 : f_lw (c_l m rn I J j).1 16 (nI j) = false) : c_l m rn I J (j + 1) = c_l m rn I J j := by
  rw [c_l, if_neg h, if_neg (by rw [h2]; decide)]
theorem c_l_y1 {m rn : Nat} {I : zI} {J : zJ} {j : Nat} (h : ¬ 100 ≤ (c_l m rn I J j).1 0 7) (h2 : f_lw (c_l m rn I J j).1 16 (nI j) = true) : s_f m (nI j) (f_rs 35 rn 0 (f_sl (f_cp (c_l m rn I J j).1 16 35) 35 (nI j) 1) (f_cpJ (c_l m rn I J j).2 16 35)).1 16 = (c_l m rn I J (j + 1)).1 := by
  rw [c_l, if_neg h, if_pos h2, c_try_1]
theorem c_l_y2 {m rn : Nat} {I : zI} {J : zJ} {j : Nat} (h : ¬ 100 ≤ (c_l m rn I J j).1 0 7) (h2 : f_lw (c_l m rn I J j).1 16 (nI j) = true) : (f_rs 35 rn 0 (f_sl (f_cp (c_l m rn I J j).1 16 35) 35 (nI j) 1) (f_cpJ (c_l m rn I J j).2 16 35)).2 = (c_l m rn I J (j + 1)).2 := by
  rw [c_l, if_neg h, if_pos h2, c_try_2]
theorem c_e_n {m rn : Nat} {I : zI} {J : zJ} {j : Nat} (h : ¬ 100 ≤ (c_e m rn I J j).1 0 7) (h2 : f_wh (c_e m rn I J j).1 16 j = false) : c_e m rn I J (j + 1) = c_e m rn I J j := by
  rw [c_e, if_neg h, if_neg (by rw [h2]; decide)]
theorem c_e_y1 {m rn : Nat} {I : zI} {J : zJ} {j : Nat} (h : ¬ 100 ≤ (c_e m rn I J j).1 0 7) (h2 : f_wh (c_e m rn I J j).1 16 j = true) : s_f m (100 + nI j) (f_rs 35 rn 0 (f_se (f_cp (c_e m rn I J j).1 16 35) 35 j 1) (f_cpJ (c_e m rn I J j).2 16 35)).1 16 = (c_e m rn I J (j + 1)).1 := by
  rw [c_e, if_neg h, if_pos h2, c_try_1]
theorem c_e_y2 {m rn : Nat} {I : zI} {J : zJ} {j : Nat} (h : ¬ 100 ≤ (c_e m rn I J j).1 0 7) (h2 : f_wh (c_e m rn I J j).1 16 j = true) : (f_rs 35 rn 0 (f_se (f_cp (c_e m rn I J j).1 16 35) 35 j 1) (f_cpJ (c_e m rn I J j).2 16 35)).2 = (c_e m rn I J (j + 1)).2 := by
  rw [c_e, if_neg h, if_pos h2, c_try_2]
theorem c_ck_1 {m rn : Nat} {I : zI} {J : zJ} : c_e m rn (c_A m rn I J).1 (c_A m rn I J).2 16 = c_ck m rn I J := by simp only [c_ck]
set_option maxRecDepth 100000 in
set_option maxHeartbeats 4000000 in
theorem c_CT_check {la : Launch} {G : zG} {I : zI} {J : zJ} {m rn : Nat} (hE : okE I m) (hP : okP I) (hrn : 4 * (24 + p_lo I 16) = nI rn) (hrn2 : rn < 1000) : zCi la G y_CT_check (Cond.code y_CT_check prog_1_method_21_code 3 (some .int) :: TBL) (zR 7) [.ref (zad G 0)] I J ((c_ck m rn I J).1 0 7) ((c_ck m rn I J).1) ((c_ck m rn I J).2) := by
  refine zCi_of (by decide) (by simp [lg_sl, Value.category]) (rfl) (fun X hla hX hR => ?_)
  subst hla
  refine Z_loc (l' := [(0, .ref (zad G 0))]) (by simp [lv_args, Value.category, List.lookup]) ?_
  have hm := hE.2.1
  refine Z_aload_n (i := 0) hX d_CT_check_0 rfl rfl ?_
  refine Z_iconst (v := 0) hX d_CT_check_1 rfl ?_
  refine Z_putI (k0 := 7) hX d_CT_check_2 rfl rfl u_CT (by decide) lk_CT_49 rfl t_CT to_CT n_CT rfl rfl rfl rfl ?_
  refine Z_iconst (v := 4) hX d_CT_check_5 rfl ?_
  refine Z_bipush (v := 24) hX d_CT_check_6 rfl ?_
  refine Z_aload_n (i := 0) hX d_CT_check_8 rfl rfl ?_
  refine Z_getR (k0 := 0) hX d_CT_check_9 rfl rfl u_CT (by decide) lk_CT_12 rfl ?_
  refine Z_cVi0 hX d_CT_check_12 c_Pl_longestRestore m_Pl_longestRestore rfl rfl lk_CT_212 ⟨by decide, by decide⟩ ⟨by decide, by decide⟩ (Nat.le_of_ble_eq_true rfl) ?_
  refine Z_iadd hX d_CT_check_15 ?_
  refine Z_imul hX d_CT_check_16 ?_
  refine Z_top (y := nI rn) (by rw [p_lo_of (I := I) (zup_ne (by decide))]; exact hrn) ?_
  refine Z_istore_n (i := 1) hX d_CT_check_17 rfl (by decide) rfl ?_
  refine Z_iconst (v := nI 0) hX d_CT_check_18 rfl ?_
  refine Z_istore_n (i := 2) hX d_CT_check_19 rfl (by decide) rfl ?_
  have hL20 : ∀ k i : Nat, k + i = m → Z X G 3 0 0 20 [(2, .int (nI i)), (1, .int (nI rn)), (0, .ref (zad G 0))] [] ((c_l m rn (zup I 0 7 0) J i).1) ((c_l m rn (zup I 0 7 0) J i).2) := by
    intro k
    induction k with
    | zero =>
      intro i hi
      obtain rfl : m = i := by omega
      refine Z_iload_n (i := 2) hX d_CT_check_20 rfl rfl ?_
      refine Z_aload_n (i := 0) hX d_CT_check_21 rfl rfl ?_
      refine Z_getR (k0 := 0) hX d_CT_check_22 rfl rfl u_CT (by decide) lk_CT_12 rfl ?_
      refine Z_getI (k0 := 14) hX d_CT_check_25 rfl rfl u_Pl (by decide) lk_CT_97 rfl ?_
      refine Z_top (y := nI m) (by first | exact hEi.1 | (rw [fr_cl (ckc_lt (by decide) (by decide)), zup_ne (by decide)]; exact hE.1)) ?_
      refine Z_icge (tgt := 90) hX d_CT_check_28 rfl (fun h28 => ?_) (fun h => absurd (nI_le (Nat.le_refl _) (by omega)) h)
      refine Z_iconst (v := nI 0) hX d_CT_check_90 rfl ?_
      refine Z_istore_n (i := 2) hX d_CT_check_91 rfl (by decide) rfl ?_
      have hL92 : ∀ k2 j : Nat, k2 + j = 16 → Z X G 3 0 0 92 [(2, .int (nI j)), (1, .int (nI rn)), (0, .ref (zad G 0))] [] ((c_e m rn (c_A m rn I J).1 (c_A m rn I J).2 j).1) ((c_e m rn (c_A m rn I J).1 (c_A m rn I J).2 j).2) := by
        intro k2
        induction k2 with
        | zero =>
          intro j hj
          obtain rfl : j = 16 := by omega
          refine Z_iload_n (i := 2) hX d_CT_check_92 rfl rfl ?_
          refine Z_bipush (v := 16) hX d_CT_check_93 rfl ?_
          refine Z_icge (tgt := 160) hX d_CT_check_95 rfl (fun h95 => ?_) (fun h => absurd (by decide) h)
          refine Z_aload_n (i := 0) hX d_CT_check_160 rfl rfl ?_
          refine Z_getI (k0 := 7) hX d_CT_check_161 rfl rfl u_CT (by decide) lk_CT_49 rfl ?_
          exact Z_ri (hR _ _ d_CT_check_164) (by rw [c_ck_1]) (by rw [c_ck_1]) (by rw [c_ck_1])
        | succ k2 ih2 =>
          intro j hj
          have hj2 : j < 16 := by omega
          have hPi : okP (c_e m rn (c_A m rn I J).1 (c_A m rn I J).2 j).1 := okP_ck (fun c hc => (fr_ce hc j).trans (fr_cA hc)) hP
          have hEi : okE (c_e m rn (c_A m rn I J).1 (c_A m rn I J).2 j).1 m := okE_ck (fun c hc => (fr_ce hc j).trans (fr_cA hc)) hE
          have hNi : okN (c_e m rn (c_A m rn I J).1 (c_A m rn I J).2 j).1 := okN_ce (okN_cl ⟨0, by decide, by rw [zup_same, pk_us]; rfl⟩ m) j
          refine Z_iload_n (i := 2) hX d_CT_check_92 rfl rfl ?_
          refine Z_bipush (v := 16) hX d_CT_check_93 rfl ?_
          refine Z_icge (tgt := 160) hX d_CT_check_95 rfl (fun h => absurd h (nI_ge hj2 (by decide))) (fun h95 => ?_)
          refine Z_aload_n (i := 0) hX d_CT_check_98 rfl rfl ?_
          refine Z_getI (k0 := 7) hX d_CT_check_99 rfl rfl u_CT (by decide) lk_CT_49 rfl ?_
          refine Z_bipush (v := 100) hX d_CT_check_102 rfl ?_
          refine Z_icge (tgt := 160) hX d_CT_check_104 rfl (fun h104 => ?_) (fun h104 => ?_)
          · have hm8 : (c_e m rn (c_A m rn I J).1 (c_A m rn I J).2 16) = (c_e m rn (c_A m rn I J).1 (c_A m rn I J).2 j) := by rw [show (c_e m rn (c_A m rn I J).1 (c_A m rn I J).2 16) = (c_e m rn (c_A m rn I J).1 (c_A m rn I J).2 (j + (k2 + 1))) from congrArg _ (by omega)]; exact c_e_stop h104 (k2 + 1)
            refine Z_mem (I' := (c_e m rn (c_A m rn I J).1 (c_A m rn I J).2 16).1) (J' := (c_e m rn (c_A m rn I J).1 (c_A m rn I J).2 16).2) (by rw [hm8]) (by rw [hm8]) ?_
            refine Z_aload_n (i := 0) hX d_CT_check_160 rfl rfl ?_
            refine Z_getI (k0 := 7) hX d_CT_check_161 rfl rfl u_CT (by decide) lk_CT_49 rfl ?_
            exact Z_ri (hR _ _ d_CT_check_164) (by rw [c_ck_1]) (by rw [c_ck_1]) (by rw [c_ck_1])
          · refine Z_aload_n (i := 0) hX d_CT_check_107 rfl rfl ?_
            refine Z_getR (k0 := 1) hX d_CT_check_108 rfl rfl u_CT (by decide) lk_CT_21 rfl ?_
            refine Z_iload_n (i := 2) hX d_CT_check_111 rfl rfl ?_
            refine Z_cVi1 hX d_CT_check_112 (c_Fl_isWhole (Or.inl rfl) (by omega)) m_Fl_isWhole rfl rfl lk_CT_148 ⟨by decide, by decide⟩ ⟨by decide, by decide⟩ (Nat.le_of_ble_eq_true rfl) ?_
            refine Z_ifeqB (tgt := 154) hX d_CT_check_115 rfl (fun h115 => ?_) (fun h115 => ?_)
            · refine Z_iinc (v := nI (j + 1)) hX d_CT_check_154 rfl (by rw [nI_succ]; rfl) (by decide) rfl ?_
              refine Z_goto (tgt := 92) hX d_CT_check_157 rfl ?_
              refine Z_loc ?_ (Z_mem ?_ ?_ (ih2 (j + 1) (by omega)))
              · rfl
              · rw [c_e_n h104 h115]
              · rw [c_e_n h104 h115]
            · refine Z_aload_n (i := 0) hX d_CT_check_118 rfl rfl ?_
              refine Z_getR (k0 := 2) hX d_CT_check_119 rfl rfl u_CT (by decide) lk_CT_25 rfl ?_
              refine Z_aload_n (i := 0) hX d_CT_check_122 rfl rfl ?_
              refine Z_getR (k0 := 1) hX d_CT_check_123 rfl rfl u_CT (by decide) lk_CT_21 rfl ?_
              refine Z_cVv1 hX d_CT_check_126 (c_Fl_copy (Or.inr rfl) (Or.inl rfl)) m_Fl_copy rfl rfl lk_CT_216 ⟨by decide, by decide⟩ ⟨by decide, by decide⟩ (Nat.le_of_ble_eq_true rfl) ?_
              refine Z_aload_n (i := 0) hX d_CT_check_129 rfl rfl ?_
              refine Z_getR (k0 := 2) hX d_CT_check_130 rfl rfl u_CT (by decide) lk_CT_25 rfl ?_
              refine Z_iload_n (i := 2) hX d_CT_check_133 rfl rfl ?_
              refine Z_iconst (v := 1) hX d_CT_check_134 rfl ?_
              refine Z_cVv2 hX d_CT_check_135 (c_Fl_setElementFailed (Or.inr rfl) (by omega)) m_Fl_setElementFailed rfl rfl lk_CT_151 ⟨by decide, by decide⟩ ⟨by decide, by decide⟩ (Nat.le_of_ble_eq_true rfl) ?_
              refine Z_aload_n (i := 0) hX d_CT_check_138 rfl rfl ?_
              refine Z_getR (k0 := 2) hX d_CT_check_139 rfl rfl u_CT (by decide) lk_CT_25 rfl ?_
              refine Z_iload_n (i := 1) hX d_CT_check_142 rfl rfl ?_
              refine Z_cVv1 hX d_CT_check_143 (c_Fl_passRounds (Or.inr rfl) hrn2 (okP_of (fun c hc => (fr_se (by omega)).trans (fr_cp (by omega))) hPi)) m_Fl_passRounds rfl rfl lk_CT_219 ⟨by decide, by decide⟩ ⟨by decide, by decide⟩ (Nat.le_of_ble_eq_true rfl) ?_
              refine Z_aload_n (i := 0) hX d_CT_check_146 rfl rfl ?_
              refine Z_bipush (v := 100) hX d_CT_check_147 rfl ?_
              refine Z_iload_n (i := 2) hX d_CT_check_149 rfl rfl ?_
              refine Z_iadd hX d_CT_check_150 ?_
              refine Z_cVv1 hX d_CT_check_151 (c_CT_findStarved (m := m) (okE_of ((fr_rs (by omega) _ _ _ _).trans ((fr_se (by omega)).trans (fr_cp (by omega)))) ((fr_rs (by omega) _ _ _ _).trans ((fr_se (by omega)).trans (fr_cp (by omega)))) ((fr_rs (by omega) _ _ _ _).trans ((fr_se (by omega)).trans (fr_cp (by omega)))) hEi) (okN_of ((fr_rs (by omega) _ _ _ _).trans ((fr_se (by omega)).trans (fr_cp (by omega)))) hNi)) m_CT_findStarved rfl rfl lk_CT_222 ⟨by decide, by decide⟩ ⟨by decide, by decide⟩ (Nat.le_of_ble_eq_true rfl) ?_
              refine Z_iinc (v := nI (j + 1)) hX d_CT_check_154 rfl (by rw [nI_succ]; rfl) (by decide) rfl ?_
              refine Z_goto (tgt := 92) hX d_CT_check_157 rfl ?_
              refine Z_loc ?_ (Z_mem ?_ ?_ (ih2 (j + 1) (by omega)))
              · rfl
              · exact c_e_y1 h104 h115
              · exact c_e_y2 h104 h115
      refine Z_loc ?_ (Z_mem ?_ ?_ (hL92 16 0 (by omega)))
      · rfl
      · exact c_ent1
      · exact c_ent2
    | succ k ih =>
      intro i hi
      have hi2 : i < m := by omega
      have hPi : okP (c_l m rn (zup I 0 7 0) J i).1 := okP_ck (fun c hc => (fr_cl hc i).trans (zup_ne hc.1)) hP
      have hEi : okE (c_l m rn (zup I 0 7 0) J i).1 m := okE_ck (fun c hc => (fr_cl hc i).trans (zup_ne hc.1)) hE
      have hNi : okN (c_l m rn (zup I 0 7 0) J i).1 := okN_cl ⟨0, by decide, by rw [zup_same, pk_us]; rfl⟩ i
      refine Z_iload_n (i := 2) hX d_CT_check_20 rfl rfl ?_
      refine Z_aload_n (i := 0) hX d_CT_check_21 rfl rfl ?_
      refine Z_getR (k0 := 0) hX d_CT_check_22 rfl rfl u_CT (by decide) lk_CT_12 rfl ?_
      refine Z_getI (k0 := 14) hX d_CT_check_25 rfl rfl u_Pl (by decide) lk_CT_97 rfl ?_
      refine Z_top (y := nI m) (by first | exact hEi.1 | (rw [fr_cl (ckc_lt (by decide) (by decide)), zup_ne (by decide)]; exact hE.1)) ?_
      refine Z_icge (tgt := 90) hX d_CT_check_28 rfl (fun h => absurd h (nI_ge hi2 (by omega))) (fun h28 => ?_)
      refine Z_aload_n (i := 0) hX d_CT_check_31 rfl rfl ?_
      refine Z_getI (k0 := 7) hX d_CT_check_32 rfl rfl u_CT (by decide) lk_CT_49 rfl ?_
      refine Z_bipush (v := 100) hX d_CT_check_35 rfl ?_
      refine Z_icge (tgt := 90) hX d_CT_check_37 rfl (fun h37 => ?_) (fun h37 => ?_)
      · have hm9 : (c_l m rn (zup I 0 7 0) J m) = (c_l m rn (zup I 0 7 0) J i) := by rw [show (c_l m rn (zup I 0 7 0) J m) = (c_l m rn (zup I 0 7 0) J (i + (k + 1))) from congrArg _ (by omega)]; exact c_l_stop h37 (k + 1)
        refine Z_mem (I' := (c_l m rn (zup I 0 7 0) J m).1) (J' := (c_l m rn (zup I 0 7 0) J m).2) (by rw [hm9]) (by rw [hm9]) ?_
        refine Z_iconst (v := nI 0) hX d_CT_check_90 rfl ?_
        refine Z_istore_n (i := 2) hX d_CT_check_91 rfl (by decide) rfl ?_
        have hL92 : ∀ k2 j : Nat, k2 + j = 16 → Z X G 3 0 0 92 [(2, .int (nI j)), (1, .int (nI rn)), (0, .ref (zad G 0))] [] ((c_e m rn (c_A m rn I J).1 (c_A m rn I J).2 j).1) ((c_e m rn (c_A m rn I J).1 (c_A m rn I J).2 j).2) := by
          intro k2
          induction k2 with
          | zero =>
            intro j hj
            obtain rfl : j = 16 := by omega
            refine Z_iload_n (i := 2) hX d_CT_check_92 rfl rfl ?_
            refine Z_bipush (v := 16) hX d_CT_check_93 rfl ?_
            refine Z_icge (tgt := 160) hX d_CT_check_95 rfl (fun h95 => ?_) (fun h => absurd (by decide) h)
            refine Z_aload_n (i := 0) hX d_CT_check_160 rfl rfl ?_
            refine Z_getI (k0 := 7) hX d_CT_check_161 rfl rfl u_CT (by decide) lk_CT_49 rfl ?_
            exact Z_ri (hR _ _ d_CT_check_164) (by rw [c_ck_1]) (by rw [c_ck_1]) (by rw [c_ck_1])
          | succ k2 ih2 =>
            intro j hj
            have hj2 : j < 16 := by omega
            have hPi : okP (c_e m rn (c_A m rn I J).1 (c_A m rn I J).2 j).1 := okP_ck (fun c hc => (fr_ce hc j).trans (fr_cA hc)) hP
            have hEi : okE (c_e m rn (c_A m rn I J).1 (c_A m rn I J).2 j).1 m := okE_ck (fun c hc => (fr_ce hc j).trans (fr_cA hc)) hE
            have hNi : okN (c_e m rn (c_A m rn I J).1 (c_A m rn I J).2 j).1 := okN_ce (okN_cl ⟨0, by decide, by rw [zup_same, pk_us]; rfl⟩ m) j
            refine Z_iload_n (i := 2) hX d_CT_check_92 rfl rfl ?_
            refine Z_bipush (v := 16) hX d_CT_check_93 rfl ?_
            refine Z_icge (tgt := 160) hX d_CT_check_95 rfl (fun h => absurd h (nI_ge hj2 (by decide))) (fun h95 => ?_)
            refine Z_aload_n (i := 0) hX d_CT_check_98 rfl rfl ?_
            refine Z_getI (k0 := 7) hX d_CT_check_99 rfl rfl u_CT (by decide) lk_CT_49 rfl ?_
            refine Z_bipush (v := 100) hX d_CT_check_102 rfl ?_
            refine Z_icge (tgt := 160) hX d_CT_check_104 rfl (fun h104 => ?_) (fun h104 => ?_)
            · have hm8 : (c_e m rn (c_A m rn I J).1 (c_A m rn I J).2 16) = (c_e m rn (c_A m rn I J).1 (c_A m rn I J).2 j) := by rw [show (c_e m rn (c_A m rn I J).1 (c_A m rn I J).2 16) = (c_e m rn (c_A m rn I J).1 (c_A m rn I J).2 (j + (k2 + 1))) from congrArg _ (by omega)]; exact c_e_stop h104 (k2 + 1)
              refine Z_mem (I' := (c_e m rn (c_A m rn I J).1 (c_A m rn I J).2 16).1) (J' := (c_e m rn (c_A m rn I J).1 (c_A m rn I J).2 16).2) (by rw [hm8]) (by rw [hm8]) ?_
              refine Z_aload_n (i := 0) hX d_CT_check_160 rfl rfl ?_
              refine Z_getI (k0 := 7) hX d_CT_check_161 rfl rfl u_CT (by decide) lk_CT_49 rfl ?_
              exact Z_ri (hR _ _ d_CT_check_164) (by rw [c_ck_1]) (by rw [c_ck_1]) (by rw [c_ck_1])
            · refine Z_aload_n (i := 0) hX d_CT_check_107 rfl rfl ?_
              refine Z_getR (k0 := 1) hX d_CT_check_108 rfl rfl u_CT (by decide) lk_CT_21 rfl ?_
              refine Z_iload_n (i := 2) hX d_CT_check_111 rfl rfl ?_
              refine Z_cVi1 hX d_CT_check_112 (c_Fl_isWhole (Or.inl rfl) (by omega)) m_Fl_isWhole rfl rfl lk_CT_148 ⟨by decide, by decide⟩ ⟨by decide, by decide⟩ (Nat.le_of_ble_eq_true rfl) ?_
              refine Z_ifeqB (tgt := 154) hX d_CT_check_115 rfl (fun h115 => ?_) (fun h115 => ?_)
              · refine Z_iinc (v := nI (j + 1)) hX d_CT_check_154 rfl (by rw [nI_succ]; rfl) (by decide) rfl ?_
                refine Z_goto (tgt := 92) hX d_CT_check_157 rfl ?_
                refine Z_loc ?_ (Z_mem ?_ ?_ (ih2 (j + 1) (by omega)))
                · rfl
                · rw [c_e_n h104 h115]
                · rw [c_e_n h104 h115]
              · refine Z_aload_n (i := 0) hX d_CT_check_118 rfl rfl ?_
                refine Z_getR (k0 := 2) hX d_CT_check_119 rfl rfl u_CT (by decide) lk_CT_25 rfl ?_
                refine Z_aload_n (i := 0) hX d_CT_check_122 rfl rfl ?_
                refine Z_getR (k0 := 1) hX d_CT_check_123 rfl rfl u_CT (by decide) lk_CT_21 rfl ?_
                refine Z_cVv1 hX d_CT_check_126 (c_Fl_copy (Or.inr rfl) (Or.inl rfl)) m_Fl_copy rfl rfl lk_CT_216 ⟨by decide, by decide⟩ ⟨by decide, by decide⟩ (Nat.le_of_ble_eq_true rfl) ?_
                refine Z_aload_n (i := 0) hX d_CT_check_129 rfl rfl ?_
                refine Z_getR (k0 := 2) hX d_CT_check_130 rfl rfl u_CT (by decide) lk_CT_25 rfl ?_
                refine Z_iload_n (i := 2) hX d_CT_check_133 rfl rfl ?_
                refine Z_iconst (v := 1) hX d_CT_check_134 rfl ?_
                refine Z_cVv2 hX d_CT_check_135 (c_Fl_setElementFailed (Or.inr rfl) (by omega)) m_Fl_setElementFailed rfl rfl lk_CT_151 ⟨by decide, by decide⟩ ⟨by decide, by decide⟩ (Nat.le_of_ble_eq_true rfl) ?_
                refine Z_aload_n (i := 0) hX d_CT_check_138 rfl rfl ?_
                refine Z_getR (k0 := 2) hX d_CT_check_139 rfl rfl u_CT (by decide) lk_CT_25 rfl ?_
                refine Z_iload_n (i := 1) hX d_CT_check_142 rfl rfl ?_
                refine Z_cVv1 hX d_CT_check_143 (c_Fl_passRounds (Or.inr rfl) hrn2 (okP_of (fun c hc => (fr_se (by omega)).trans (fr_cp (by omega))) hPi)) m_Fl_passRounds rfl rfl lk_CT_219 ⟨by decide, by decide⟩ ⟨by decide, by decide⟩ (Nat.le_of_ble_eq_true rfl) ?_
                refine Z_aload_n (i := 0) hX d_CT_check_146 rfl rfl ?_
                refine Z_bipush (v := 100) hX d_CT_check_147 rfl ?_
                refine Z_iload_n (i := 2) hX d_CT_check_149 rfl rfl ?_
                refine Z_iadd hX d_CT_check_150 ?_
                refine Z_cVv1 hX d_CT_check_151 (c_CT_findStarved (m := m) (okE_of ((fr_rs (by omega) _ _ _ _).trans ((fr_se (by omega)).trans (fr_cp (by omega)))) ((fr_rs (by omega) _ _ _ _).trans ((fr_se (by omega)).trans (fr_cp (by omega)))) ((fr_rs (by omega) _ _ _ _).trans ((fr_se (by omega)).trans (fr_cp (by omega)))) hEi) (okN_of ((fr_rs (by omega) _ _ _ _).trans ((fr_se (by omega)).trans (fr_cp (by omega)))) hNi)) m_CT_findStarved rfl rfl lk_CT_222 ⟨by decide, by decide⟩ ⟨by decide, by decide⟩ (Nat.le_of_ble_eq_true rfl) ?_
                refine Z_iinc (v := nI (j + 1)) hX d_CT_check_154 rfl (by rw [nI_succ]; rfl) (by decide) rfl ?_
                refine Z_goto (tgt := 92) hX d_CT_check_157 rfl ?_
                refine Z_loc ?_ (Z_mem ?_ ?_ (ih2 (j + 1) (by omega)))
                · rfl
                · exact c_e_y1 h104 h115
                · exact c_e_y2 h104 h115
        refine Z_loc ?_ (Z_mem ?_ ?_ (hL92 16 0 (by omega)))
        · rfl
        · exact c_ent1
        · exact c_ent2
      · refine Z_aload_n (i := 0) hX d_CT_check_40 rfl rfl ?_
        refine Z_getR (k0 := 1) hX d_CT_check_41 rfl rfl u_CT (by decide) lk_CT_21 rfl ?_
        refine Z_iload_n (i := 2) hX d_CT_check_44 rfl rfl ?_
        refine Z_cVi1 hX d_CT_check_45 (c_Fl_isLinkWhole (Or.inl rfl)) m_Fl_isLinkWhole rfl rfl lk_CT_141 ⟨by decide, by decide⟩ ⟨by decide, by decide⟩ (Nat.le_of_ble_eq_true rfl) ?_
        refine Z_ifeqB (tgt := 84) hX d_CT_check_48 rfl (fun h48 => ?_) (fun h48 => ?_)
        · refine Z_iinc (v := nI (i + 1)) hX d_CT_check_84 rfl (by rw [nI_succ]; rfl) (by decide) rfl ?_
          refine Z_goto (tgt := 20) hX d_CT_check_87 rfl ?_
          refine Z_loc ?_ (Z_mem ?_ ?_ (ih (i + 1) (by omega)))
          · rfl
          · rw [c_l_n h37 h48]
          · rw [c_l_n h37 h48]
        · refine Z_aload_n (i := 0) hX d_CT_check_51 rfl rfl ?_
          refine Z_getR (k0 := 2) hX d_CT_check_52 rfl rfl u_CT (by decide) lk_CT_25 rfl ?_
          refine Z_aload_n (i := 0) hX d_CT_check_55 rfl rfl ?_
          refine Z_getR (k0 := 1) hX d_CT_check_56 rfl rfl u_CT (by decide) lk_CT_21 rfl ?_
          refine Z_cVv1 hX d_CT_check_59 (c_Fl_copy (Or.inr rfl) (Or.inl rfl)) m_Fl_copy rfl rfl lk_CT_216 ⟨by decide, by decide⟩ ⟨by decide, by decide⟩ (Nat.le_of_ble_eq_true rfl) ?_
          refine Z_aload_n (i := 0) hX d_CT_check_62 rfl rfl ?_
          refine Z_getR (k0 := 2) hX d_CT_check_63 rfl rfl u_CT (by decide) lk_CT_25 rfl ?_
          refine Z_iload_n (i := 2) hX d_CT_check_66 rfl rfl ?_
          refine Z_iconst (v := 1) hX d_CT_check_67 rfl ?_
          refine Z_cVv2 hX d_CT_check_68 (c_Fl_setLinkFailed (Or.inr rfl)) m_Fl_setLinkFailed rfl rfl lk_CT_144 ⟨by decide, by decide⟩ ⟨by decide, by decide⟩ (Nat.le_of_ble_eq_true rfl) ?_
          refine Z_aload_n (i := 0) hX d_CT_check_71 rfl rfl ?_
          refine Z_getR (k0 := 2) hX d_CT_check_72 rfl rfl u_CT (by decide) lk_CT_25 rfl ?_
          refine Z_iload_n (i := 1) hX d_CT_check_75 rfl rfl ?_
          refine Z_cVv1 hX d_CT_check_76 (c_Fl_passRounds (Or.inr rfl) hrn2 (okP_of (fun c hc => (fr_sl (by omega)).trans (fr_cp (by omega))) hPi)) m_Fl_passRounds rfl rfl lk_CT_219 ⟨by decide, by decide⟩ ⟨by decide, by decide⟩ (Nat.le_of_ble_eq_true rfl) ?_
          refine Z_aload_n (i := 0) hX d_CT_check_79 rfl rfl ?_
          refine Z_iload_n (i := 2) hX d_CT_check_80 rfl rfl ?_
          refine Z_cVv1 hX d_CT_check_81 (c_CT_findStarved (m := m) (okE_of ((fr_rs (by omega) _ _ _ _).trans ((fr_sl (by omega)).trans (fr_cp (by omega)))) ((fr_rs (by omega) _ _ _ _).trans ((fr_sl (by omega)).trans (fr_cp (by omega)))) ((fr_rs (by omega) _ _ _ _).trans ((fr_sl (by omega)).trans (fr_cp (by omega)))) hEi) (okN_of ((fr_rs (by omega) _ _ _ _).trans ((fr_sl (by omega)).trans (fr_cp (by omega)))) hNi)) m_CT_findStarved rfl rfl lk_CT_222 ⟨by decide, by decide⟩ ⟨by decide, by decide⟩ (Nat.le_of_ble_eq_true rfl) ?_
          refine Z_iinc (v := nI (i + 1)) hX d_CT_check_84 rfl (by rw [nI_succ]; rfl) (by decide) rfl ?_
          refine Z_goto (tgt := 20) hX d_CT_check_87 rfl ?_
          refine Z_loc ?_ (Z_mem ?_ ?_ (ih (i + 1) (by omega)))
          · rfl
          · exact c_l_y1 h37 h48
          · exact c_l_y2 h37 h48
  refine Z_loc ?_ (Z_mem ?_ ?_ (hL20 m 0 (by omega)))
  · rfl
  · rfl
  · rfl
end
section
theorem d_Mo_thrown_0 : decode prog_8_method_24_code 0 = .ok (.aload_n 0, 1) := by decide +kernel
theorem d_Mo_thrown_1 : decode prog_8_method_24_code 1 = .ok (.getfield 7, 3) := by decide +kernel
theorem d_Mo_thrown_4 : decode prog_8_method_24_code 4 = .ok (.ireturn, 1) := by decide +kernel
theorem d_Mo_element_0 : decode prog_8_method_28_code 0 = .ok (.iload_n 1, 1) := by decide +kernel
theorem d_Mo_element_1 : decode prog_8_method_28_code 1 = .ok (.ifCond .lt 47, 3) := by decide +kernel
theorem d_Mo_element_4 : decode prog_8_method_28_code 4 = .ok (.iload_n 1, 1) := by decide +kernel
theorem d_Mo_element_5 : decode prog_8_method_28_code 5 = .ok (.bipush 15, 2) := by decide +kernel
theorem d_Mo_element_7 : decode prog_8_method_28_code 7 = .ok (.if_icmp .gt 41, 3) := by decide +kernel
theorem d_Mo_element_10 : decode prog_8_method_28_code 10 = .ok (.iload_n 2, 1) := by decide +kernel
theorem d_Mo_element_11 : decode prog_8_method_28_code 11 = .ok (.ifCond .lt 37, 3) := by decide +kernel
theorem d_Mo_element_14 : decode prog_8_method_28_code 14 = .ok (.iload_n 2, 1) := by decide +kernel
theorem d_Mo_element_15 : decode prog_8_method_28_code 15 = .ok (.bipush 6, 2) := by decide +kernel
theorem d_Mo_element_17 : decode prog_8_method_28_code 17 = .ok (.if_icmp .gt 31, 3) := by decide +kernel
theorem d_Mo_element_20 : decode prog_8_method_28_code 20 = .ok (.iload_n 3, 1) := by decide +kernel
theorem d_Mo_element_21 : decode prog_8_method_28_code 21 = .ok (.sipush (-1000), 3) := by decide +kernel
theorem d_Mo_element_24 : decode prog_8_method_28_code 24 = .ok (.if_icmp .lt 24, 3) := by decide +kernel
theorem d_Mo_element_27 : decode prog_8_method_28_code 27 = .ok (.iload_n 3, 1) := by decide +kernel
theorem d_Mo_element_28 : decode prog_8_method_28_code 28 = .ok (.sipush 1000, 3) := by decide +kernel
theorem d_Mo_element_31 : decode prog_8_method_28_code 31 = .ok (.if_icmp .gt 17, 3) := by decide +kernel
theorem d_Mo_element_34 : decode prog_8_method_28_code 34 = .ok (.iload 4, 2) := by decide +kernel
theorem d_Mo_element_36 : decode prog_8_method_28_code 36 = .ok (.bipush (-9), 2) := by decide +kernel
theorem d_Mo_element_38 : decode prog_8_method_28_code 38 = .ok (.if_icmp .lt 10, 3) := by decide +kernel
theorem d_Mo_element_41 : decode prog_8_method_28_code 41 = .ok (.iload 4, 2) := by decide +kernel
theorem d_Mo_element_43 : decode prog_8_method_28_code 43 = .ok (.bipush 9, 2) := by decide +kernel
theorem d_Mo_element_45 : decode prog_8_method_28_code 45 = .ok (.if_icmp .le 7, 3) := by decide +kernel
theorem d_Mo_element_48 : decode prog_8_method_28_code 48 = .ok (.iconst 1, 1) := by decide +kernel
theorem d_Mo_element_49 : decode prog_8_method_28_code 49 = .ok (.goto 4, 3) := by decide +kernel
theorem d_Mo_element_52 : decode prog_8_method_28_code 52 = .ok (.iconst 0, 1) := by decide +kernel
theorem d_Mo_element_53 : decode prog_8_method_28_code 53 = .ok (.istore 5, 2) := by decide +kernel
theorem d_Mo_element_55 : decode prog_8_method_28_code 55 = .ok (.aload_n 0, 1) := by decide +kernel
theorem d_Mo_element_56 : decode prog_8_method_28_code 56 = .ok (.iload 5, 2) := by decide +kernel
theorem d_Mo_element_58 : decode prog_8_method_28_code 58 = .ok (.ifCond .eq 7, 3) := by decide +kernel
theorem d_Mo_element_61 : decode prog_8_method_28_code 61 = .ok (.iconst 1, 1) := by decide +kernel
theorem d_Mo_element_62 : decode prog_8_method_28_code 62 = .ok (.goto 17, 3) := by decide +kernel
theorem d_Mo_element_65 : decode prog_8_method_28_code 65 = .ok (.aload_n 0, 1) := by decide +kernel
theorem d_Mo_element_66 : decode prog_8_method_28_code 66 = .ok (.getfield 17, 3) := by decide +kernel
theorem d_Mo_element_69 : decode prog_8_method_28_code 69 = .ok (.iload_n 1, 1) := by decide +kernel
theorem d_Mo_element_70 : decode prog_8_method_28_code 70 = .ok (.baload, 1) := by decide +kernel
theorem d_Mo_element_71 : decode prog_8_method_28_code 71 = .ok (.ifCond .eq 7, 3) := by decide +kernel
theorem d_Mo_element_74 : decode prog_8_method_28_code 74 = .ok (.iconst 2, 1) := by decide +kernel
theorem d_Mo_element_75 : decode prog_8_method_28_code 75 = .ok (.goto 4, 3) := by decide +kernel
theorem d_Mo_element_78 : decode prog_8_method_28_code 78 = .ok (.iconst 0, 1) := by decide +kernel
theorem d_Mo_element_79 : decode prog_8_method_28_code 79 = .ok (.putfield 7, 3) := by decide +kernel
theorem d_Mo_element_82 : decode prog_8_method_28_code 82 = .ok (.aload_n 0, 1) := by decide +kernel
theorem d_Mo_element_83 : decode prog_8_method_28_code 83 = .ok (.getfield 7, 3) := by decide +kernel
theorem d_Mo_element_86 : decode prog_8_method_28_code 86 = .ok (.ifCond .eq 4, 3) := by decide +kernel
theorem d_Mo_element_89 : decode prog_8_method_28_code 89 = .ok (.return_, 1) := by decide +kernel
theorem d_Mo_element_90 : decode prog_8_method_28_code 90 = .ok (.aload_n 0, 1) := by decide +kernel
theorem d_Mo_element_91 : decode prog_8_method_28_code 91 = .ok (.getfield 17, 3) := by decide +kernel
theorem d_Mo_element_94 : decode prog_8_method_28_code 94 = .ok (.iload_n 1, 1) := by decide +kernel
theorem d_Mo_element_95 : decode prog_8_method_28_code 95 = .ok (.iconst 1, 1) := by decide +kernel
theorem d_Mo_element_96 : decode prog_8_method_28_code 96 = .ok (.bastore, 1) := by decide +kernel
theorem d_Mo_element_97 : decode prog_8_method_28_code 97 = .ok (.aload_n 0, 1) := by decide +kernel
theorem d_Mo_element_98 : decode prog_8_method_28_code 98 = .ok (.getfield 21, 3) := by decide +kernel
theorem d_Mo_element_101 : decode prog_8_method_28_code 101 = .ok (.iload_n 1, 1) := by decide +kernel
theorem d_Mo_element_102 : decode prog_8_method_28_code 102 = .ok (.iload_n 2, 1) := by decide +kernel
theorem d_Mo_element_103 : decode prog_8_method_28_code 103 = .ok (.iastore, 1) := by decide +kernel
theorem d_Mo_element_104 : decode prog_8_method_28_code 104 = .ok (.aload_n 0, 1) := by decide +kernel
theorem d_Mo_element_105 : decode prog_8_method_28_code 105 = .ok (.getfield 25, 3) := by decide +kernel
theorem d_Mo_element_108 : decode prog_8_method_28_code 108 = .ok (.iload_n 1, 1) := by decide +kernel
theorem d_Mo_element_109 : decode prog_8_method_28_code 109 = .ok (.iload_n 3, 1) := by decide +kernel
theorem d_Mo_element_110 : decode prog_8_method_28_code 110 = .ok (.iastore, 1) := by decide +kernel
theorem d_Mo_element_111 : decode prog_8_method_28_code 111 = .ok (.aload_n 0, 1) := by decide +kernel
theorem d_Mo_element_112 : decode prog_8_method_28_code 112 = .ok (.getfield 28, 3) := by decide +kernel
theorem d_Mo_element_115 : decode prog_8_method_28_code 115 = .ok (.iload_n 1, 1) := by decide +kernel
theorem d_Mo_element_116 : decode prog_8_method_28_code 116 = .ok (.iload 4, 2) := by decide +kernel
theorem d_Mo_element_118 : decode prog_8_method_28_code 118 = .ok (.iastore, 1) := by decide +kernel
theorem d_Mo_element_119 : decode prog_8_method_28_code 119 = .ok (.aload_n 0, 1) := by decide +kernel
theorem d_Mo_element_120 : decode prog_8_method_28_code 120 = .ok (.getfield 64, 3) := by decide +kernel
theorem d_Mo_element_123 : decode prog_8_method_28_code 123 = .ok (.sipush 560, 3) := by decide +kernel
theorem d_Mo_element_126 : decode prog_8_method_28_code 126 = .ok (.iload_n 1, 1) := by decide +kernel
theorem d_Mo_element_127 : decode prog_8_method_28_code 127 = .ok (.iadd, 1) := by decide +kernel
theorem d_Mo_element_128 : decode prog_8_method_28_code 128 = .ok (.iload_n 3, 1) := by decide +kernel
theorem d_Mo_element_129 : decode prog_8_method_28_code 129 = .ok (.iastore, 1) := by decide +kernel
theorem d_Mo_element_130 : decode prog_8_method_28_code 130 = .ok (.aload_n 0, 1) := by decide +kernel
theorem d_Mo_element_131 : decode prog_8_method_28_code 131 = .ok (.getfield 64, 3) := by decide +kernel
theorem d_Mo_element_134 : decode prog_8_method_28_code 134 = .ok (.sipush 576, 3) := by decide +kernel
theorem d_Mo_element_137 : decode prog_8_method_28_code 137 = .ok (.iload_n 1, 1) := by decide +kernel
theorem d_Mo_element_138 : decode prog_8_method_28_code 138 = .ok (.iadd, 1) := by decide +kernel
theorem d_Mo_element_139 : decode prog_8_method_28_code 139 = .ok (.iload_n 3, 1) := by decide +kernel
theorem d_Mo_element_140 : decode prog_8_method_28_code 140 = .ok (.iastore, 1) := by decide +kernel
theorem d_Mo_element_141 : decode prog_8_method_28_code 141 = .ok (.aload_n 0, 1) := by decide +kernel
theorem d_Mo_element_142 : decode prog_8_method_28_code 142 = .ok (.getfield 64, 3) := by decide +kernel
theorem d_Mo_element_145 : decode prog_8_method_28_code 145 = .ok (.sipush 592, 3) := by decide +kernel
theorem d_Mo_element_148 : decode prog_8_method_28_code 148 = .ok (.iload_n 1, 1) := by decide +kernel
theorem d_Mo_element_149 : decode prog_8_method_28_code 149 = .ok (.iadd, 1) := by decide +kernel
theorem d_Mo_element_150 : decode prog_8_method_28_code 150 = .ok (.iload_n 3, 1) := by decide +kernel
theorem d_Mo_element_151 : decode prog_8_method_28_code 151 = .ok (.iastore, 1) := by decide +kernel
theorem d_Mo_element_152 : decode prog_8_method_28_code 152 = .ok (.aload_n 0, 1) := by decide +kernel
theorem d_Mo_element_153 : decode prog_8_method_28_code 153 = .ok (.getfield 64, 3) := by decide +kernel
theorem d_Mo_element_156 : decode prog_8_method_28_code 156 = .ok (.sipush 608, 3) := by decide +kernel
theorem d_Mo_element_159 : decode prog_8_method_28_code 159 = .ok (.iload_n 1, 1) := by decide +kernel
theorem d_Mo_element_160 : decode prog_8_method_28_code 160 = .ok (.iadd, 1) := by decide +kernel
theorem d_Mo_element_161 : decode prog_8_method_28_code 161 = .ok (.iconst (-1), 1) := by decide +kernel
theorem d_Mo_element_162 : decode prog_8_method_28_code 162 = .ok (.iastore, 1) := by decide +kernel
theorem d_Mo_element_163 : decode prog_8_method_28_code 163 = .ok (.aload_n 0, 1) := by decide +kernel
theorem d_Mo_element_164 : decode prog_8_method_28_code 164 = .ok (.getfield 64, 3) := by decide +kernel
theorem d_Mo_element_167 : decode prog_8_method_28_code 167 = .ok (.sipush 624, 3) := by decide +kernel
theorem d_Mo_element_170 : decode prog_8_method_28_code 170 = .ok (.iload_n 1, 1) := by decide +kernel
theorem d_Mo_element_171 : decode prog_8_method_28_code 171 = .ok (.iadd, 1) := by decide +kernel
theorem d_Mo_element_172 : decode prog_8_method_28_code 172 = .ok (.iconst (-1), 1) := by decide +kernel
theorem d_Mo_element_173 : decode prog_8_method_28_code 173 = .ok (.iastore, 1) := by decide +kernel
theorem d_Mo_element_174 : decode prog_8_method_28_code 174 = .ok (.return_, 1) := by decide +kernel
theorem d_Mo_link_0 : decode prog_8_method_29_code 0 = .ok (.aload_n 0, 1) := by decide +kernel
theorem d_Mo_link_1 : decode prog_8_method_29_code 1 = .ok (.aload_n 0, 1) := by decide +kernel
theorem d_Mo_link_2 : decode prog_8_method_29_code 2 = .ok (.iload_n 1, 1) := by decide +kernel
theorem d_Mo_link_3 : decode prog_8_method_29_code 3 = .ok (.iload_n 2, 1) := by decide +kernel
theorem d_Mo_link_4 : decode prog_8_method_29_code 4 = .ok (.invokevirtual 152, 3) := by decide +kernel
theorem d_Mo_link_7 : decode prog_8_method_29_code 7 = .ok (.ifCond .ne 18, 3) := by decide +kernel
theorem d_Mo_link_10 : decode prog_8_method_29_code 10 = .ok (.aload_n 0, 1) := by decide +kernel
theorem d_Mo_link_11 : decode prog_8_method_29_code 11 = .ok (.iload_n 3, 1) := by decide +kernel
theorem d_Mo_link_12 : decode prog_8_method_29_code 12 = .ok (.iload 4, 2) := by decide +kernel
theorem d_Mo_link_14 : decode prog_8_method_29_code 14 = .ok (.invokevirtual 152, 3) := by decide +kernel
theorem d_Mo_link_17 : decode prog_8_method_29_code 17 = .ok (.ifCond .ne 8, 3) := by decide +kernel
theorem d_Mo_link_20 : decode prog_8_method_29_code 20 = .ok (.iload_n 1, 1) := by decide +kernel
theorem d_Mo_link_21 : decode prog_8_method_29_code 21 = .ok (.iload_n 3, 1) := by decide +kernel
theorem d_Mo_link_22 : decode prog_8_method_29_code 22 = .ok (.if_icmp .ne 7, 3) := by decide +kernel
theorem d_Mo_link_25 : decode prog_8_method_29_code 25 = .ok (.iconst 1, 1) := by decide +kernel
theorem d_Mo_link_26 : decode prog_8_method_29_code 26 = .ok (.goto 4, 3) := by decide +kernel
theorem d_Mo_link_29 : decode prog_8_method_29_code 29 = .ok (.iconst 0, 1) := by decide +kernel
theorem d_Mo_link_30 : decode prog_8_method_29_code 30 = .ok (.putfield 7, 3) := by decide +kernel
theorem d_Mo_link_33 : decode prog_8_method_29_code 33 = .ok (.aload_n 0, 1) := by decide +kernel
theorem d_Mo_link_34 : decode prog_8_method_29_code 34 = .ok (.getfield 7, 3) := by decide +kernel
theorem d_Mo_link_37 : decode prog_8_method_29_code 37 = .ok (.ifCond .eq 5, 3) := by decide +kernel
theorem d_Mo_link_40 : decode prog_8_method_29_code 40 = .ok (.iconst 0, 1) := by decide +kernel
theorem d_Mo_link_41 : decode prog_8_method_29_code 41 = .ok (.ireturn, 1) := by decide +kernel
theorem d_Mo_link_42 : decode prog_8_method_29_code 42 = .ok (.iconst 4, 1) := by decide +kernel
theorem d_Mo_link_43 : decode prog_8_method_29_code 43 = .ok (.iload_n 1, 1) := by decide +kernel
theorem d_Mo_link_44 : decode prog_8_method_29_code 44 = .ok (.imul, 1) := by decide +kernel
theorem d_Mo_link_45 : decode prog_8_method_29_code 45 = .ok (.iload_n 2, 1) := by decide +kernel
theorem d_Mo_link_46 : decode prog_8_method_29_code 46 = .ok (.iadd, 1) := by decide +kernel
theorem d_Mo_link_47 : decode prog_8_method_29_code 47 = .ok (.istore 5, 2) := by decide +kernel
theorem d_Mo_link_49 : decode prog_8_method_29_code 49 = .ok (.iconst 4, 1) := by decide +kernel
theorem d_Mo_link_50 : decode prog_8_method_29_code 50 = .ok (.iload_n 3, 1) := by decide +kernel
theorem d_Mo_link_51 : decode prog_8_method_29_code 51 = .ok (.imul, 1) := by decide +kernel
theorem d_Mo_link_52 : decode prog_8_method_29_code 52 = .ok (.iload 4, 2) := by decide +kernel
theorem d_Mo_link_54 : decode prog_8_method_29_code 54 = .ok (.iadd, 1) := by decide +kernel
theorem d_Mo_link_55 : decode prog_8_method_29_code 55 = .ok (.istore 6, 2) := by decide +kernel
theorem d_Mo_link_57 : decode prog_8_method_29_code 57 = .ok (.aload_n 0, 1) := by decide +kernel
theorem d_Mo_link_58 : decode prog_8_method_29_code 58 = .ok (.getfield 40, 3) := by decide +kernel
theorem d_Mo_link_61 : decode prog_8_method_29_code 61 = .ok (.iload 5, 2) := by decide +kernel
theorem d_Mo_link_63 : decode prog_8_method_29_code 63 = .ok (.iaload, 1) := by decide +kernel
theorem d_Mo_link_64 : decode prog_8_method_29_code 64 = .ok (.ifCond .ge 42, 3) := by decide +kernel
theorem d_Mo_link_67 : decode prog_8_method_29_code 67 = .ok (.aload_n 0, 1) := by decide +kernel
theorem d_Mo_link_68 : decode prog_8_method_29_code 68 = .ok (.getfield 40, 3) := by decide +kernel
theorem d_Mo_link_71 : decode prog_8_method_29_code 71 = .ok (.iload 6, 2) := by decide +kernel
theorem d_Mo_link_73 : decode prog_8_method_29_code 73 = .ok (.iaload, 1) := by decide +kernel
theorem d_Mo_link_74 : decode prog_8_method_29_code 74 = .ok (.ifCond .ge 32, 3) := by decide +kernel
theorem d_Mo_link_77 : decode prog_8_method_29_code 77 = .ok (.aload_n 0, 1) := by decide +kernel
theorem d_Mo_link_78 : decode prog_8_method_29_code 78 = .ok (.getfield 46, 3) := by decide +kernel
theorem d_Mo_link_81 : decode prog_8_method_29_code 81 = .ok (.iload 5, 2) := by decide +kernel
theorem d_Mo_link_83 : decode prog_8_method_29_code 83 = .ok (.iaload, 1) := by decide +kernel
theorem d_Mo_link_84 : decode prog_8_method_29_code 84 = .ok (.ifCond .ge 22, 3) := by decide +kernel
theorem d_Mo_link_87 : decode prog_8_method_29_code 87 = .ok (.aload_n 0, 1) := by decide +kernel
theorem d_Mo_link_88 : decode prog_8_method_29_code 88 = .ok (.getfield 46, 3) := by decide +kernel
theorem d_Mo_link_91 : decode prog_8_method_29_code 91 = .ok (.iload 6, 2) := by decide +kernel
theorem d_Mo_link_93 : decode prog_8_method_29_code 93 = .ok (.iaload, 1) := by decide +kernel
theorem d_Mo_link_94 : decode prog_8_method_29_code 94 = .ok (.ifCond .ge 12, 3) := by decide +kernel
theorem d_Mo_link_97 : decode prog_8_method_29_code 97 = .ok (.aload_n 0, 1) := by decide +kernel
theorem d_Mo_link_98 : decode prog_8_method_29_code 98 = .ok (.getfield 55, 3) := by decide +kernel
theorem d_Mo_link_101 : decode prog_8_method_29_code 101 = .ok (.bipush 24, 2) := by decide +kernel
theorem d_Mo_link_103 : decode prog_8_method_29_code 103 = .ok (.if_icmp .ne 10, 3) := by decide +kernel
theorem d_Mo_link_106 : decode prog_8_method_29_code 106 = .ok (.aload_n 0, 1) := by decide +kernel
theorem d_Mo_link_107 : decode prog_8_method_29_code 107 = .ok (.iconst 2, 1) := by decide +kernel
theorem d_Mo_link_108 : decode prog_8_method_29_code 108 = .ok (.putfield 7, 3) := by decide +kernel
theorem d_Mo_link_111 : decode prog_8_method_29_code 111 = .ok (.iconst 0, 1) := by decide +kernel
theorem d_Mo_link_112 : decode prog_8_method_29_code 112 = .ok (.ireturn, 1) := by decide +kernel
theorem d_Mo_link_113 : decode prog_8_method_29_code 113 = .ok (.aload_n 0, 1) := by decide +kernel
theorem d_Mo_link_114 : decode prog_8_method_29_code 114 = .ok (.getfield 58, 3) := by decide +kernel
theorem d_Mo_link_117 : decode prog_8_method_29_code 117 = .ok (.aload_n 0, 1) := by decide +kernel
theorem d_Mo_link_118 : decode prog_8_method_29_code 118 = .ok (.getfield 55, 3) := by decide +kernel
theorem d_Mo_link_121 : decode prog_8_method_29_code 121 = .ok (.iload 5, 2) := by decide +kernel
theorem d_Mo_link_123 : decode prog_8_method_29_code 123 = .ok (.iastore, 1) := by decide +kernel
theorem d_Mo_link_124 : decode prog_8_method_29_code 124 = .ok (.aload_n 0, 1) := by decide +kernel
theorem d_Mo_link_125 : decode prog_8_method_29_code 125 = .ok (.getfield 61, 3) := by decide +kernel
theorem d_Mo_link_128 : decode prog_8_method_29_code 128 = .ok (.aload_n 0, 1) := by decide +kernel
theorem d_Mo_link_129 : decode prog_8_method_29_code 129 = .ok (.getfield 55, 3) := by decide +kernel
theorem d_Mo_link_132 : decode prog_8_method_29_code 132 = .ok (.iload 6, 2) := by decide +kernel
theorem d_Mo_link_134 : decode prog_8_method_29_code 134 = .ok (.iastore, 1) := by decide +kernel
theorem d_Mo_link_135 : decode prog_8_method_29_code 135 = .ok (.aload_n 0, 1) := by decide +kernel
theorem d_Mo_link_136 : decode prog_8_method_29_code 136 = .ok (.getfield 46, 3) := by decide +kernel
theorem d_Mo_link_139 : decode prog_8_method_29_code 139 = .ok (.iload 5, 2) := by decide +kernel
theorem d_Mo_link_141 : decode prog_8_method_29_code 141 = .ok (.aload_n 0, 1) := by decide +kernel
theorem d_Mo_link_142 : decode prog_8_method_29_code 142 = .ok (.getfield 55, 3) := by decide +kernel
theorem d_Mo_link_145 : decode prog_8_method_29_code 145 = .ok (.iastore, 1) := by decide +kernel
theorem d_Mo_link_146 : decode prog_8_method_29_code 146 = .ok (.aload_n 0, 1) := by decide +kernel
theorem d_Mo_link_147 : decode prog_8_method_29_code 147 = .ok (.getfield 46, 3) := by decide +kernel
theorem d_Mo_link_150 : decode prog_8_method_29_code 150 = .ok (.iload 6, 2) := by decide +kernel
theorem d_Mo_link_152 : decode prog_8_method_29_code 152 = .ok (.aload_n 0, 1) := by decide +kernel
theorem d_Mo_link_153 : decode prog_8_method_29_code 153 = .ok (.getfield 55, 3) := by decide +kernel
theorem d_Mo_link_156 : decode prog_8_method_29_code 156 = .ok (.iastore, 1) := by decide +kernel
theorem d_Mo_link_157 : decode prog_8_method_29_code 157 = .ok (.aload_n 0, 1) := by decide +kernel
theorem d_Mo_link_158 : decode prog_8_method_29_code 158 = .ok (.dup, 1) := by decide +kernel
theorem d_Mo_link_159 : decode prog_8_method_29_code 159 = .ok (.getfield 55, 3) := by decide +kernel
theorem d_Mo_link_162 : decode prog_8_method_29_code 162 = .ok (.iconst 1, 1) := by decide +kernel
theorem d_Mo_link_163 : decode prog_8_method_29_code 163 = .ok (.iadd, 1) := by decide +kernel
theorem d_Mo_link_164 : decode prog_8_method_29_code 164 = .ok (.putfield 55, 3) := by decide +kernel
theorem d_Mo_link_167 : decode prog_8_method_29_code 167 = .ok (.aload_n 0, 1) := by decide +kernel
theorem d_Mo_link_168 : decode prog_8_method_29_code 168 = .ok (.getfield 55, 3) := by decide +kernel
theorem d_Mo_link_171 : decode prog_8_method_29_code 171 = .ok (.iconst 1, 1) := by decide +kernel
theorem d_Mo_link_172 : decode prog_8_method_29_code 172 = .ok (.isub, 1) := by decide +kernel
theorem d_Mo_link_173 : decode prog_8_method_29_code 173 = .ok (.ireturn, 1) := by decide +kernel
theorem d_Mo_noPort_0 : decode prog_8_method_26_code 0 = .ok (.aload_n 0, 1) := by decide +kernel
theorem d_Mo_noPort_1 : decode prog_8_method_26_code 1 = .ok (.iload_n 1, 1) := by decide +kernel
theorem d_Mo_noPort_2 : decode prog_8_method_26_code 2 = .ok (.invokevirtual 149, 3) := by decide +kernel
theorem d_Mo_noPort_5 : decode prog_8_method_26_code 5 = .ok (.ifCond .ne 12, 3) := by decide +kernel
theorem d_Mo_noPort_8 : decode prog_8_method_26_code 8 = .ok (.iload_n 2, 1) := by decide +kernel
theorem d_Mo_noPort_9 : decode prog_8_method_26_code 9 = .ok (.ifCond .lt 8, 3) := by decide +kernel
theorem d_Mo_noPort_12 : decode prog_8_method_26_code 12 = .ok (.iload_n 2, 1) := by decide +kernel
theorem d_Mo_noPort_13 : decode prog_8_method_26_code 13 = .ok (.iconst 3, 1) := by decide +kernel
theorem d_Mo_noPort_14 : decode prog_8_method_26_code 14 = .ok (.if_icmp .le 7, 3) := by decide +kernel
theorem d_Mo_noPort_17 : decode prog_8_method_26_code 17 = .ok (.iconst 1, 1) := by decide +kernel
theorem d_Mo_noPort_18 : decode prog_8_method_26_code 18 = .ok (.goto 4, 3) := by decide +kernel
theorem d_Mo_noPort_21 : decode prog_8_method_26_code 21 = .ok (.iconst 0, 1) := by decide +kernel
theorem d_Mo_noPort_22 : decode prog_8_method_26_code 22 = .ok (.ireturn, 1) := by decide +kernel
theorem d_Mo_noElement_0 : decode prog_8_method_25_code 0 = .ok (.iload_n 1, 1) := by decide +kernel
theorem d_Mo_noElement_1 : decode prog_8_method_25_code 1 = .ok (.ifCond .lt 18, 3) := by decide +kernel
theorem d_Mo_noElement_4 : decode prog_8_method_25_code 4 = .ok (.iload_n 1, 1) := by decide +kernel
theorem d_Mo_noElement_5 : decode prog_8_method_25_code 5 = .ok (.bipush 15, 2) := by decide +kernel
theorem d_Mo_noElement_7 : decode prog_8_method_25_code 7 = .ok (.if_icmp .gt 12, 3) := by decide +kernel
theorem d_Mo_noElement_10 : decode prog_8_method_25_code 10 = .ok (.aload_n 0, 1) := by decide +kernel
theorem d_Mo_noElement_11 : decode prog_8_method_25_code 11 = .ok (.getfield 17, 3) := by decide +kernel
theorem d_Mo_noElement_14 : decode prog_8_method_25_code 14 = .ok (.iload_n 1, 1) := by decide +kernel
theorem d_Mo_noElement_15 : decode prog_8_method_25_code 15 = .ok (.baload, 1) := by decide +kernel
theorem d_Mo_noElement_16 : decode prog_8_method_25_code 16 = .ok (.ifCond .ne 7, 3) := by decide +kernel
theorem d_Mo_noElement_19 : decode prog_8_method_25_code 19 = .ok (.iconst 1, 1) := by decide +kernel
theorem d_Mo_noElement_20 : decode prog_8_method_25_code 20 = .ok (.goto 4, 3) := by decide +kernel
theorem d_Mo_noElement_23 : decode prog_8_method_25_code 23 = .ok (.iconst 0, 1) := by decide +kernel
theorem d_Mo_noElement_24 : decode prog_8_method_25_code 24 = .ok (.ireturn, 1) := by decide +kernel
theorem d_Mo_source_0 : decode prog_8_method_30_code 0 = .ok (.aload_n 0, 1) := by decide +kernel
theorem d_Mo_source_1 : decode prog_8_method_30_code 1 = .ok (.aload_n 0, 1) := by decide +kernel
theorem d_Mo_source_2 : decode prog_8_method_30_code 2 = .ok (.iload_n 1, 1) := by decide +kernel
theorem d_Mo_source_3 : decode prog_8_method_30_code 3 = .ok (.iload_n 2, 1) := by decide +kernel
theorem d_Mo_source_4 : decode prog_8_method_30_code 4 = .ok (.invokevirtual 152, 3) := by decide +kernel
theorem d_Mo_source_7 : decode prog_8_method_30_code 7 = .ok (.ifCond .ne 34, 3) := by decide +kernel
theorem d_Mo_source_10 : decode prog_8_method_30_code 10 = .ok (.iload_n 3, 1) := by decide +kernel
theorem d_Mo_source_11 : decode prog_8_method_30_code 11 = .ok (.iconst (-1), 1) := by decide +kernel
theorem d_Mo_source_12 : decode prog_8_method_30_code 12 = .ok (.if_icmp .lt 29, 3) := by decide +kernel
theorem d_Mo_source_15 : decode prog_8_method_30_code 15 = .ok (.iload_n 3, 1) := by decide +kernel
theorem d_Mo_source_16 : decode prog_8_method_30_code 16 = .ok (.bipush 6, 2) := by decide +kernel
theorem d_Mo_source_18 : decode prog_8_method_30_code 18 = .ok (.if_icmp .gt 23, 3) := by decide +kernel
theorem d_Mo_source_21 : decode prog_8_method_30_code 21 = .ok (.iload_n 3, 1) := by decide +kernel
theorem d_Mo_source_22 : decode prog_8_method_30_code 22 = .ok (.ifCond .lt 23, 3) := by decide +kernel
theorem d_Mo_source_25 : decode prog_8_method_30_code 25 = .ok (.iload 4, 2) := by decide +kernel
theorem d_Mo_source_27 : decode prog_8_method_30_code 27 = .ok (.sipush (-1000), 3) := by decide +kernel
theorem d_Mo_source_30 : decode prog_8_method_30_code 30 = .ok (.if_icmp .lt 11, 3) := by decide +kernel
theorem d_Mo_source_33 : decode prog_8_method_30_code 33 = .ok (.iload 4, 2) := by decide +kernel
theorem d_Mo_source_35 : decode prog_8_method_30_code 35 = .ok (.sipush 1000, 3) := by decide +kernel
theorem d_Mo_source_38 : decode prog_8_method_30_code 38 = .ok (.if_icmp .le 7, 3) := by decide +kernel
theorem d_Mo_source_41 : decode prog_8_method_30_code 41 = .ok (.iconst 1, 1) := by decide +kernel
theorem d_Mo_source_42 : decode prog_8_method_30_code 42 = .ok (.goto 21, 3) := by decide +kernel
theorem d_Mo_source_45 : decode prog_8_method_30_code 45 = .ok (.aload_n 0, 1) := by decide +kernel
theorem d_Mo_source_46 : decode prog_8_method_30_code 46 = .ok (.getfield 46, 3) := by decide +kernel
theorem d_Mo_source_49 : decode prog_8_method_30_code 49 = .ok (.iconst 4, 1) := by decide +kernel
theorem d_Mo_source_50 : decode prog_8_method_30_code 50 = .ok (.iload_n 1, 1) := by decide +kernel
theorem d_Mo_source_51 : decode prog_8_method_30_code 51 = .ok (.imul, 1) := by decide +kernel
theorem d_Mo_source_52 : decode prog_8_method_30_code 52 = .ok (.iload_n 2, 1) := by decide +kernel
theorem d_Mo_source_53 : decode prog_8_method_30_code 53 = .ok (.iadd, 1) := by decide +kernel
theorem d_Mo_source_54 : decode prog_8_method_30_code 54 = .ok (.iaload, 1) := by decide +kernel
theorem d_Mo_source_55 : decode prog_8_method_30_code 55 = .ok (.ifCond .lt 7, 3) := by decide +kernel
theorem d_Mo_source_58 : decode prog_8_method_30_code 58 = .ok (.iconst 2, 1) := by decide +kernel
theorem d_Mo_source_59 : decode prog_8_method_30_code 59 = .ok (.goto 4, 3) := by decide +kernel
theorem d_Mo_source_62 : decode prog_8_method_30_code 62 = .ok (.iconst 0, 1) := by decide +kernel
theorem d_Mo_source_63 : decode prog_8_method_30_code 63 = .ok (.putfield 7, 3) := by decide +kernel
theorem d_Mo_source_66 : decode prog_8_method_30_code 66 = .ok (.aload_n 0, 1) := by decide +kernel
theorem d_Mo_source_67 : decode prog_8_method_30_code 67 = .ok (.getfield 7, 3) := by decide +kernel
theorem d_Mo_source_70 : decode prog_8_method_30_code 70 = .ok (.ifCond .eq 4, 3) := by decide +kernel
theorem d_Mo_source_73 : decode prog_8_method_30_code 73 = .ok (.return_, 1) := by decide +kernel
theorem d_Mo_source_74 : decode prog_8_method_30_code 74 = .ok (.aload_n 0, 1) := by decide +kernel
theorem d_Mo_source_75 : decode prog_8_method_30_code 75 = .ok (.getfield 40, 3) := by decide +kernel
theorem d_Mo_source_78 : decode prog_8_method_30_code 78 = .ok (.iconst 4, 1) := by decide +kernel
theorem d_Mo_source_79 : decode prog_8_method_30_code 79 = .ok (.iload_n 1, 1) := by decide +kernel
theorem d_Mo_source_80 : decode prog_8_method_30_code 80 = .ok (.imul, 1) := by decide +kernel
theorem d_Mo_source_81 : decode prog_8_method_30_code 81 = .ok (.iload_n 2, 1) := by decide +kernel
theorem d_Mo_source_82 : decode prog_8_method_30_code 82 = .ok (.iadd, 1) := by decide +kernel
theorem d_Mo_source_83 : decode prog_8_method_30_code 83 = .ok (.iload_n 3, 1) := by decide +kernel
theorem d_Mo_source_84 : decode prog_8_method_30_code 84 = .ok (.iastore, 1) := by decide +kernel
theorem d_Mo_source_85 : decode prog_8_method_30_code 85 = .ok (.aload_n 0, 1) := by decide +kernel
theorem d_Mo_source_86 : decode prog_8_method_30_code 86 = .ok (.getfield 43, 3) := by decide +kernel
theorem d_Mo_source_89 : decode prog_8_method_30_code 89 = .ok (.iconst 4, 1) := by decide +kernel
theorem d_Mo_source_90 : decode prog_8_method_30_code 90 = .ok (.iload_n 1, 1) := by decide +kernel
theorem d_Mo_source_91 : decode prog_8_method_30_code 91 = .ok (.imul, 1) := by decide +kernel
theorem d_Mo_source_92 : decode prog_8_method_30_code 92 = .ok (.iload_n 2, 1) := by decide +kernel
theorem d_Mo_source_93 : decode prog_8_method_30_code 93 = .ok (.iadd, 1) := by decide +kernel
theorem d_Mo_source_94 : decode prog_8_method_30_code 94 = .ok (.iload 4, 2) := by decide +kernel
theorem d_Mo_source_96 : decode prog_8_method_30_code 96 = .ok (.iastore, 1) := by decide +kernel
theorem d_Mo_source_97 : decode prog_8_method_30_code 97 = .ok (.return_, 1) := by decide +kernel
theorem d_Mo_priority_0 : decode prog_8_method_31_code 0 = .ok (.aload_n 0, 1) := by decide +kernel
theorem d_Mo_priority_1 : decode prog_8_method_31_code 1 = .ok (.aload_n 0, 1) := by decide +kernel
theorem d_Mo_priority_2 : decode prog_8_method_31_code 2 = .ok (.iload_n 1, 1) := by decide +kernel
theorem d_Mo_priority_3 : decode prog_8_method_31_code 3 = .ok (.iload_n 2, 1) := by decide +kernel
theorem d_Mo_priority_4 : decode prog_8_method_31_code 4 = .ok (.invokevirtual 152, 3) := by decide +kernel
theorem d_Mo_priority_7 : decode prog_8_method_31_code 7 = .ok (.ifCond .ne 13, 3) := by decide +kernel
theorem d_Mo_priority_10 : decode prog_8_method_31_code 10 = .ok (.iload_n 3, 1) := by decide +kernel
theorem d_Mo_priority_11 : decode prog_8_method_31_code 11 = .ok (.ifCond .lt 9, 3) := by decide +kernel
theorem d_Mo_priority_14 : decode prog_8_method_31_code 14 = .ok (.iload_n 3, 1) := by decide +kernel
theorem d_Mo_priority_15 : decode prog_8_method_31_code 15 = .ok (.bipush 9, 2) := by decide +kernel
theorem d_Mo_priority_17 : decode prog_8_method_31_code 17 = .ok (.if_icmp .le 7, 3) := by decide +kernel
theorem d_Mo_priority_20 : decode prog_8_method_31_code 20 = .ok (.iconst 1, 1) := by decide +kernel
theorem d_Mo_priority_21 : decode prog_8_method_31_code 21 = .ok (.goto 4, 3) := by decide +kernel
theorem d_Mo_priority_24 : decode prog_8_method_31_code 24 = .ok (.iconst 0, 1) := by decide +kernel
theorem d_Mo_priority_25 : decode prog_8_method_31_code 25 = .ok (.putfield 7, 3) := by decide +kernel
theorem d_Mo_priority_28 : decode prog_8_method_31_code 28 = .ok (.aload_n 0, 1) := by decide +kernel
theorem d_Mo_priority_29 : decode prog_8_method_31_code 29 = .ok (.getfield 7, 3) := by decide +kernel
theorem d_Mo_priority_32 : decode prog_8_method_31_code 32 = .ok (.ifCond .eq 5, 3) := by decide +kernel
theorem d_Mo_priority_35 : decode prog_8_method_31_code 35 = .ok (.iconst 0, 1) := by decide +kernel
theorem d_Mo_priority_36 : decode prog_8_method_31_code 36 = .ok (.ireturn, 1) := by decide +kernel
theorem d_Mo_priority_37 : decode prog_8_method_31_code 37 = .ok (.aload_n 0, 1) := by decide +kernel
theorem d_Mo_priority_38 : decode prog_8_method_31_code 38 = .ok (.getfield 49, 3) := by decide +kernel
theorem d_Mo_priority_41 : decode prog_8_method_31_code 41 = .ok (.iconst 4, 1) := by decide +kernel
theorem d_Mo_priority_42 : decode prog_8_method_31_code 42 = .ok (.iload_n 1, 1) := by decide +kernel
theorem d_Mo_priority_43 : decode prog_8_method_31_code 43 = .ok (.imul, 1) := by decide +kernel
theorem d_Mo_priority_44 : decode prog_8_method_31_code 44 = .ok (.iload_n 2, 1) := by decide +kernel
theorem d_Mo_priority_45 : decode prog_8_method_31_code 45 = .ok (.iadd, 1) := by decide +kernel
theorem d_Mo_priority_46 : decode prog_8_method_31_code 46 = .ok (.iaload, 1) := by decide +kernel
theorem d_Mo_priority_47 : decode prog_8_method_31_code 47 = .ok (.istore 4, 2) := by decide +kernel
theorem d_Mo_priority_49 : decode prog_8_method_31_code 49 = .ok (.aload_n 0, 1) := by decide +kernel
theorem d_Mo_priority_50 : decode prog_8_method_31_code 50 = .ok (.getfield 49, 3) := by decide +kernel
theorem d_Mo_priority_53 : decode prog_8_method_31_code 53 = .ok (.iconst 4, 1) := by decide +kernel
theorem d_Mo_priority_54 : decode prog_8_method_31_code 54 = .ok (.iload_n 1, 1) := by decide +kernel
theorem d_Mo_priority_55 : decode prog_8_method_31_code 55 = .ok (.imul, 1) := by decide +kernel
theorem d_Mo_priority_56 : decode prog_8_method_31_code 56 = .ok (.iload_n 2, 1) := by decide +kernel
theorem d_Mo_priority_57 : decode prog_8_method_31_code 57 = .ok (.iadd, 1) := by decide +kernel
theorem d_Mo_priority_58 : decode prog_8_method_31_code 58 = .ok (.iload_n 3, 1) := by decide +kernel
theorem d_Mo_priority_59 : decode prog_8_method_31_code 59 = .ok (.iastore, 1) := by decide +kernel
theorem d_Mo_priority_60 : decode prog_8_method_31_code 60 = .ok (.iload 4, 2) := by decide +kernel
theorem d_Mo_priority_62 : decode prog_8_method_31_code 62 = .ok (.ireturn, 1) := by decide +kernel
theorem d_Mo_restore_0 : decode prog_8_method_32_code 0 = .ok (.aload_n 0, 1) := by decide +kernel
theorem d_Mo_restore_1 : decode prog_8_method_32_code 1 = .ok (.aload_n 0, 1) := by decide +kernel
theorem d_Mo_restore_2 : decode prog_8_method_32_code 2 = .ok (.iload_n 1, 1) := by decide +kernel
theorem d_Mo_restore_3 : decode prog_8_method_32_code 3 = .ok (.invokevirtual 149, 3) := by decide +kernel
theorem d_Mo_restore_6 : decode prog_8_method_32_code 6 = .ok (.ifCond .ne 13, 3) := by decide +kernel
theorem d_Mo_restore_9 : decode prog_8_method_32_code 9 = .ok (.iload_n 2, 1) := by decide +kernel
theorem d_Mo_restore_10 : decode prog_8_method_32_code 10 = .ok (.ifCond .lt 9, 3) := by decide +kernel
theorem d_Mo_restore_13 : decode prog_8_method_32_code 13 = .ok (.iload_n 2, 1) := by decide +kernel
theorem d_Mo_restore_14 : decode prog_8_method_32_code 14 = .ok (.bipush 10, 2) := by decide +kernel
theorem d_Mo_restore_16 : decode prog_8_method_32_code 16 = .ok (.if_icmp .le 7, 3) := by decide +kernel
theorem d_Mo_restore_19 : decode prog_8_method_32_code 19 = .ok (.iconst 1, 1) := by decide +kernel
theorem d_Mo_restore_20 : decode prog_8_method_32_code 20 = .ok (.goto 4, 3) := by decide +kernel
theorem d_Mo_restore_23 : decode prog_8_method_32_code 23 = .ok (.iconst 0, 1) := by decide +kernel
theorem d_Mo_restore_24 : decode prog_8_method_32_code 24 = .ok (.putfield 7, 3) := by decide +kernel
theorem d_Mo_restore_27 : decode prog_8_method_32_code 27 = .ok (.aload_n 0, 1) := by decide +kernel
theorem d_Mo_restore_28 : decode prog_8_method_32_code 28 = .ok (.getfield 7, 3) := by decide +kernel
theorem d_Mo_restore_31 : decode prog_8_method_32_code 31 = .ok (.ifCond .eq 5, 3) := by decide +kernel
theorem d_Mo_restore_34 : decode prog_8_method_32_code 34 = .ok (.iconst 0, 1) := by decide +kernel
theorem d_Mo_restore_35 : decode prog_8_method_32_code 35 = .ok (.ireturn, 1) := by decide +kernel
theorem d_Mo_restore_36 : decode prog_8_method_32_code 36 = .ok (.aload_n 0, 1) := by decide +kernel
theorem d_Mo_restore_37 : decode prog_8_method_32_code 37 = .ok (.getfield 31, 3) := by decide +kernel
theorem d_Mo_restore_40 : decode prog_8_method_32_code 40 = .ok (.iload_n 1, 1) := by decide +kernel
theorem d_Mo_restore_41 : decode prog_8_method_32_code 41 = .ok (.iaload, 1) := by decide +kernel
theorem d_Mo_restore_42 : decode prog_8_method_32_code 42 = .ok (.istore_n 3, 1) := by decide +kernel
theorem d_Mo_restore_43 : decode prog_8_method_32_code 43 = .ok (.aload_n 0, 1) := by decide +kernel
theorem d_Mo_restore_44 : decode prog_8_method_32_code 44 = .ok (.getfield 31, 3) := by decide +kernel
theorem d_Mo_restore_47 : decode prog_8_method_32_code 47 = .ok (.iload_n 1, 1) := by decide +kernel
theorem d_Mo_restore_48 : decode prog_8_method_32_code 48 = .ok (.iload_n 2, 1) := by decide +kernel
theorem d_Mo_restore_49 : decode prog_8_method_32_code 49 = .ok (.iastore, 1) := by decide +kernel
theorem d_Mo_restore_50 : decode prog_8_method_32_code 50 = .ok (.iload_n 3, 1) := by decide +kernel
theorem d_Mo_restore_51 : decode prog_8_method_32_code 51 = .ok (.ireturn, 1) := by decide +kernel
theorem d_Mo_tracing_0 : decode prog_8_method_33_code 0 = .ok (.aload_n 0, 1) := by decide +kernel
theorem d_Mo_tracing_1 : decode prog_8_method_33_code 1 = .ok (.iconst 0, 1) := by decide +kernel
theorem d_Mo_tracing_2 : decode prog_8_method_33_code 2 = .ok (.putfield 7, 3) := by decide +kernel
theorem d_Mo_tracing_5 : decode prog_8_method_33_code 5 = .ok (.aload_n 0, 1) := by decide +kernel
theorem d_Mo_tracing_6 : decode prog_8_method_33_code 6 = .ok (.getfield 13, 3) := by decide +kernel
theorem d_Mo_tracing_9 : decode prog_8_method_33_code 9 = .ok (.istore_n 2, 1) := by decide +kernel
theorem d_Mo_tracing_10 : decode prog_8_method_33_code 10 = .ok (.aload_n 0, 1) := by decide +kernel
theorem d_Mo_tracing_11 : decode prog_8_method_33_code 11 = .ok (.iload_n 1, 1) := by decide +kernel
theorem d_Mo_tracing_12 : decode prog_8_method_33_code 12 = .ok (.putfield 13, 3) := by decide +kernel
theorem d_Mo_tracing_15 : decode prog_8_method_33_code 15 = .ok (.iload_n 2, 1) := by decide +kernel
theorem d_Mo_tracing_16 : decode prog_8_method_33_code 16 = .ok (.ireturn, 1) := by decide +kernel
theorem d_Mo_command_0 : decode prog_8_method_34_code 0 = .ok (.aload_n 0, 1) := by decide +kernel
theorem d_Mo_command_1 : decode prog_8_method_34_code 1 = .ok (.aload_n 0, 1) := by decide +kernel
theorem d_Mo_command_2 : decode prog_8_method_34_code 2 = .ok (.iload_n 1, 1) := by decide +kernel
theorem d_Mo_command_3 : decode prog_8_method_34_code 3 = .ok (.invokevirtual 149, 3) := by decide +kernel
theorem d_Mo_command_6 : decode prog_8_method_34_code 6 = .ok (.ifCond .ne 22, 3) := by decide +kernel
theorem d_Mo_command_9 : decode prog_8_method_34_code 9 = .ok (.iload_n 2, 1) := by decide +kernel
theorem d_Mo_command_10 : decode prog_8_method_34_code 10 = .ok (.ifCond .lt 18, 3) := by decide +kernel
theorem d_Mo_command_13 : decode prog_8_method_34_code 13 = .ok (.iload_n 2, 1) := by decide +kernel
theorem d_Mo_command_14 : decode prog_8_method_34_code 14 = .ok (.iconst 1, 1) := by decide +kernel
theorem d_Mo_command_15 : decode prog_8_method_34_code 15 = .ok (.if_icmp .gt 13, 3) := by decide +kernel
theorem d_Mo_command_18 : decode prog_8_method_34_code 18 = .ok (.iload_n 3, 1) := by decide +kernel
theorem d_Mo_command_19 : decode prog_8_method_34_code 19 = .ok (.iconst (-1), 1) := by decide +kernel
theorem d_Mo_command_20 : decode prog_8_method_34_code 20 = .ok (.if_icmp .lt 8, 3) := by decide +kernel
theorem d_Mo_command_23 : decode prog_8_method_34_code 23 = .ok (.iload_n 3, 1) := by decide +kernel
theorem d_Mo_command_24 : decode prog_8_method_34_code 24 = .ok (.iconst 3, 1) := by decide +kernel
theorem d_Mo_command_25 : decode prog_8_method_34_code 25 = .ok (.if_icmp .le 7, 3) := by decide +kernel
theorem d_Mo_command_28 : decode prog_8_method_34_code 28 = .ok (.iconst 1, 1) := by decide +kernel
theorem d_Mo_command_29 : decode prog_8_method_34_code 29 = .ok (.goto 4, 3) := by decide +kernel
theorem d_Mo_command_32 : decode prog_8_method_34_code 32 = .ok (.iconst 0, 1) := by decide +kernel
theorem d_Mo_command_33 : decode prog_8_method_34_code 33 = .ok (.putfield 7, 3) := by decide +kernel
theorem d_Mo_command_36 : decode prog_8_method_34_code 36 = .ok (.aload_n 0, 1) := by decide +kernel
theorem d_Mo_command_37 : decode prog_8_method_34_code 37 = .ok (.getfield 7, 3) := by decide +kernel
theorem d_Mo_command_40 : decode prog_8_method_34_code 40 = .ok (.ifCond .eq 5, 3) := by decide +kernel
theorem d_Mo_command_43 : decode prog_8_method_34_code 43 = .ok (.iconst 0, 1) := by decide +kernel
theorem d_Mo_command_44 : decode prog_8_method_34_code 44 = .ok (.ireturn, 1) := by decide +kernel
theorem d_Mo_command_45 : decode prog_8_method_34_code 45 = .ok (.iload_n 2, 1) := by decide +kernel
theorem d_Mo_command_46 : decode prog_8_method_34_code 46 = .ok (.ifCond .ne 12, 3) := by decide +kernel
theorem d_Mo_command_49 : decode prog_8_method_34_code 49 = .ok (.aload_n 0, 1) := by decide +kernel
theorem d_Mo_command_50 : decode prog_8_method_34_code 50 = .ok (.getfield 34, 3) := by decide +kernel
theorem d_Mo_command_53 : decode prog_8_method_34_code 53 = .ok (.iload_n 1, 1) := by decide +kernel
theorem d_Mo_command_54 : decode prog_8_method_34_code 54 = .ok (.iaload, 1) := by decide +kernel
theorem d_Mo_command_55 : decode prog_8_method_34_code 55 = .ok (.goto 9, 3) := by decide +kernel
theorem d_Mo_command_58 : decode prog_8_method_34_code 58 = .ok (.aload_n 0, 1) := by decide +kernel
theorem d_Mo_command_59 : decode prog_8_method_34_code 59 = .ok (.getfield 37, 3) := by decide +kernel
theorem d_Mo_command_62 : decode prog_8_method_34_code 62 = .ok (.iload_n 1, 1) := by decide +kernel
theorem d_Mo_command_63 : decode prog_8_method_34_code 63 = .ok (.iaload, 1) := by decide +kernel
theorem d_Mo_command_64 : decode prog_8_method_34_code 64 = .ok (.istore 4, 2) := by decide +kernel
theorem d_Mo_command_66 : decode prog_8_method_34_code 66 = .ok (.iload_n 2, 1) := by decide +kernel
theorem d_Mo_command_67 : decode prog_8_method_34_code 67 = .ok (.ifCond .ne 13, 3) := by decide +kernel
theorem d_Mo_command_70 : decode prog_8_method_34_code 70 = .ok (.aload_n 0, 1) := by decide +kernel
theorem d_Mo_command_71 : decode prog_8_method_34_code 71 = .ok (.getfield 34, 3) := by decide +kernel
theorem d_Mo_command_74 : decode prog_8_method_34_code 74 = .ok (.iload_n 1, 1) := by decide +kernel
theorem d_Mo_command_75 : decode prog_8_method_34_code 75 = .ok (.iload_n 3, 1) := by decide +kernel
theorem d_Mo_command_76 : decode prog_8_method_34_code 76 = .ok (.iastore, 1) := by decide +kernel
theorem d_Mo_command_77 : decode prog_8_method_34_code 77 = .ok (.goto 10, 3) := by decide +kernel
theorem d_Mo_command_80 : decode prog_8_method_34_code 80 = .ok (.aload_n 0, 1) := by decide +kernel
theorem d_Mo_command_81 : decode prog_8_method_34_code 81 = .ok (.getfield 37, 3) := by decide +kernel
theorem d_Mo_command_84 : decode prog_8_method_34_code 84 = .ok (.iload_n 1, 1) := by decide +kernel
theorem d_Mo_command_85 : decode prog_8_method_34_code 85 = .ok (.iload_n 3, 1) := by decide +kernel
theorem d_Mo_command_86 : decode prog_8_method_34_code 86 = .ok (.iastore, 1) := by decide +kernel
theorem d_Mo_command_87 : decode prog_8_method_34_code 87 = .ok (.iload 4, 2) := by decide +kernel
theorem d_Mo_command_89 : decode prog_8_method_34_code 89 = .ok (.ireturn, 1) := by decide +kernel
theorem d_Mo_lockout_0 : decode prog_8_method_35_code 0 = .ok (.aload_n 0, 1) := by decide +kernel
theorem d_Mo_lockout_1 : decode prog_8_method_35_code 1 = .ok (.aload_n 0, 1) := by decide +kernel
theorem d_Mo_lockout_2 : decode prog_8_method_35_code 2 = .ok (.iload_n 1, 1) := by decide +kernel
theorem d_Mo_lockout_3 : decode prog_8_method_35_code 3 = .ok (.iload_n 2, 1) := by decide +kernel
theorem d_Mo_lockout_4 : decode prog_8_method_35_code 4 = .ok (.invokevirtual 152, 3) := by decide +kernel
theorem d_Mo_lockout_7 : decode prog_8_method_35_code 7 = .ok (.ifCond .eq 7, 3) := by decide +kernel
theorem d_Mo_lockout_10 : decode prog_8_method_35_code 10 = .ok (.iconst 1, 1) := by decide +kernel
theorem d_Mo_lockout_11 : decode prog_8_method_35_code 11 = .ok (.goto 4, 3) := by decide +kernel
theorem d_Mo_lockout_14 : decode prog_8_method_35_code 14 = .ok (.iconst 0, 1) := by decide +kernel
theorem d_Mo_lockout_15 : decode prog_8_method_35_code 15 = .ok (.putfield 7, 3) := by decide +kernel
theorem d_Mo_lockout_18 : decode prog_8_method_35_code 18 = .ok (.aload_n 0, 1) := by decide +kernel
theorem d_Mo_lockout_19 : decode prog_8_method_35_code 19 = .ok (.getfield 7, 3) := by decide +kernel
theorem d_Mo_lockout_22 : decode prog_8_method_35_code 22 = .ok (.ifCond .eq 5, 3) := by decide +kernel
theorem d_Mo_lockout_25 : decode prog_8_method_35_code 25 = .ok (.iconst 0, 1) := by decide +kernel
theorem d_Mo_lockout_26 : decode prog_8_method_35_code 26 = .ok (.ireturn, 1) := by decide +kernel
theorem d_Mo_lockout_27 : decode prog_8_method_35_code 27 = .ok (.aload_n 0, 1) := by decide +kernel
theorem d_Mo_lockout_28 : decode prog_8_method_35_code 28 = .ok (.getfield 52, 3) := by decide +kernel
theorem d_Mo_lockout_31 : decode prog_8_method_35_code 31 = .ok (.iconst 4, 1) := by decide +kernel
theorem d_Mo_lockout_32 : decode prog_8_method_35_code 32 = .ok (.iload_n 1, 1) := by decide +kernel
theorem d_Mo_lockout_33 : decode prog_8_method_35_code 33 = .ok (.imul, 1) := by decide +kernel
theorem d_Mo_lockout_34 : decode prog_8_method_35_code 34 = .ok (.iload_n 2, 1) := by decide +kernel
theorem d_Mo_lockout_35 : decode prog_8_method_35_code 35 = .ok (.iadd, 1) := by decide +kernel
theorem d_Mo_lockout_36 : decode prog_8_method_35_code 36 = .ok (.baload, 1) := by decide +kernel
theorem d_Mo_lockout_37 : decode prog_8_method_35_code 37 = .ok (.istore 4, 2) := by decide +kernel
theorem d_Mo_lockout_39 : decode prog_8_method_35_code 39 = .ok (.aload_n 0, 1) := by decide +kernel
theorem d_Mo_lockout_40 : decode prog_8_method_35_code 40 = .ok (.getfield 52, 3) := by decide +kernel
theorem d_Mo_lockout_43 : decode prog_8_method_35_code 43 = .ok (.iconst 4, 1) := by decide +kernel
theorem d_Mo_lockout_44 : decode prog_8_method_35_code 44 = .ok (.iload_n 1, 1) := by decide +kernel
theorem d_Mo_lockout_45 : decode prog_8_method_35_code 45 = .ok (.imul, 1) := by decide +kernel
theorem d_Mo_lockout_46 : decode prog_8_method_35_code 46 = .ok (.iload_n 2, 1) := by decide +kernel
theorem d_Mo_lockout_47 : decode prog_8_method_35_code 47 = .ok (.iadd, 1) := by decide +kernel
theorem d_Mo_lockout_48 : decode prog_8_method_35_code 48 = .ok (.iload_n 3, 1) := by decide +kernel
theorem d_Mo_lockout_49 : decode prog_8_method_35_code 49 = .ok (.bastore, 1) := by decide +kernel
theorem d_Mo_lockout_50 : decode prog_8_method_35_code 50 = .ok (.iload 4, 2) := by decide +kernel
theorem d_Mo_lockout_52 : decode prog_8_method_35_code 52 = .ok (.ireturn, 1) := by decide +kernel
theorem d_Mo_fail_0 : decode prog_8_method_36_code 0 = .ok (.aload_n 0, 1) := by decide +kernel
theorem d_Mo_fail_1 : decode prog_8_method_36_code 1 = .ok (.aload_n 0, 1) := by decide +kernel
theorem d_Mo_fail_2 : decode prog_8_method_36_code 2 = .ok (.iload_n 1, 1) := by decide +kernel
theorem d_Mo_fail_3 : decode prog_8_method_36_code 3 = .ok (.invokevirtual 155, 3) := by decide +kernel
theorem d_Mo_fail_6 : decode prog_8_method_36_code 6 = .ok (.ifCond .eq 7, 3) := by decide +kernel
theorem d_Mo_fail_9 : decode prog_8_method_36_code 9 = .ok (.iconst 1, 1) := by decide +kernel
theorem d_Mo_fail_10 : decode prog_8_method_36_code 10 = .ok (.goto 4, 3) := by decide +kernel
theorem d_Mo_fail_13 : decode prog_8_method_36_code 13 = .ok (.iconst 0, 1) := by decide +kernel
theorem d_Mo_fail_14 : decode prog_8_method_36_code 14 = .ok (.putfield 7, 3) := by decide +kernel
theorem d_Mo_fail_17 : decode prog_8_method_36_code 17 = .ok (.aload_n 0, 1) := by decide +kernel
theorem d_Mo_fail_18 : decode prog_8_method_36_code 18 = .ok (.getfield 7, 3) := by decide +kernel
theorem d_Mo_fail_21 : decode prog_8_method_36_code 21 = .ok (.ifCond .eq 5, 3) := by decide +kernel
theorem d_Mo_fail_24 : decode prog_8_method_36_code 24 = .ok (.iconst 0, 1) := by decide +kernel
theorem d_Mo_fail_25 : decode prog_8_method_36_code 25 = .ok (.ireturn, 1) := by decide +kernel
theorem d_Mo_fail_26 : decode prog_8_method_36_code 26 = .ok (.aload_n 0, 1) := by decide +kernel
theorem d_Mo_fail_27 : decode prog_8_method_36_code 27 = .ok (.getfield 64, 3) := by decide +kernel
theorem d_Mo_fail_30 : decode prog_8_method_36_code 30 = .ok (.sipush 688, 3) := by decide +kernel
theorem d_Mo_fail_33 : decode prog_8_method_36_code 33 = .ok (.iload_n 1, 1) := by decide +kernel
theorem d_Mo_fail_34 : decode prog_8_method_36_code 34 = .ok (.iadd, 1) := by decide +kernel
theorem d_Mo_fail_35 : decode prog_8_method_36_code 35 = .ok (.iaload, 1) := by decide +kernel
theorem d_Mo_fail_36 : decode prog_8_method_36_code 36 = .ok (.iconst 1, 1) := by decide +kernel
theorem d_Mo_fail_37 : decode prog_8_method_36_code 37 = .ok (.if_icmp .ne 7, 3) := by decide +kernel
theorem d_Mo_fail_40 : decode prog_8_method_36_code 40 = .ok (.iconst 1, 1) := by decide +kernel
theorem d_Mo_fail_41 : decode prog_8_method_36_code 41 = .ok (.goto 4, 3) := by decide +kernel
theorem d_Mo_fail_44 : decode prog_8_method_36_code 44 = .ok (.iconst 0, 1) := by decide +kernel
theorem d_Mo_fail_45 : decode prog_8_method_36_code 45 = .ok (.istore_n 3, 1) := by decide +kernel
theorem d_Mo_fail_46 : decode prog_8_method_36_code 46 = .ok (.aload_n 0, 1) := by decide +kernel
theorem d_Mo_fail_47 : decode prog_8_method_36_code 47 = .ok (.getfield 64, 3) := by decide +kernel
theorem d_Mo_fail_50 : decode prog_8_method_36_code 50 = .ok (.sipush 688, 3) := by decide +kernel
theorem d_Mo_fail_53 : decode prog_8_method_36_code 53 = .ok (.iload_n 1, 1) := by decide +kernel
theorem d_Mo_fail_54 : decode prog_8_method_36_code 54 = .ok (.iadd, 1) := by decide +kernel
theorem d_Mo_fail_55 : decode prog_8_method_36_code 55 = .ok (.iload_n 2, 1) := by decide +kernel
theorem d_Mo_fail_56 : decode prog_8_method_36_code 56 = .ok (.ifCond .eq 7, 3) := by decide +kernel
theorem d_Mo_fail_59 : decode prog_8_method_36_code 59 = .ok (.iconst 1, 1) := by decide +kernel
theorem d_Mo_fail_60 : decode prog_8_method_36_code 60 = .ok (.goto 4, 3) := by decide +kernel
theorem d_Mo_fail_63 : decode prog_8_method_36_code 63 = .ok (.iconst 0, 1) := by decide +kernel
theorem d_Mo_fail_64 : decode prog_8_method_36_code 64 = .ok (.iastore, 1) := by decide +kernel
theorem d_Mo_fail_65 : decode prog_8_method_36_code 65 = .ok (.iload_n 3, 1) := by decide +kernel
theorem d_Mo_fail_66 : decode prog_8_method_36_code 66 = .ok (.ireturn, 1) := by decide +kernel
theorem d_Mo_noLink_0 : decode prog_8_method_27_code 0 = .ok (.iload_n 1, 1) := by decide +kernel
theorem d_Mo_noLink_1 : decode prog_8_method_27_code 1 = .ok (.ifCond .lt 11, 3) := by decide +kernel
theorem d_Mo_noLink_4 : decode prog_8_method_27_code 4 = .ok (.iload_n 1, 1) := by decide +kernel
theorem d_Mo_noLink_5 : decode prog_8_method_27_code 5 = .ok (.aload_n 0, 1) := by decide +kernel
theorem d_Mo_noLink_6 : decode prog_8_method_27_code 6 = .ok (.getfield 55, 3) := by decide +kernel
theorem d_Mo_noLink_9 : decode prog_8_method_27_code 9 = .ok (.if_icmp .lt 7, 3) := by decide +kernel
theorem d_Mo_noLink_12 : decode prog_8_method_27_code 12 = .ok (.iconst 1, 1) := by decide +kernel
theorem d_Mo_noLink_13 : decode prog_8_method_27_code 13 = .ok (.goto 4, 3) := by decide +kernel
theorem d_Mo_noLink_16 : decode prog_8_method_27_code 16 = .ok (.iconst 0, 1) := by decide +kernel
theorem d_Mo_noLink_17 : decode prog_8_method_27_code 17 = .ok (.ireturn, 1) := by decide +kernel
theorem d_Mo_failElement_0 : decode prog_8_method_37_code 0 = .ok (.aload_n 0, 1) := by decide +kernel
theorem d_Mo_failElement_1 : decode prog_8_method_37_code 1 = .ok (.aload_n 0, 1) := by decide +kernel
theorem d_Mo_failElement_2 : decode prog_8_method_37_code 2 = .ok (.iload_n 1, 1) := by decide +kernel
theorem d_Mo_failElement_3 : decode prog_8_method_37_code 3 = .ok (.invokevirtual 149, 3) := by decide +kernel
theorem d_Mo_failElement_6 : decode prog_8_method_37_code 6 = .ok (.ifCond .eq 7, 3) := by decide +kernel
theorem d_Mo_failElement_9 : decode prog_8_method_37_code 9 = .ok (.iconst 1, 1) := by decide +kernel
theorem d_Mo_failElement_10 : decode prog_8_method_37_code 10 = .ok (.goto 4, 3) := by decide +kernel
theorem d_Mo_failElement_13 : decode prog_8_method_37_code 13 = .ok (.iconst 0, 1) := by decide +kernel
theorem d_Mo_failElement_14 : decode prog_8_method_37_code 14 = .ok (.putfield 7, 3) := by decide +kernel
theorem d_Mo_failElement_17 : decode prog_8_method_37_code 17 = .ok (.aload_n 0, 1) := by decide +kernel
theorem d_Mo_failElement_18 : decode prog_8_method_37_code 18 = .ok (.getfield 7, 3) := by decide +kernel
theorem d_Mo_failElement_21 : decode prog_8_method_37_code 21 = .ok (.ifCond .eq 5, 3) := by decide +kernel
theorem d_Mo_failElement_24 : decode prog_8_method_37_code 24 = .ok (.iconst 0, 1) := by decide +kernel
theorem d_Mo_failElement_25 : decode prog_8_method_37_code 25 = .ok (.ireturn, 1) := by decide +kernel
theorem d_Mo_failElement_26 : decode prog_8_method_37_code 26 = .ok (.aload_n 0, 1) := by decide +kernel
theorem d_Mo_failElement_27 : decode prog_8_method_37_code 27 = .ok (.getfield 64, 3) := by decide +kernel
theorem d_Mo_failElement_30 : decode prog_8_method_37_code 30 = .ok (.sipush 672, 3) := by decide +kernel
theorem d_Mo_failElement_33 : decode prog_8_method_37_code 33 = .ok (.iload_n 1, 1) := by decide +kernel
theorem d_Mo_failElement_34 : decode prog_8_method_37_code 34 = .ok (.iadd, 1) := by decide +kernel
theorem d_Mo_failElement_35 : decode prog_8_method_37_code 35 = .ok (.iaload, 1) := by decide +kernel
theorem d_Mo_failElement_36 : decode prog_8_method_37_code 36 = .ok (.iconst 1, 1) := by decide +kernel
theorem d_Mo_failElement_37 : decode prog_8_method_37_code 37 = .ok (.if_icmp .ne 7, 3) := by decide +kernel
theorem d_Mo_failElement_40 : decode prog_8_method_37_code 40 = .ok (.iconst 1, 1) := by decide +kernel
theorem d_Mo_failElement_41 : decode prog_8_method_37_code 41 = .ok (.goto 4, 3) := by decide +kernel
theorem d_Mo_failElement_44 : decode prog_8_method_37_code 44 = .ok (.iconst 0, 1) := by decide +kernel
theorem d_Mo_failElement_45 : decode prog_8_method_37_code 45 = .ok (.istore_n 3, 1) := by decide +kernel
theorem d_Mo_failElement_46 : decode prog_8_method_37_code 46 = .ok (.iload_n 2, 1) := by decide +kernel
theorem d_Mo_failElement_47 : decode prog_8_method_37_code 47 = .ok (.ifCond .eq 12, 3) := by decide +kernel
theorem d_Mo_failElement_50 : decode prog_8_method_37_code 50 = .ok (.iload_n 3, 1) := by decide +kernel
theorem d_Mo_failElement_51 : decode prog_8_method_37_code 51 = .ok (.ifCond .ne 8, 3) := by decide +kernel
theorem d_Mo_failElement_54 : decode prog_8_method_37_code 54 = .ok (.aload_n 0, 1) := by decide +kernel
theorem d_Mo_failElement_55 : decode prog_8_method_37_code 55 = .ok (.iload_n 1, 1) := by decide +kernel
theorem d_Mo_failElement_56 : decode prog_8_method_37_code 56 = .ok (.invokevirtual 158, 3) := by decide +kernel
theorem d_Mo_failElement_59 : decode prog_8_method_37_code 59 = .ok (.iload_n 2, 1) := by decide +kernel
theorem d_Mo_failElement_60 : decode prog_8_method_37_code 60 = .ok (.ifCond .ne 12, 3) := by decide +kernel
theorem d_Mo_failElement_63 : decode prog_8_method_37_code 63 = .ok (.iload_n 3, 1) := by decide +kernel
theorem d_Mo_failElement_64 : decode prog_8_method_37_code 64 = .ok (.ifCond .eq 8, 3) := by decide +kernel
theorem d_Mo_failElement_67 : decode prog_8_method_37_code 67 = .ok (.aload_n 0, 1) := by decide +kernel
theorem d_Mo_failElement_68 : decode prog_8_method_37_code 68 = .ok (.iload_n 1, 1) := by decide +kernel
theorem d_Mo_failElement_69 : decode prog_8_method_37_code 69 = .ok (.invokevirtual 161, 3) := by decide +kernel
theorem d_Mo_failElement_72 : decode prog_8_method_37_code 72 = .ok (.iload_n 3, 1) := by decide +kernel
theorem d_Mo_failElement_73 : decode prog_8_method_37_code 73 = .ok (.ireturn, 1) := by decide +kernel
theorem d_Mo_breakDown_0 : decode prog_8_method_17_code 0 = .ok (.aload_n 0, 1) := by decide +kernel
theorem d_Mo_breakDown_1 : decode prog_8_method_17_code 1 = .ok (.getfield 64, 3) := by decide +kernel
theorem d_Mo_breakDown_4 : decode prog_8_method_17_code 4 = .ok (.sipush 672, 3) := by decide +kernel
theorem d_Mo_breakDown_7 : decode prog_8_method_17_code 7 = .ok (.iload_n 1, 1) := by decide +kernel
theorem d_Mo_breakDown_8 : decode prog_8_method_17_code 8 = .ok (.iadd, 1) := by decide +kernel
theorem d_Mo_breakDown_9 : decode prog_8_method_17_code 9 = .ok (.iconst 1, 1) := by decide +kernel
theorem d_Mo_breakDown_10 : decode prog_8_method_17_code 10 = .ok (.iastore, 1) := by decide +kernel
theorem d_Mo_breakDown_11 : decode prog_8_method_17_code 11 = .ok (.aload_n 0, 1) := by decide +kernel
theorem d_Mo_breakDown_12 : decode prog_8_method_17_code 12 = .ok (.iload_n 1, 1) := by decide +kernel
theorem d_Mo_breakDown_13 : decode prog_8_method_17_code 13 = .ok (.invokevirtual 133, 3) := by decide +kernel
theorem d_Mo_breakDown_16 : decode prog_8_method_17_code 16 = .ok (.return_, 1) := by decide +kernel
theorem d_Mo_sentNothing_0 : decode prog_8_method_16_code 0 = .ok (.iconst 4, 1) := by decide +kernel
theorem d_Mo_sentNothing_1 : decode prog_8_method_16_code 1 = .ok (.iload_n 1, 1) := by decide +kernel
theorem d_Mo_sentNothing_2 : decode prog_8_method_16_code 2 = .ok (.imul, 1) := by decide +kernel
theorem d_Mo_sentNothing_3 : decode prog_8_method_16_code 3 = .ok (.istore_n 2, 1) := by decide +kernel
theorem d_Mo_sentNothing_4 : decode prog_8_method_16_code 4 = .ok (.iload_n 2, 1) := by decide +kernel
theorem d_Mo_sentNothing_5 : decode prog_8_method_16_code 5 = .ok (.iconst 4, 1) := by decide +kernel
theorem d_Mo_sentNothing_6 : decode prog_8_method_16_code 6 = .ok (.iload_n 1, 1) := by decide +kernel
theorem d_Mo_sentNothing_7 : decode prog_8_method_16_code 7 = .ok (.imul, 1) := by decide +kernel
theorem d_Mo_sentNothing_8 : decode prog_8_method_16_code 8 = .ok (.iconst 4, 1) := by decide +kernel
theorem d_Mo_sentNothing_9 : decode prog_8_method_16_code 9 = .ok (.iadd, 1) := by decide +kernel
theorem d_Mo_sentNothing_10 : decode prog_8_method_16_code 10 = .ok (.if_icmp .ge 20, 3) := by decide +kernel
theorem d_Mo_sentNothing_13 : decode prog_8_method_16_code 13 = .ok (.aload_n 0, 1) := by decide +kernel
theorem d_Mo_sentNothing_14 : decode prog_8_method_16_code 14 = .ok (.getfield 64, 3) := by decide +kernel
theorem d_Mo_sentNothing_17 : decode prog_8_method_16_code 17 = .ok (.sipush 256, 3) := by decide +kernel
theorem d_Mo_sentNothing_20 : decode prog_8_method_16_code 20 = .ok (.iload_n 2, 1) := by decide +kernel
theorem d_Mo_sentNothing_21 : decode prog_8_method_16_code 21 = .ok (.iadd, 1) := by decide +kernel
theorem d_Mo_sentNothing_22 : decode prog_8_method_16_code 22 = .ok (.iconst (-1), 1) := by decide +kernel
theorem d_Mo_sentNothing_23 : decode prog_8_method_16_code 23 = .ok (.iastore, 1) := by decide +kernel
theorem d_Mo_sentNothing_24 : decode prog_8_method_16_code 24 = .ok (.iinc 2 1, 3) := by decide +kernel
theorem d_Mo_sentNothing_27 : decode prog_8_method_16_code 27 = .ok (.goto (-23), 3) := by decide +kernel
theorem d_Mo_sentNothing_30 : decode prog_8_method_16_code 30 = .ok (.return_, 1) := by decide +kernel
theorem d_Mo_comesBack_0 : decode prog_8_method_18_code 0 = .ok (.aload_n 0, 1) := by decide +kernel
theorem d_Mo_comesBack_1 : decode prog_8_method_18_code 1 = .ok (.getfield 64, 3) := by decide +kernel
theorem d_Mo_comesBack_4 : decode prog_8_method_18_code 4 = .ok (.sipush 672, 3) := by decide +kernel
theorem d_Mo_comesBack_7 : decode prog_8_method_18_code 7 = .ok (.iload_n 1, 1) := by decide +kernel
theorem d_Mo_comesBack_8 : decode prog_8_method_18_code 8 = .ok (.iadd, 1) := by decide +kernel
theorem d_Mo_comesBack_9 : decode prog_8_method_18_code 9 = .ok (.iconst 0, 1) := by decide +kernel
theorem d_Mo_comesBack_10 : decode prog_8_method_18_code 10 = .ok (.iastore, 1) := by decide +kernel
theorem d_Mo_comesBack_11 : decode prog_8_method_18_code 11 = .ok (.aload_n 0, 1) := by decide +kernel
theorem d_Mo_comesBack_12 : decode prog_8_method_18_code 12 = .ok (.iload_n 1, 1) := by decide +kernel
theorem d_Mo_comesBack_13 : decode prog_8_method_18_code 13 = .ok (.invokevirtual 133, 3) := by decide +kernel
theorem d_Mo_comesBack_16 : decode prog_8_method_18_code 16 = .ok (.aload_n 0, 1) := by decide +kernel
theorem d_Mo_comesBack_17 : decode prog_8_method_18_code 17 = .ok (.getfield 64, 3) := by decide +kernel
theorem d_Mo_comesBack_20 : decode prog_8_method_18_code 20 = .ok (.sipush 512, 3) := by decide +kernel
theorem d_Mo_comesBack_23 : decode prog_8_method_18_code 23 = .ok (.iload_n 1, 1) := by decide +kernel
theorem d_Mo_comesBack_24 : decode prog_8_method_18_code 24 = .ok (.iadd, 1) := by decide +kernel
theorem d_Mo_comesBack_25 : decode prog_8_method_18_code 25 = .ok (.iconst 0, 1) := by decide +kernel
theorem d_Mo_comesBack_26 : decode prog_8_method_18_code 26 = .ok (.iastore, 1) := by decide +kernel
theorem d_Mo_comesBack_27 : decode prog_8_method_18_code 27 = .ok (.aload_n 0, 1) := by decide +kernel
theorem d_Mo_comesBack_28 : decode prog_8_method_18_code 28 = .ok (.getfield 64, 3) := by decide +kernel
theorem d_Mo_comesBack_31 : decode prog_8_method_18_code 31 = .ok (.sipush 528, 3) := by decide +kernel
theorem d_Mo_comesBack_34 : decode prog_8_method_18_code 34 = .ok (.iload_n 1, 1) := by decide +kernel
theorem d_Mo_comesBack_35 : decode prog_8_method_18_code 35 = .ok (.iadd, 1) := by decide +kernel
theorem d_Mo_comesBack_36 : decode prog_8_method_18_code 36 = .ok (.iconst (-1), 1) := by decide +kernel
theorem d_Mo_comesBack_37 : decode prog_8_method_18_code 37 = .ok (.iastore, 1) := by decide +kernel
theorem d_Mo_comesBack_38 : decode prog_8_method_18_code 38 = .ok (.aload_n 0, 1) := by decide +kernel
theorem d_Mo_comesBack_39 : decode prog_8_method_18_code 39 = .ok (.getfield 64, 3) := by decide +kernel
theorem d_Mo_comesBack_42 : decode prog_8_method_18_code 42 = .ok (.sipush 544, 3) := by decide +kernel
theorem d_Mo_comesBack_45 : decode prog_8_method_18_code 45 = .ok (.iload_n 1, 1) := by decide +kernel
theorem d_Mo_comesBack_46 : decode prog_8_method_18_code 46 = .ok (.iadd, 1) := by decide +kernel
theorem d_Mo_comesBack_47 : decode prog_8_method_18_code 47 = .ok (.iconst 0, 1) := by decide +kernel
theorem d_Mo_comesBack_48 : decode prog_8_method_18_code 48 = .ok (.iastore, 1) := by decide +kernel
theorem d_Mo_comesBack_49 : decode prog_8_method_18_code 49 = .ok (.aload_n 0, 1) := by decide +kernel
theorem d_Mo_comesBack_50 : decode prog_8_method_18_code 50 = .ok (.getfield 64, 3) := by decide +kernel
theorem d_Mo_comesBack_53 : decode prog_8_method_18_code 53 = .ok (.sipush 608, 3) := by decide +kernel
theorem d_Mo_comesBack_56 : decode prog_8_method_18_code 56 = .ok (.iload_n 1, 1) := by decide +kernel
theorem d_Mo_comesBack_57 : decode prog_8_method_18_code 57 = .ok (.iadd, 1) := by decide +kernel
theorem d_Mo_comesBack_58 : decode prog_8_method_18_code 58 = .ok (.iconst (-1), 1) := by decide +kernel
theorem d_Mo_comesBack_59 : decode prog_8_method_18_code 59 = .ok (.iastore, 1) := by decide +kernel
theorem d_Mo_comesBack_60 : decode prog_8_method_18_code 60 = .ok (.aload_n 0, 1) := by decide +kernel
theorem d_Mo_comesBack_61 : decode prog_8_method_18_code 61 = .ok (.getfield 64, 3) := by decide +kernel
theorem d_Mo_comesBack_64 : decode prog_8_method_18_code 64 = .ok (.sipush 624, 3) := by decide +kernel
theorem d_Mo_comesBack_67 : decode prog_8_method_18_code 67 = .ok (.iload_n 1, 1) := by decide +kernel
theorem d_Mo_comesBack_68 : decode prog_8_method_18_code 68 = .ok (.iadd, 1) := by decide +kernel
theorem d_Mo_comesBack_69 : decode prog_8_method_18_code 69 = .ok (.iconst (-1), 1) := by decide +kernel
theorem d_Mo_comesBack_70 : decode prog_8_method_18_code 70 = .ok (.iastore, 1) := by decide +kernel
theorem d_Mo_comesBack_71 : decode prog_8_method_18_code 71 = .ok (.iconst 4, 1) := by decide +kernel
theorem d_Mo_comesBack_72 : decode prog_8_method_18_code 72 = .ok (.iload_n 1, 1) := by decide +kernel
theorem d_Mo_comesBack_73 : decode prog_8_method_18_code 73 = .ok (.imul, 1) := by decide +kernel
theorem d_Mo_comesBack_74 : decode prog_8_method_18_code 74 = .ok (.istore_n 2, 1) := by decide +kernel
theorem d_Mo_comesBack_75 : decode prog_8_method_18_code 75 = .ok (.iload_n 2, 1) := by decide +kernel
theorem d_Mo_comesBack_76 : decode prog_8_method_18_code 76 = .ok (.iconst 4, 1) := by decide +kernel
theorem d_Mo_comesBack_77 : decode prog_8_method_18_code 77 = .ok (.iload_n 1, 1) := by decide +kernel
theorem d_Mo_comesBack_78 : decode prog_8_method_18_code 78 = .ok (.imul, 1) := by decide +kernel
theorem d_Mo_comesBack_79 : decode prog_8_method_18_code 79 = .ok (.iconst 4, 1) := by decide +kernel
theorem d_Mo_comesBack_80 : decode prog_8_method_18_code 80 = .ok (.iadd, 1) := by decide +kernel
theorem d_Mo_comesBack_81 : decode prog_8_method_18_code 81 = .ok (.if_icmp .ge 29, 3) := by decide +kernel
theorem d_Mo_comesBack_84 : decode prog_8_method_18_code 84 = .ok (.aload_n 0, 1) := by decide +kernel
theorem d_Mo_comesBack_85 : decode prog_8_method_18_code 85 = .ok (.getfield 64, 3) := by decide +kernel
theorem d_Mo_comesBack_88 : decode prog_8_method_18_code 88 = .ok (.iconst 0, 1) := by decide +kernel
theorem d_Mo_comesBack_89 : decode prog_8_method_18_code 89 = .ok (.iload_n 2, 1) := by decide +kernel
theorem d_Mo_comesBack_90 : decode prog_8_method_18_code 90 = .ok (.iadd, 1) := by decide +kernel
theorem d_Mo_comesBack_91 : decode prog_8_method_18_code 91 = .ok (.iconst (-1), 1) := by decide +kernel
theorem d_Mo_comesBack_92 : decode prog_8_method_18_code 92 = .ok (.iastore, 1) := by decide +kernel
theorem d_Mo_comesBack_93 : decode prog_8_method_18_code 93 = .ok (.aload_n 0, 1) := by decide +kernel
theorem d_Mo_comesBack_94 : decode prog_8_method_18_code 94 = .ok (.getfield 64, 3) := by decide +kernel
theorem d_Mo_comesBack_97 : decode prog_8_method_18_code 97 = .ok (.sipush 448, 3) := by decide +kernel
theorem d_Mo_comesBack_100 : decode prog_8_method_18_code 100 = .ok (.iload_n 2, 1) := by decide +kernel
theorem d_Mo_comesBack_101 : decode prog_8_method_18_code 101 = .ok (.iadd, 1) := by decide +kernel
theorem d_Mo_comesBack_102 : decode prog_8_method_18_code 102 = .ok (.iconst 0, 1) := by decide +kernel
theorem d_Mo_comesBack_103 : decode prog_8_method_18_code 103 = .ok (.iastore, 1) := by decide +kernel
theorem d_Mo_comesBack_104 : decode prog_8_method_18_code 104 = .ok (.iinc 2 1, 3) := by decide +kernel
theorem d_Mo_comesBack_107 : decode prog_8_method_18_code 107 = .ok (.goto (-32), 3) := by decide +kernel
theorem d_Mo_comesBack_110 : decode prog_8_method_18_code 110 = .ok (.return_, 1) := by decide +kernel
theorem d_Mo_lose_0 : decode prog_8_method_38_code 0 = .ok (.aload_n 0, 1) := by decide +kernel
theorem d_Mo_lose_1 : decode prog_8_method_38_code 1 = .ok (.aload_n 0, 1) := by decide +kernel
theorem d_Mo_lose_2 : decode prog_8_method_38_code 2 = .ok (.iload_n 1, 1) := by decide +kernel
theorem d_Mo_lose_3 : decode prog_8_method_38_code 3 = .ok (.invokevirtual 155, 3) := by decide +kernel
theorem d_Mo_lose_6 : decode prog_8_method_38_code 6 = .ok (.ifCond .eq 7, 3) := by decide +kernel
theorem d_Mo_lose_9 : decode prog_8_method_38_code 9 = .ok (.iconst 1, 1) := by decide +kernel
theorem d_Mo_lose_10 : decode prog_8_method_38_code 10 = .ok (.goto 4, 3) := by decide +kernel
theorem d_Mo_lose_13 : decode prog_8_method_38_code 13 = .ok (.iconst 0, 1) := by decide +kernel
theorem d_Mo_lose_14 : decode prog_8_method_38_code 14 = .ok (.putfield 7, 3) := by decide +kernel
theorem d_Mo_lose_17 : decode prog_8_method_38_code 17 = .ok (.aload_n 0, 1) := by decide +kernel
theorem d_Mo_lose_18 : decode prog_8_method_38_code 18 = .ok (.getfield 7, 3) := by decide +kernel
theorem d_Mo_lose_21 : decode prog_8_method_38_code 21 = .ok (.ifCond .ne 26, 3) := by decide +kernel
theorem d_Mo_lose_24 : decode prog_8_method_38_code 24 = .ok (.aload_n 0, 1) := by decide +kernel
theorem d_Mo_lose_25 : decode prog_8_method_38_code 25 = .ok (.getfield 64, 3) := by decide +kernel
theorem d_Mo_lose_28 : decode prog_8_method_38_code 28 = .ok (.sipush 712, 3) := by decide +kernel
theorem d_Mo_lose_31 : decode prog_8_method_38_code 31 = .ok (.iconst 2, 1) := by decide +kernel
theorem d_Mo_lose_32 : decode prog_8_method_38_code 32 = .ok (.iload_n 1, 1) := by decide +kernel
theorem d_Mo_lose_33 : decode prog_8_method_38_code 33 = .ok (.imul, 1) := by decide +kernel
theorem d_Mo_lose_34 : decode prog_8_method_38_code 34 = .ok (.iadd, 1) := by decide +kernel
theorem d_Mo_lose_35 : decode prog_8_method_38_code 35 = .ok (.iload_n 2, 1) := by decide +kernel
theorem d_Mo_lose_36 : decode prog_8_method_38_code 36 = .ok (.ifCond .eq 7, 3) := by decide +kernel
theorem d_Mo_lose_39 : decode prog_8_method_38_code 39 = .ok (.iconst 1, 1) := by decide +kernel
theorem d_Mo_lose_40 : decode prog_8_method_38_code 40 = .ok (.goto 4, 3) := by decide +kernel
theorem d_Mo_lose_43 : decode prog_8_method_38_code 43 = .ok (.iconst 0, 1) := by decide +kernel
theorem d_Mo_lose_44 : decode prog_8_method_38_code 44 = .ok (.iadd, 1) := by decide +kernel
theorem d_Mo_lose_45 : decode prog_8_method_38_code 45 = .ok (.iconst 1, 1) := by decide +kernel
theorem d_Mo_lose_46 : decode prog_8_method_38_code 46 = .ok (.iastore, 1) := by decide +kernel
theorem d_Mo_lose_47 : decode prog_8_method_38_code 47 = .ok (.return_, 1) := by decide +kernel
theorem d_Mo_rounds_0 : decode prog_8_method_39_code 0 = .ok (.aload_n 0, 1) := by decide +kernel
theorem d_Mo_rounds_1 : decode prog_8_method_39_code 1 = .ok (.iload_n 1, 1) := by decide +kernel
theorem d_Mo_rounds_2 : decode prog_8_method_39_code 2 = .ok (.iconst 1, 1) := by decide +kernel
theorem d_Mo_rounds_3 : decode prog_8_method_39_code 3 = .ok (.if_icmp .lt 10, 3) := by decide +kernel
theorem d_Mo_rounds_6 : decode prog_8_method_39_code 6 = .ok (.iload_n 1, 1) := by decide +kernel
theorem d_Mo_rounds_7 : decode prog_8_method_39_code 7 = .ok (.sipush 200, 3) := by decide +kernel
theorem d_Mo_rounds_10 : decode prog_8_method_39_code 10 = .ok (.if_icmp .le 7, 3) := by decide +kernel
theorem d_Mo_rounds_13 : decode prog_8_method_39_code 13 = .ok (.iconst 1, 1) := by decide +kernel
theorem d_Mo_rounds_14 : decode prog_8_method_39_code 14 = .ok (.goto 4, 3) := by decide +kernel
theorem d_Mo_rounds_17 : decode prog_8_method_39_code 17 = .ok (.iconst 0, 1) := by decide +kernel
theorem d_Mo_rounds_18 : decode prog_8_method_39_code 18 = .ok (.putfield 7, 3) := by decide +kernel
theorem d_Mo_rounds_21 : decode prog_8_method_39_code 21 = .ok (.aload_n 0, 1) := by decide +kernel
theorem d_Mo_rounds_22 : decode prog_8_method_39_code 22 = .ok (.getfield 7, 3) := by decide +kernel
theorem d_Mo_rounds_25 : decode prog_8_method_39_code 25 = .ok (.ifCond .eq 5, 3) := by decide +kernel
theorem d_Mo_rounds_28 : decode prog_8_method_39_code 28 = .ok (.iconst 0, 1) := by decide +kernel
theorem d_Mo_rounds_29 : decode prog_8_method_39_code 29 = .ok (.ireturn, 1) := by decide +kernel
theorem d_Mo_rounds_30 : decode prog_8_method_39_code 30 = .ok (.iconst 0, 1) := by decide +kernel
theorem d_Mo_rounds_31 : decode prog_8_method_39_code 31 = .ok (.istore_n 2, 1) := by decide +kernel
theorem d_Mo_rounds_32 : decode prog_8_method_39_code 32 = .ok (.iload_n 2, 1) := by decide +kernel
theorem d_Mo_rounds_33 : decode prog_8_method_39_code 33 = .ok (.iload_n 1, 1) := by decide +kernel
theorem d_Mo_rounds_34 : decode prog_8_method_39_code 34 = .ok (.if_icmp .ge 13, 3) := by decide +kernel
theorem d_Mo_rounds_37 : decode prog_8_method_39_code 37 = .ok (.aload_n 0, 1) := by decide +kernel
theorem d_Mo_rounds_38 : decode prog_8_method_39_code 38 = .ok (.invokevirtual 139, 3) := by decide +kernel
theorem d_Mo_rounds_41 : decode prog_8_method_39_code 41 = .ok (.iinc 2 1, 3) := by decide +kernel
theorem d_Mo_rounds_44 : decode prog_8_method_39_code 44 = .ok (.goto (-12), 3) := by decide +kernel
theorem d_Mo_rounds_47 : decode prog_8_method_39_code 47 = .ok (.aload_n 0, 1) := by decide +kernel
theorem d_Mo_rounds_48 : decode prog_8_method_39_code 48 = .ok (.getfield 64, 3) := by decide +kernel
theorem d_Mo_rounds_51 : decode prog_8_method_39_code 51 = .ok (.sipush 761, 3) := by decide +kernel
theorem d_Mo_rounds_54 : decode prog_8_method_39_code 54 = .ok (.iaload, 1) := by decide +kernel
theorem d_Mo_rounds_55 : decode prog_8_method_39_code 55 = .ok (.ireturn, 1) := by decide +kernel
theorem d_Mo_round_0 : decode prog_8_method_13_code 0 = .ok (.aload_n 0, 1) := by decide +kernel
theorem d_Mo_round_1 : decode prog_8_method_13_code 1 = .ok (.getfield 64, 3) := by decide +kernel
theorem d_Mo_round_4 : decode prog_8_method_13_code 4 = .ok (.sipush 760, 3) := by decide +kernel
theorem d_Mo_round_7 : decode prog_8_method_13_code 7 = .ok (.aload_n 0, 1) := by decide +kernel
theorem d_Mo_round_8 : decode prog_8_method_13_code 8 = .ok (.getfield 64, 3) := by decide +kernel
theorem d_Mo_round_11 : decode prog_8_method_13_code 11 = .ok (.sipush 760, 3) := by decide +kernel
theorem d_Mo_round_14 : decode prog_8_method_13_code 14 = .ok (.iaload, 1) := by decide +kernel
theorem d_Mo_round_15 : decode prog_8_method_13_code 15 = .ok (.iconst 1, 1) := by decide +kernel
theorem d_Mo_round_16 : decode prog_8_method_13_code 16 = .ok (.iadd, 1) := by decide +kernel
theorem d_Mo_round_17 : decode prog_8_method_13_code 17 = .ok (.iastore, 1) := by decide +kernel
theorem d_Mo_round_18 : decode prog_8_method_13_code 18 = .ok (.iconst 0, 1) := by decide +kernel
theorem d_Mo_round_19 : decode prog_8_method_13_code 19 = .ok (.istore_n 1, 1) := by decide +kernel
theorem d_Mo_round_20 : decode prog_8_method_13_code 20 = .ok (.iload_n 1, 1) := by decide +kernel
theorem d_Mo_round_21 : decode prog_8_method_13_code 21 = .ok (.bipush 64, 2) := by decide +kernel
theorem d_Mo_round_23 : decode prog_8_method_13_code 23 = .ok (.if_icmp .ge 31, 3) := by decide +kernel
theorem d_Mo_round_26 : decode prog_8_method_13_code 26 = .ok (.aload_n 0, 1) := by decide +kernel
theorem d_Mo_round_27 : decode prog_8_method_13_code 27 = .ok (.getfield 77, 3) := by decide +kernel
theorem d_Mo_round_30 : decode prog_8_method_13_code 30 = .ok (.iload_n 1, 1) := by decide +kernel
theorem d_Mo_round_31 : decode prog_8_method_13_code 31 = .ok (.iconst (-1), 1) := by decide +kernel
theorem d_Mo_round_32 : decode prog_8_method_13_code 32 = .ok (.iastore, 1) := by decide +kernel
theorem d_Mo_round_33 : decode prog_8_method_13_code 33 = .ok (.aload_n 0, 1) := by decide +kernel
theorem d_Mo_round_34 : decode prog_8_method_13_code 34 = .ok (.iload_n 1, 1) := by decide +kernel
theorem d_Mo_round_35 : decode prog_8_method_13_code 35 = .ok (.iconst 4, 1) := by decide +kernel
theorem d_Mo_round_36 : decode prog_8_method_13_code 36 = .ok (.idiv, 1) := by decide +kernel
theorem d_Mo_round_37 : decode prog_8_method_13_code 37 = .ok (.invokevirtual 93, 3) := by decide +kernel
theorem d_Mo_round_40 : decode prog_8_method_13_code 40 = .ok (.ifCond .eq 8, 3) := by decide +kernel
theorem d_Mo_round_43 : decode prog_8_method_13_code 43 = .ok (.aload_n 0, 1) := by decide +kernel
theorem d_Mo_round_44 : decode prog_8_method_13_code 44 = .ok (.iload_n 1, 1) := by decide +kernel
theorem d_Mo_round_45 : decode prog_8_method_13_code 45 = .ok (.invokevirtual 120, 3) := by decide +kernel
theorem d_Mo_round_48 : decode prog_8_method_13_code 48 = .ok (.iinc 1 1, 3) := by decide +kernel
theorem d_Mo_round_51 : decode prog_8_method_13_code 51 = .ok (.goto (-31), 3) := by decide +kernel
theorem d_Mo_round_54 : decode prog_8_method_13_code 54 = .ok (.iconst 0, 1) := by decide +kernel
theorem d_Mo_round_55 : decode prog_8_method_13_code 55 = .ok (.istore_n 1, 1) := by decide +kernel
theorem d_Mo_round_56 : decode prog_8_method_13_code 56 = .ok (.iload_n 1, 1) := by decide +kernel
theorem d_Mo_round_57 : decode prog_8_method_13_code 57 = .ok (.bipush 16, 2) := by decide +kernel
theorem d_Mo_round_59 : decode prog_8_method_13_code 59 = .ok (.if_icmp .ge 22, 3) := by decide +kernel
theorem d_Mo_round_62 : decode prog_8_method_13_code 62 = .ok (.aload_n 0, 1) := by decide +kernel
theorem d_Mo_round_63 : decode prog_8_method_13_code 63 = .ok (.iload_n 1, 1) := by decide +kernel
theorem d_Mo_round_64 : decode prog_8_method_13_code 64 = .ok (.invokevirtual 93, 3) := by decide +kernel
theorem d_Mo_round_67 : decode prog_8_method_13_code 67 = .ok (.ifCond .eq 8, 3) := by decide +kernel
theorem d_Mo_round_70 : decode prog_8_method_13_code 70 = .ok (.aload_n 0, 1) := by decide +kernel
theorem d_Mo_round_71 : decode prog_8_method_13_code 71 = .ok (.iload_n 1, 1) := by decide +kernel
theorem d_Mo_round_72 : decode prog_8_method_13_code 72 = .ok (.invokevirtual 124, 3) := by decide +kernel
theorem d_Mo_round_75 : decode prog_8_method_13_code 75 = .ok (.iinc 1 1, 3) := by decide +kernel
theorem d_Mo_round_78 : decode prog_8_method_13_code 78 = .ok (.goto (-22), 3) := by decide +kernel
theorem d_Mo_round_81 : decode prog_8_method_13_code 81 = .ok (.iconst 0, 1) := by decide +kernel
theorem d_Mo_round_82 : decode prog_8_method_13_code 82 = .ok (.istore_n 1, 1) := by decide +kernel
theorem d_Mo_round_83 : decode prog_8_method_13_code 83 = .ok (.iload_n 1, 1) := by decide +kernel
theorem d_Mo_round_84 : decode prog_8_method_13_code 84 = .ok (.bipush 64, 2) := by decide +kernel
theorem d_Mo_round_86 : decode prog_8_method_13_code 86 = .ok (.if_icmp .ge 64, 3) := by decide +kernel
theorem d_Mo_round_89 : decode prog_8_method_13_code 89 = .ok (.aload_n 0, 1) := by decide +kernel
theorem d_Mo_round_90 : decode prog_8_method_13_code 90 = .ok (.getfield 64, 3) := by decide +kernel
theorem d_Mo_round_93 : decode prog_8_method_13_code 93 = .ok (.sipush 256, 3) := by decide +kernel
theorem d_Mo_round_96 : decode prog_8_method_13_code 96 = .ok (.iload_n 1, 1) := by decide +kernel
theorem d_Mo_round_97 : decode prog_8_method_13_code 97 = .ok (.iadd, 1) := by decide +kernel
theorem d_Mo_round_98 : decode prog_8_method_13_code 98 = .ok (.aload_n 0, 1) := by decide +kernel
theorem d_Mo_round_99 : decode prog_8_method_13_code 99 = .ok (.getfield 77, 3) := by decide +kernel
theorem d_Mo_round_102 : decode prog_8_method_13_code 102 = .ok (.iload_n 1, 1) := by decide +kernel
theorem d_Mo_round_103 : decode prog_8_method_13_code 103 = .ok (.iaload, 1) := by decide +kernel
theorem d_Mo_round_104 : decode prog_8_method_13_code 104 = .ok (.iastore, 1) := by decide +kernel
theorem d_Mo_round_105 : decode prog_8_method_13_code 105 = .ok (.aload_n 0, 1) := by decide +kernel
theorem d_Mo_round_106 : decode prog_8_method_13_code 106 = .ok (.getfield 64, 3) := by decide +kernel
theorem d_Mo_round_109 : decode prog_8_method_13_code 109 = .ok (.sipush 320, 3) := by decide +kernel
theorem d_Mo_round_112 : decode prog_8_method_13_code 112 = .ok (.iload_n 1, 1) := by decide +kernel
theorem d_Mo_round_113 : decode prog_8_method_13_code 113 = .ok (.iadd, 1) := by decide +kernel
theorem d_Mo_round_114 : decode prog_8_method_13_code 114 = .ok (.aload_n 0, 1) := by decide +kernel
theorem d_Mo_round_115 : decode prog_8_method_13_code 115 = .ok (.getfield 77, 3) := by decide +kernel
theorem d_Mo_round_118 : decode prog_8_method_13_code 118 = .ok (.bipush 64, 2) := by decide +kernel
theorem d_Mo_round_120 : decode prog_8_method_13_code 120 = .ok (.iload_n 1, 1) := by decide +kernel
theorem d_Mo_round_121 : decode prog_8_method_13_code 121 = .ok (.iadd, 1) := by decide +kernel
theorem d_Mo_round_122 : decode prog_8_method_13_code 122 = .ok (.iaload, 1) := by decide +kernel
theorem d_Mo_round_123 : decode prog_8_method_13_code 123 = .ok (.iastore, 1) := by decide +kernel
theorem d_Mo_round_124 : decode prog_8_method_13_code 124 = .ok (.aload_n 0, 1) := by decide +kernel
theorem d_Mo_round_125 : decode prog_8_method_13_code 125 = .ok (.getfield 64, 3) := by decide +kernel
theorem d_Mo_round_128 : decode prog_8_method_13_code 128 = .ok (.sipush 384, 3) := by decide +kernel
theorem d_Mo_round_131 : decode prog_8_method_13_code 131 = .ok (.iload_n 1, 1) := by decide +kernel
theorem d_Mo_round_132 : decode prog_8_method_13_code 132 = .ok (.iadd, 1) := by decide +kernel
theorem d_Mo_round_133 : decode prog_8_method_13_code 133 = .ok (.aload_n 0, 1) := by decide +kernel
theorem d_Mo_round_134 : decode prog_8_method_13_code 134 = .ok (.getfield 77, 3) := by decide +kernel
theorem d_Mo_round_137 : decode prog_8_method_13_code 137 = .ok (.sipush 128, 3) := by decide +kernel
theorem d_Mo_round_140 : decode prog_8_method_13_code 140 = .ok (.iload_n 1, 1) := by decide +kernel
theorem d_Mo_round_141 : decode prog_8_method_13_code 141 = .ok (.iadd, 1) := by decide +kernel
theorem d_Mo_round_142 : decode prog_8_method_13_code 142 = .ok (.iaload, 1) := by decide +kernel
theorem d_Mo_round_143 : decode prog_8_method_13_code 143 = .ok (.iastore, 1) := by decide +kernel
theorem d_Mo_round_144 : decode prog_8_method_13_code 144 = .ok (.iinc 1 1, 3) := by decide +kernel
theorem d_Mo_round_147 : decode prog_8_method_13_code 147 = .ok (.goto (-64), 3) := by decide +kernel
theorem d_Mo_round_150 : decode prog_8_method_13_code 150 = .ok (.iconst 0, 1) := by decide +kernel
theorem d_Mo_round_151 : decode prog_8_method_13_code 151 = .ok (.istore_n 1, 1) := by decide +kernel
theorem d_Mo_round_152 : decode prog_8_method_13_code 152 = .ok (.iload_n 1, 1) := by decide +kernel
theorem d_Mo_round_153 : decode prog_8_method_13_code 153 = .ok (.bipush 48, 2) := by decide +kernel
theorem d_Mo_round_155 : decode prog_8_method_13_code 155 = .ok (.if_icmp .ge 20, 3) := by decide +kernel
theorem d_Mo_round_158 : decode prog_8_method_13_code 158 = .ok (.aload_n 0, 1) := by decide +kernel
theorem d_Mo_round_159 : decode prog_8_method_13_code 159 = .ok (.getfield 64, 3) := by decide +kernel
theorem d_Mo_round_162 : decode prog_8_method_13_code 162 = .ok (.sipush 712, 3) := by decide +kernel
theorem d_Mo_round_165 : decode prog_8_method_13_code 165 = .ok (.iload_n 1, 1) := by decide +kernel
theorem d_Mo_round_166 : decode prog_8_method_13_code 166 = .ok (.iadd, 1) := by decide +kernel
theorem d_Mo_round_167 : decode prog_8_method_13_code 167 = .ok (.iconst 0, 1) := by decide +kernel
theorem d_Mo_round_168 : decode prog_8_method_13_code 168 = .ok (.iastore, 1) := by decide +kernel
theorem d_Mo_round_169 : decode prog_8_method_13_code 169 = .ok (.iinc 1 1, 3) := by decide +kernel
theorem d_Mo_round_172 : decode prog_8_method_13_code 172 = .ok (.goto (-20), 3) := by decide +kernel
theorem d_Mo_round_175 : decode prog_8_method_13_code 175 = .ok (.iconst 1, 1) := by decide +kernel
theorem d_Mo_round_176 : decode prog_8_method_13_code 176 = .ok (.istore_n 1, 1) := by decide +kernel
theorem d_Mo_round_177 : decode prog_8_method_13_code 177 = .ok (.iconst 0, 1) := by decide +kernel
theorem d_Mo_round_178 : decode prog_8_method_13_code 178 = .ok (.istore_n 2, 1) := by decide +kernel
theorem d_Mo_round_179 : decode prog_8_method_13_code 179 = .ok (.iload_n 2, 1) := by decide +kernel
theorem d_Mo_round_180 : decode prog_8_method_13_code 180 = .ok (.bipush 16, 2) := by decide +kernel
theorem d_Mo_round_182 : decode prog_8_method_13_code 182 = .ok (.if_icmp .ge 148, 3) := by decide +kernel
theorem d_Mo_round_185 : decode prog_8_method_13_code 185 = .ok (.aload_n 0, 1) := by decide +kernel
theorem d_Mo_round_186 : decode prog_8_method_13_code 186 = .ok (.iload_n 2, 1) := by decide +kernel
theorem d_Mo_round_187 : decode prog_8_method_13_code 187 = .ok (.invokevirtual 93, 3) := by decide +kernel
theorem d_Mo_round_190 : decode prog_8_method_13_code 190 = .ok (.ifCond .eq 27, 3) := by decide +kernel
theorem d_Mo_round_193 : decode prog_8_method_13_code 193 = .ok (.aload_n 0, 1) := by decide +kernel
theorem d_Mo_round_194 : decode prog_8_method_13_code 194 = .ok (.getfield 70, 3) := by decide +kernel
theorem d_Mo_round_197 : decode prog_8_method_13_code 197 = .ok (.iload_n 2, 1) := by decide +kernel
theorem d_Mo_round_198 : decode prog_8_method_13_code 198 = .ok (.aload_n 0, 1) := by decide +kernel
theorem d_Mo_round_199 : decode prog_8_method_13_code 199 = .ok (.getfield 70, 3) := by decide +kernel
theorem d_Mo_round_202 : decode prog_8_method_13_code 202 = .ok (.iload_n 2, 1) := by decide +kernel
theorem d_Mo_round_203 : decode prog_8_method_13_code 203 = .ok (.laload, 1) := by decide +kernel
theorem d_Mo_round_204 : decode prog_8_method_13_code 204 = .ok (.aload_n 0, 1) := by decide +kernel
theorem d_Mo_round_205 : decode prog_8_method_13_code 205 = .ok (.getfield 64, 3) := by decide +kernel
theorem d_Mo_round_208 : decode prog_8_method_13_code 208 = .ok (.sipush 560, 3) := by decide +kernel
theorem d_Mo_round_211 : decode prog_8_method_13_code 211 = .ok (.iload_n 2, 1) := by decide +kernel
theorem d_Mo_round_212 : decode prog_8_method_13_code 212 = .ok (.iadd, 1) := by decide +kernel
theorem d_Mo_round_213 : decode prog_8_method_13_code 213 = .ok (.iaload, 1) := by decide +kernel
theorem d_Mo_round_214 : decode prog_8_method_13_code 214 = .ok (.i2l, 1) := by decide +kernel
theorem d_Mo_round_215 : decode prog_8_method_13_code 215 = .ok (.ladd, 1) := by decide +kernel
theorem d_Mo_round_216 : decode prog_8_method_13_code 216 = .ok (.lastore, 1) := by decide +kernel
theorem d_Mo_round_217 : decode prog_8_method_13_code 217 = .ok (.aload_n 0, 1) := by decide +kernel
theorem d_Mo_round_218 : decode prog_8_method_13_code 218 = .ok (.getfield 64, 3) := by decide +kernel
theorem d_Mo_round_221 : decode prog_8_method_13_code 221 = .ok (.sipush 592, 3) := by decide +kernel
theorem d_Mo_round_224 : decode prog_8_method_13_code 224 = .ok (.iload_n 2, 1) := by decide +kernel
theorem d_Mo_round_225 : decode prog_8_method_13_code 225 = .ok (.iadd, 1) := by decide +kernel
theorem d_Mo_round_226 : decode prog_8_method_13_code 226 = .ok (.aload_n 0, 1) := by decide +kernel
theorem d_Mo_round_227 : decode prog_8_method_13_code 227 = .ok (.getfield 64, 3) := by decide +kernel
theorem d_Mo_round_230 : decode prog_8_method_13_code 230 = .ok (.sipush 576, 3) := by decide +kernel
theorem d_Mo_round_233 : decode prog_8_method_13_code 233 = .ok (.iload_n 2, 1) := by decide +kernel
theorem d_Mo_round_234 : decode prog_8_method_13_code 234 = .ok (.iadd, 1) := by decide +kernel
theorem d_Mo_round_235 : decode prog_8_method_13_code 235 = .ok (.iaload, 1) := by decide +kernel
theorem d_Mo_round_236 : decode prog_8_method_13_code 236 = .ok (.iastore, 1) := by decide +kernel
theorem d_Mo_round_237 : decode prog_8_method_13_code 237 = .ok (.aload_n 0, 1) := by decide +kernel
theorem d_Mo_round_238 : decode prog_8_method_13_code 238 = .ok (.getfield 64, 3) := by decide +kernel
theorem d_Mo_round_241 : decode prog_8_method_13_code 241 = .ok (.sipush 576, 3) := by decide +kernel
theorem d_Mo_round_244 : decode prog_8_method_13_code 244 = .ok (.iload_n 2, 1) := by decide +kernel
theorem d_Mo_round_245 : decode prog_8_method_13_code 245 = .ok (.iadd, 1) := by decide +kernel
theorem d_Mo_round_246 : decode prog_8_method_13_code 246 = .ok (.aload_n 0, 1) := by decide +kernel
theorem d_Mo_round_247 : decode prog_8_method_13_code 247 = .ok (.getfield 64, 3) := by decide +kernel
theorem d_Mo_round_250 : decode prog_8_method_13_code 250 = .ok (.sipush 560, 3) := by decide +kernel
theorem d_Mo_round_253 : decode prog_8_method_13_code 253 = .ok (.iload_n 2, 1) := by decide +kernel
theorem d_Mo_round_254 : decode prog_8_method_13_code 254 = .ok (.iadd, 1) := by decide +kernel
theorem d_Mo_round_255 : decode prog_8_method_13_code 255 = .ok (.iaload, 1) := by decide +kernel
theorem d_Mo_round_256 : decode prog_8_method_13_code 256 = .ok (.iastore, 1) := by decide +kernel
theorem d_Mo_round_257 : decode prog_8_method_13_code 257 = .ok (.aload_n 0, 1) := by decide +kernel
theorem d_Mo_round_258 : decode prog_8_method_13_code 258 = .ok (.iload_n 2, 1) := by decide +kernel
theorem d_Mo_round_259 : decode prog_8_method_13_code 259 = .ok (.invokevirtual 127, 3) := by decide +kernel
theorem d_Mo_round_262 : decode prog_8_method_13_code 262 = .ok (.istore_n 3, 1) := by decide +kernel
theorem d_Mo_round_263 : decode prog_8_method_13_code 263 = .ok (.aload_n 0, 1) := by decide +kernel
theorem d_Mo_round_264 : decode prog_8_method_13_code 264 = .ok (.iload_n 2, 1) := by decide +kernel
theorem d_Mo_round_265 : decode prog_8_method_13_code 265 = .ok (.invokevirtual 130, 3) := by decide +kernel
theorem d_Mo_round_268 : decode prog_8_method_13_code 268 = .ok (.istore 4, 2) := by decide +kernel
theorem d_Mo_round_270 : decode prog_8_method_13_code 270 = .ok (.iload_n 3, 1) := by decide +kernel
theorem d_Mo_round_271 : decode prog_8_method_13_code 271 = .ok (.aload_n 0, 1) := by decide +kernel
theorem d_Mo_round_272 : decode prog_8_method_13_code 272 = .ok (.getfield 64, 3) := by decide +kernel
theorem d_Mo_round_275 : decode prog_8_method_13_code 275 = .ok (.sipush 640, 3) := by decide +kernel
theorem d_Mo_round_278 : decode prog_8_method_13_code 278 = .ok (.iload_n 2, 1) := by decide +kernel
theorem d_Mo_round_279 : decode prog_8_method_13_code 279 = .ok (.iadd, 1) := by decide +kernel
theorem d_Mo_round_280 : decode prog_8_method_13_code 280 = .ok (.iaload, 1) := by decide +kernel
theorem d_Mo_round_281 : decode prog_8_method_13_code 281 = .ok (.if_icmp .ne 18, 3) := by decide +kernel
theorem d_Mo_round_284 : decode prog_8_method_13_code 284 = .ok (.iload 4, 2) := by decide +kernel
theorem d_Mo_round_286 : decode prog_8_method_13_code 286 = .ok (.aload_n 0, 1) := by decide +kernel
theorem d_Mo_round_287 : decode prog_8_method_13_code 287 = .ok (.getfield 64, 3) := by decide +kernel
theorem d_Mo_round_290 : decode prog_8_method_13_code 290 = .ok (.sipush 656, 3) := by decide +kernel
theorem d_Mo_round_293 : decode prog_8_method_13_code 293 = .ok (.iload_n 2, 1) := by decide +kernel
theorem d_Mo_round_294 : decode prog_8_method_13_code 294 = .ok (.iadd, 1) := by decide +kernel
theorem d_Mo_round_295 : decode prog_8_method_13_code 295 = .ok (.iaload, 1) := by decide +kernel
theorem d_Mo_round_296 : decode prog_8_method_13_code 296 = .ok (.if_icmp .eq 5, 3) := by decide +kernel
theorem d_Mo_round_299 : decode prog_8_method_13_code 299 = .ok (.iconst 0, 1) := by decide +kernel
theorem d_Mo_round_300 : decode prog_8_method_13_code 300 = .ok (.istore_n 1, 1) := by decide +kernel
theorem d_Mo_round_301 : decode prog_8_method_13_code 301 = .ok (.aload_n 0, 1) := by decide +kernel
theorem d_Mo_round_302 : decode prog_8_method_13_code 302 = .ok (.getfield 64, 3) := by decide +kernel
theorem d_Mo_round_305 : decode prog_8_method_13_code 305 = .ok (.sipush 640, 3) := by decide +kernel
theorem d_Mo_round_308 : decode prog_8_method_13_code 308 = .ok (.iload_n 2, 1) := by decide +kernel
theorem d_Mo_round_309 : decode prog_8_method_13_code 309 = .ok (.iadd, 1) := by decide +kernel
theorem d_Mo_round_310 : decode prog_8_method_13_code 310 = .ok (.iload_n 3, 1) := by decide +kernel
theorem d_Mo_round_311 : decode prog_8_method_13_code 311 = .ok (.iastore, 1) := by decide +kernel
theorem d_Mo_round_312 : decode prog_8_method_13_code 312 = .ok (.aload_n 0, 1) := by decide +kernel
theorem d_Mo_round_313 : decode prog_8_method_13_code 313 = .ok (.getfield 64, 3) := by decide +kernel
theorem d_Mo_round_316 : decode prog_8_method_13_code 316 = .ok (.sipush 656, 3) := by decide +kernel
theorem d_Mo_round_319 : decode prog_8_method_13_code 319 = .ok (.iload_n 2, 1) := by decide +kernel
theorem d_Mo_round_320 : decode prog_8_method_13_code 320 = .ok (.iadd, 1) := by decide +kernel
theorem d_Mo_round_321 : decode prog_8_method_13_code 321 = .ok (.iload 4, 2) := by decide +kernel
theorem d_Mo_round_323 : decode prog_8_method_13_code 323 = .ok (.iastore, 1) := by decide +kernel
theorem d_Mo_round_324 : decode prog_8_method_13_code 324 = .ok (.iinc 2 1, 3) := by decide +kernel
theorem d_Mo_round_327 : decode prog_8_method_13_code 327 = .ok (.goto (-148), 3) := by decide +kernel
theorem d_Mo_round_330 : decode prog_8_method_13_code 330 = .ok (.aload_n 0, 1) := by decide +kernel
theorem d_Mo_round_331 : decode prog_8_method_13_code 331 = .ok (.getfield 64, 3) := by decide +kernel
theorem d_Mo_round_334 : decode prog_8_method_13_code 334 = .ok (.sipush 761, 3) := by decide +kernel
theorem d_Mo_round_337 : decode prog_8_method_13_code 337 = .ok (.iload_n 1, 1) := by decide +kernel
theorem d_Mo_round_338 : decode prog_8_method_13_code 338 = .ok (.ifCond .eq 16, 3) := by decide +kernel
theorem d_Mo_round_341 : decode prog_8_method_13_code 341 = .ok (.aload_n 0, 1) := by decide +kernel
theorem d_Mo_round_342 : decode prog_8_method_13_code 342 = .ok (.getfield 64, 3) := by decide +kernel
theorem d_Mo_round_345 : decode prog_8_method_13_code 345 = .ok (.sipush 761, 3) := by decide +kernel
theorem d_Mo_round_348 : decode prog_8_method_13_code 348 = .ok (.iaload, 1) := by decide +kernel
theorem d_Mo_round_349 : decode prog_8_method_13_code 349 = .ok (.iconst 1, 1) := by decide +kernel
theorem d_Mo_round_350 : decode prog_8_method_13_code 350 = .ok (.iadd, 1) := by decide +kernel
theorem d_Mo_round_351 : decode prog_8_method_13_code 351 = .ok (.goto 4, 3) := by decide +kernel
theorem d_Mo_round_354 : decode prog_8_method_13_code 354 = .ok (.iconst 0, 1) := by decide +kernel
theorem d_Mo_round_355 : decode prog_8_method_13_code 355 = .ok (.iastore, 1) := by decide +kernel
theorem d_Mo_round_356 : decode prog_8_method_13_code 356 = .ok (.return_, 1) := by decide +kernel
theorem d_Mo_whole_0 : decode prog_8_method_2_code 0 = .ok (.aload_n 0, 1) := by decide +kernel
theorem d_Mo_whole_1 : decode prog_8_method_2_code 1 = .ok (.getfield 17, 3) := by decide +kernel
theorem d_Mo_whole_4 : decode prog_8_method_2_code 4 = .ok (.iload_n 1, 1) := by decide +kernel
theorem d_Mo_whole_5 : decode prog_8_method_2_code 5 = .ok (.baload, 1) := by decide +kernel
theorem d_Mo_whole_6 : decode prog_8_method_2_code 6 = .ok (.ifCond .eq 20, 3) := by decide +kernel
theorem d_Mo_whole_9 : decode prog_8_method_2_code 9 = .ok (.aload_n 0, 1) := by decide +kernel
theorem d_Mo_whole_10 : decode prog_8_method_2_code 10 = .ok (.getfield 64, 3) := by decide +kernel
theorem d_Mo_whole_13 : decode prog_8_method_2_code 13 = .ok (.sipush 672, 3) := by decide +kernel
theorem d_Mo_whole_16 : decode prog_8_method_2_code 16 = .ok (.iload_n 1, 1) := by decide +kernel
theorem d_Mo_whole_17 : decode prog_8_method_2_code 17 = .ok (.iadd, 1) := by decide +kernel
theorem d_Mo_whole_18 : decode prog_8_method_2_code 18 = .ok (.iaload, 1) := by decide +kernel
theorem d_Mo_whole_19 : decode prog_8_method_2_code 19 = .ok (.ifCond .ne 7, 3) := by decide +kernel
theorem d_Mo_whole_22 : decode prog_8_method_2_code 22 = .ok (.iconst 1, 1) := by decide +kernel
theorem d_Mo_whole_23 : decode prog_8_method_2_code 23 = .ok (.goto 4, 3) := by decide +kernel
theorem d_Mo_whole_26 : decode prog_8_method_2_code 26 = .ok (.iconst 0, 1) := by decide +kernel
theorem d_Mo_whole_27 : decode prog_8_method_2_code 27 = .ok (.ireturn, 1) := by decide +kernel
theorem d_Mo_gets_0 : decode prog_8_method_4_code 0 = .ok (.aload_n 0, 1) := by decide +kernel
theorem d_Mo_gets_1 : decode prog_8_method_4_code 1 = .ok (.getfield 46, 3) := by decide +kernel
theorem d_Mo_gets_4 : decode prog_8_method_4_code 4 = .ok (.iload_n 1, 1) := by decide +kernel
theorem d_Mo_gets_5 : decode prog_8_method_4_code 5 = .ok (.iaload, 1) := by decide +kernel
theorem d_Mo_gets_6 : decode prog_8_method_4_code 6 = .ok (.istore_n 2, 1) := by decide +kernel
theorem d_Mo_gets_7 : decode prog_8_method_4_code 7 = .ok (.iload_n 2, 1) := by decide +kernel
theorem d_Mo_gets_8 : decode prog_8_method_4_code 8 = .ok (.ifCond .lt 17, 3) := by decide +kernel
theorem d_Mo_gets_11 : decode prog_8_method_4_code 11 = .ok (.aload_n 0, 1) := by decide +kernel
theorem d_Mo_gets_12 : decode prog_8_method_4_code 12 = .ok (.getfield 64, 3) := by decide +kernel
theorem d_Mo_gets_15 : decode prog_8_method_4_code 15 = .ok (.sipush 688, 3) := by decide +kernel
theorem d_Mo_gets_18 : decode prog_8_method_4_code 18 = .ok (.iload_n 2, 1) := by decide +kernel
theorem d_Mo_gets_19 : decode prog_8_method_4_code 19 = .ok (.iadd, 1) := by decide +kernel
theorem d_Mo_gets_20 : decode prog_8_method_4_code 20 = .ok (.iaload, 1) := by decide +kernel
theorem d_Mo_gets_21 : decode prog_8_method_4_code 21 = .ok (.iconst 1, 1) := by decide +kernel
theorem d_Mo_gets_22 : decode prog_8_method_4_code 22 = .ok (.if_icmp .ne 4, 3) := by decide +kernel
theorem d_Mo_gets_25 : decode prog_8_method_4_code 25 = .ok (.return_, 1) := by decide +kernel
theorem d_Mo_gets_26 : decode prog_8_method_4_code 26 = .ok (.aload_n 0, 1) := by decide +kernel
theorem d_Mo_gets_27 : decode prog_8_method_4_code 27 = .ok (.iload_n 1, 1) := by decide +kernel
theorem d_Mo_gets_28 : decode prog_8_method_4_code 28 = .ok (.invokevirtual 89, 3) := by decide +kernel
theorem d_Mo_gets_31 : decode prog_8_method_4_code 31 = .ok (.istore_n 3, 1) := by decide +kernel
theorem d_Mo_gets_32 : decode prog_8_method_4_code 32 = .ok (.aload_n 0, 1) := by decide +kernel
theorem d_Mo_gets_33 : decode prog_8_method_4_code 33 = .ok (.getfield 64, 3) := by decide +kernel
theorem d_Mo_gets_36 : decode prog_8_method_4_code 36 = .ok (.sipush 712, 3) := by decide +kernel
theorem d_Mo_gets_39 : decode prog_8_method_4_code 39 = .ok (.iconst 2, 1) := by decide +kernel
theorem d_Mo_gets_40 : decode prog_8_method_4_code 40 = .ok (.iload_n 2, 1) := by decide +kernel
theorem d_Mo_gets_41 : decode prog_8_method_4_code 41 = .ok (.imul, 1) := by decide +kernel
theorem d_Mo_gets_42 : decode prog_8_method_4_code 42 = .ok (.iadd, 1) := by decide +kernel
theorem d_Mo_gets_43 : decode prog_8_method_4_code 43 = .ok (.aload_n 0, 1) := by decide +kernel
theorem d_Mo_gets_44 : decode prog_8_method_4_code 44 = .ok (.getfield 61, 3) := by decide +kernel
theorem d_Mo_gets_47 : decode prog_8_method_4_code 47 = .ok (.iload_n 2, 1) := by decide +kernel
theorem d_Mo_gets_48 : decode prog_8_method_4_code 48 = .ok (.iaload, 1) := by decide +kernel
theorem d_Mo_gets_49 : decode prog_8_method_4_code 49 = .ok (.iload_n 1, 1) := by decide +kernel
theorem d_Mo_gets_50 : decode prog_8_method_4_code 50 = .ok (.if_icmp .ne 7, 3) := by decide +kernel
theorem d_Mo_gets_53 : decode prog_8_method_4_code 53 = .ok (.iconst 0, 1) := by decide +kernel
theorem d_Mo_gets_54 : decode prog_8_method_4_code 54 = .ok (.goto 4, 3) := by decide +kernel
theorem d_Mo_gets_57 : decode prog_8_method_4_code 57 = .ok (.iconst 1, 1) := by decide +kernel
theorem d_Mo_gets_58 : decode prog_8_method_4_code 58 = .ok (.iadd, 1) := by decide +kernel
theorem d_Mo_gets_59 : decode prog_8_method_4_code 59 = .ok (.iaload, 1) := by decide +kernel
theorem d_Mo_gets_60 : decode prog_8_method_4_code 60 = .ok (.iconst 1, 1) := by decide +kernel
theorem d_Mo_gets_61 : decode prog_8_method_4_code 61 = .ok (.if_icmp .ne 7, 3) := by decide +kernel
theorem d_Mo_gets_64 : decode prog_8_method_4_code 64 = .ok (.iconst 1, 1) := by decide +kernel
theorem d_Mo_gets_65 : decode prog_8_method_4_code 65 = .ok (.goto 4, 3) := by decide +kernel
theorem d_Mo_gets_68 : decode prog_8_method_4_code 68 = .ok (.iconst 0, 1) := by decide +kernel
theorem d_Mo_gets_69 : decode prog_8_method_4_code 69 = .ok (.istore 4, 2) := by decide +kernel
theorem d_Mo_gets_71 : decode prog_8_method_4_code 71 = .ok (.aload_n 0, 1) := by decide +kernel
theorem d_Mo_gets_72 : decode prog_8_method_4_code 72 = .ok (.iload_n 3, 1) := by decide +kernel
theorem d_Mo_gets_73 : decode prog_8_method_4_code 73 = .ok (.iconst 4, 1) := by decide +kernel
theorem d_Mo_gets_74 : decode prog_8_method_4_code 74 = .ok (.idiv, 1) := by decide +kernel
theorem d_Mo_gets_75 : decode prog_8_method_4_code 75 = .ok (.invokevirtual 93, 3) := by decide +kernel
theorem d_Mo_gets_78 : decode prog_8_method_4_code 78 = .ok (.ifCond .eq 21, 3) := by decide +kernel
theorem d_Mo_gets_81 : decode prog_8_method_4_code 81 = .ok (.iload 4, 2) := by decide +kernel
theorem d_Mo_gets_83 : decode prog_8_method_4_code 83 = .ok (.ifCond .ne 16, 3) := by decide +kernel
theorem d_Mo_gets_86 : decode prog_8_method_4_code 86 = .ok (.aload_n 0, 1) := by decide +kernel
theorem d_Mo_gets_87 : decode prog_8_method_4_code 87 = .ok (.getfield 64, 3) := by decide +kernel
theorem d_Mo_gets_90 : decode prog_8_method_4_code 90 = .ok (.sipush 256, 3) := by decide +kernel
theorem d_Mo_gets_93 : decode prog_8_method_4_code 93 = .ok (.iload_n 3, 1) := by decide +kernel
theorem d_Mo_gets_94 : decode prog_8_method_4_code 94 = .ok (.iadd, 1) := by decide +kernel
theorem d_Mo_gets_95 : decode prog_8_method_4_code 95 = .ok (.iaload, 1) := by decide +kernel
theorem d_Mo_gets_96 : decode prog_8_method_4_code 96 = .ok (.ifCond .ge 4, 3) := by decide +kernel
theorem d_Mo_gets_99 : decode prog_8_method_4_code 99 = .ok (.return_, 1) := by decide +kernel
theorem d_Mo_gets_100 : decode prog_8_method_4_code 100 = .ok (.aload_n 0, 1) := by decide +kernel
theorem d_Mo_gets_101 : decode prog_8_method_4_code 101 = .ok (.getfield 64, 3) := by decide +kernel
theorem d_Mo_gets_104 : decode prog_8_method_4_code 104 = .ok (.iconst 0, 1) := by decide +kernel
theorem d_Mo_gets_105 : decode prog_8_method_4_code 105 = .ok (.iload_n 1, 1) := by decide +kernel
theorem d_Mo_gets_106 : decode prog_8_method_4_code 106 = .ok (.iadd, 1) := by decide +kernel
theorem d_Mo_gets_107 : decode prog_8_method_4_code 107 = .ok (.aload_n 0, 1) := by decide +kernel
theorem d_Mo_gets_108 : decode prog_8_method_4_code 108 = .ok (.getfield 64, 3) := by decide +kernel
theorem d_Mo_gets_111 : decode prog_8_method_4_code 111 = .ok (.sipush 256, 3) := by decide +kernel
theorem d_Mo_gets_114 : decode prog_8_method_4_code 114 = .ok (.iload_n 3, 1) := by decide +kernel
theorem d_Mo_gets_115 : decode prog_8_method_4_code 115 = .ok (.iadd, 1) := by decide +kernel
theorem d_Mo_gets_116 : decode prog_8_method_4_code 116 = .ok (.iaload, 1) := by decide +kernel
theorem d_Mo_gets_117 : decode prog_8_method_4_code 117 = .ok (.iastore, 1) := by decide +kernel
theorem d_Mo_gets_118 : decode prog_8_method_4_code 118 = .ok (.aload_n 0, 1) := by decide +kernel
theorem d_Mo_gets_119 : decode prog_8_method_4_code 119 = .ok (.getfield 64, 3) := by decide +kernel
theorem d_Mo_gets_122 : decode prog_8_method_4_code 122 = .ok (.bipush 64, 2) := by decide +kernel
theorem d_Mo_gets_124 : decode prog_8_method_4_code 124 = .ok (.iload_n 1, 1) := by decide +kernel
theorem d_Mo_gets_125 : decode prog_8_method_4_code 125 = .ok (.iadd, 1) := by decide +kernel
theorem d_Mo_gets_126 : decode prog_8_method_4_code 126 = .ok (.aload_n 0, 1) := by decide +kernel
theorem d_Mo_gets_127 : decode prog_8_method_4_code 127 = .ok (.getfield 64, 3) := by decide +kernel
theorem d_Mo_gets_130 : decode prog_8_method_4_code 130 = .ok (.sipush 320, 3) := by decide +kernel
theorem d_Mo_gets_133 : decode prog_8_method_4_code 133 = .ok (.iload_n 3, 1) := by decide +kernel
theorem d_Mo_gets_134 : decode prog_8_method_4_code 134 = .ok (.iadd, 1) := by decide +kernel
theorem d_Mo_gets_135 : decode prog_8_method_4_code 135 = .ok (.iaload, 1) := by decide +kernel
theorem d_Mo_gets_136 : decode prog_8_method_4_code 136 = .ok (.iastore, 1) := by decide +kernel
theorem d_Mo_gets_137 : decode prog_8_method_4_code 137 = .ok (.aload_n 0, 1) := by decide +kernel
theorem d_Mo_gets_138 : decode prog_8_method_4_code 138 = .ok (.getfield 64, 3) := by decide +kernel
theorem d_Mo_gets_141 : decode prog_8_method_4_code 141 = .ok (.sipush 128, 3) := by decide +kernel
theorem d_Mo_gets_144 : decode prog_8_method_4_code 144 = .ok (.iload_n 1, 1) := by decide +kernel
theorem d_Mo_gets_145 : decode prog_8_method_4_code 145 = .ok (.iadd, 1) := by decide +kernel
theorem d_Mo_gets_146 : decode prog_8_method_4_code 146 = .ok (.aload_n 0, 1) := by decide +kernel
theorem d_Mo_gets_147 : decode prog_8_method_4_code 147 = .ok (.getfield 64, 3) := by decide +kernel
theorem d_Mo_gets_150 : decode prog_8_method_4_code 150 = .ok (.sipush 384, 3) := by decide +kernel
theorem d_Mo_gets_153 : decode prog_8_method_4_code 153 = .ok (.iload_n 3, 1) := by decide +kernel
theorem d_Mo_gets_154 : decode prog_8_method_4_code 154 = .ok (.iadd, 1) := by decide +kernel
theorem d_Mo_gets_155 : decode prog_8_method_4_code 155 = .ok (.iaload, 1) := by decide +kernel
theorem d_Mo_gets_156 : decode prog_8_method_4_code 156 = .ok (.iastore, 1) := by decide +kernel
theorem d_Mo_gets_157 : decode prog_8_method_4_code 157 = .ok (.aload_n 0, 1) := by decide +kernel
theorem d_Mo_gets_158 : decode prog_8_method_4_code 158 = .ok (.getfield 64, 3) := by decide +kernel
theorem d_Mo_gets_161 : decode prog_8_method_4_code 161 = .ok (.sipush 192, 3) := by decide +kernel
theorem d_Mo_gets_164 : decode prog_8_method_4_code 164 = .ok (.iload_n 1, 1) := by decide +kernel
theorem d_Mo_gets_165 : decode prog_8_method_4_code 165 = .ok (.iadd, 1) := by decide +kernel
theorem d_Mo_gets_166 : decode prog_8_method_4_code 166 = .ok (.aload_n 0, 1) := by decide +kernel
theorem d_Mo_gets_167 : decode prog_8_method_4_code 167 = .ok (.getfield 64, 3) := by decide +kernel
theorem d_Mo_gets_170 : decode prog_8_method_4_code 170 = .ok (.sipush 760, 3) := by decide +kernel
theorem d_Mo_gets_173 : decode prog_8_method_4_code 173 = .ok (.iaload, 1) := by decide +kernel
theorem d_Mo_gets_174 : decode prog_8_method_4_code 174 = .ok (.iastore, 1) := by decide +kernel
theorem d_Mo_gets_175 : decode prog_8_method_4_code 175 = .ok (.return_, 1) := by decide +kernel
theorem d_Mo_across_0 : decode prog_8_method_3_code 0 = .ok (.aload_n 0, 1) := by decide +kernel
theorem d_Mo_across_1 : decode prog_8_method_3_code 1 = .ok (.getfield 46, 3) := by decide +kernel
theorem d_Mo_across_4 : decode prog_8_method_3_code 4 = .ok (.iload_n 1, 1) := by decide +kernel
theorem d_Mo_across_5 : decode prog_8_method_3_code 5 = .ok (.iaload, 1) := by decide +kernel
theorem d_Mo_across_6 : decode prog_8_method_3_code 6 = .ok (.istore_n 2, 1) := by decide +kernel
theorem d_Mo_across_7 : decode prog_8_method_3_code 7 = .ok (.aload_n 0, 1) := by decide +kernel
theorem d_Mo_across_8 : decode prog_8_method_3_code 8 = .ok (.getfield 58, 3) := by decide +kernel
theorem d_Mo_across_11 : decode prog_8_method_3_code 11 = .ok (.iload_n 2, 1) := by decide +kernel
theorem d_Mo_across_12 : decode prog_8_method_3_code 12 = .ok (.iaload, 1) := by decide +kernel
theorem d_Mo_across_13 : decode prog_8_method_3_code 13 = .ok (.iload_n 1, 1) := by decide +kernel
theorem d_Mo_across_14 : decode prog_8_method_3_code 14 = .ok (.if_icmp .ne 12, 3) := by decide +kernel
theorem d_Mo_across_17 : decode prog_8_method_3_code 17 = .ok (.aload_n 0, 1) := by decide +kernel
theorem d_Mo_across_18 : decode prog_8_method_3_code 18 = .ok (.getfield 61, 3) := by decide +kernel
theorem d_Mo_across_21 : decode prog_8_method_3_code 21 = .ok (.iload_n 2, 1) := by decide +kernel
theorem d_Mo_across_22 : decode prog_8_method_3_code 22 = .ok (.iaload, 1) := by decide +kernel
theorem d_Mo_across_23 : decode prog_8_method_3_code 23 = .ok (.goto 9, 3) := by decide +kernel
theorem d_Mo_across_26 : decode prog_8_method_3_code 26 = .ok (.aload_n 0, 1) := by decide +kernel
theorem d_Mo_across_27 : decode prog_8_method_3_code 27 = .ok (.getfield 58, 3) := by decide +kernel
theorem d_Mo_across_30 : decode prog_8_method_3_code 30 = .ok (.iload_n 2, 1) := by decide +kernel
theorem d_Mo_across_31 : decode prog_8_method_3_code 31 = .ok (.iaload, 1) := by decide +kernel
theorem d_Mo_across_32 : decode prog_8_method_3_code 32 = .ok (.ireturn, 1) := by decide +kernel
theorem d_Mo_chooses_0 : decode prog_8_method_12_code 0 = .ok (.iconst 4, 1) := by decide +kernel
theorem d_Mo_chooses_1 : decode prog_8_method_12_code 1 = .ok (.iload_n 1, 1) := by decide +kernel
theorem d_Mo_chooses_2 : decode prog_8_method_12_code 2 = .ok (.imul, 1) := by decide +kernel
theorem d_Mo_chooses_3 : decode prog_8_method_12_code 3 = .ok (.istore_n 2, 1) := by decide +kernel
theorem d_Mo_chooses_4 : decode prog_8_method_12_code 4 = .ok (.iload_n 2, 1) := by decide +kernel
theorem d_Mo_chooses_5 : decode prog_8_method_12_code 5 = .ok (.iconst 4, 1) := by decide +kernel
theorem d_Mo_chooses_6 : decode prog_8_method_12_code 6 = .ok (.iload_n 1, 1) := by decide +kernel
theorem d_Mo_chooses_7 : decode prog_8_method_12_code 7 = .ok (.imul, 1) := by decide +kernel
theorem d_Mo_chooses_8 : decode prog_8_method_12_code 8 = .ok (.iconst 4, 1) := by decide +kernel
theorem d_Mo_chooses_9 : decode prog_8_method_12_code 9 = .ok (.iadd, 1) := by decide +kernel
theorem d_Mo_chooses_10 : decode prog_8_method_12_code 10 = .ok (.if_icmp .ge 43, 3) := by decide +kernel
theorem d_Mo_chooses_13 : decode prog_8_method_12_code 13 = .ok (.aload_n 0, 1) := by decide +kernel
theorem d_Mo_chooses_14 : decode prog_8_method_12_code 14 = .ok (.getfield 64, 3) := by decide +kernel
theorem d_Mo_chooses_17 : decode prog_8_method_12_code 17 = .ok (.sipush 448, 3) := by decide +kernel
theorem d_Mo_chooses_20 : decode prog_8_method_12_code 20 = .ok (.iload_n 2, 1) := by decide +kernel
theorem d_Mo_chooses_21 : decode prog_8_method_12_code 21 = .ok (.iadd, 1) := by decide +kernel
theorem d_Mo_chooses_22 : decode prog_8_method_12_code 22 = .ok (.aload_n 0, 1) := by decide +kernel
theorem d_Mo_chooses_23 : decode prog_8_method_12_code 23 = .ok (.iload_n 2, 1) := by decide +kernel
theorem d_Mo_chooses_24 : decode prog_8_method_12_code 24 = .ok (.invokevirtual 114, 3) := by decide +kernel
theorem d_Mo_chooses_27 : decode prog_8_method_12_code 27 = .ok (.ifCond .eq 18, 3) := by decide +kernel
theorem d_Mo_chooses_30 : decode prog_8_method_12_code 30 = .ok (.aload_n 0, 1) := by decide +kernel
theorem d_Mo_chooses_31 : decode prog_8_method_12_code 31 = .ok (.getfield 64, 3) := by decide +kernel
theorem d_Mo_chooses_34 : decode prog_8_method_12_code 34 = .ok (.sipush 448, 3) := by decide +kernel
theorem d_Mo_chooses_37 : decode prog_8_method_12_code 37 = .ok (.iload_n 2, 1) := by decide +kernel
theorem d_Mo_chooses_38 : decode prog_8_method_12_code 38 = .ok (.iadd, 1) := by decide +kernel
theorem d_Mo_chooses_39 : decode prog_8_method_12_code 39 = .ok (.iaload, 1) := by decide +kernel
theorem d_Mo_chooses_40 : decode prog_8_method_12_code 40 = .ok (.iconst 1, 1) := by decide +kernel
theorem d_Mo_chooses_41 : decode prog_8_method_12_code 41 = .ok (.iadd, 1) := by decide +kernel
theorem d_Mo_chooses_42 : decode prog_8_method_12_code 42 = .ok (.goto 4, 3) := by decide +kernel
theorem d_Mo_chooses_45 : decode prog_8_method_12_code 45 = .ok (.iconst 0, 1) := by decide +kernel
theorem d_Mo_chooses_46 : decode prog_8_method_12_code 46 = .ok (.iastore, 1) := by decide +kernel
theorem d_Mo_chooses_47 : decode prog_8_method_12_code 47 = .ok (.iinc 2 1, 3) := by decide +kernel
theorem d_Mo_chooses_50 : decode prog_8_method_12_code 50 = .ok (.goto (-46), 3) := by decide +kernel
theorem d_Mo_chooses_53 : decode prog_8_method_12_code 53 = .ok (.aload_n 0, 1) := by decide +kernel
theorem d_Mo_chooses_54 : decode prog_8_method_12_code 54 = .ok (.iload_n 1, 1) := by decide +kernel
theorem d_Mo_chooses_55 : decode prog_8_method_12_code 55 = .ok (.invokevirtual 117, 3) := by decide +kernel
theorem d_Mo_chooses_58 : decode prog_8_method_12_code 58 = .ok (.istore_n 2, 1) := by decide +kernel
theorem d_Mo_chooses_59 : decode prog_8_method_12_code 59 = .ok (.iload_n 2, 1) := by decide +kernel
theorem d_Mo_chooses_60 : decode prog_8_method_12_code 60 = .ok (.ifCond .lt 20, 3) := by decide +kernel
theorem d_Mo_chooses_63 : decode prog_8_method_12_code 63 = .ok (.aload_n 0, 1) := by decide +kernel
theorem d_Mo_chooses_64 : decode prog_8_method_12_code 64 = .ok (.getfield 64, 3) := by decide +kernel
theorem d_Mo_chooses_67 : decode prog_8_method_12_code 67 = .ok (.sipush 448, 3) := by decide +kernel
theorem d_Mo_chooses_70 : decode prog_8_method_12_code 70 = .ok (.iload_n 2, 1) := by decide +kernel
theorem d_Mo_chooses_71 : decode prog_8_method_12_code 71 = .ok (.iadd, 1) := by decide +kernel
theorem d_Mo_chooses_72 : decode prog_8_method_12_code 72 = .ok (.iaload, 1) := by decide +kernel
theorem d_Mo_chooses_73 : decode prog_8_method_12_code 73 = .ok (.ifCond .le 7, 3) := by decide +kernel
theorem d_Mo_chooses_76 : decode prog_8_method_12_code 76 = .ok (.iconst 1, 1) := by decide +kernel
theorem d_Mo_chooses_77 : decode prog_8_method_12_code 77 = .ok (.goto 4, 3) := by decide +kernel
theorem d_Mo_chooses_80 : decode prog_8_method_12_code 80 = .ok (.iconst 0, 1) := by decide +kernel
theorem d_Mo_chooses_81 : decode prog_8_method_12_code 81 = .ok (.istore_n 3, 1) := by decide +kernel
theorem d_Mo_chooses_82 : decode prog_8_method_12_code 82 = .ok (.aload_n 0, 1) := by decide +kernel
theorem d_Mo_chooses_83 : decode prog_8_method_12_code 83 = .ok (.getfield 64, 3) := by decide +kernel
theorem d_Mo_chooses_86 : decode prog_8_method_12_code 86 = .ok (.sipush 528, 3) := by decide +kernel
theorem d_Mo_chooses_89 : decode prog_8_method_12_code 89 = .ok (.iload_n 1, 1) := by decide +kernel
theorem d_Mo_chooses_90 : decode prog_8_method_12_code 90 = .ok (.iadd, 1) := by decide +kernel
theorem d_Mo_chooses_91 : decode prog_8_method_12_code 91 = .ok (.iload_n 2, 1) := by decide +kernel
theorem d_Mo_chooses_92 : decode prog_8_method_12_code 92 = .ok (.ifCond .ge 7, 3) := by decide +kernel
theorem d_Mo_chooses_95 : decode prog_8_method_12_code 95 = .ok (.iconst (-1), 1) := by decide +kernel
theorem d_Mo_chooses_96 : decode prog_8_method_12_code 96 = .ok (.goto 6, 3) := by decide +kernel
theorem d_Mo_chooses_99 : decode prog_8_method_12_code 99 = .ok (.iload_n 2, 1) := by decide +kernel
theorem d_Mo_chooses_100 : decode prog_8_method_12_code 100 = .ok (.iconst 4, 1) := by decide +kernel
theorem d_Mo_chooses_101 : decode prog_8_method_12_code 101 = .ok (.irem, 1) := by decide +kernel
theorem d_Mo_chooses_102 : decode prog_8_method_12_code 102 = .ok (.iastore, 1) := by decide +kernel
theorem d_Mo_chooses_103 : decode prog_8_method_12_code 103 = .ok (.iload_n 3, 1) := by decide +kernel
theorem d_Mo_chooses_104 : decode prog_8_method_12_code 104 = .ok (.ifCond .eq 14, 3) := by decide +kernel
theorem d_Mo_chooses_107 : decode prog_8_method_12_code 107 = .ok (.aload_n 0, 1) := by decide +kernel
theorem d_Mo_chooses_108 : decode prog_8_method_12_code 108 = .ok (.getfield 64, 3) := by decide +kernel
theorem d_Mo_chooses_111 : decode prog_8_method_12_code 111 = .ok (.sipush 544, 3) := by decide +kernel
theorem d_Mo_chooses_114 : decode prog_8_method_12_code 114 = .ok (.iload_n 1, 1) := by decide +kernel
theorem d_Mo_chooses_115 : decode prog_8_method_12_code 115 = .ok (.iadd, 1) := by decide +kernel
theorem d_Mo_chooses_116 : decode prog_8_method_12_code 116 = .ok (.iconst 1, 1) := by decide +kernel
theorem d_Mo_chooses_117 : decode prog_8_method_12_code 117 = .ok (.iastore, 1) := by decide +kernel
theorem d_Mo_chooses_118 : decode prog_8_method_12_code 118 = .ok (.aload_n 0, 1) := by decide +kernel
theorem d_Mo_chooses_119 : decode prog_8_method_12_code 119 = .ok (.getfield 64, 3) := by decide +kernel
theorem d_Mo_chooses_122 : decode prog_8_method_12_code 122 = .ok (.sipush 512, 3) := by decide +kernel
theorem d_Mo_chooses_125 : decode prog_8_method_12_code 125 = .ok (.iload_n 1, 1) := by decide +kernel
theorem d_Mo_chooses_126 : decode prog_8_method_12_code 126 = .ok (.iadd, 1) := by decide +kernel
theorem d_Mo_chooses_127 : decode prog_8_method_12_code 127 = .ok (.iload_n 3, 1) := by decide +kernel
theorem d_Mo_chooses_128 : decode prog_8_method_12_code 128 = .ok (.ifCond .eq 7, 3) := by decide +kernel
theorem d_Mo_chooses_131 : decode prog_8_method_12_code 131 = .ok (.iconst 1, 1) := by decide +kernel
theorem d_Mo_chooses_132 : decode prog_8_method_12_code 132 = .ok (.goto 22, 3) := by decide +kernel
theorem d_Mo_chooses_135 : decode prog_8_method_12_code 135 = .ok (.aload_n 0, 1) := by decide +kernel
theorem d_Mo_chooses_136 : decode prog_8_method_12_code 136 = .ok (.getfield 64, 3) := by decide +kernel
theorem d_Mo_chooses_139 : decode prog_8_method_12_code 139 = .ok (.sipush 544, 3) := by decide +kernel
theorem d_Mo_chooses_142 : decode prog_8_method_12_code 142 = .ok (.iload_n 1, 1) := by decide +kernel
theorem d_Mo_chooses_143 : decode prog_8_method_12_code 143 = .ok (.iadd, 1) := by decide +kernel
theorem d_Mo_chooses_144 : decode prog_8_method_12_code 144 = .ok (.iaload, 1) := by decide +kernel
theorem d_Mo_chooses_145 : decode prog_8_method_12_code 145 = .ok (.iconst 1, 1) := by decide +kernel
theorem d_Mo_chooses_146 : decode prog_8_method_12_code 146 = .ok (.if_icmp .ne 7, 3) := by decide +kernel
theorem d_Mo_chooses_149 : decode prog_8_method_12_code 149 = .ok (.iconst 2, 1) := by decide +kernel
theorem d_Mo_chooses_150 : decode prog_8_method_12_code 150 = .ok (.goto 4, 3) := by decide +kernel
theorem d_Mo_chooses_153 : decode prog_8_method_12_code 153 = .ok (.iconst 0, 1) := by decide +kernel
theorem d_Mo_chooses_154 : decode prog_8_method_12_code 154 = .ok (.iastore, 1) := by decide +kernel
theorem d_Mo_chooses_155 : decode prog_8_method_12_code 155 = .ok (.aload_n 0, 1) := by decide +kernel
theorem d_Mo_chooses_156 : decode prog_8_method_12_code 156 = .ok (.getfield 64, 3) := by decide +kernel
theorem d_Mo_chooses_159 : decode prog_8_method_12_code 159 = .ok (.sipush 608, 3) := by decide +kernel
theorem d_Mo_chooses_162 : decode prog_8_method_12_code 162 = .ok (.iload_n 1, 1) := by decide +kernel
theorem d_Mo_chooses_163 : decode prog_8_method_12_code 163 = .ok (.iadd, 1) := by decide +kernel
theorem d_Mo_chooses_164 : decode prog_8_method_12_code 164 = .ok (.iload_n 3, 1) := by decide +kernel
theorem d_Mo_chooses_165 : decode prog_8_method_12_code 165 = .ok (.ifCond .eq 11, 3) := by decide +kernel
theorem d_Mo_chooses_168 : decode prog_8_method_12_code 168 = .ok (.aload_n 0, 1) := by decide +kernel
theorem d_Mo_chooses_169 : decode prog_8_method_12_code 169 = .ok (.iload_n 2, 1) := by decide +kernel
theorem d_Mo_chooses_170 : decode prog_8_method_12_code 170 = .ok (.invokevirtual 103, 3) := by decide +kernel
theorem d_Mo_chooses_173 : decode prog_8_method_12_code 173 = .ok (.goto 4, 3) := by decide +kernel
theorem d_Mo_chooses_176 : decode prog_8_method_12_code 176 = .ok (.iconst (-1), 1) := by decide +kernel
theorem d_Mo_chooses_177 : decode prog_8_method_12_code 177 = .ok (.iastore, 1) := by decide +kernel
theorem d_Mo_chooses_178 : decode prog_8_method_12_code 178 = .ok (.aload_n 0, 1) := by decide +kernel
theorem d_Mo_chooses_179 : decode prog_8_method_12_code 179 = .ok (.getfield 64, 3) := by decide +kernel
theorem d_Mo_chooses_182 : decode prog_8_method_12_code 182 = .ok (.sipush 624, 3) := by decide +kernel
theorem d_Mo_chooses_185 : decode prog_8_method_12_code 185 = .ok (.iload_n 1, 1) := by decide +kernel
theorem d_Mo_chooses_186 : decode prog_8_method_12_code 186 = .ok (.iadd, 1) := by decide +kernel
theorem d_Mo_chooses_187 : decode prog_8_method_12_code 187 = .ok (.iload_n 3, 1) := by decide +kernel
theorem d_Mo_chooses_188 : decode prog_8_method_12_code 188 = .ok (.ifCond .eq 11, 3) := by decide +kernel
theorem d_Mo_chooses_191 : decode prog_8_method_12_code 191 = .ok (.aload_n 0, 1) := by decide +kernel
theorem d_Mo_chooses_192 : decode prog_8_method_12_code 192 = .ok (.iload_n 2, 1) := by decide +kernel
theorem d_Mo_chooses_193 : decode prog_8_method_12_code 193 = .ok (.invokevirtual 100, 3) := by decide +kernel
theorem d_Mo_chooses_196 : decode prog_8_method_12_code 196 = .ok (.goto 4, 3) := by decide +kernel
theorem d_Mo_chooses_199 : decode prog_8_method_12_code 199 = .ok (.iconst (-1), 1) := by decide +kernel
theorem d_Mo_chooses_200 : decode prog_8_method_12_code 200 = .ok (.iastore, 1) := by decide +kernel
theorem d_Mo_chooses_201 : decode prog_8_method_12_code 201 = .ok (.iconst 4, 1) := by decide +kernel
theorem d_Mo_chooses_202 : decode prog_8_method_12_code 202 = .ok (.iload_n 1, 1) := by decide +kernel
theorem d_Mo_chooses_203 : decode prog_8_method_12_code 203 = .ok (.imul, 1) := by decide +kernel
theorem d_Mo_chooses_204 : decode prog_8_method_12_code 204 = .ok (.istore 4, 2) := by decide +kernel
theorem d_Mo_chooses_206 : decode prog_8_method_12_code 206 = .ok (.iload 4, 2) := by decide +kernel
theorem d_Mo_chooses_208 : decode prog_8_method_12_code 208 = .ok (.iconst 4, 1) := by decide +kernel
theorem d_Mo_chooses_209 : decode prog_8_method_12_code 209 = .ok (.iload_n 1, 1) := by decide +kernel
theorem d_Mo_chooses_210 : decode prog_8_method_12_code 210 = .ok (.imul, 1) := by decide +kernel
theorem d_Mo_chooses_211 : decode prog_8_method_12_code 211 = .ok (.iconst 4, 1) := by decide +kernel
theorem d_Mo_chooses_212 : decode prog_8_method_12_code 212 = .ok (.iadd, 1) := by decide +kernel
theorem d_Mo_chooses_213 : decode prog_8_method_12_code 213 = .ok (.if_icmp .ge 152, 3) := by decide +kernel
theorem d_Mo_chooses_216 : decode prog_8_method_12_code 216 = .ok (.iload 4, 2) := by decide +kernel
theorem d_Mo_chooses_218 : decode prog_8_method_12_code 218 = .ok (.iload_n 2, 1) := by decide +kernel
theorem d_Mo_chooses_219 : decode prog_8_method_12_code 219 = .ok (.if_icmp .eq 7, 3) := by decide +kernel
theorem d_Mo_chooses_222 : decode prog_8_method_12_code 222 = .ok (.iload_n 3, 1) := by decide +kernel
theorem d_Mo_chooses_223 : decode prog_8_method_12_code 223 = .ok (.ifCond .ne 7, 3) := by decide +kernel
theorem d_Mo_chooses_226 : decode prog_8_method_12_code 226 = .ok (.iconst 1, 1) := by decide +kernel
theorem d_Mo_chooses_227 : decode prog_8_method_12_code 227 = .ok (.goto 4, 3) := by decide +kernel
theorem d_Mo_chooses_230 : decode prog_8_method_12_code 230 = .ok (.iconst 0, 1) := by decide +kernel
theorem d_Mo_chooses_231 : decode prog_8_method_12_code 231 = .ok (.istore 5, 2) := by decide +kernel
theorem d_Mo_chooses_233 : decode prog_8_method_12_code 233 = .ok (.aload_n 0, 1) := by decide +kernel
theorem d_Mo_chooses_234 : decode prog_8_method_12_code 234 = .ok (.getfield 77, 3) := by decide +kernel
theorem d_Mo_chooses_237 : decode prog_8_method_12_code 237 = .ok (.iload 4, 2) := by decide +kernel
theorem d_Mo_chooses_239 : decode prog_8_method_12_code 239 = .ok (.aload_n 0, 1) := by decide +kernel
theorem d_Mo_chooses_240 : decode prog_8_method_12_code 240 = .ok (.getfield 46, 3) := by decide +kernel
theorem d_Mo_chooses_243 : decode prog_8_method_12_code 243 = .ok (.iload 4, 2) := by decide +kernel
theorem d_Mo_chooses_245 : decode prog_8_method_12_code 245 = .ok (.iaload, 1) := by decide +kernel
theorem d_Mo_chooses_246 : decode prog_8_method_12_code 246 = .ok (.ifCond .ge 7, 3) := by decide +kernel
theorem d_Mo_chooses_249 : decode prog_8_method_12_code 249 = .ok (.iconst (-1), 1) := by decide +kernel
theorem d_Mo_chooses_250 : decode prog_8_method_12_code 250 = .ok (.goto 35, 3) := by decide +kernel
theorem d_Mo_chooses_253 : decode prog_8_method_12_code 253 = .ok (.iload 4, 2) := by decide +kernel
theorem d_Mo_chooses_255 : decode prog_8_method_12_code 255 = .ok (.iload_n 2, 1) := by decide +kernel
theorem d_Mo_chooses_256 : decode prog_8_method_12_code 256 = .ok (.if_icmp .ne 8, 3) := by decide +kernel
theorem d_Mo_chooses_259 : decode prog_8_method_12_code 259 = .ok (.bipush 7, 2) := by decide +kernel
theorem d_Mo_chooses_261 : decode prog_8_method_12_code 261 = .ok (.goto 24, 3) := by decide +kernel
theorem d_Mo_chooses_264 : decode prog_8_method_12_code 264 = .ok (.iload_n 3, 1) := by decide +kernel
theorem d_Mo_chooses_265 : decode prog_8_method_12_code 265 = .ok (.ifCond .eq 11, 3) := by decide +kernel
theorem d_Mo_chooses_268 : decode prog_8_method_12_code 268 = .ok (.aload_n 0, 1) := by decide +kernel
theorem d_Mo_chooses_269 : decode prog_8_method_12_code 269 = .ok (.iload_n 2, 1) := by decide +kernel
theorem d_Mo_chooses_270 : decode prog_8_method_12_code 270 = .ok (.invokevirtual 100, 3) := by decide +kernel
theorem d_Mo_chooses_273 : decode prog_8_method_12_code 273 = .ok (.goto 12, 3) := by decide +kernel
theorem d_Mo_chooses_276 : decode prog_8_method_12_code 276 = .ok (.bipush 8, 2) := by decide +kernel
theorem d_Mo_chooses_278 : decode prog_8_method_12_code 278 = .ok (.aload_n 0, 1) := by decide +kernel
theorem d_Mo_chooses_279 : decode prog_8_method_12_code 279 = .ok (.getfield 21, 3) := by decide +kernel
theorem d_Mo_chooses_282 : decode prog_8_method_12_code 282 = .ok (.iload_n 1, 1) := by decide +kernel
theorem d_Mo_chooses_283 : decode prog_8_method_12_code 283 = .ok (.iaload, 1) := by decide +kernel
theorem d_Mo_chooses_284 : decode prog_8_method_12_code 284 = .ok (.iadd, 1) := by decide +kernel
theorem d_Mo_chooses_285 : decode prog_8_method_12_code 285 = .ok (.iastore, 1) := by decide +kernel
theorem d_Mo_chooses_286 : decode prog_8_method_12_code 286 = .ok (.aload_n 0, 1) := by decide +kernel
theorem d_Mo_chooses_287 : decode prog_8_method_12_code 287 = .ok (.getfield 77, 3) := by decide +kernel
theorem d_Mo_chooses_290 : decode prog_8_method_12_code 290 = .ok (.bipush 64, 2) := by decide +kernel
theorem d_Mo_chooses_292 : decode prog_8_method_12_code 292 = .ok (.iload 4, 2) := by decide +kernel
theorem d_Mo_chooses_294 : decode prog_8_method_12_code 294 = .ok (.iadd, 1) := by decide +kernel
theorem d_Mo_chooses_295 : decode prog_8_method_12_code 295 = .ok (.iload 5, 2) := by decide +kernel
theorem d_Mo_chooses_297 : decode prog_8_method_12_code 297 = .ok (.ifCond .eq 7, 3) := by decide +kernel
theorem d_Mo_chooses_300 : decode prog_8_method_12_code 300 = .ok (.iconst 0, 1) := by decide +kernel
theorem d_Mo_chooses_301 : decode prog_8_method_12_code 301 = .ok (.goto 10, 3) := by decide +kernel
theorem d_Mo_chooses_304 : decode prog_8_method_12_code 304 = .ok (.aload_n 0, 1) := by decide +kernel
theorem d_Mo_chooses_305 : decode prog_8_method_12_code 305 = .ok (.iload_n 2, 1) := by decide +kernel
theorem d_Mo_chooses_306 : decode prog_8_method_12_code 306 = .ok (.invokevirtual 103, 3) := by decide +kernel
theorem d_Mo_chooses_309 : decode prog_8_method_12_code 309 = .ok (.iconst 1, 1) := by decide +kernel
theorem d_Mo_chooses_310 : decode prog_8_method_12_code 310 = .ok (.iadd, 1) := by decide +kernel
theorem d_Mo_chooses_311 : decode prog_8_method_12_code 311 = .ok (.iastore, 1) := by decide +kernel
theorem d_Mo_chooses_312 : decode prog_8_method_12_code 312 = .ok (.aload_n 0, 1) := by decide +kernel
theorem d_Mo_chooses_313 : decode prog_8_method_12_code 313 = .ok (.getfield 77, 3) := by decide +kernel
theorem d_Mo_chooses_316 : decode prog_8_method_12_code 316 = .ok (.sipush 128, 3) := by decide +kernel
theorem d_Mo_chooses_319 : decode prog_8_method_12_code 319 = .ok (.iload 4, 2) := by decide +kernel
theorem d_Mo_chooses_321 : decode prog_8_method_12_code 321 = .ok (.iadd, 1) := by decide +kernel
theorem d_Mo_chooses_322 : decode prog_8_method_12_code 322 = .ok (.iload 5, 2) := by decide +kernel
theorem d_Mo_chooses_324 : decode prog_8_method_12_code 324 = .ok (.ifCond .eq 7, 3) := by decide +kernel
theorem d_Mo_chooses_327 : decode prog_8_method_12_code 327 = .ok (.iconst 0, 1) := by decide +kernel
theorem d_Mo_chooses_328 : decode prog_8_method_12_code 328 = .ok (.goto 30, 3) := by decide +kernel
theorem d_Mo_chooses_331 : decode prog_8_method_12_code 331 = .ok (.aload_n 0, 1) := by decide +kernel
theorem d_Mo_chooses_332 : decode prog_8_method_12_code 332 = .ok (.getfield 40, 3) := by decide +kernel
theorem d_Mo_chooses_335 : decode prog_8_method_12_code 335 = .ok (.iload_n 2, 1) := by decide +kernel
theorem d_Mo_chooses_336 : decode prog_8_method_12_code 336 = .ok (.iaload, 1) := by decide +kernel
theorem d_Mo_chooses_337 : decode prog_8_method_12_code 337 = .ok (.ifCond .lt 7, 3) := by decide +kernel
theorem d_Mo_chooses_340 : decode prog_8_method_12_code 340 = .ok (.iconst 0, 1) := by decide +kernel
theorem d_Mo_chooses_341 : decode prog_8_method_12_code 341 = .ok (.goto 13, 3) := by decide +kernel
theorem d_Mo_chooses_344 : decode prog_8_method_12_code 344 = .ok (.aload_n 0, 1) := by decide +kernel
theorem d_Mo_chooses_345 : decode prog_8_method_12_code 345 = .ok (.getfield 64, 3) := by decide +kernel
theorem d_Mo_chooses_348 : decode prog_8_method_12_code 348 = .ok (.sipush 128, 3) := by decide +kernel
theorem d_Mo_chooses_351 : decode prog_8_method_12_code 351 = .ok (.iload_n 2, 1) := by decide +kernel
theorem d_Mo_chooses_352 : decode prog_8_method_12_code 352 = .ok (.iadd, 1) := by decide +kernel
theorem d_Mo_chooses_353 : decode prog_8_method_12_code 353 = .ok (.iaload, 1) := by decide +kernel
theorem d_Mo_chooses_354 : decode prog_8_method_12_code 354 = .ok (.iconst 1, 1) := by decide +kernel
theorem d_Mo_chooses_355 : decode prog_8_method_12_code 355 = .ok (.iload_n 1, 1) := by decide +kernel
theorem d_Mo_chooses_356 : decode prog_8_method_12_code 356 = .ok (.ishl, 1) := by decide +kernel
theorem d_Mo_chooses_357 : decode prog_8_method_12_code 357 = .ok (.ior, 1) := by decide +kernel
theorem d_Mo_chooses_358 : decode prog_8_method_12_code 358 = .ok (.iastore, 1) := by decide +kernel
theorem d_Mo_chooses_359 : decode prog_8_method_12_code 359 = .ok (.iinc 4 1, 3) := by decide +kernel
theorem d_Mo_chooses_362 : decode prog_8_method_12_code 362 = .ok (.goto (-156), 3) := by decide +kernel
theorem d_Mo_chooses_365 : decode prog_8_method_12_code 365 = .ok (.iload_n 3, 1) := by decide +kernel
theorem d_Mo_chooses_366 : decode prog_8_method_12_code 366 = .ok (.ifCond .eq 50, 3) := by decide +kernel
theorem d_Mo_chooses_369 : decode prog_8_method_12_code 369 = .ok (.aload_n 0, 1) := by decide +kernel
theorem d_Mo_chooses_370 : decode prog_8_method_12_code 370 = .ok (.getfield 64, 3) := by decide +kernel
theorem d_Mo_chooses_373 : decode prog_8_method_12_code 373 = .ok (.sipush 560, 3) := by decide +kernel
theorem d_Mo_chooses_376 : decode prog_8_method_12_code 376 = .ok (.iload_n 1, 1) := by decide +kernel
theorem d_Mo_chooses_377 : decode prog_8_method_12_code 377 = .ok (.iadd, 1) := by decide +kernel
theorem d_Mo_chooses_378 : decode prog_8_method_12_code 378 = .ok (.aload_n 0, 1) := by decide +kernel
theorem d_Mo_chooses_379 : decode prog_8_method_12_code 379 = .ok (.getfield 40, 3) := by decide +kernel
theorem d_Mo_chooses_382 : decode prog_8_method_12_code 382 = .ok (.iload_n 2, 1) := by decide +kernel
theorem d_Mo_chooses_383 : decode prog_8_method_12_code 383 = .ok (.iaload, 1) := by decide +kernel
theorem d_Mo_chooses_384 : decode prog_8_method_12_code 384 = .ok (.ifCond .lt 12, 3) := by decide +kernel
theorem d_Mo_chooses_387 : decode prog_8_method_12_code 387 = .ok (.aload_n 0, 1) := by decide +kernel
theorem d_Mo_chooses_388 : decode prog_8_method_12_code 388 = .ok (.getfield 43, 3) := by decide +kernel
theorem d_Mo_chooses_391 : decode prog_8_method_12_code 391 = .ok (.iload_n 2, 1) := by decide +kernel
theorem d_Mo_chooses_392 : decode prog_8_method_12_code 392 = .ok (.iaload, 1) := by decide +kernel
theorem d_Mo_chooses_393 : decode prog_8_method_12_code 393 = .ok (.goto 19, 3) := by decide +kernel
theorem d_Mo_chooses_396 : decode prog_8_method_12_code 396 = .ok (.aload_n 0, 1) := by decide +kernel
theorem d_Mo_chooses_397 : decode prog_8_method_12_code 397 = .ok (.getfield 64, 3) := by decide +kernel
theorem d_Mo_chooses_400 : decode prog_8_method_12_code 400 = .ok (.sipush 592, 3) := by decide +kernel
theorem d_Mo_chooses_403 : decode prog_8_method_12_code 403 = .ok (.aload_n 0, 1) := by decide +kernel
theorem d_Mo_chooses_404 : decode prog_8_method_12_code 404 = .ok (.iload_n 2, 1) := by decide +kernel
theorem d_Mo_chooses_405 : decode prog_8_method_12_code 405 = .ok (.invokevirtual 89, 3) := by decide +kernel
theorem d_Mo_chooses_408 : decode prog_8_method_12_code 408 = .ok (.iconst 4, 1) := by decide +kernel
theorem d_Mo_chooses_409 : decode prog_8_method_12_code 409 = .ok (.idiv, 1) := by decide +kernel
theorem d_Mo_chooses_410 : decode prog_8_method_12_code 410 = .ok (.iadd, 1) := by decide +kernel
theorem d_Mo_chooses_411 : decode prog_8_method_12_code 411 = .ok (.iaload, 1) := by decide +kernel
theorem d_Mo_chooses_412 : decode prog_8_method_12_code 412 = .ok (.iastore, 1) := by decide +kernel
theorem d_Mo_chooses_413 : decode prog_8_method_12_code 413 = .ok (.goto 63, 3) := by decide +kernel
theorem d_Mo_chooses_416 : decode prog_8_method_12_code 416 = .ok (.aload_n 0, 1) := by decide +kernel
theorem d_Mo_chooses_417 : decode prog_8_method_12_code 417 = .ok (.getfield 64, 3) := by decide +kernel
theorem d_Mo_chooses_420 : decode prog_8_method_12_code 420 = .ok (.sipush 512, 3) := by decide +kernel
theorem d_Mo_chooses_423 : decode prog_8_method_12_code 423 = .ok (.iload_n 1, 1) := by decide +kernel
theorem d_Mo_chooses_424 : decode prog_8_method_12_code 424 = .ok (.iadd, 1) := by decide +kernel
theorem d_Mo_chooses_425 : decode prog_8_method_12_code 425 = .ok (.iaload, 1) := by decide +kernel
theorem d_Mo_chooses_426 : decode prog_8_method_12_code 426 = .ok (.iconst 2, 1) := by decide +kernel
theorem d_Mo_chooses_427 : decode prog_8_method_12_code 427 = .ok (.if_icmp .ne 33, 3) := by decide +kernel
theorem d_Mo_chooses_430 : decode prog_8_method_12_code 430 = .ok (.aload_n 0, 1) := by decide +kernel
theorem d_Mo_chooses_431 : decode prog_8_method_12_code 431 = .ok (.getfield 64, 3) := by decide +kernel
theorem d_Mo_chooses_434 : decode prog_8_method_12_code 434 = .ok (.sipush 560, 3) := by decide +kernel
theorem d_Mo_chooses_437 : decode prog_8_method_12_code 437 = .ok (.iload_n 1, 1) := by decide +kernel
theorem d_Mo_chooses_438 : decode prog_8_method_12_code 438 = .ok (.iadd, 1) := by decide +kernel
theorem d_Mo_chooses_439 : decode prog_8_method_12_code 439 = .ok (.aload_n 0, 1) := by decide +kernel
theorem d_Mo_chooses_440 : decode prog_8_method_12_code 440 = .ok (.getfield 64, 3) := by decide +kernel
theorem d_Mo_chooses_443 : decode prog_8_method_12_code 443 = .ok (.sipush 560, 3) := by decide +kernel
theorem d_Mo_chooses_446 : decode prog_8_method_12_code 446 = .ok (.iload_n 1, 1) := by decide +kernel
theorem d_Mo_chooses_447 : decode prog_8_method_12_code 447 = .ok (.iadd, 1) := by decide +kernel
theorem d_Mo_chooses_448 : decode prog_8_method_12_code 448 = .ok (.iaload, 1) := by decide +kernel
theorem d_Mo_chooses_449 : decode prog_8_method_12_code 449 = .ok (.aload_n 0, 1) := by decide +kernel
theorem d_Mo_chooses_450 : decode prog_8_method_12_code 450 = .ok (.getfield 28, 3) := by decide +kernel
theorem d_Mo_chooses_453 : decode prog_8_method_12_code 453 = .ok (.iload_n 1, 1) := by decide +kernel
theorem d_Mo_chooses_454 : decode prog_8_method_12_code 454 = .ok (.iaload, 1) := by decide +kernel
theorem d_Mo_chooses_455 : decode prog_8_method_12_code 455 = .ok (.iadd, 1) := by decide +kernel
theorem d_Mo_chooses_456 : decode prog_8_method_12_code 456 = .ok (.iastore, 1) := by decide +kernel
theorem d_Mo_chooses_457 : decode prog_8_method_12_code 457 = .ok (.goto 19, 3) := by decide +kernel
theorem d_Mo_chooses_460 : decode prog_8_method_12_code 460 = .ok (.aload_n 0, 1) := by decide +kernel
theorem d_Mo_chooses_461 : decode prog_8_method_12_code 461 = .ok (.getfield 64, 3) := by decide +kernel
theorem d_Mo_chooses_464 : decode prog_8_method_12_code 464 = .ok (.sipush 560, 3) := by decide +kernel
theorem d_Mo_chooses_467 : decode prog_8_method_12_code 467 = .ok (.iload_n 1, 1) := by decide +kernel
theorem d_Mo_chooses_468 : decode prog_8_method_12_code 468 = .ok (.iadd, 1) := by decide +kernel
theorem d_Mo_chooses_469 : decode prog_8_method_12_code 469 = .ok (.aload_n 0, 1) := by decide +kernel
theorem d_Mo_chooses_470 : decode prog_8_method_12_code 470 = .ok (.getfield 25, 3) := by decide +kernel
theorem d_Mo_chooses_473 : decode prog_8_method_12_code 473 = .ok (.iload_n 1, 1) := by decide +kernel
theorem d_Mo_chooses_474 : decode prog_8_method_12_code 474 = .ok (.iaload, 1) := by decide +kernel
theorem d_Mo_chooses_475 : decode prog_8_method_12_code 475 = .ok (.iastore, 1) := by decide +kernel
theorem d_Mo_chooses_476 : decode prog_8_method_12_code 476 = .ok (.return_, 1) := by decide +kernel
theorem d_Mo_usable_0 : decode prog_8_method_6_code 0 = .ok (.aload_n 0, 1) := by decide +kernel
theorem d_Mo_usable_1 : decode prog_8_method_6_code 1 = .ok (.getfield 52, 3) := by decide +kernel
theorem d_Mo_usable_4 : decode prog_8_method_6_code 4 = .ok (.iload_n 1, 1) := by decide +kernel
theorem d_Mo_usable_5 : decode prog_8_method_6_code 5 = .ok (.baload, 1) := by decide +kernel
theorem d_Mo_usable_6 : decode prog_8_method_6_code 6 = .ok (.ifCond .eq 5, 3) := by decide +kernel
theorem d_Mo_usable_9 : decode prog_8_method_6_code 9 = .ok (.iconst 0, 1) := by decide +kernel
theorem d_Mo_usable_10 : decode prog_8_method_6_code 10 = .ok (.ireturn, 1) := by decide +kernel
theorem d_Mo_usable_11 : decode prog_8_method_6_code 11 = .ok (.aload_n 0, 1) := by decide +kernel
theorem d_Mo_usable_12 : decode prog_8_method_6_code 12 = .ok (.getfield 40, 3) := by decide +kernel
theorem d_Mo_usable_15 : decode prog_8_method_6_code 15 = .ok (.iload_n 1, 1) := by decide +kernel
theorem d_Mo_usable_16 : decode prog_8_method_6_code 16 = .ok (.iaload, 1) := by decide +kernel
theorem d_Mo_usable_17 : decode prog_8_method_6_code 17 = .ok (.ifCond .lt 5, 3) := by decide +kernel
theorem d_Mo_usable_20 : decode prog_8_method_6_code 20 = .ok (.iconst 1, 1) := by decide +kernel
theorem d_Mo_usable_21 : decode prog_8_method_6_code 21 = .ok (.ireturn, 1) := by decide +kernel
theorem d_Mo_usable_22 : decode prog_8_method_6_code 22 = .ok (.aload_n 0, 1) := by decide +kernel
theorem d_Mo_usable_23 : decode prog_8_method_6_code 23 = .ok (.getfield 13, 3) := by decide +kernel
theorem d_Mo_usable_26 : decode prog_8_method_6_code 26 = .ok (.ifCond .eq 27, 3) := by decide +kernel
theorem d_Mo_usable_29 : decode prog_8_method_6_code 29 = .ok (.aload_n 0, 1) := by decide +kernel
theorem d_Mo_usable_30 : decode prog_8_method_6_code 30 = .ok (.getfield 64, 3) := by decide +kernel
theorem d_Mo_usable_33 : decode prog_8_method_6_code 33 = .ok (.sipush 128, 3) := by decide +kernel
theorem d_Mo_usable_36 : decode prog_8_method_6_code 36 = .ok (.iload_n 1, 1) := by decide +kernel
theorem d_Mo_usable_37 : decode prog_8_method_6_code 37 = .ok (.iadd, 1) := by decide +kernel
theorem d_Mo_usable_38 : decode prog_8_method_6_code 38 = .ok (.iaload, 1) := by decide +kernel
theorem d_Mo_usable_39 : decode prog_8_method_6_code 39 = .ok (.iload_n 1, 1) := by decide +kernel
theorem d_Mo_usable_40 : decode prog_8_method_6_code 40 = .ok (.iconst 4, 1) := by decide +kernel
theorem d_Mo_usable_41 : decode prog_8_method_6_code 41 = .ok (.idiv, 1) := by decide +kernel
theorem d_Mo_usable_42 : decode prog_8_method_6_code 42 = .ok (.ishr, 1) := by decide +kernel
theorem d_Mo_usable_43 : decode prog_8_method_6_code 43 = .ok (.iconst 1, 1) := by decide +kernel
theorem d_Mo_usable_44 : decode prog_8_method_6_code 44 = .ok (.iand, 1) := by decide +kernel
theorem d_Mo_usable_45 : decode prog_8_method_6_code 45 = .ok (.iconst 1, 1) := by decide +kernel
theorem d_Mo_usable_46 : decode prog_8_method_6_code 46 = .ok (.if_icmp .ne 7, 3) := by decide +kernel
theorem d_Mo_usable_49 : decode prog_8_method_6_code 49 = .ok (.iconst 1, 1) := by decide +kernel
theorem d_Mo_usable_50 : decode prog_8_method_6_code 50 = .ok (.goto 4, 3) := by decide +kernel
theorem d_Mo_usable_53 : decode prog_8_method_6_code 53 = .ok (.iconst 0, 1) := by decide +kernel
theorem d_Mo_usable_54 : decode prog_8_method_6_code 54 = .ok (.istore_n 2, 1) := by decide +kernel
theorem d_Mo_usable_55 : decode prog_8_method_6_code 55 = .ok (.aload_n 0, 1) := by decide +kernel
theorem d_Mo_usable_56 : decode prog_8_method_6_code 56 = .ok (.iload_n 1, 1) := by decide +kernel
theorem d_Mo_usable_57 : decode prog_8_method_6_code 57 = .ok (.invokevirtual 97, 3) := by decide +kernel
theorem d_Mo_usable_60 : decode prog_8_method_6_code 60 = .ok (.ifCond .eq 24, 3) := by decide +kernel
theorem d_Mo_usable_63 : decode prog_8_method_6_code 63 = .ok (.aload_n 0, 1) := by decide +kernel
theorem d_Mo_usable_64 : decode prog_8_method_6_code 64 = .ok (.getfield 64, 3) := by decide +kernel
theorem d_Mo_usable_67 : decode prog_8_method_6_code 67 = .ok (.iconst 0, 1) := by decide +kernel
theorem d_Mo_usable_68 : decode prog_8_method_6_code 68 = .ok (.iload_n 1, 1) := by decide +kernel
theorem d_Mo_usable_69 : decode prog_8_method_6_code 69 = .ok (.iadd, 1) := by decide +kernel
theorem d_Mo_usable_70 : decode prog_8_method_6_code 70 = .ok (.iaload, 1) := by decide +kernel
theorem d_Mo_usable_71 : decode prog_8_method_6_code 71 = .ok (.bipush 7, 2) := by decide +kernel
theorem d_Mo_usable_73 : decode prog_8_method_6_code 73 = .ok (.if_icmp .ge 11, 3) := by decide +kernel
theorem d_Mo_usable_76 : decode prog_8_method_6_code 76 = .ok (.iload_n 2, 1) := by decide +kernel
theorem d_Mo_usable_77 : decode prog_8_method_6_code 77 = .ok (.ifCond .ne 7, 3) := by decide +kernel
theorem d_Mo_usable_80 : decode prog_8_method_6_code 80 = .ok (.iconst 1, 1) := by decide +kernel
theorem d_Mo_usable_81 : decode prog_8_method_6_code 81 = .ok (.goto 4, 3) := by decide +kernel
theorem d_Mo_usable_84 : decode prog_8_method_6_code 84 = .ok (.iconst 0, 1) := by decide +kernel
theorem d_Mo_usable_85 : decode prog_8_method_6_code 85 = .ok (.ireturn, 1) := by decide +kernel
theorem d_Mo_hasWord_0 : decode prog_8_method_5_code 0 = .ok (.aload_n 0, 1) := by decide +kernel
theorem d_Mo_hasWord_1 : decode prog_8_method_5_code 1 = .ok (.getfield 46, 3) := by decide +kernel
theorem d_Mo_hasWord_4 : decode prog_8_method_5_code 4 = .ok (.iload_n 1, 1) := by decide +kernel
theorem d_Mo_hasWord_5 : decode prog_8_method_5_code 5 = .ok (.iaload, 1) := by decide +kernel
theorem d_Mo_hasWord_6 : decode prog_8_method_5_code 6 = .ok (.ifCond .lt 41, 3) := by decide +kernel
theorem d_Mo_hasWord_9 : decode prog_8_method_5_code 9 = .ok (.aload_n 0, 1) := by decide +kernel
theorem d_Mo_hasWord_10 : decode prog_8_method_5_code 10 = .ok (.getfield 64, 3) := by decide +kernel
theorem d_Mo_hasWord_13 : decode prog_8_method_5_code 13 = .ok (.iconst 0, 1) := by decide +kernel
theorem d_Mo_hasWord_14 : decode prog_8_method_5_code 14 = .ok (.iload_n 1, 1) := by decide +kernel
theorem d_Mo_hasWord_15 : decode prog_8_method_5_code 15 = .ok (.iadd, 1) := by decide +kernel
theorem d_Mo_hasWord_16 : decode prog_8_method_5_code 16 = .ok (.iaload, 1) := by decide +kernel
theorem d_Mo_hasWord_17 : decode prog_8_method_5_code 17 = .ok (.ifCond .lt 30, 3) := by decide +kernel
theorem d_Mo_hasWord_20 : decode prog_8_method_5_code 20 = .ok (.aload_n 0, 1) := by decide +kernel
theorem d_Mo_hasWord_21 : decode prog_8_method_5_code 21 = .ok (.getfield 64, 3) := by decide +kernel
theorem d_Mo_hasWord_24 : decode prog_8_method_5_code 24 = .ok (.sipush 760, 3) := by decide +kernel
theorem d_Mo_hasWord_27 : decode prog_8_method_5_code 27 = .ok (.iaload, 1) := by decide +kernel
theorem d_Mo_hasWord_28 : decode prog_8_method_5_code 28 = .ok (.aload_n 0, 1) := by decide +kernel
theorem d_Mo_hasWord_29 : decode prog_8_method_5_code 29 = .ok (.getfield 64, 3) := by decide +kernel
theorem d_Mo_hasWord_32 : decode prog_8_method_5_code 32 = .ok (.sipush 192, 3) := by decide +kernel
theorem d_Mo_hasWord_35 : decode prog_8_method_5_code 35 = .ok (.iload_n 1, 1) := by decide +kernel
theorem d_Mo_hasWord_36 : decode prog_8_method_5_code 36 = .ok (.iadd, 1) := by decide +kernel
theorem d_Mo_hasWord_37 : decode prog_8_method_5_code 37 = .ok (.iaload, 1) := by decide +kernel
theorem d_Mo_hasWord_38 : decode prog_8_method_5_code 38 = .ok (.isub, 1) := by decide +kernel
theorem d_Mo_hasWord_39 : decode prog_8_method_5_code 39 = .ok (.iconst 3, 1) := by decide +kernel
theorem d_Mo_hasWord_40 : decode prog_8_method_5_code 40 = .ok (.if_icmp .ge 7, 3) := by decide +kernel
theorem d_Mo_hasWord_43 : decode prog_8_method_5_code 43 = .ok (.iconst 1, 1) := by decide +kernel
theorem d_Mo_hasWord_44 : decode prog_8_method_5_code 44 = .ok (.goto 4, 3) := by decide +kernel
theorem d_Mo_hasWord_47 : decode prog_8_method_5_code 47 = .ok (.iconst 0, 1) := by decide +kernel
theorem d_Mo_hasWord_48 : decode prog_8_method_5_code 48 = .ok (.ireturn, 1) := by decide +kernel
theorem d_Mo_choice_0 : decode prog_8_method_11_code 0 = .ok (.aload_n 0, 1) := by decide +kernel
theorem d_Mo_choice_1 : decode prog_8_method_11_code 1 = .ok (.getfield 34, 3) := by decide +kernel
theorem d_Mo_choice_4 : decode prog_8_method_11_code 4 = .ok (.iload_n 1, 1) := by decide +kernel
theorem d_Mo_choice_5 : decode prog_8_method_11_code 5 = .ok (.iaload, 1) := by decide +kernel
theorem d_Mo_choice_6 : decode prog_8_method_11_code 6 = .ok (.ifCond .lt 14, 3) := by decide +kernel
theorem d_Mo_choice_9 : decode prog_8_method_11_code 9 = .ok (.iconst 4, 1) := by decide +kernel
theorem d_Mo_choice_10 : decode prog_8_method_11_code 10 = .ok (.iload_n 1, 1) := by decide +kernel
theorem d_Mo_choice_11 : decode prog_8_method_11_code 11 = .ok (.imul, 1) := by decide +kernel
theorem d_Mo_choice_12 : decode prog_8_method_11_code 12 = .ok (.aload_n 0, 1) := by decide +kernel
theorem d_Mo_choice_13 : decode prog_8_method_11_code 13 = .ok (.getfield 34, 3) := by decide +kernel
theorem d_Mo_choice_16 : decode prog_8_method_11_code 16 = .ok (.iload_n 1, 1) := by decide +kernel
theorem d_Mo_choice_17 : decode prog_8_method_11_code 17 = .ok (.iaload, 1) := by decide +kernel
theorem d_Mo_choice_18 : decode prog_8_method_11_code 18 = .ok (.iadd, 1) := by decide +kernel
theorem d_Mo_choice_19 : decode prog_8_method_11_code 19 = .ok (.ireturn, 1) := by decide +kernel
theorem d_Mo_choice_20 : decode prog_8_method_11_code 20 = .ok (.aload_n 0, 1) := by decide +kernel
theorem d_Mo_choice_21 : decode prog_8_method_11_code 21 = .ok (.getfield 37, 3) := by decide +kernel
theorem d_Mo_choice_24 : decode prog_8_method_11_code 24 = .ok (.iload_n 1, 1) := by decide +kernel
theorem d_Mo_choice_25 : decode prog_8_method_11_code 25 = .ok (.iaload, 1) := by decide +kernel
theorem d_Mo_choice_26 : decode prog_8_method_11_code 26 = .ok (.ifCond .lt 36, 3) := by decide +kernel
theorem d_Mo_choice_29 : decode prog_8_method_11_code 29 = .ok (.aload_n 0, 1) := by decide +kernel
theorem d_Mo_choice_30 : decode prog_8_method_11_code 30 = .ok (.getfield 64, 3) := by decide +kernel
theorem d_Mo_choice_33 : decode prog_8_method_11_code 33 = .ok (.sipush 448, 3) := by decide +kernel
theorem d_Mo_choice_36 : decode prog_8_method_11_code 36 = .ok (.iconst 4, 1) := by decide +kernel
theorem d_Mo_choice_37 : decode prog_8_method_11_code 37 = .ok (.iload_n 1, 1) := by decide +kernel
theorem d_Mo_choice_38 : decode prog_8_method_11_code 38 = .ok (.imul, 1) := by decide +kernel
theorem d_Mo_choice_39 : decode prog_8_method_11_code 39 = .ok (.iadd, 1) := by decide +kernel
theorem d_Mo_choice_40 : decode prog_8_method_11_code 40 = .ok (.aload_n 0, 1) := by decide +kernel
theorem d_Mo_choice_41 : decode prog_8_method_11_code 41 = .ok (.getfield 37, 3) := by decide +kernel
theorem d_Mo_choice_44 : decode prog_8_method_11_code 44 = .ok (.iload_n 1, 1) := by decide +kernel
theorem d_Mo_choice_45 : decode prog_8_method_11_code 45 = .ok (.iaload, 1) := by decide +kernel
theorem d_Mo_choice_46 : decode prog_8_method_11_code 46 = .ok (.iadd, 1) := by decide +kernel
theorem d_Mo_choice_47 : decode prog_8_method_11_code 47 = .ok (.iaload, 1) := by decide +kernel
theorem d_Mo_choice_48 : decode prog_8_method_11_code 48 = .ok (.ifCond .le 14, 3) := by decide +kernel
theorem d_Mo_choice_51 : decode prog_8_method_11_code 51 = .ok (.iconst 4, 1) := by decide +kernel
theorem d_Mo_choice_52 : decode prog_8_method_11_code 52 = .ok (.iload_n 1, 1) := by decide +kernel
theorem d_Mo_choice_53 : decode prog_8_method_11_code 53 = .ok (.imul, 1) := by decide +kernel
theorem d_Mo_choice_54 : decode prog_8_method_11_code 54 = .ok (.aload_n 0, 1) := by decide +kernel
theorem d_Mo_choice_55 : decode prog_8_method_11_code 55 = .ok (.getfield 37, 3) := by decide +kernel
theorem d_Mo_choice_58 : decode prog_8_method_11_code 58 = .ok (.iload_n 1, 1) := by decide +kernel
theorem d_Mo_choice_59 : decode prog_8_method_11_code 59 = .ok (.iaload, 1) := by decide +kernel
theorem d_Mo_choice_60 : decode prog_8_method_11_code 60 = .ok (.iadd, 1) := by decide +kernel
theorem d_Mo_choice_61 : decode prog_8_method_11_code 61 = .ok (.ireturn, 1) := by decide +kernel
theorem d_Mo_choice_62 : decode prog_8_method_11_code 62 = .ok (.aload_n 0, 1) := by decide +kernel
theorem d_Mo_choice_63 : decode prog_8_method_11_code 63 = .ok (.iload_n 1, 1) := by decide +kernel
theorem d_Mo_choice_64 : decode prog_8_method_11_code 64 = .ok (.aload_n 0, 1) := by decide +kernel
theorem d_Mo_choice_65 : decode prog_8_method_11_code 65 = .ok (.getfield 31, 3) := by decide +kernel
theorem d_Mo_choice_68 : decode prog_8_method_11_code 68 = .ok (.iload_n 1, 1) := by decide +kernel
theorem d_Mo_choice_69 : decode prog_8_method_11_code 69 = .ok (.iaload, 1) := by decide +kernel
theorem d_Mo_choice_70 : decode prog_8_method_11_code 70 = .ok (.invokevirtual 110, 3) := by decide +kernel
theorem d_Mo_choice_73 : decode prog_8_method_11_code 73 = .ok (.istore_n 2, 1) := by decide +kernel
theorem d_Mo_choice_74 : decode prog_8_method_11_code 74 = .ok (.iload_n 2, 1) := by decide +kernel
theorem d_Mo_choice_75 : decode prog_8_method_11_code 75 = .ok (.ifCond .lt 7, 3) := by decide +kernel
theorem d_Mo_choice_78 : decode prog_8_method_11_code 78 = .ok (.iload_n 2, 1) := by decide +kernel
theorem d_Mo_choice_79 : decode prog_8_method_11_code 79 = .ok (.goto 9, 3) := by decide +kernel
theorem d_Mo_choice_82 : decode prog_8_method_11_code 82 = .ok (.aload_n 0, 1) := by decide +kernel
theorem d_Mo_choice_83 : decode prog_8_method_11_code 83 = .ok (.iload_n 1, 1) := by decide +kernel
theorem d_Mo_choice_84 : decode prog_8_method_11_code 84 = .ok (.iconst 0, 1) := by decide +kernel
theorem d_Mo_choice_85 : decode prog_8_method_11_code 85 = .ok (.invokevirtual 110, 3) := by decide +kernel
theorem d_Mo_choice_88 : decode prog_8_method_11_code 88 = .ok (.ireturn, 1) := by decide +kernel
theorem d_Mo_bestOf_0 : decode prog_8_method_10_code 0 = .ok (.iconst (-1), 1) := by decide +kernel
theorem d_Mo_bestOf_1 : decode prog_8_method_10_code 1 = .ok (.istore_n 3, 1) := by decide +kernel
theorem d_Mo_bestOf_2 : decode prog_8_method_10_code 2 = .ok (.iconst 4, 1) := by decide +kernel
theorem d_Mo_bestOf_3 : decode prog_8_method_10_code 3 = .ok (.iload_n 1, 1) := by decide +kernel
theorem d_Mo_bestOf_4 : decode prog_8_method_10_code 4 = .ok (.imul, 1) := by decide +kernel
theorem d_Mo_bestOf_5 : decode prog_8_method_10_code 5 = .ok (.istore 4, 2) := by decide +kernel
theorem d_Mo_bestOf_7 : decode prog_8_method_10_code 7 = .ok (.iload 4, 2) := by decide +kernel
theorem d_Mo_bestOf_9 : decode prog_8_method_10_code 9 = .ok (.iconst 4, 1) := by decide +kernel
theorem d_Mo_bestOf_10 : decode prog_8_method_10_code 10 = .ok (.iload_n 1, 1) := by decide +kernel
theorem d_Mo_bestOf_11 : decode prog_8_method_10_code 11 = .ok (.imul, 1) := by decide +kernel
theorem d_Mo_bestOf_12 : decode prog_8_method_10_code 12 = .ok (.iconst 4, 1) := by decide +kernel
theorem d_Mo_bestOf_13 : decode prog_8_method_10_code 13 = .ok (.iadd, 1) := by decide +kernel
theorem d_Mo_bestOf_14 : decode prog_8_method_10_code 14 = .ok (.if_icmp .ge 41, 3) := by decide +kernel
theorem d_Mo_bestOf_17 : decode prog_8_method_10_code 17 = .ok (.aload_n 0, 1) := by decide +kernel
theorem d_Mo_bestOf_18 : decode prog_8_method_10_code 18 = .ok (.getfield 64, 3) := by decide +kernel
theorem d_Mo_bestOf_21 : decode prog_8_method_10_code 21 = .ok (.sipush 448, 3) := by decide +kernel
theorem d_Mo_bestOf_24 : decode prog_8_method_10_code 24 = .ok (.iload 4, 2) := by decide +kernel
theorem d_Mo_bestOf_26 : decode prog_8_method_10_code 26 = .ok (.iadd, 1) := by decide +kernel
theorem d_Mo_bestOf_27 : decode prog_8_method_10_code 27 = .ok (.iaload, 1) := by decide +kernel
theorem d_Mo_bestOf_28 : decode prog_8_method_10_code 28 = .ok (.iload_n 2, 1) := by decide +kernel
theorem d_Mo_bestOf_29 : decode prog_8_method_10_code 29 = .ok (.if_icmp .le 20, 3) := by decide +kernel
theorem d_Mo_bestOf_32 : decode prog_8_method_10_code 32 = .ok (.iload_n 3, 1) := by decide +kernel
theorem d_Mo_bestOf_33 : decode prog_8_method_10_code 33 = .ok (.ifCond .lt 13, 3) := by decide +kernel
theorem d_Mo_bestOf_36 : decode prog_8_method_10_code 36 = .ok (.aload_n 0, 1) := by decide +kernel
theorem d_Mo_bestOf_37 : decode prog_8_method_10_code 37 = .ok (.iload 4, 2) := by decide +kernel
theorem d_Mo_bestOf_39 : decode prog_8_method_10_code 39 = .ok (.iload_n 3, 1) := by decide +kernel
theorem d_Mo_bestOf_40 : decode prog_8_method_10_code 40 = .ok (.invokevirtual 106, 3) := by decide +kernel
theorem d_Mo_bestOf_43 : decode prog_8_method_10_code 43 = .ok (.ifCond .eq 6, 3) := by decide +kernel
theorem d_Mo_bestOf_46 : decode prog_8_method_10_code 46 = .ok (.iload 4, 2) := by decide +kernel
theorem d_Mo_bestOf_48 : decode prog_8_method_10_code 48 = .ok (.istore_n 3, 1) := by decide +kernel
theorem d_Mo_bestOf_49 : decode prog_8_method_10_code 49 = .ok (.iinc 4 1, 3) := by decide +kernel
theorem d_Mo_bestOf_52 : decode prog_8_method_10_code 52 = .ok (.goto (-45), 3) := by decide +kernel
theorem d_Mo_bestOf_55 : decode prog_8_method_10_code 55 = .ok (.iload_n 3, 1) := by decide +kernel
theorem d_Mo_bestOf_56 : decode prog_8_method_10_code 56 = .ok (.ireturn, 1) := by decide +kernel
theorem d_Mo_better_0 : decode prog_8_method_9_code 0 = .ok (.aload_n 0, 1) := by decide +kernel
theorem d_Mo_better_1 : decode prog_8_method_9_code 1 = .ok (.iload_n 1, 1) := by decide +kernel
theorem d_Mo_better_2 : decode prog_8_method_9_code 2 = .ok (.invokevirtual 100, 3) := by decide +kernel
theorem d_Mo_better_5 : decode prog_8_method_9_code 5 = .ok (.aload_n 0, 1) := by decide +kernel
theorem d_Mo_better_6 : decode prog_8_method_9_code 6 = .ok (.iload_n 2, 1) := by decide +kernel
theorem d_Mo_better_7 : decode prog_8_method_9_code 7 = .ok (.invokevirtual 100, 3) := by decide +kernel
theorem d_Mo_better_10 : decode prog_8_method_9_code 10 = .ok (.if_icmp .eq 22, 3) := by decide +kernel
theorem d_Mo_better_13 : decode prog_8_method_9_code 13 = .ok (.aload_n 0, 1) := by decide +kernel
theorem d_Mo_better_14 : decode prog_8_method_9_code 14 = .ok (.iload_n 1, 1) := by decide +kernel
theorem d_Mo_better_15 : decode prog_8_method_9_code 15 = .ok (.invokevirtual 100, 3) := by decide +kernel
theorem d_Mo_better_18 : decode prog_8_method_9_code 18 = .ok (.aload_n 0, 1) := by decide +kernel
theorem d_Mo_better_19 : decode prog_8_method_9_code 19 = .ok (.iload_n 2, 1) := by decide +kernel
theorem d_Mo_better_20 : decode prog_8_method_9_code 20 = .ok (.invokevirtual 100, 3) := by decide +kernel
theorem d_Mo_better_23 : decode prog_8_method_9_code 23 = .ok (.if_icmp .ge 7, 3) := by decide +kernel
theorem d_Mo_better_26 : decode prog_8_method_9_code 26 = .ok (.iconst 1, 1) := by decide +kernel
theorem d_Mo_better_27 : decode prog_8_method_9_code 27 = .ok (.goto 4, 3) := by decide +kernel
theorem d_Mo_better_30 : decode prog_8_method_9_code 30 = .ok (.iconst 0, 1) := by decide +kernel
theorem d_Mo_better_31 : decode prog_8_method_9_code 31 = .ok (.ireturn, 1) := by decide +kernel
theorem d_Mo_better_32 : decode prog_8_method_9_code 32 = .ok (.aload_n 0, 1) := by decide +kernel
theorem d_Mo_better_33 : decode prog_8_method_9_code 33 = .ok (.iload_n 1, 1) := by decide +kernel
theorem d_Mo_better_34 : decode prog_8_method_9_code 34 = .ok (.invokevirtual 103, 3) := by decide +kernel
theorem d_Mo_better_37 : decode prog_8_method_9_code 37 = .ok (.aload_n 0, 1) := by decide +kernel
theorem d_Mo_better_38 : decode prog_8_method_9_code 38 = .ok (.iload_n 2, 1) := by decide +kernel
theorem d_Mo_better_39 : decode prog_8_method_9_code 39 = .ok (.invokevirtual 103, 3) := by decide +kernel
theorem d_Mo_better_42 : decode prog_8_method_9_code 42 = .ok (.if_icmp .eq 22, 3) := by decide +kernel
theorem d_Mo_better_45 : decode prog_8_method_9_code 45 = .ok (.aload_n 0, 1) := by decide +kernel
theorem d_Mo_better_46 : decode prog_8_method_9_code 46 = .ok (.iload_n 1, 1) := by decide +kernel
theorem d_Mo_better_47 : decode prog_8_method_9_code 47 = .ok (.invokevirtual 103, 3) := by decide +kernel
theorem d_Mo_better_50 : decode prog_8_method_9_code 50 = .ok (.aload_n 0, 1) := by decide +kernel
theorem d_Mo_better_51 : decode prog_8_method_9_code 51 = .ok (.iload_n 2, 1) := by decide +kernel
theorem d_Mo_better_52 : decode prog_8_method_9_code 52 = .ok (.invokevirtual 103, 3) := by decide +kernel
theorem d_Mo_better_55 : decode prog_8_method_9_code 55 = .ok (.if_icmp .ge 7, 3) := by decide +kernel
theorem d_Mo_better_58 : decode prog_8_method_9_code 58 = .ok (.iconst 1, 1) := by decide +kernel
theorem d_Mo_better_59 : decode prog_8_method_9_code 59 = .ok (.goto 4, 3) := by decide +kernel
theorem d_Mo_better_62 : decode prog_8_method_9_code 62 = .ok (.iconst 0, 1) := by decide +kernel
theorem d_Mo_better_63 : decode prog_8_method_9_code 63 = .ok (.ireturn, 1) := by decide +kernel
theorem d_Mo_better_64 : decode prog_8_method_9_code 64 = .ok (.aload_n 0, 1) := by decide +kernel
theorem d_Mo_better_65 : decode prog_8_method_9_code 65 = .ok (.getfield 49, 3) := by decide +kernel
theorem d_Mo_better_68 : decode prog_8_method_9_code 68 = .ok (.iload_n 1, 1) := by decide +kernel
theorem d_Mo_better_69 : decode prog_8_method_9_code 69 = .ok (.iaload, 1) := by decide +kernel
theorem d_Mo_better_70 : decode prog_8_method_9_code 70 = .ok (.aload_n 0, 1) := by decide +kernel
theorem d_Mo_better_71 : decode prog_8_method_9_code 71 = .ok (.getfield 49, 3) := by decide +kernel
theorem d_Mo_better_74 : decode prog_8_method_9_code 74 = .ok (.iload_n 2, 1) := by decide +kernel
theorem d_Mo_better_75 : decode prog_8_method_9_code 75 = .ok (.iaload, 1) := by decide +kernel
theorem d_Mo_better_76 : decode prog_8_method_9_code 76 = .ok (.if_icmp .ge 7, 3) := by decide +kernel
theorem d_Mo_better_79 : decode prog_8_method_9_code 79 = .ok (.iconst 1, 1) := by decide +kernel
theorem d_Mo_better_80 : decode prog_8_method_9_code 80 = .ok (.goto 4, 3) := by decide +kernel
theorem d_Mo_better_83 : decode prog_8_method_9_code 83 = .ok (.iconst 0, 1) := by decide +kernel
theorem d_Mo_better_84 : decode prog_8_method_9_code 84 = .ok (.ireturn, 1) := by decide +kernel
theorem d_Mo_qualityOf_0 : decode prog_8_method_7_code 0 = .ok (.aload_n 0, 1) := by decide +kernel
theorem d_Mo_qualityOf_1 : decode prog_8_method_7_code 1 = .ok (.getfield 40, 3) := by decide +kernel
theorem d_Mo_qualityOf_4 : decode prog_8_method_7_code 4 = .ok (.iload_n 1, 1) := by decide +kernel
theorem d_Mo_qualityOf_5 : decode prog_8_method_7_code 5 = .ok (.iaload, 1) := by decide +kernel
theorem d_Mo_qualityOf_6 : decode prog_8_method_7_code 6 = .ok (.ifCond .lt 12, 3) := by decide +kernel
theorem d_Mo_qualityOf_9 : decode prog_8_method_7_code 9 = .ok (.aload_n 0, 1) := by decide +kernel
theorem d_Mo_qualityOf_10 : decode prog_8_method_7_code 10 = .ok (.getfield 40, 3) := by decide +kernel
theorem d_Mo_qualityOf_13 : decode prog_8_method_7_code 13 = .ok (.iload_n 1, 1) := by decide +kernel
theorem d_Mo_qualityOf_14 : decode prog_8_method_7_code 14 = .ok (.iaload, 1) := by decide +kernel
theorem d_Mo_qualityOf_15 : decode prog_8_method_7_code 15 = .ok (.goto 11, 3) := by decide +kernel
theorem d_Mo_qualityOf_18 : decode prog_8_method_7_code 18 = .ok (.aload_n 0, 1) := by decide +kernel
theorem d_Mo_qualityOf_19 : decode prog_8_method_7_code 19 = .ok (.getfield 64, 3) := by decide +kernel
theorem d_Mo_qualityOf_22 : decode prog_8_method_7_code 22 = .ok (.iconst 0, 1) := by decide +kernel
theorem d_Mo_qualityOf_23 : decode prog_8_method_7_code 23 = .ok (.iload_n 1, 1) := by decide +kernel
theorem d_Mo_qualityOf_24 : decode prog_8_method_7_code 24 = .ok (.iadd, 1) := by decide +kernel
theorem d_Mo_qualityOf_25 : decode prog_8_method_7_code 25 = .ok (.iaload, 1) := by decide +kernel
theorem d_Mo_qualityOf_26 : decode prog_8_method_7_code 26 = .ok (.ireturn, 1) := by decide +kernel
theorem d_Mo_hopsOf_0 : decode prog_8_method_8_code 0 = .ok (.aload_n 0, 1) := by decide +kernel
theorem d_Mo_hopsOf_1 : decode prog_8_method_8_code 1 = .ok (.getfield 40, 3) := by decide +kernel
theorem d_Mo_hopsOf_4 : decode prog_8_method_8_code 4 = .ok (.iload_n 1, 1) := by decide +kernel
theorem d_Mo_hopsOf_5 : decode prog_8_method_8_code 5 = .ok (.iaload, 1) := by decide +kernel
theorem d_Mo_hopsOf_6 : decode prog_8_method_8_code 6 = .ok (.ifCond .lt 7, 3) := by decide +kernel
theorem d_Mo_hopsOf_9 : decode prog_8_method_8_code 9 = .ok (.iconst 0, 1) := by decide +kernel
theorem d_Mo_hopsOf_10 : decode prog_8_method_8_code 10 = .ok (.goto 12, 3) := by decide +kernel
theorem d_Mo_hopsOf_13 : decode prog_8_method_8_code 13 = .ok (.aload_n 0, 1) := by decide +kernel
theorem d_Mo_hopsOf_14 : decode prog_8_method_8_code 14 = .ok (.getfield 64, 3) := by decide +kernel
theorem d_Mo_hopsOf_17 : decode prog_8_method_8_code 17 = .ok (.bipush 64, 2) := by decide +kernel
theorem d_Mo_hopsOf_19 : decode prog_8_method_8_code 19 = .ok (.iload_n 1, 1) := by decide +kernel
theorem d_Mo_hopsOf_20 : decode prog_8_method_8_code 20 = .ok (.iadd, 1) := by decide +kernel
theorem d_Mo_hopsOf_21 : decode prog_8_method_8_code 21 = .ok (.iaload, 1) := by decide +kernel
theorem d_Mo_hopsOf_22 : decode prog_8_method_8_code 22 = .ok (.ireturn, 1) := by decide +kernel
theorem d_Mo_stateOf_0 : decode prog_8_method_14_code 0 = .ok (.aload_n 0, 1) := by decide +kernel
theorem d_Mo_stateOf_1 : decode prog_8_method_14_code 1 = .ok (.getfield 64, 3) := by decide +kernel
theorem d_Mo_stateOf_4 : decode prog_8_method_14_code 4 = .ok (.sipush 672, 3) := by decide +kernel
theorem d_Mo_stateOf_7 : decode prog_8_method_14_code 7 = .ok (.iload_n 1, 1) := by decide +kernel
theorem d_Mo_stateOf_8 : decode prog_8_method_14_code 8 = .ok (.iadd, 1) := by decide +kernel
theorem d_Mo_stateOf_9 : decode prog_8_method_14_code 9 = .ok (.iaload, 1) := by decide +kernel
theorem d_Mo_stateOf_10 : decode prog_8_method_14_code 10 = .ok (.iconst 1, 1) := by decide +kernel
theorem d_Mo_stateOf_11 : decode prog_8_method_14_code 11 = .ok (.if_icmp .ne 7, 3) := by decide +kernel
theorem d_Mo_stateOf_14 : decode prog_8_method_14_code 14 = .ok (.iconst 3, 1) := by decide +kernel
theorem d_Mo_stateOf_15 : decode prog_8_method_14_code 15 = .ok (.goto 13, 3) := by decide +kernel
theorem d_Mo_stateOf_18 : decode prog_8_method_14_code 18 = .ok (.aload_n 0, 1) := by decide +kernel
theorem d_Mo_stateOf_19 : decode prog_8_method_14_code 19 = .ok (.getfield 64, 3) := by decide +kernel
theorem d_Mo_stateOf_22 : decode prog_8_method_14_code 22 = .ok (.sipush 512, 3) := by decide +kernel
theorem d_Mo_stateOf_25 : decode prog_8_method_14_code 25 = .ok (.iload_n 1, 1) := by decide +kernel
theorem d_Mo_stateOf_26 : decode prog_8_method_14_code 26 = .ok (.iadd, 1) := by decide +kernel
theorem d_Mo_stateOf_27 : decode prog_8_method_14_code 27 = .ok (.iaload, 1) := by decide +kernel
theorem d_Mo_stateOf_28 : decode prog_8_method_14_code 28 = .ok (.ireturn, 1) := by decide +kernel
theorem d_Mo_portOf_0 : decode prog_8_method_15_code 0 = .ok (.aload_n 0, 1) := by decide +kernel
theorem d_Mo_portOf_1 : decode prog_8_method_15_code 1 = .ok (.getfield 64, 3) := by decide +kernel
theorem d_Mo_portOf_4 : decode prog_8_method_15_code 4 = .ok (.sipush 672, 3) := by decide +kernel
theorem d_Mo_portOf_7 : decode prog_8_method_15_code 7 = .ok (.iload_n 1, 1) := by decide +kernel
theorem d_Mo_portOf_8 : decode prog_8_method_15_code 8 = .ok (.iadd, 1) := by decide +kernel
theorem d_Mo_portOf_9 : decode prog_8_method_15_code 9 = .ok (.iaload, 1) := by decide +kernel
theorem d_Mo_portOf_10 : decode prog_8_method_15_code 10 = .ok (.iconst 1, 1) := by decide +kernel
theorem d_Mo_portOf_11 : decode prog_8_method_15_code 11 = .ok (.if_icmp .ne 7, 3) := by decide +kernel
theorem d_Mo_portOf_14 : decode prog_8_method_15_code 14 = .ok (.iconst (-1), 1) := by decide +kernel
theorem d_Mo_portOf_15 : decode prog_8_method_15_code 15 = .ok (.goto 13, 3) := by decide +kernel
theorem d_Mo_portOf_18 : decode prog_8_method_15_code 18 = .ok (.aload_n 0, 1) := by decide +kernel
theorem d_Mo_portOf_19 : decode prog_8_method_15_code 19 = .ok (.getfield 64, 3) := by decide +kernel
theorem d_Mo_portOf_22 : decode prog_8_method_15_code 22 = .ok (.sipush 528, 3) := by decide +kernel
theorem d_Mo_portOf_25 : decode prog_8_method_15_code 25 = .ok (.iload_n 1, 1) := by decide +kernel
theorem d_Mo_portOf_26 : decode prog_8_method_15_code 26 = .ok (.iadd, 1) := by decide +kernel
theorem d_Mo_portOf_27 : decode prog_8_method_15_code 27 = .ok (.iaload, 1) := by decide +kernel
theorem d_Mo_portOf_28 : decode prog_8_method_15_code 28 = .ok (.ireturn, 1) := by decide +kernel
theorem d_Mo_settled_0 : decode prog_8_method_40_code 0 = .ok (.aload_n 0, 1) := by decide +kernel
theorem d_Mo_settled_1 : decode prog_8_method_40_code 1 = .ok (.iconst 0, 1) := by decide +kernel
theorem d_Mo_settled_2 : decode prog_8_method_40_code 2 = .ok (.putfield 7, 3) := by decide +kernel
theorem d_Mo_settled_5 : decode prog_8_method_40_code 5 = .ok (.aload_n 0, 1) := by decide +kernel
theorem d_Mo_settled_6 : decode prog_8_method_40_code 6 = .ok (.getfield 64, 3) := by decide +kernel
theorem d_Mo_settled_9 : decode prog_8_method_40_code 9 = .ok (.sipush 761, 3) := by decide +kernel
theorem d_Mo_settled_12 : decode prog_8_method_40_code 12 = .ok (.iaload, 1) := by decide +kernel
theorem d_Mo_settled_13 : decode prog_8_method_40_code 13 = .ok (.ireturn, 1) := by decide +kernel
theorem d_Mo_state_0 : decode prog_8_method_41_code 0 = .ok (.aload_n 0, 1) := by decide +kernel
theorem d_Mo_state_1 : decode prog_8_method_41_code 1 = .ok (.aload_n 0, 1) := by decide +kernel
theorem d_Mo_state_2 : decode prog_8_method_41_code 2 = .ok (.iload_n 1, 1) := by decide +kernel
theorem d_Mo_state_3 : decode prog_8_method_41_code 3 = .ok (.invokevirtual 149, 3) := by decide +kernel
theorem d_Mo_state_6 : decode prog_8_method_41_code 6 = .ok (.ifCond .ne 12, 3) := by decide +kernel
theorem d_Mo_state_9 : decode prog_8_method_41_code 9 = .ok (.iload_n 2, 1) := by decide +kernel
theorem d_Mo_state_10 : decode prog_8_method_41_code 10 = .ok (.ifCond .lt 8, 3) := by decide +kernel
theorem d_Mo_state_13 : decode prog_8_method_41_code 13 = .ok (.iload_n 2, 1) := by decide +kernel
theorem d_Mo_state_14 : decode prog_8_method_41_code 14 = .ok (.iconst 4, 1) := by decide +kernel
theorem d_Mo_state_15 : decode prog_8_method_41_code 15 = .ok (.if_icmp .le 7, 3) := by decide +kernel
theorem d_Mo_state_18 : decode prog_8_method_41_code 18 = .ok (.iconst 1, 1) := by decide +kernel
theorem d_Mo_state_19 : decode prog_8_method_41_code 19 = .ok (.goto 4, 3) := by decide +kernel
theorem d_Mo_state_22 : decode prog_8_method_41_code 22 = .ok (.iconst 0, 1) := by decide +kernel
theorem d_Mo_state_23 : decode prog_8_method_41_code 23 = .ok (.putfield 7, 3) := by decide +kernel
theorem d_Mo_state_26 : decode prog_8_method_41_code 26 = .ok (.aload_n 0, 1) := by decide +kernel
theorem d_Mo_state_27 : decode prog_8_method_41_code 27 = .ok (.getfield 7, 3) := by decide +kernel
theorem d_Mo_state_30 : decode prog_8_method_41_code 30 = .ok (.ifCond .eq 5, 3) := by decide +kernel
theorem d_Mo_state_33 : decode prog_8_method_41_code 33 = .ok (.iconst 0, 1) := by decide +kernel
theorem d_Mo_state_34 : decode prog_8_method_41_code 34 = .ok (.ireturn, 1) := by decide +kernel
theorem d_Mo_state_35 : decode prog_8_method_41_code 35 = .ok (.iload_n 2, 1) := by decide +kernel
theorem d_Mo_state_36 : decode prog_8_method_41_code 36 = .ok (.ifCond .ne 9, 3) := by decide +kernel
theorem d_Mo_state_39 : decode prog_8_method_41_code 39 = .ok (.aload_n 0, 1) := by decide +kernel
theorem d_Mo_state_40 : decode prog_8_method_41_code 40 = .ok (.iload_n 1, 1) := by decide +kernel
theorem d_Mo_state_41 : decode prog_8_method_41_code 41 = .ok (.invokevirtual 127, 3) := by decide +kernel
theorem d_Mo_state_44 : decode prog_8_method_41_code 44 = .ok (.ireturn, 1) := by decide +kernel
theorem d_Mo_state_45 : decode prog_8_method_41_code 45 = .ok (.iload_n 2, 1) := by decide +kernel
theorem d_Mo_state_46 : decode prog_8_method_41_code 46 = .ok (.iconst 1, 1) := by decide +kernel
theorem d_Mo_state_47 : decode prog_8_method_41_code 47 = .ok (.if_icmp .ne 9, 3) := by decide +kernel
theorem d_Mo_state_50 : decode prog_8_method_41_code 50 = .ok (.aload_n 0, 1) := by decide +kernel
theorem d_Mo_state_51 : decode prog_8_method_41_code 51 = .ok (.iload_n 1, 1) := by decide +kernel
theorem d_Mo_state_52 : decode prog_8_method_41_code 52 = .ok (.invokevirtual 130, 3) := by decide +kernel
theorem d_Mo_state_55 : decode prog_8_method_41_code 55 = .ok (.ireturn, 1) := by decide +kernel
theorem d_Mo_state_56 : decode prog_8_method_41_code 56 = .ok (.iload_n 2, 1) := by decide +kernel
theorem d_Mo_state_57 : decode prog_8_method_41_code 57 = .ok (.iconst 4, 1) := by decide +kernel
theorem d_Mo_state_58 : decode prog_8_method_41_code 58 = .ok (.if_icmp .ne 14, 3) := by decide +kernel
theorem d_Mo_state_61 : decode prog_8_method_41_code 61 = .ok (.aload_n 0, 1) := by decide +kernel
theorem d_Mo_state_62 : decode prog_8_method_41_code 62 = .ok (.getfield 64, 3) := by decide +kernel
theorem d_Mo_state_65 : decode prog_8_method_41_code 65 = .ok (.sipush 560, 3) := by decide +kernel
theorem d_Mo_state_68 : decode prog_8_method_41_code 68 = .ok (.iload_n 1, 1) := by decide +kernel
theorem d_Mo_state_69 : decode prog_8_method_41_code 69 = .ok (.iadd, 1) := by decide +kernel
theorem d_Mo_state_70 : decode prog_8_method_41_code 70 = .ok (.iaload, 1) := by decide +kernel
theorem d_Mo_state_71 : decode prog_8_method_41_code 71 = .ok (.ireturn, 1) := by decide +kernel
theorem d_Mo_state_72 : decode prog_8_method_41_code 72 = .ok (.aload_n 0, 1) := by decide +kernel
theorem d_Mo_state_73 : decode prog_8_method_41_code 73 = .ok (.iload_n 1, 1) := by decide +kernel
theorem d_Mo_state_74 : decode prog_8_method_41_code 74 = .ok (.invokevirtual 127, 3) := by decide +kernel
theorem d_Mo_state_77 : decode prog_8_method_41_code 77 = .ok (.iconst 1, 1) := by decide +kernel
theorem d_Mo_state_78 : decode prog_8_method_41_code 78 = .ok (.if_icmp .eq 7, 3) := by decide +kernel
theorem d_Mo_state_81 : decode prog_8_method_41_code 81 = .ok (.iconst (-1), 1) := by decide +kernel
theorem d_Mo_state_82 : decode prog_8_method_41_code 82 = .ok (.goto 31, 3) := by decide +kernel
theorem d_Mo_state_85 : decode prog_8_method_41_code 85 = .ok (.iload_n 2, 1) := by decide +kernel
theorem d_Mo_state_86 : decode prog_8_method_41_code 86 = .ok (.iconst 2, 1) := by decide +kernel
theorem d_Mo_state_87 : decode prog_8_method_41_code 87 = .ok (.if_icmp .ne 16, 3) := by decide +kernel
theorem d_Mo_state_90 : decode prog_8_method_41_code 90 = .ok (.aload_n 0, 1) := by decide +kernel
theorem d_Mo_state_91 : decode prog_8_method_41_code 91 = .ok (.getfield 64, 3) := by decide +kernel
theorem d_Mo_state_94 : decode prog_8_method_41_code 94 = .ok (.sipush 608, 3) := by decide +kernel
theorem d_Mo_state_97 : decode prog_8_method_41_code 97 = .ok (.iload_n 1, 1) := by decide +kernel
theorem d_Mo_state_98 : decode prog_8_method_41_code 98 = .ok (.iadd, 1) := by decide +kernel
theorem d_Mo_state_99 : decode prog_8_method_41_code 99 = .ok (.iaload, 1) := by decide +kernel
theorem d_Mo_state_100 : decode prog_8_method_41_code 100 = .ok (.goto 13, 3) := by decide +kernel
theorem d_Mo_state_103 : decode prog_8_method_41_code 103 = .ok (.aload_n 0, 1) := by decide +kernel
theorem d_Mo_state_104 : decode prog_8_method_41_code 104 = .ok (.getfield 64, 3) := by decide +kernel
theorem d_Mo_state_107 : decode prog_8_method_41_code 107 = .ok (.sipush 624, 3) := by decide +kernel
theorem d_Mo_state_110 : decode prog_8_method_41_code 110 = .ok (.iload_n 1, 1) := by decide +kernel
theorem d_Mo_state_111 : decode prog_8_method_41_code 111 = .ok (.iadd, 1) := by decide +kernel
theorem d_Mo_state_112 : decode prog_8_method_41_code 112 = .ok (.iaload, 1) := by decide +kernel
theorem d_Mo_state_113 : decode prog_8_method_41_code 113 = .ok (.ireturn, 1) := by decide +kernel
theorem d_Mo_phase_0 : decode prog_8_method_42_code 0 = .ok (.aload_n 0, 1) := by decide +kernel
theorem d_Mo_phase_1 : decode prog_8_method_42_code 1 = .ok (.aload_n 0, 1) := by decide +kernel
theorem d_Mo_phase_2 : decode prog_8_method_42_code 2 = .ok (.iload_n 1, 1) := by decide +kernel
theorem d_Mo_phase_3 : decode prog_8_method_42_code 3 = .ok (.invokevirtual 149, 3) := by decide +kernel
theorem d_Mo_phase_6 : decode prog_8_method_42_code 6 = .ok (.ifCond .eq 7, 3) := by decide +kernel
theorem d_Mo_phase_9 : decode prog_8_method_42_code 9 = .ok (.iconst 1, 1) := by decide +kernel
theorem d_Mo_phase_10 : decode prog_8_method_42_code 10 = .ok (.goto 4, 3) := by decide +kernel
theorem d_Mo_phase_13 : decode prog_8_method_42_code 13 = .ok (.iconst 0, 1) := by decide +kernel
theorem d_Mo_phase_14 : decode prog_8_method_42_code 14 = .ok (.putfield 7, 3) := by decide +kernel
theorem d_Mo_phase_17 : decode prog_8_method_42_code 17 = .ok (.aload_n 0, 1) := by decide +kernel
theorem d_Mo_phase_18 : decode prog_8_method_42_code 18 = .ok (.getfield 7, 3) := by decide +kernel
theorem d_Mo_phase_21 : decode prog_8_method_42_code 21 = .ok (.ifCond .eq 7, 3) := by decide +kernel
theorem d_Mo_phase_24 : decode prog_8_method_42_code 24 = .ok (.lconst 0, 1) := by decide +kernel
theorem d_Mo_phase_25 : decode prog_8_method_42_code 25 = .ok (.goto 9, 3) := by decide +kernel
theorem d_Mo_phase_28 : decode prog_8_method_42_code 28 = .ok (.aload_n 0, 1) := by decide +kernel
theorem d_Mo_phase_29 : decode prog_8_method_42_code 29 = .ok (.getfield 70, 3) := by decide +kernel
theorem d_Mo_phase_32 : decode prog_8_method_42_code 32 = .ok (.iload_n 1, 1) := by decide +kernel
theorem d_Mo_phase_33 : decode prog_8_method_42_code 33 = .ok (.laload, 1) := by decide +kernel
theorem d_Mo_phase_34 : decode prog_8_method_42_code 34 = .ok (.lreturn, 1) := by decide +kernel
theorem d_Mo_sends_0 : decode prog_8_method_43_code 0 = .ok (.aload_n 0, 1) := by decide +kernel
theorem d_Mo_sends_1 : decode prog_8_method_43_code 1 = .ok (.aload_n 0, 1) := by decide +kernel
theorem d_Mo_sends_2 : decode prog_8_method_43_code 2 = .ok (.iload_n 1, 1) := by decide +kernel
theorem d_Mo_sends_3 : decode prog_8_method_43_code 3 = .ok (.iload_n 2, 1) := by decide +kernel
theorem d_Mo_sends_4 : decode prog_8_method_43_code 4 = .ok (.invokevirtual 152, 3) := by decide +kernel
theorem d_Mo_sends_7 : decode prog_8_method_43_code 7 = .ok (.ifCond .eq 7, 3) := by decide +kernel
theorem d_Mo_sends_10 : decode prog_8_method_43_code 10 = .ok (.iconst 1, 1) := by decide +kernel
theorem d_Mo_sends_11 : decode prog_8_method_43_code 11 = .ok (.goto 4, 3) := by decide +kernel
theorem d_Mo_sends_14 : decode prog_8_method_43_code 14 = .ok (.iconst 0, 1) := by decide +kernel
theorem d_Mo_sends_15 : decode prog_8_method_43_code 15 = .ok (.putfield 7, 3) := by decide +kernel
theorem d_Mo_sends_18 : decode prog_8_method_43_code 18 = .ok (.aload_n 0, 1) := by decide +kernel
theorem d_Mo_sends_19 : decode prog_8_method_43_code 19 = .ok (.getfield 7, 3) := by decide +kernel
theorem d_Mo_sends_22 : decode prog_8_method_43_code 22 = .ok (.ifCond .eq 7, 3) := by decide +kernel
theorem d_Mo_sends_25 : decode prog_8_method_43_code 25 = .ok (.iconst 0, 1) := by decide +kernel
theorem d_Mo_sends_26 : decode prog_8_method_43_code 26 = .ok (.goto 17, 3) := by decide +kernel
theorem d_Mo_sends_29 : decode prog_8_method_43_code 29 = .ok (.aload_n 0, 1) := by decide +kernel
theorem d_Mo_sends_30 : decode prog_8_method_43_code 30 = .ok (.getfield 64, 3) := by decide +kernel
theorem d_Mo_sends_33 : decode prog_8_method_43_code 33 = .ok (.sipush 256, 3) := by decide +kernel
theorem d_Mo_sends_36 : decode prog_8_method_43_code 36 = .ok (.iconst 4, 1) := by decide +kernel
theorem d_Mo_sends_37 : decode prog_8_method_43_code 37 = .ok (.iload_n 1, 1) := by decide +kernel
theorem d_Mo_sends_38 : decode prog_8_method_43_code 38 = .ok (.imul, 1) := by decide +kernel
theorem d_Mo_sends_39 : decode prog_8_method_43_code 39 = .ok (.iadd, 1) := by decide +kernel
theorem d_Mo_sends_40 : decode prog_8_method_43_code 40 = .ok (.iload_n 2, 1) := by decide +kernel
theorem d_Mo_sends_41 : decode prog_8_method_43_code 41 = .ok (.iadd, 1) := by decide +kernel
theorem d_Mo_sends_42 : decode prog_8_method_43_code 42 = .ok (.iaload, 1) := by decide +kernel
theorem d_Mo_sends_43 : decode prog_8_method_43_code 43 = .ok (.ireturn, 1) := by decide +kernel
theorem d_Mo_traced_0 : decode prog_8_method_44_code 0 = .ok (.aload_n 0, 1) := by decide +kernel
theorem d_Mo_traced_1 : decode prog_8_method_44_code 1 = .ok (.aload_n 0, 1) := by decide +kernel
theorem d_Mo_traced_2 : decode prog_8_method_44_code 2 = .ok (.iload_n 1, 1) := by decide +kernel
theorem d_Mo_traced_3 : decode prog_8_method_44_code 3 = .ok (.invokevirtual 149, 3) := by decide +kernel
theorem d_Mo_traced_6 : decode prog_8_method_44_code 6 = .ok (.ifCond .eq 7, 3) := by decide +kernel
theorem d_Mo_traced_9 : decode prog_8_method_44_code 9 = .ok (.iconst 1, 1) := by decide +kernel
theorem d_Mo_traced_10 : decode prog_8_method_44_code 10 = .ok (.goto 4, 3) := by decide +kernel
theorem d_Mo_traced_13 : decode prog_8_method_44_code 13 = .ok (.iconst 0, 1) := by decide +kernel
theorem d_Mo_traced_14 : decode prog_8_method_44_code 14 = .ok (.putfield 7, 3) := by decide +kernel
theorem d_Mo_traced_17 : decode prog_8_method_44_code 17 = .ok (.aload_n 0, 1) := by decide +kernel
theorem d_Mo_traced_18 : decode prog_8_method_44_code 18 = .ok (.getfield 7, 3) := by decide +kernel
theorem d_Mo_traced_21 : decode prog_8_method_44_code 21 = .ok (.ifCond .eq 5, 3) := by decide +kernel
theorem d_Mo_traced_24 : decode prog_8_method_44_code 24 = .ok (.iconst 0, 1) := by decide +kernel
theorem d_Mo_traced_25 : decode prog_8_method_44_code 25 = .ok (.ireturn, 1) := by decide +kernel
theorem d_Mo_traced_26 : decode prog_8_method_44_code 26 = .ok (.iload_n 1, 1) := by decide +kernel
theorem d_Mo_traced_27 : decode prog_8_method_44_code 27 = .ok (.istore_n 2, 1) := by decide +kernel
theorem d_Mo_traced_28 : decode prog_8_method_44_code 28 = .ok (.iconst 0, 1) := by decide +kernel
theorem d_Mo_traced_29 : decode prog_8_method_44_code 29 = .ok (.istore_n 3, 1) := by decide +kernel
theorem d_Mo_traced_30 : decode prog_8_method_44_code 30 = .ok (.iload_n 3, 1) := by decide +kernel
theorem d_Mo_traced_31 : decode prog_8_method_44_code 31 = .ok (.bipush 17, 2) := by decide +kernel
theorem d_Mo_traced_33 : decode prog_8_method_44_code 33 = .ok (.if_icmp .ge 25, 3) := by decide +kernel
theorem d_Mo_traced_36 : decode prog_8_method_44_code 36 = .ok (.iload_n 2, 1) := by decide +kernel
theorem d_Mo_traced_37 : decode prog_8_method_44_code 37 = .ok (.ifCond .lt 21, 3) := by decide +kernel
theorem d_Mo_traced_40 : decode prog_8_method_44_code 40 = .ok (.iload_n 2, 1) := by decide +kernel
theorem d_Mo_traced_41 : decode prog_8_method_44_code 41 = .ok (.bipush 16, 2) := by decide +kernel
theorem d_Mo_traced_43 : decode prog_8_method_44_code 43 = .ok (.if_icmp .ge 15, 3) := by decide +kernel
theorem d_Mo_traced_46 : decode prog_8_method_44_code 46 = .ok (.aload_n 0, 1) := by decide +kernel
theorem d_Mo_traced_47 : decode prog_8_method_44_code 47 = .ok (.iload_n 2, 1) := by decide +kernel
theorem d_Mo_traced_48 : decode prog_8_method_44_code 48 = .ok (.invokevirtual 164, 3) := by decide +kernel
theorem d_Mo_traced_51 : decode prog_8_method_44_code 51 = .ok (.istore_n 2, 1) := by decide +kernel
theorem d_Mo_traced_52 : decode prog_8_method_44_code 52 = .ok (.iinc 3 1, 3) := by decide +kernel
theorem d_Mo_traced_55 : decode prog_8_method_44_code 55 = .ok (.goto (-25), 3) := by decide +kernel
theorem d_Mo_traced_58 : decode prog_8_method_44_code 58 = .ok (.iload_n 2, 1) := by decide +kernel
theorem d_Mo_traced_59 : decode prog_8_method_44_code 59 = .ok (.bipush 16, 2) := by decide +kernel
theorem d_Mo_traced_61 : decode prog_8_method_44_code 61 = .ok (.if_icmp .ge 7, 3) := by decide +kernel
theorem d_Mo_traced_64 : decode prog_8_method_44_code 64 = .ok (.iconst (-1), 1) := by decide +kernel
theorem d_Mo_traced_65 : decode prog_8_method_44_code 65 = .ok (.goto 7, 3) := by decide +kernel
theorem d_Mo_traced_68 : decode prog_8_method_44_code 68 = .ok (.iload_n 2, 1) := by decide +kernel
theorem d_Mo_traced_69 : decode prog_8_method_44_code 69 = .ok (.bipush 16, 2) := by decide +kernel
theorem d_Mo_traced_71 : decode prog_8_method_44_code 71 = .ok (.isub, 1) := by decide +kernel
theorem d_Mo_traced_72 : decode prog_8_method_44_code 72 = .ok (.ireturn, 1) := by decide +kernel
theorem d_Mo_followed_0 : decode prog_8_method_21_code 0 = .ok (.aload_n 0, 1) := by decide +kernel
theorem d_Mo_followed_1 : decode prog_8_method_21_code 1 = .ok (.iload_n 1, 1) := by decide +kernel
theorem d_Mo_followed_2 : decode prog_8_method_21_code 2 = .ok (.invokevirtual 93, 3) := by decide +kernel
theorem d_Mo_followed_5 : decode prog_8_method_21_code 5 = .ok (.ifCond .eq 17, 3) := by decide +kernel
theorem d_Mo_followed_8 : decode prog_8_method_21_code 8 = .ok (.aload_n 0, 1) := by decide +kernel
theorem d_Mo_followed_9 : decode prog_8_method_21_code 9 = .ok (.getfield 64, 3) := by decide +kernel
theorem d_Mo_followed_12 : decode prog_8_method_21_code 12 = .ok (.sipush 512, 3) := by decide +kernel
theorem d_Mo_followed_15 : decode prog_8_method_21_code 15 = .ok (.iload_n 1, 1) := by decide +kernel
theorem d_Mo_followed_16 : decode prog_8_method_21_code 16 = .ok (.iadd, 1) := by decide +kernel
theorem d_Mo_followed_17 : decode prog_8_method_21_code 17 = .ok (.iaload, 1) := by decide +kernel
theorem d_Mo_followed_18 : decode prog_8_method_21_code 18 = .ok (.iconst 1, 1) := by decide +kernel
theorem d_Mo_followed_19 : decode prog_8_method_21_code 19 = .ok (.if_icmp .eq 5, 3) := by decide +kernel
theorem d_Mo_followed_22 : decode prog_8_method_21_code 22 = .ok (.iconst (-1), 1) := by decide +kernel
theorem d_Mo_followed_23 : decode prog_8_method_21_code 23 = .ok (.ireturn, 1) := by decide +kernel
theorem d_Mo_followed_24 : decode prog_8_method_21_code 24 = .ok (.iconst 4, 1) := by decide +kernel
theorem d_Mo_followed_25 : decode prog_8_method_21_code 25 = .ok (.iload_n 1, 1) := by decide +kernel
theorem d_Mo_followed_26 : decode prog_8_method_21_code 26 = .ok (.imul, 1) := by decide +kernel
theorem d_Mo_followed_27 : decode prog_8_method_21_code 27 = .ok (.aload_n 0, 1) := by decide +kernel
theorem d_Mo_followed_28 : decode prog_8_method_21_code 28 = .ok (.getfield 64, 3) := by decide +kernel
theorem d_Mo_followed_31 : decode prog_8_method_21_code 31 = .ok (.sipush 528, 3) := by decide +kernel
theorem d_Mo_followed_34 : decode prog_8_method_21_code 34 = .ok (.iload_n 1, 1) := by decide +kernel
theorem d_Mo_followed_35 : decode prog_8_method_21_code 35 = .ok (.iadd, 1) := by decide +kernel
theorem d_Mo_followed_36 : decode prog_8_method_21_code 36 = .ok (.iaload, 1) := by decide +kernel
theorem d_Mo_followed_37 : decode prog_8_method_21_code 37 = .ok (.iadd, 1) := by decide +kernel
theorem d_Mo_followed_38 : decode prog_8_method_21_code 38 = .ok (.istore_n 2, 1) := by decide +kernel
theorem d_Mo_followed_39 : decode prog_8_method_21_code 39 = .ok (.aload_n 0, 1) := by decide +kernel
theorem d_Mo_followed_40 : decode prog_8_method_21_code 40 = .ok (.getfield 46, 3) := by decide +kernel
theorem d_Mo_followed_43 : decode prog_8_method_21_code 43 = .ok (.iload_n 2, 1) := by decide +kernel
theorem d_Mo_followed_44 : decode prog_8_method_21_code 44 = .ok (.iaload, 1) := by decide +kernel
theorem d_Mo_followed_45 : decode prog_8_method_21_code 45 = .ok (.ifCond .lt 13, 3) := by decide +kernel
theorem d_Mo_followed_48 : decode prog_8_method_21_code 48 = .ok (.aload_n 0, 1) := by decide +kernel
theorem d_Mo_followed_49 : decode prog_8_method_21_code 49 = .ok (.iload_n 2, 1) := by decide +kernel
theorem d_Mo_followed_50 : decode prog_8_method_21_code 50 = .ok (.invokevirtual 89, 3) := by decide +kernel
theorem d_Mo_followed_53 : decode prog_8_method_21_code 53 = .ok (.iconst 4, 1) := by decide +kernel
theorem d_Mo_followed_54 : decode prog_8_method_21_code 54 = .ok (.idiv, 1) := by decide +kernel
theorem d_Mo_followed_55 : decode prog_8_method_21_code 55 = .ok (.goto 7, 3) := by decide +kernel
theorem d_Mo_followed_58 : decode prog_8_method_21_code 58 = .ok (.bipush 16, 2) := by decide +kernel
theorem d_Mo_followed_60 : decode prog_8_method_21_code 60 = .ok (.iload_n 2, 1) := by decide +kernel
theorem d_Mo_followed_61 : decode prog_8_method_21_code 61 = .ok (.iadd, 1) := by decide +kernel
theorem d_Mo_followed_62 : decode prog_8_method_21_code 62 = .ok (.ireturn, 1) := by decide +kernel
theorem d_Mo_loop_0 : decode prog_8_method_45_code 0 = .ok (.aload_n 0, 1) := by decide +kernel
theorem d_Mo_loop_1 : decode prog_8_method_45_code 1 = .ok (.iconst 0, 1) := by decide +kernel
theorem d_Mo_loop_2 : decode prog_8_method_45_code 2 = .ok (.putfield 7, 3) := by decide +kernel
theorem d_Mo_loop_5 : decode prog_8_method_45_code 5 = .ok (.iconst 0, 1) := by decide +kernel
theorem d_Mo_loop_6 : decode prog_8_method_45_code 6 = .ok (.istore_n 1, 1) := by decide +kernel
theorem d_Mo_loop_7 : decode prog_8_method_45_code 7 = .ok (.iconst 0, 1) := by decide +kernel
theorem d_Mo_loop_8 : decode prog_8_method_45_code 8 = .ok (.istore_n 2, 1) := by decide +kernel
theorem d_Mo_loop_9 : decode prog_8_method_45_code 9 = .ok (.iload_n 2, 1) := by decide +kernel
theorem d_Mo_loop_10 : decode prog_8_method_45_code 10 = .ok (.bipush 16, 2) := by decide +kernel
theorem d_Mo_loop_12 : decode prog_8_method_45_code 12 = .ok (.if_icmp .ge 55, 3) := by decide +kernel
theorem d_Mo_loop_15 : decode prog_8_method_45_code 15 = .ok (.iload_n 2, 1) := by decide +kernel
theorem d_Mo_loop_16 : decode prog_8_method_45_code 16 = .ok (.istore_n 3, 1) := by decide +kernel
theorem d_Mo_loop_17 : decode prog_8_method_45_code 17 = .ok (.iconst 0, 1) := by decide +kernel
theorem d_Mo_loop_18 : decode prog_8_method_45_code 18 = .ok (.istore 4, 2) := by decide +kernel
theorem d_Mo_loop_20 : decode prog_8_method_45_code 20 = .ok (.iload 4, 2) := by decide +kernel
theorem d_Mo_loop_22 : decode prog_8_method_45_code 22 = .ok (.bipush 17, 2) := by decide +kernel
theorem d_Mo_loop_24 : decode prog_8_method_45_code 24 = .ok (.if_icmp .ge 25, 3) := by decide +kernel
theorem d_Mo_loop_27 : decode prog_8_method_45_code 27 = .ok (.iload_n 3, 1) := by decide +kernel
theorem d_Mo_loop_28 : decode prog_8_method_45_code 28 = .ok (.ifCond .lt 21, 3) := by decide +kernel
theorem d_Mo_loop_31 : decode prog_8_method_45_code 31 = .ok (.iload_n 3, 1) := by decide +kernel
theorem d_Mo_loop_32 : decode prog_8_method_45_code 32 = .ok (.bipush 16, 2) := by decide +kernel
theorem d_Mo_loop_34 : decode prog_8_method_45_code 34 = .ok (.if_icmp .ge 15, 3) := by decide +kernel
theorem d_Mo_loop_37 : decode prog_8_method_45_code 37 = .ok (.aload_n 0, 1) := by decide +kernel
theorem d_Mo_loop_38 : decode prog_8_method_45_code 38 = .ok (.iload_n 3, 1) := by decide +kernel
theorem d_Mo_loop_39 : decode prog_8_method_45_code 39 = .ok (.invokevirtual 164, 3) := by decide +kernel
theorem d_Mo_loop_42 : decode prog_8_method_45_code 42 = .ok (.istore_n 3, 1) := by decide +kernel
theorem d_Mo_loop_43 : decode prog_8_method_45_code 43 = .ok (.iinc 4 1, 3) := by decide +kernel
theorem d_Mo_loop_46 : decode prog_8_method_45_code 46 = .ok (.goto (-26), 3) := by decide +kernel
theorem d_Mo_loop_49 : decode prog_8_method_45_code 49 = .ok (.iload_n 3, 1) := by decide +kernel
theorem d_Mo_loop_50 : decode prog_8_method_45_code 50 = .ok (.ifCond .lt 11, 3) := by decide +kernel
theorem d_Mo_loop_53 : decode prog_8_method_45_code 53 = .ok (.iload_n 3, 1) := by decide +kernel
theorem d_Mo_loop_54 : decode prog_8_method_45_code 54 = .ok (.bipush 16, 2) := by decide +kernel
theorem d_Mo_loop_56 : decode prog_8_method_45_code 56 = .ok (.if_icmp .ge 5, 3) := by decide +kernel
theorem d_Mo_loop_59 : decode prog_8_method_45_code 59 = .ok (.iconst 1, 1) := by decide +kernel
theorem d_Mo_loop_60 : decode prog_8_method_45_code 60 = .ok (.istore_n 1, 1) := by decide +kernel
theorem d_Mo_loop_61 : decode prog_8_method_45_code 61 = .ok (.iinc 2 1, 3) := by decide +kernel
theorem d_Mo_loop_64 : decode prog_8_method_45_code 64 = .ok (.goto (-55), 3) := by decide +kernel
theorem d_Mo_loop_67 : decode prog_8_method_45_code 67 = .ok (.iload_n 1, 1) := by decide +kernel
theorem d_Mo_loop_68 : decode prog_8_method_45_code 68 = .ok (.ireturn, 1) := by decide +kernel
theorem d_Mo_best_0 : decode prog_8_method_46_code 0 = .ok (.aload_n 0, 1) := by decide +kernel
theorem d_Mo_best_1 : decode prog_8_method_46_code 1 = .ok (.aload_n 0, 1) := by decide +kernel
theorem d_Mo_best_2 : decode prog_8_method_46_code 2 = .ok (.iload_n 1, 1) := by decide +kernel
theorem d_Mo_best_3 : decode prog_8_method_46_code 3 = .ok (.invokevirtual 149, 3) := by decide +kernel
theorem d_Mo_best_6 : decode prog_8_method_46_code 6 = .ok (.ifCond .eq 7, 3) := by decide +kernel
theorem d_Mo_best_9 : decode prog_8_method_46_code 9 = .ok (.iconst 1, 1) := by decide +kernel
theorem d_Mo_best_10 : decode prog_8_method_46_code 10 = .ok (.goto 4, 3) := by decide +kernel
theorem d_Mo_best_13 : decode prog_8_method_46_code 13 = .ok (.iconst 0, 1) := by decide +kernel
theorem d_Mo_best_14 : decode prog_8_method_46_code 14 = .ok (.putfield 7, 3) := by decide +kernel
theorem d_Mo_best_17 : decode prog_8_method_46_code 17 = .ok (.aload_n 0, 1) := by decide +kernel
theorem d_Mo_best_18 : decode prog_8_method_46_code 18 = .ok (.getfield 7, 3) := by decide +kernel
theorem d_Mo_best_21 : decode prog_8_method_46_code 21 = .ok (.ifCond .eq 7, 3) := by decide +kernel
theorem d_Mo_best_24 : decode prog_8_method_46_code 24 = .ok (.iconst 0, 1) := by decide +kernel
theorem d_Mo_best_25 : decode prog_8_method_46_code 25 = .ok (.goto 8, 3) := by decide +kernel
theorem d_Mo_best_28 : decode prog_8_method_46_code 28 = .ok (.aload_n 0, 1) := by decide +kernel
theorem d_Mo_best_29 : decode prog_8_method_46_code 29 = .ok (.iload_n 1, 1) := by decide +kernel
theorem d_Mo_best_30 : decode prog_8_method_46_code 30 = .ok (.invokevirtual 142, 3) := by decide +kernel
theorem d_Mo_best_33 : decode prog_8_method_46_code 33 = .ok (.ireturn, 1) := by decide +kernel
theorem d_Mo_bestFor_0 : decode prog_8_method_20_code 0 = .ok (.aload_n 0, 1) := by decide +kernel
theorem d_Mo_bestFor_1 : decode prog_8_method_20_code 1 = .ok (.iload_n 1, 1) := by decide +kernel
theorem d_Mo_bestFor_2 : decode prog_8_method_20_code 2 = .ok (.invokevirtual 93, 3) := by decide +kernel
theorem d_Mo_bestFor_5 : decode prog_8_method_20_code 5 = .ok (.ifCond .ne 6, 3) := by decide +kernel
theorem d_Mo_bestFor_8 : decode prog_8_method_20_code 8 = .ok (.bipush 7, 2) := by decide +kernel
theorem d_Mo_bestFor_10 : decode prog_8_method_20_code 10 = .ok (.ireturn, 1) := by decide +kernel
theorem d_Mo_bestFor_11 : decode prog_8_method_20_code 11 = .ok (.aload_n 0, 1) := by decide +kernel
theorem d_Mo_bestFor_12 : decode prog_8_method_20_code 12 = .ok (.iload_n 1, 1) := by decide +kernel
theorem d_Mo_bestFor_13 : decode prog_8_method_20_code 13 = .ok (.invokevirtual 136, 3) := by decide +kernel
theorem d_Mo_bestFor_16 : decode prog_8_method_20_code 16 = .ok (.istore_n 2, 1) := by decide +kernel
theorem d_Mo_bestFor_17 : decode prog_8_method_20_code 17 = .ok (.bipush 7, 2) := by decide +kernel
theorem d_Mo_bestFor_19 : decode prog_8_method_20_code 19 = .ok (.istore_n 3, 1) := by decide +kernel
theorem d_Mo_bestFor_20 : decode prog_8_method_20_code 20 = .ok (.iconst 0, 1) := by decide +kernel
theorem d_Mo_bestFor_21 : decode prog_8_method_20_code 21 = .ok (.istore 4, 2) := by decide +kernel
theorem d_Mo_bestFor_23 : decode prog_8_method_20_code 23 = .ok (.iload 4, 2) := by decide +kernel
theorem d_Mo_bestFor_25 : decode prog_8_method_20_code 25 = .ok (.bipush 64, 2) := by decide +kernel
theorem d_Mo_bestFor_27 : decode prog_8_method_20_code 27 = .ok (.if_icmp .ge 50, 3) := by decide +kernel
theorem d_Mo_bestFor_30 : decode prog_8_method_20_code 30 = .ok (.iload_n 2, 1) := by decide +kernel
theorem d_Mo_bestFor_31 : decode prog_8_method_20_code 31 = .ok (.iload 4, 2) := by decide +kernel
theorem d_Mo_bestFor_33 : decode prog_8_method_20_code 33 = .ok (.iconst 4, 1) := by decide +kernel
theorem d_Mo_bestFor_34 : decode prog_8_method_20_code 34 = .ok (.idiv, 1) := by decide +kernel
theorem d_Mo_bestFor_35 : decode prog_8_method_20_code 35 = .ok (.ishr, 1) := by decide +kernel
theorem d_Mo_bestFor_36 : decode prog_8_method_20_code 36 = .ok (.iconst 1, 1) := by decide +kernel
theorem d_Mo_bestFor_37 : decode prog_8_method_20_code 37 = .ok (.iand, 1) := by decide +kernel
theorem d_Mo_bestFor_38 : decode prog_8_method_20_code 38 = .ok (.iconst 1, 1) := by decide +kernel
theorem d_Mo_bestFor_39 : decode prog_8_method_20_code 39 = .ok (.if_icmp .ne 32, 3) := by decide +kernel
theorem d_Mo_bestFor_42 : decode prog_8_method_20_code 42 = .ok (.aload_n 0, 1) := by decide +kernel
theorem d_Mo_bestFor_43 : decode prog_8_method_20_code 43 = .ok (.getfield 40, 3) := by decide +kernel
theorem d_Mo_bestFor_46 : decode prog_8_method_20_code 46 = .ok (.iload 4, 2) := by decide +kernel
theorem d_Mo_bestFor_48 : decode prog_8_method_20_code 48 = .ok (.iaload, 1) := by decide +kernel
theorem d_Mo_bestFor_49 : decode prog_8_method_20_code 49 = .ok (.ifCond .lt 22, 3) := by decide +kernel
theorem d_Mo_bestFor_52 : decode prog_8_method_20_code 52 = .ok (.aload_n 0, 1) := by decide +kernel
theorem d_Mo_bestFor_53 : decode prog_8_method_20_code 53 = .ok (.getfield 40, 3) := by decide +kernel
theorem d_Mo_bestFor_56 : decode prog_8_method_20_code 56 = .ok (.iload 4, 2) := by decide +kernel
theorem d_Mo_bestFor_58 : decode prog_8_method_20_code 58 = .ok (.iaload, 1) := by decide +kernel
theorem d_Mo_bestFor_59 : decode prog_8_method_20_code 59 = .ok (.iload_n 3, 1) := by decide +kernel
theorem d_Mo_bestFor_60 : decode prog_8_method_20_code 60 = .ok (.if_icmp .ge 11, 3) := by decide +kernel
theorem d_Mo_bestFor_63 : decode prog_8_method_20_code 63 = .ok (.aload_n 0, 1) := by decide +kernel
theorem d_Mo_bestFor_64 : decode prog_8_method_20_code 64 = .ok (.getfield 40, 3) := by decide +kernel
theorem d_Mo_bestFor_67 : decode prog_8_method_20_code 67 = .ok (.iload 4, 2) := by decide +kernel
theorem d_Mo_bestFor_69 : decode prog_8_method_20_code 69 = .ok (.iaload, 1) := by decide +kernel
theorem d_Mo_bestFor_70 : decode prog_8_method_20_code 70 = .ok (.istore_n 3, 1) := by decide +kernel
theorem d_Mo_bestFor_71 : decode prog_8_method_20_code 71 = .ok (.iinc 4 1, 3) := by decide +kernel
theorem d_Mo_bestFor_74 : decode prog_8_method_20_code 74 = .ok (.goto (-51), 3) := by decide +kernel
theorem d_Mo_bestFor_77 : decode prog_8_method_20_code 77 = .ok (.iload_n 3, 1) := by decide +kernel
theorem d_Mo_bestFor_78 : decode prog_8_method_20_code 78 = .ok (.ireturn, 1) := by decide +kernel
theorem d_Mo_reached_0 : decode prog_8_method_19_code 0 = .ok (.iconst 1, 1) := by decide +kernel
theorem d_Mo_reached_1 : decode prog_8_method_19_code 1 = .ok (.iload_n 1, 1) := by decide +kernel
theorem d_Mo_reached_2 : decode prog_8_method_19_code 2 = .ok (.ishl, 1) := by decide +kernel
theorem d_Mo_reached_3 : decode prog_8_method_19_code 3 = .ok (.istore_n 2, 1) := by decide +kernel
theorem d_Mo_reached_4 : decode prog_8_method_19_code 4 = .ok (.iconst 0, 1) := by decide +kernel
theorem d_Mo_reached_5 : decode prog_8_method_19_code 5 = .ok (.istore_n 3, 1) := by decide +kernel
theorem d_Mo_reached_6 : decode prog_8_method_19_code 6 = .ok (.iload_n 3, 1) := by decide +kernel
theorem d_Mo_reached_7 : decode prog_8_method_19_code 7 = .ok (.iload_n 2, 1) := by decide +kernel
theorem d_Mo_reached_8 : decode prog_8_method_19_code 8 = .ok (.if_icmp .eq 119, 3) := by decide +kernel
theorem d_Mo_reached_11 : decode prog_8_method_19_code 11 = .ok (.iload_n 2, 1) := by decide +kernel
theorem d_Mo_reached_12 : decode prog_8_method_19_code 12 = .ok (.istore_n 3, 1) := by decide +kernel
theorem d_Mo_reached_13 : decode prog_8_method_19_code 13 = .ok (.iconst 0, 1) := by decide +kernel
theorem d_Mo_reached_14 : decode prog_8_method_19_code 14 = .ok (.istore 4, 2) := by decide +kernel
theorem d_Mo_reached_16 : decode prog_8_method_19_code 16 = .ok (.iload 4, 2) := by decide +kernel
theorem d_Mo_reached_18 : decode prog_8_method_19_code 18 = .ok (.aload_n 0, 1) := by decide +kernel
theorem d_Mo_reached_19 : decode prog_8_method_19_code 19 = .ok (.getfield 55, 3) := by decide +kernel
theorem d_Mo_reached_22 : decode prog_8_method_19_code 22 = .ok (.if_icmp .ge 102, 3) := by decide +kernel
theorem d_Mo_reached_25 : decode prog_8_method_19_code 25 = .ok (.aload_n 0, 1) := by decide +kernel
theorem d_Mo_reached_26 : decode prog_8_method_19_code 26 = .ok (.getfield 58, 3) := by decide +kernel
theorem d_Mo_reached_29 : decode prog_8_method_19_code 29 = .ok (.iload 4, 2) := by decide +kernel
theorem d_Mo_reached_31 : decode prog_8_method_19_code 31 = .ok (.iaload, 1) := by decide +kernel
theorem d_Mo_reached_32 : decode prog_8_method_19_code 32 = .ok (.iconst 4, 1) := by decide +kernel
theorem d_Mo_reached_33 : decode prog_8_method_19_code 33 = .ok (.idiv, 1) := by decide +kernel
theorem d_Mo_reached_34 : decode prog_8_method_19_code 34 = .ok (.istore 5, 2) := by decide +kernel
theorem d_Mo_reached_36 : decode prog_8_method_19_code 36 = .ok (.aload_n 0, 1) := by decide +kernel
theorem d_Mo_reached_37 : decode prog_8_method_19_code 37 = .ok (.getfield 61, 3) := by decide +kernel
theorem d_Mo_reached_40 : decode prog_8_method_19_code 40 = .ok (.iload 4, 2) := by decide +kernel
theorem d_Mo_reached_42 : decode prog_8_method_19_code 42 = .ok (.iaload, 1) := by decide +kernel
theorem d_Mo_reached_43 : decode prog_8_method_19_code 43 = .ok (.iconst 4, 1) := by decide +kernel
theorem d_Mo_reached_44 : decode prog_8_method_19_code 44 = .ok (.idiv, 1) := by decide +kernel
theorem d_Mo_reached_45 : decode prog_8_method_19_code 45 = .ok (.istore 6, 2) := by decide +kernel
theorem d_Mo_reached_47 : decode prog_8_method_19_code 47 = .ok (.aload_n 0, 1) := by decide +kernel
theorem d_Mo_reached_48 : decode prog_8_method_19_code 48 = .ok (.getfield 64, 3) := by decide +kernel
theorem d_Mo_reached_51 : decode prog_8_method_19_code 51 = .ok (.sipush 688, 3) := by decide +kernel
theorem d_Mo_reached_54 : decode prog_8_method_19_code 54 = .ok (.iload 4, 2) := by decide +kernel
theorem d_Mo_reached_56 : decode prog_8_method_19_code 56 = .ok (.iadd, 1) := by decide +kernel
theorem d_Mo_reached_57 : decode prog_8_method_19_code 57 = .ok (.iaload, 1) := by decide +kernel
theorem d_Mo_reached_58 : decode prog_8_method_19_code 58 = .ok (.ifCond .ne 25, 3) := by decide +kernel
theorem d_Mo_reached_61 : decode prog_8_method_19_code 61 = .ok (.aload_n 0, 1) := by decide +kernel
theorem d_Mo_reached_62 : decode prog_8_method_19_code 62 = .ok (.iload 5, 2) := by decide +kernel
theorem d_Mo_reached_64 : decode prog_8_method_19_code 64 = .ok (.invokevirtual 93, 3) := by decide +kernel
theorem d_Mo_reached_67 : decode prog_8_method_19_code 67 = .ok (.ifCond .eq 16, 3) := by decide +kernel
theorem d_Mo_reached_70 : decode prog_8_method_19_code 70 = .ok (.aload_n 0, 1) := by decide +kernel
theorem d_Mo_reached_71 : decode prog_8_method_19_code 71 = .ok (.iload 6, 2) := by decide +kernel
theorem d_Mo_reached_73 : decode prog_8_method_19_code 73 = .ok (.invokevirtual 93, 3) := by decide +kernel
theorem d_Mo_reached_76 : decode prog_8_method_19_code 76 = .ok (.ifCond .eq 7, 3) := by decide +kernel
theorem d_Mo_reached_79 : decode prog_8_method_19_code 79 = .ok (.iconst 1, 1) := by decide +kernel
theorem d_Mo_reached_80 : decode prog_8_method_19_code 80 = .ok (.goto 4, 3) := by decide +kernel
theorem d_Mo_reached_83 : decode prog_8_method_19_code 83 = .ok (.iconst 0, 1) := by decide +kernel
theorem d_Mo_reached_84 : decode prog_8_method_19_code 84 = .ok (.istore 7, 2) := by decide +kernel
theorem d_Mo_reached_86 : decode prog_8_method_19_code 86 = .ok (.iload 7, 2) := by decide +kernel
theorem d_Mo_reached_88 : decode prog_8_method_19_code 88 = .ok (.ifCond .eq 30, 3) := by decide +kernel
theorem d_Mo_reached_91 : decode prog_8_method_19_code 91 = .ok (.iload_n 2, 1) := by decide +kernel
theorem d_Mo_reached_92 : decode prog_8_method_19_code 92 = .ok (.iload 5, 2) := by decide +kernel
theorem d_Mo_reached_94 : decode prog_8_method_19_code 94 = .ok (.ishr, 1) := by decide +kernel
theorem d_Mo_reached_95 : decode prog_8_method_19_code 95 = .ok (.iload_n 2, 1) := by decide +kernel
theorem d_Mo_reached_96 : decode prog_8_method_19_code 96 = .ok (.iload 6, 2) := by decide +kernel
theorem d_Mo_reached_98 : decode prog_8_method_19_code 98 = .ok (.ishr, 1) := by decide +kernel
theorem d_Mo_reached_99 : decode prog_8_method_19_code 99 = .ok (.ior, 1) := by decide +kernel
theorem d_Mo_reached_100 : decode prog_8_method_19_code 100 = .ok (.iconst 1, 1) := by decide +kernel
theorem d_Mo_reached_101 : decode prog_8_method_19_code 101 = .ok (.iand, 1) := by decide +kernel
theorem d_Mo_reached_102 : decode prog_8_method_19_code 102 = .ok (.iconst 1, 1) := by decide +kernel
theorem d_Mo_reached_103 : decode prog_8_method_19_code 103 = .ok (.if_icmp .ne 15, 3) := by decide +kernel
theorem d_Mo_reached_106 : decode prog_8_method_19_code 106 = .ok (.iload_n 2, 1) := by decide +kernel
theorem d_Mo_reached_107 : decode prog_8_method_19_code 107 = .ok (.iconst 1, 1) := by decide +kernel
theorem d_Mo_reached_108 : decode prog_8_method_19_code 108 = .ok (.iload 5, 2) := by decide +kernel
theorem d_Mo_reached_110 : decode prog_8_method_19_code 110 = .ok (.ishl, 1) := by decide +kernel
theorem d_Mo_reached_111 : decode prog_8_method_19_code 111 = .ok (.ior, 1) := by decide +kernel
theorem d_Mo_reached_112 : decode prog_8_method_19_code 112 = .ok (.iconst 1, 1) := by decide +kernel
theorem d_Mo_reached_113 : decode prog_8_method_19_code 113 = .ok (.iload 6, 2) := by decide +kernel
theorem d_Mo_reached_115 : decode prog_8_method_19_code 115 = .ok (.ishl, 1) := by decide +kernel
theorem d_Mo_reached_116 : decode prog_8_method_19_code 116 = .ok (.ior, 1) := by decide +kernel
theorem d_Mo_reached_117 : decode prog_8_method_19_code 117 = .ok (.istore_n 2, 1) := by decide +kernel
theorem d_Mo_reached_118 : decode prog_8_method_19_code 118 = .ok (.iinc 4 1, 3) := by decide +kernel
theorem d_Mo_reached_121 : decode prog_8_method_19_code 121 = .ok (.goto (-105), 3) := by decide +kernel
theorem d_Mo_reached_124 : decode prog_8_method_19_code 124 = .ok (.goto (-118), 3) := by decide +kernel
theorem d_Mo_reached_127 : decode prog_8_method_19_code 127 = .ok (.iload_n 2, 1) := by decide +kernel
theorem d_Mo_reached_128 : decode prog_8_method_19_code 128 = .ok (.ireturn, 1) := by decide +kernel
theorem d_Mo_check_0 : decode prog_8_method_47_code 0 = .ok (.aload_n 0, 1) := by decide +kernel
theorem d_Mo_check_1 : decode prog_8_method_47_code 1 = .ok (.iconst 0, 1) := by decide +kernel
theorem d_Mo_check_2 : decode prog_8_method_47_code 2 = .ok (.putfield 7, 3) := by decide +kernel
theorem d_Mo_check_5 : decode prog_8_method_47_code 5 = .ok (.aload_n 0, 1) := by decide +kernel
theorem d_Mo_check_6 : decode prog_8_method_47_code 6 = .ok (.iconst 0, 1) := by decide +kernel
theorem d_Mo_check_7 : decode prog_8_method_47_code 7 = .ok (.putfield 80, 3) := by decide +kernel
theorem d_Mo_check_10 : decode prog_8_method_47_code 10 = .ok (.aload_n 0, 1) := by decide +kernel
theorem d_Mo_check_11 : decode prog_8_method_47_code 11 = .ok (.iconst 0, 1) := by decide +kernel
theorem d_Mo_check_12 : decode prog_8_method_47_code 12 = .ok (.invokevirtual 145, 3) := by decide +kernel
theorem d_Mo_check_15 : decode prog_8_method_47_code 15 = .ok (.iconst 0, 1) := by decide +kernel
theorem d_Mo_check_16 : decode prog_8_method_47_code 16 = .ok (.istore_n 1, 1) := by decide +kernel
theorem d_Mo_check_17 : decode prog_8_method_47_code 17 = .ok (.iload_n 1, 1) := by decide +kernel
theorem d_Mo_check_18 : decode prog_8_method_47_code 18 = .ok (.aload_n 0, 1) := by decide +kernel
theorem d_Mo_check_19 : decode prog_8_method_47_code 19 = .ok (.getfield 55, 3) := by decide +kernel
theorem d_Mo_check_22 : decode prog_8_method_47_code 22 = .ok (.if_icmp .ge 38, 3) := by decide +kernel
theorem d_Mo_check_25 : decode prog_8_method_47_code 25 = .ok (.aload_n 0, 1) := by decide +kernel
theorem d_Mo_check_26 : decode prog_8_method_47_code 26 = .ok (.getfield 64, 3) := by decide +kernel
theorem d_Mo_check_29 : decode prog_8_method_47_code 29 = .ok (.sipush 688, 3) := by decide +kernel
theorem d_Mo_check_32 : decode prog_8_method_47_code 32 = .ok (.iload_n 1, 1) := by decide +kernel
theorem d_Mo_check_33 : decode prog_8_method_47_code 33 = .ok (.iadd, 1) := by decide +kernel
theorem d_Mo_check_34 : decode prog_8_method_47_code 34 = .ok (.iaload, 1) := by decide +kernel
theorem d_Mo_check_35 : decode prog_8_method_47_code 35 = .ok (.ifCond .ne 19, 3) := by decide +kernel
theorem d_Mo_check_38 : decode prog_8_method_47_code 38 = .ok (.aload_n 0, 1) := by decide +kernel
theorem d_Mo_check_39 : decode prog_8_method_47_code 39 = .ok (.getfield 64, 3) := by decide +kernel
theorem d_Mo_check_42 : decode prog_8_method_47_code 42 = .ok (.sipush 688, 3) := by decide +kernel
theorem d_Mo_check_45 : decode prog_8_method_47_code 45 = .ok (.iload_n 1, 1) := by decide +kernel
theorem d_Mo_check_46 : decode prog_8_method_47_code 46 = .ok (.iadd, 1) := by decide +kernel
theorem d_Mo_check_47 : decode prog_8_method_47_code 47 = .ok (.iconst 1, 1) := by decide +kernel
theorem d_Mo_check_48 : decode prog_8_method_47_code 48 = .ok (.iastore, 1) := by decide +kernel
theorem d_Mo_check_49 : decode prog_8_method_47_code 49 = .ok (.aload_n 0, 1) := by decide +kernel
theorem d_Mo_check_50 : decode prog_8_method_47_code 50 = .ok (.iload_n 1, 1) := by decide +kernel
theorem d_Mo_check_51 : decode prog_8_method_47_code 51 = .ok (.invokevirtual 167, 3) := by decide +kernel
theorem d_Mo_check_54 : decode prog_8_method_47_code 54 = .ok (.iinc 1 1, 3) := by decide +kernel
theorem d_Mo_check_57 : decode prog_8_method_47_code 57 = .ok (.goto (-40), 3) := by decide +kernel
theorem d_Mo_check_60 : decode prog_8_method_47_code 60 = .ok (.iconst 0, 1) := by decide +kernel
theorem d_Mo_check_61 : decode prog_8_method_47_code 61 = .ok (.istore_n 1, 1) := by decide +kernel
theorem d_Mo_check_62 : decode prog_8_method_47_code 62 = .ok (.iload_n 1, 1) := by decide +kernel
theorem d_Mo_check_63 : decode prog_8_method_47_code 63 = .ok (.bipush 16, 2) := by decide +kernel
theorem d_Mo_check_65 : decode prog_8_method_47_code 65 = .ok (.if_icmp .ge 30, 3) := by decide +kernel
theorem d_Mo_check_68 : decode prog_8_method_47_code 68 = .ok (.aload_n 0, 1) := by decide +kernel
theorem d_Mo_check_69 : decode prog_8_method_47_code 69 = .ok (.iload_n 1, 1) := by decide +kernel
theorem d_Mo_check_70 : decode prog_8_method_47_code 70 = .ok (.invokevirtual 93, 3) := by decide +kernel
theorem d_Mo_check_73 : decode prog_8_method_47_code 73 = .ok (.ifCond .eq 16, 3) := by decide +kernel
theorem d_Mo_check_76 : decode prog_8_method_47_code 76 = .ok (.aload_n 0, 1) := by decide +kernel
theorem d_Mo_check_77 : decode prog_8_method_47_code 77 = .ok (.iload_n 1, 1) := by decide +kernel
theorem d_Mo_check_78 : decode prog_8_method_47_code 78 = .ok (.invokevirtual 158, 3) := by decide +kernel
theorem d_Mo_check_81 : decode prog_8_method_47_code 81 = .ok (.aload_n 0, 1) := by decide +kernel
theorem d_Mo_check_82 : decode prog_8_method_47_code 82 = .ok (.bipush 100, 2) := by decide +kernel
theorem d_Mo_check_84 : decode prog_8_method_47_code 84 = .ok (.iload_n 1, 1) := by decide +kernel
theorem d_Mo_check_85 : decode prog_8_method_47_code 85 = .ok (.iadd, 1) := by decide +kernel
theorem d_Mo_check_86 : decode prog_8_method_47_code 86 = .ok (.invokevirtual 167, 3) := by decide +kernel
theorem d_Mo_check_89 : decode prog_8_method_47_code 89 = .ok (.iinc 1 1, 3) := by decide +kernel
theorem d_Mo_check_92 : decode prog_8_method_47_code 92 = .ok (.goto (-30), 3) := by decide +kernel
theorem d_Mo_check_95 : decode prog_8_method_47_code 95 = .ok (.aload_n 0, 1) := by decide +kernel
theorem d_Mo_check_96 : decode prog_8_method_47_code 96 = .ok (.getfield 80, 3) := by decide +kernel
theorem d_Mo_check_99 : decode prog_8_method_47_code 99 = .ok (.ireturn, 1) := by decide +kernel
theorem d_Mo_keep_0 : decode prog_8_method_22_code 0 = .ok (.iconst 0, 1) := by decide +kernel
theorem d_Mo_keep_1 : decode prog_8_method_22_code 1 = .ok (.istore_n 2, 1) := by decide +kernel
theorem d_Mo_keep_2 : decode prog_8_method_22_code 2 = .ok (.iload_n 2, 1) := by decide +kernel
theorem d_Mo_keep_3 : decode prog_8_method_22_code 3 = .ok (.sipush 762, 3) := by decide +kernel
theorem d_Mo_keep_6 : decode prog_8_method_22_code 6 = .ok (.if_icmp .ge 40, 3) := by decide +kernel
theorem d_Mo_keep_9 : decode prog_8_method_22_code 9 = .ok (.iload_n 1, 1) := by decide +kernel
theorem d_Mo_keep_10 : decode prog_8_method_22_code 10 = .ok (.ifCond .eq 18, 3) := by decide +kernel
theorem d_Mo_keep_13 : decode prog_8_method_22_code 13 = .ok (.aload_n 0, 1) := by decide +kernel
theorem d_Mo_keep_14 : decode prog_8_method_22_code 14 = .ok (.getfield 64, 3) := by decide +kernel
theorem d_Mo_keep_17 : decode prog_8_method_22_code 17 = .ok (.iload_n 2, 1) := by decide +kernel
theorem d_Mo_keep_18 : decode prog_8_method_22_code 18 = .ok (.aload_n 0, 1) := by decide +kernel
theorem d_Mo_keep_19 : decode prog_8_method_22_code 19 = .ok (.getfield 67, 3) := by decide +kernel
theorem d_Mo_keep_22 : decode prog_8_method_22_code 22 = .ok (.iload_n 2, 1) := by decide +kernel
theorem d_Mo_keep_23 : decode prog_8_method_22_code 23 = .ok (.iaload, 1) := by decide +kernel
theorem d_Mo_keep_24 : decode prog_8_method_22_code 24 = .ok (.iastore, 1) := by decide +kernel
theorem d_Mo_keep_25 : decode prog_8_method_22_code 25 = .ok (.goto 15, 3) := by decide +kernel
theorem d_Mo_keep_28 : decode prog_8_method_22_code 28 = .ok (.aload_n 0, 1) := by decide +kernel
theorem d_Mo_keep_29 : decode prog_8_method_22_code 29 = .ok (.getfield 67, 3) := by decide +kernel
theorem d_Mo_keep_32 : decode prog_8_method_22_code 32 = .ok (.iload_n 2, 1) := by decide +kernel
theorem d_Mo_keep_33 : decode prog_8_method_22_code 33 = .ok (.aload_n 0, 1) := by decide +kernel
theorem d_Mo_keep_34 : decode prog_8_method_22_code 34 = .ok (.getfield 64, 3) := by decide +kernel
theorem d_Mo_keep_37 : decode prog_8_method_22_code 37 = .ok (.iload_n 2, 1) := by decide +kernel
theorem d_Mo_keep_38 : decode prog_8_method_22_code 38 = .ok (.iaload, 1) := by decide +kernel
theorem d_Mo_keep_39 : decode prog_8_method_22_code 39 = .ok (.iastore, 1) := by decide +kernel
theorem d_Mo_keep_40 : decode prog_8_method_22_code 40 = .ok (.iinc 2 1, 3) := by decide +kernel
theorem d_Mo_keep_43 : decode prog_8_method_22_code 43 = .ok (.goto (-41), 3) := by decide +kernel
theorem d_Mo_keep_46 : decode prog_8_method_22_code 46 = .ok (.iconst 0, 1) := by decide +kernel
theorem d_Mo_keep_47 : decode prog_8_method_22_code 47 = .ok (.istore_n 2, 1) := by decide +kernel
theorem d_Mo_keep_48 : decode prog_8_method_22_code 48 = .ok (.iload_n 2, 1) := by decide +kernel
theorem d_Mo_keep_49 : decode prog_8_method_22_code 49 = .ok (.bipush 16, 2) := by decide +kernel
theorem d_Mo_keep_51 : decode prog_8_method_22_code 51 = .ok (.if_icmp .ge 40, 3) := by decide +kernel
theorem d_Mo_keep_54 : decode prog_8_method_22_code 54 = .ok (.iload_n 1, 1) := by decide +kernel
theorem d_Mo_keep_55 : decode prog_8_method_22_code 55 = .ok (.ifCond .eq 18, 3) := by decide +kernel
theorem d_Mo_keep_58 : decode prog_8_method_22_code 58 = .ok (.aload_n 0, 1) := by decide +kernel
theorem d_Mo_keep_59 : decode prog_8_method_22_code 59 = .ok (.getfield 70, 3) := by decide +kernel
theorem d_Mo_keep_62 : decode prog_8_method_22_code 62 = .ok (.iload_n 2, 1) := by decide +kernel
theorem d_Mo_keep_63 : decode prog_8_method_22_code 63 = .ok (.aload_n 0, 1) := by decide +kernel
theorem d_Mo_keep_64 : decode prog_8_method_22_code 64 = .ok (.getfield 74, 3) := by decide +kernel
theorem d_Mo_keep_67 : decode prog_8_method_22_code 67 = .ok (.iload_n 2, 1) := by decide +kernel
theorem d_Mo_keep_68 : decode prog_8_method_22_code 68 = .ok (.laload, 1) := by decide +kernel
theorem d_Mo_keep_69 : decode prog_8_method_22_code 69 = .ok (.lastore, 1) := by decide +kernel
theorem d_Mo_keep_70 : decode prog_8_method_22_code 70 = .ok (.goto 15, 3) := by decide +kernel
theorem d_Mo_keep_73 : decode prog_8_method_22_code 73 = .ok (.aload_n 0, 1) := by decide +kernel
theorem d_Mo_keep_74 : decode prog_8_method_22_code 74 = .ok (.getfield 74, 3) := by decide +kernel
theorem d_Mo_keep_77 : decode prog_8_method_22_code 77 = .ok (.iload_n 2, 1) := by decide +kernel
theorem d_Mo_keep_78 : decode prog_8_method_22_code 78 = .ok (.aload_n 0, 1) := by decide +kernel
theorem d_Mo_keep_79 : decode prog_8_method_22_code 79 = .ok (.getfield 70, 3) := by decide +kernel
theorem d_Mo_keep_82 : decode prog_8_method_22_code 82 = .ok (.iload_n 2, 1) := by decide +kernel
theorem d_Mo_keep_83 : decode prog_8_method_22_code 83 = .ok (.laload, 1) := by decide +kernel
theorem d_Mo_keep_84 : decode prog_8_method_22_code 84 = .ok (.lastore, 1) := by decide +kernel
theorem d_Mo_keep_85 : decode prog_8_method_22_code 85 = .ok (.iinc 2 1, 3) := by decide +kernel
theorem d_Mo_keep_88 : decode prog_8_method_22_code 88 = .ok (.goto (-40), 3) := by decide +kernel
theorem d_Mo_keep_91 : decode prog_8_method_22_code 91 = .ok (.return_, 1) := by decide +kernel
theorem d_Mo_goOn_0 : decode prog_8_method_23_code 0 = .ok (.iconst 0, 1) := by decide +kernel
theorem d_Mo_goOn_1 : decode prog_8_method_23_code 1 = .ok (.istore_n 2, 1) := by decide +kernel
theorem d_Mo_goOn_2 : decode prog_8_method_23_code 2 = .ok (.iconst 0, 1) := by decide +kernel
theorem d_Mo_goOn_3 : decode prog_8_method_23_code 3 = .ok (.istore_n 3, 1) := by decide +kernel
theorem d_Mo_goOn_4 : decode prog_8_method_23_code 4 = .ok (.iload_n 3, 1) := by decide +kernel
theorem d_Mo_goOn_5 : decode prog_8_method_23_code 5 = .ok (.bipush 16, 2) := by decide +kernel
theorem d_Mo_goOn_7 : decode prog_8_method_23_code 7 = .ok (.if_icmp .ge 35, 3) := by decide +kernel
theorem d_Mo_goOn_10 : decode prog_8_method_23_code 10 = .ok (.aload_n 0, 1) := by decide +kernel
theorem d_Mo_goOn_11 : decode prog_8_method_23_code 11 = .ok (.getfield 17, 3) := by decide +kernel
theorem d_Mo_goOn_14 : decode prog_8_method_23_code 14 = .ok (.iload_n 3, 1) := by decide +kernel
theorem d_Mo_goOn_15 : decode prog_8_method_23_code 15 = .ok (.baload, 1) := by decide +kernel
theorem d_Mo_goOn_16 : decode prog_8_method_23_code 16 = .ok (.ifCond .eq 20, 3) := by decide +kernel
theorem d_Mo_goOn_19 : decode prog_8_method_23_code 19 = .ok (.aload_n 0, 1) := by decide +kernel
theorem d_Mo_goOn_20 : decode prog_8_method_23_code 20 = .ok (.getfield 31, 3) := by decide +kernel
theorem d_Mo_goOn_23 : decode prog_8_method_23_code 23 = .ok (.iload_n 3, 1) := by decide +kernel
theorem d_Mo_goOn_24 : decode prog_8_method_23_code 24 = .ok (.iaload, 1) := by decide +kernel
theorem d_Mo_goOn_25 : decode prog_8_method_23_code 25 = .ok (.iload_n 2, 1) := by decide +kernel
theorem d_Mo_goOn_26 : decode prog_8_method_23_code 26 = .ok (.if_icmp .le 10, 3) := by decide +kernel
theorem d_Mo_goOn_29 : decode prog_8_method_23_code 29 = .ok (.aload_n 0, 1) := by decide +kernel
theorem d_Mo_goOn_30 : decode prog_8_method_23_code 30 = .ok (.getfield 31, 3) := by decide +kernel
theorem d_Mo_goOn_33 : decode prog_8_method_23_code 33 = .ok (.iload_n 3, 1) := by decide +kernel
theorem d_Mo_goOn_34 : decode prog_8_method_23_code 34 = .ok (.iaload, 1) := by decide +kernel
theorem d_Mo_goOn_35 : decode prog_8_method_23_code 35 = .ok (.istore_n 2, 1) := by decide +kernel
theorem d_Mo_goOn_36 : decode prog_8_method_23_code 36 = .ok (.iinc 3 1, 3) := by decide +kernel
theorem d_Mo_goOn_39 : decode prog_8_method_23_code 39 = .ok (.goto (-35), 3) := by decide +kernel
theorem d_Mo_goOn_42 : decode prog_8_method_23_code 42 = .ok (.iconst 0, 1) := by decide +kernel
theorem d_Mo_goOn_43 : decode prog_8_method_23_code 43 = .ok (.istore_n 3, 1) := by decide +kernel
theorem d_Mo_goOn_44 : decode prog_8_method_23_code 44 = .ok (.iload_n 3, 1) := by decide +kernel
theorem d_Mo_goOn_45 : decode prog_8_method_23_code 45 = .ok (.iconst 4, 1) := by decide +kernel
theorem d_Mo_goOn_46 : decode prog_8_method_23_code 46 = .ok (.bipush 24, 2) := by decide +kernel
theorem d_Mo_goOn_48 : decode prog_8_method_23_code 48 = .ok (.iload_n 2, 1) := by decide +kernel
theorem d_Mo_goOn_49 : decode prog_8_method_23_code 49 = .ok (.iadd, 1) := by decide +kernel
theorem d_Mo_goOn_50 : decode prog_8_method_23_code 50 = .ok (.imul, 1) := by decide +kernel
theorem d_Mo_goOn_51 : decode prog_8_method_23_code 51 = .ok (.if_icmp .ge 13, 3) := by decide +kernel
theorem d_Mo_goOn_54 : decode prog_8_method_23_code 54 = .ok (.aload_n 0, 1) := by decide +kernel
theorem d_Mo_goOn_55 : decode prog_8_method_23_code 55 = .ok (.invokevirtual 139, 3) := by decide +kernel
theorem d_Mo_goOn_58 : decode prog_8_method_23_code 58 = .ok (.iinc 3 1, 3) := by decide +kernel
theorem d_Mo_goOn_61 : decode prog_8_method_23_code 61 = .ok (.goto (-17), 3) := by decide +kernel
theorem d_Mo_goOn_64 : decode prog_8_method_23_code 64 = .ok (.iconst 0, 1) := by decide +kernel
theorem d_Mo_goOn_65 : decode prog_8_method_23_code 65 = .ok (.istore_n 3, 1) := by decide +kernel
theorem d_Mo_goOn_66 : decode prog_8_method_23_code 66 = .ok (.iload_n 3, 1) := by decide +kernel
theorem d_Mo_goOn_67 : decode prog_8_method_23_code 67 = .ok (.bipush 16, 2) := by decide +kernel
theorem d_Mo_goOn_69 : decode prog_8_method_23_code 69 = .ok (.if_icmp .ge 80, 3) := by decide +kernel
theorem d_Mo_goOn_72 : decode prog_8_method_23_code 72 = .ok (.aload_n 0, 1) := by decide +kernel
theorem d_Mo_goOn_73 : decode prog_8_method_23_code 73 = .ok (.iload_n 3, 1) := by decide +kernel
theorem d_Mo_goOn_74 : decode prog_8_method_23_code 74 = .ok (.invokevirtual 93, 3) := by decide +kernel
theorem d_Mo_goOn_77 : decode prog_8_method_23_code 77 = .ok (.ifCond .eq 66, 3) := by decide +kernel
theorem d_Mo_goOn_80 : decode prog_8_method_23_code 80 = .ok (.aload_n 0, 1) := by decide +kernel
theorem d_Mo_goOn_81 : decode prog_8_method_23_code 81 = .ok (.getfield 64, 3) := by decide +kernel
theorem d_Mo_goOn_84 : decode prog_8_method_23_code 84 = .ok (.sipush 512, 3) := by decide +kernel
theorem d_Mo_goOn_87 : decode prog_8_method_23_code 87 = .ok (.iload_n 3, 1) := by decide +kernel
theorem d_Mo_goOn_88 : decode prog_8_method_23_code 88 = .ok (.iadd, 1) := by decide +kernel
theorem d_Mo_goOn_89 : decode prog_8_method_23_code 89 = .ok (.iaload, 1) := by decide +kernel
theorem d_Mo_goOn_90 : decode prog_8_method_23_code 90 = .ok (.iconst 1, 1) := by decide +kernel
theorem d_Mo_goOn_91 : decode prog_8_method_23_code 91 = .ok (.if_icmp .eq 52, 3) := by decide +kernel
theorem d_Mo_goOn_94 : decode prog_8_method_23_code 94 = .ok (.aload_n 0, 1) := by decide +kernel
theorem d_Mo_goOn_95 : decode prog_8_method_23_code 95 = .ok (.iload_n 3, 1) := by decide +kernel
theorem d_Mo_goOn_96 : decode prog_8_method_23_code 96 = .ok (.invokevirtual 142, 3) := by decide +kernel
theorem d_Mo_goOn_99 : decode prog_8_method_23_code 99 = .ok (.bipush 7, 2) := by decide +kernel
theorem d_Mo_goOn_101 : decode prog_8_method_23_code 101 = .ok (.if_icmp .ge 42, 3) := by decide +kernel
theorem d_Mo_goOn_104 : decode prog_8_method_23_code 104 = .ok (.aload_n 0, 1) := by decide +kernel
theorem d_Mo_goOn_105 : decode prog_8_method_23_code 105 = .ok (.getfield 80, 3) := by decide +kernel
theorem d_Mo_goOn_108 : decode prog_8_method_23_code 108 = .ok (.bipush 100, 2) := by decide +kernel
theorem d_Mo_goOn_110 : decode prog_8_method_23_code 110 = .ok (.if_icmp .ge 33, 3) := by decide +kernel
theorem d_Mo_goOn_113 : decode prog_8_method_23_code 113 = .ok (.aload_n 0, 1) := by decide +kernel
theorem d_Mo_goOn_114 : decode prog_8_method_23_code 114 = .ok (.getfield 83, 3) := by decide +kernel
theorem d_Mo_goOn_117 : decode prog_8_method_23_code 117 = .ok (.aload_n 0, 1) := by decide +kernel
theorem d_Mo_goOn_118 : decode prog_8_method_23_code 118 = .ok (.getfield 80, 3) := by decide +kernel
theorem d_Mo_goOn_121 : decode prog_8_method_23_code 121 = .ok (.iload_n 1, 1) := by decide +kernel
theorem d_Mo_goOn_122 : decode prog_8_method_23_code 122 = .ok (.iastore, 1) := by decide +kernel
theorem d_Mo_goOn_123 : decode prog_8_method_23_code 123 = .ok (.aload_n 0, 1) := by decide +kernel
theorem d_Mo_goOn_124 : decode prog_8_method_23_code 124 = .ok (.getfield 86, 3) := by decide +kernel
theorem d_Mo_goOn_127 : decode prog_8_method_23_code 127 = .ok (.aload_n 0, 1) := by decide +kernel
theorem d_Mo_goOn_128 : decode prog_8_method_23_code 128 = .ok (.getfield 80, 3) := by decide +kernel
theorem d_Mo_goOn_131 : decode prog_8_method_23_code 131 = .ok (.iload_n 3, 1) := by decide +kernel
theorem d_Mo_goOn_132 : decode prog_8_method_23_code 132 = .ok (.iastore, 1) := by decide +kernel
theorem d_Mo_goOn_133 : decode prog_8_method_23_code 133 = .ok (.aload_n 0, 1) := by decide +kernel
theorem d_Mo_goOn_134 : decode prog_8_method_23_code 134 = .ok (.dup, 1) := by decide +kernel
theorem d_Mo_goOn_135 : decode prog_8_method_23_code 135 = .ok (.getfield 80, 3) := by decide +kernel
theorem d_Mo_goOn_138 : decode prog_8_method_23_code 138 = .ok (.iconst 1, 1) := by decide +kernel
theorem d_Mo_goOn_139 : decode prog_8_method_23_code 139 = .ok (.iadd, 1) := by decide +kernel
theorem d_Mo_goOn_140 : decode prog_8_method_23_code 140 = .ok (.putfield 80, 3) := by decide +kernel
theorem d_Mo_goOn_143 : decode prog_8_method_23_code 143 = .ok (.iinc 3 1, 3) := by decide +kernel
theorem d_Mo_goOn_146 : decode prog_8_method_23_code 146 = .ok (.goto (-80), 3) := by decide +kernel
theorem d_Mo_goOn_149 : decode prog_8_method_23_code 149 = .ok (.aload_n 0, 1) := by decide +kernel
theorem d_Mo_goOn_150 : decode prog_8_method_23_code 150 = .ok (.iconst 1, 1) := by decide +kernel
theorem d_Mo_goOn_151 : decode prog_8_method_23_code 151 = .ok (.invokevirtual 145, 3) := by decide +kernel
theorem d_Mo_goOn_154 : decode prog_8_method_23_code 154 = .ok (.return_, 1) := by decide +kernel
theorem d_Mo_finding_0 : decode prog_8_method_48_code 0 = .ok (.aload_n 0, 1) := by decide +kernel
theorem d_Mo_finding_1 : decode prog_8_method_48_code 1 = .ok (.iload_n 1, 1) := by decide +kernel
theorem d_Mo_finding_2 : decode prog_8_method_48_code 2 = .ok (.ifCond .lt 20, 3) := by decide +kernel
theorem d_Mo_finding_5 : decode prog_8_method_48_code 5 = .ok (.iload_n 1, 1) := by decide +kernel
theorem d_Mo_finding_6 : decode prog_8_method_48_code 6 = .ok (.aload_n 0, 1) := by decide +kernel
theorem d_Mo_finding_7 : decode prog_8_method_48_code 7 = .ok (.getfield 80, 3) := by decide +kernel
theorem d_Mo_finding_10 : decode prog_8_method_48_code 10 = .ok (.if_icmp .ge 12, 3) := by decide +kernel
theorem d_Mo_finding_13 : decode prog_8_method_48_code 13 = .ok (.iload_n 2, 1) := by decide +kernel
theorem d_Mo_finding_14 : decode prog_8_method_48_code 14 = .ok (.ifCond .lt 8, 3) := by decide +kernel
theorem d_Mo_finding_17 : decode prog_8_method_48_code 17 = .ok (.iload_n 2, 1) := by decide +kernel
theorem d_Mo_finding_18 : decode prog_8_method_48_code 18 = .ok (.iconst 1, 1) := by decide +kernel
theorem d_Mo_finding_19 : decode prog_8_method_48_code 19 = .ok (.if_icmp .le 7, 3) := by decide +kernel
theorem d_Mo_finding_22 : decode prog_8_method_48_code 22 = .ok (.iconst 1, 1) := by decide +kernel
theorem d_Mo_finding_23 : decode prog_8_method_48_code 23 = .ok (.goto 4, 3) := by decide +kernel
theorem d_Mo_finding_26 : decode prog_8_method_48_code 26 = .ok (.iconst 0, 1) := by decide +kernel
theorem d_Mo_finding_27 : decode prog_8_method_48_code 27 = .ok (.putfield 7, 3) := by decide +kernel
theorem d_Mo_finding_30 : decode prog_8_method_48_code 30 = .ok (.aload_n 0, 1) := by decide +kernel
theorem d_Mo_finding_31 : decode prog_8_method_48_code 31 = .ok (.getfield 7, 3) := by decide +kernel
theorem d_Mo_finding_34 : decode prog_8_method_48_code 34 = .ok (.ifCond .eq 7, 3) := by decide +kernel
theorem d_Mo_finding_37 : decode prog_8_method_48_code 37 = .ok (.iconst 0, 1) := by decide +kernel
theorem d_Mo_finding_38 : decode prog_8_method_48_code 38 = .ok (.goto 22, 3) := by decide +kernel
theorem d_Mo_finding_41 : decode prog_8_method_48_code 41 = .ok (.iload_n 2, 1) := by decide +kernel
theorem d_Mo_finding_42 : decode prog_8_method_48_code 42 = .ok (.ifCond .ne 12, 3) := by decide +kernel
theorem d_Mo_finding_45 : decode prog_8_method_48_code 45 = .ok (.aload_n 0, 1) := by decide +kernel
theorem d_Mo_finding_46 : decode prog_8_method_48_code 46 = .ok (.getfield 83, 3) := by decide +kernel
theorem d_Mo_finding_49 : decode prog_8_method_48_code 49 = .ok (.iload_n 1, 1) := by decide +kernel
theorem d_Mo_finding_50 : decode prog_8_method_48_code 50 = .ok (.iaload, 1) := by decide +kernel
theorem d_Mo_finding_51 : decode prog_8_method_48_code 51 = .ok (.goto 9, 3) := by decide +kernel
theorem d_Mo_finding_54 : decode prog_8_method_48_code 54 = .ok (.aload_n 0, 1) := by decide +kernel
theorem d_Mo_finding_55 : decode prog_8_method_48_code 55 = .ok (.getfield 86, 3) := by decide +kernel
theorem d_Mo_finding_58 : decode prog_8_method_48_code 58 = .ok (.iload_n 1, 1) := by decide +kernel
theorem d_Mo_finding_59 : decode prog_8_method_48_code 59 = .ok (.iaload, 1) := by decide +kernel
theorem d_Mo_finding_60 : decode prog_8_method_48_code 60 = .ok (.ireturn, 1) := by decide +kernel
end
section
section ZN
variable {X : zX} {G : zG} {cc : ByteArray} {nL a b pc : Nat} {own : String} {d : Room} {l : List (Nat × Value)} {st : List Value} {I : zI} {J : zJ}
theorem Z_iaddN {x y : Nat} (hX : zOk X G cc nL own d) (hd : decode cc pc = .ok (.iadd, 1)) (k : Z X G nL a b (pc + 1) l (.int (nI (x + y)) :: st) I J) : Z X G nL a b pc l (.int (nI y) :: .int (nI x) :: st) I J := Z_iadd hX hd (Z_top (nI_add x y) k)
theorem Z_iadd0N {y : Nat} (hX : zOk X G cc nL own d) (hd : decode cc pc = .ok (.iadd, 1)) (k : Z X G nL a b (pc + 1) l (.int (nI y) :: st) I J) : Z X G nL a b pc l (.int (nI y) :: .int (nI 0) :: st) I J := Z_iadd hX hd (Z_top ((nI_add 0 y).trans (by rw [Nat.zero_add])) k)
theorem Z_imulN {x y : Nat} (hX : zOk X G cc nL own d) (hd : decode cc pc = .ok (.imul, 1)) (k : Z X G nL a b (pc + 1) l (.int (nI (x * y)) :: st) I J) : Z X G nL a b pc l (.int (nI y) :: .int (nI x) :: st) I J := Z_imul hX hd (Z_top (pk_mul x y) k)
theorem Z_div4 {x : Nat} (hX : zOk X G cc nL own d) (hd : decode cc pc = .ok (.idiv, 1)) (h : x < 2 ^ 31) (k : Z X G nL a b (pc + 1) l (.int (nI (x / 4)) :: st) I J) : Z X G nL a b pc l (.int 4 :: .int (nI x) :: st) I J := Z_idiv hX hd (by decide) (Z_top (p_elem h) k)
end ZN
/-! the reference: its object 64, its arrays 65 .. 85, the net 79 -/
def m_wh (I : zI) (e : Nat) : Bool := decide (¬ I 65 e = 0) && decide (I 79 (672 + e) = 0)
def m_ax (I : zI) (l p : Nat) : Int32 := if I 77 l = nI p then I 78 l else I 77 l
def m_lk (I : zI) (p : Nat) : Nat := (I 74 p).toNatClampNeg
def okM (I : zI) : Prop := ∀ p, p < 64 → I 74 p = -1 ∨ ∃ l, l < 24 ∧ I 74 p = nI l ∧ (∃ a, a < 64 ∧ I 77 l = nI a) ∧ (∃ c, c < 64 ∧ I 78 l = nI c)
theorem okM_at {I : zI} (h : okM I) {p : Nat} (hp : p < 64) (h0 : ¬ I 74 p < 0) : ∃ l, l < 24 ∧ I 74 p = nI l ∧ (∃ a, a < 64 ∧ I 77 l = nI a) ∧ (∃ c, c < 64 ∧ I 78 l = nI c) := by
  rcases h p hp with h1 | h1
  · rw [h1] at h0
    exact absurd (by decide) h0
  · exact h1
theorem m_ax_ok {I : zI} {l p : Nat} (h1 : ∃ a, a < 64 ∧ I 77 l = nI a) (h2 : ∃ c, c < 64 ∧ I 78 l = nI c) : ∃ o, o < 64 ∧ m_ax I l p = nI o := by
  unfold m_ax
  split
  · exact h2
  · exact h1
def m_li (I : zI) (l p : Nat) : Nat := 712 + 2 * l + (if I 78 l = nI p then 0 else 1)
def m_lo (I : zI) (l p : Nat) : Bool := decide (I 79 (m_li I l p) = 1)
def m_co (I : zI) (l p : Nat) : Bool := decide (¬ I 79 (688 + l) = 1) && (m_wh I ((m_ax I l p).toNatClampNeg / 4) && (!m_lo I l p && decide (0 ≤ I 79 (256 + (m_ax I l p).toNatClampNeg))))
def m_gw (I : zI) (p o : Nat) : zI :=
  let I1 := zup I 79 p (I 79 (256 + o))
  let I2 := zup I1 79 (64 + p) (I1 79 (320 + o))
  let I3 := zup I2 79 (128 + p) (I2 79 (384 + o))
  zup I3 79 (192 + p) (I3 79 760)
def m_ge (I : zI) (p : Nat) : zI := if I 74 p < 0 then I else if m_co I (m_lk I p) p = true then m_gw I p (m_ax I (m_lk I p) p).toNatClampNeg else I
theorem m_ge_0 {I : zI} {p : Nat} (h : I 74 p < 0) : m_ge I p = I := if_pos h
theorem m_ge_n {I : zI} {p l : Nat} (h : ¬ I 74 p < 0) (hl : l < 24) (hl2 : I 74 p = nI l) (h2 : m_co I l p = false) : m_ge I p = I := by
  have e : m_lk I p = l := by unfold m_lk; rw [hl2, nI_clamp (by omega)]
  unfold m_ge
  rw [e, if_neg h, if_neg (by rw [h2]; decide)]
theorem m_ge_y {I : zI} {p l o : Nat} (h : ¬ I 74 p < 0) (hl : l < 24) (hl2 : I 74 p = nI l) (ho : o < 64) (ho2 : m_ax I l p = nI o) (h2 : m_co I l p = true) : m_ge I p = m_gw I p o := by
  have e : m_lk I p = l := by unfold m_lk; rw [hl2, nI_clamp (by omega)]
  have e2 : (m_ax I l p).toNatClampNeg = o := by rw [ho2, nI_clamp (by omega)]
  unfold m_ge
  rw [e, e2, if_neg h, if_pos h2]
theorem m_co_o {I : zI} {l p o : Nat} (ho : o < 64) (ho2 : m_ax I l p = nI o) : m_co I l p = (decide (¬ I 79 (688 + l) = 1) && (m_wh I (o / 4) && (!m_lo I l p && decide (0 ≤ I 79 (256 + o))))) := by
  have e2 : (m_ax I l p).toNatClampNeg = o := by rw [ho2, nI_clamp (by omega)]
  unfold m_co
  rw [e2]
def m_hw (I : zI) (p : Nat) : Bool := decide (¬ I 74 p < 0) && decide (¬ I 79 p < 0) && decide (¬ 3 ≤ I 79 760 - I 79 (192 + p))
def m_ow (I : zI) (p : Nat) : Bool := decide (¬ I 64 1 = 0) && decide (f_bit (I 79 (128 + p)) (nI (p / 4)) = 1)
def m_us (I : zI) (p : Nat) : Bool := decide (I 76 p = 0) && (decide (¬ I 72 p < 0) || (m_hw I p && decide (¬ 7 ≤ I 79 p) && !m_ow I p))
def m_qu (I : zI) (p : Nat) : Int32 := if I 72 p < 0 then I 79 p else I 72 p
def m_ho (I : zI) (p : Nat) : Int32 := if I 72 p < 0 then I 79 (64 + p) else 0
def m_bt (I : zI) (s t : Nat) : Bool := if m_qu I s = m_qu I t then (if m_ho I s = m_ho I t then decide (¬ I 75 t ≤ I 75 s) else decide (¬ m_ho I t ≤ m_ho I s)) else decide (¬ m_qu I t ≤ m_qu I s)
def mO (e : Nat) (r : Option Nat) : Int32 := match r with
  | none => -1
  | some k => nI (4 * e + k)
def m_bo (I : zI) (e : Nat) (m : Int32) : Nat → Option Nat
  | 0 => none
  | p + 1 => match m_bo I e m p with
    | none => if I 79 (448 + (4 * e + p)) ≤ m then none else some p
    | some k => if I 79 (448 + (4 * e + p)) ≤ m then some k else if m_bt I (4 * e + p) (4 * e + k) = true then some p else some k
theorem m_bo_lt {I : zI} {e : Nat} {m : Int32} : ∀ (n k : Nat), m_bo I e m n = some k → k < n
  | 0, k, h => by simp [m_bo] at h
  | n + 1, k, h => by
    unfold m_bo at h
    split at h
    · split at h
      · cases h
      · cases h
        omega
    · rename_i k0 h0
      have h1 := m_bo_lt n k0 h0
      split at h
      · cases h
        omega
      · split at h
        · cases h
          omega
        · cases h
          omega
theorem mO_neg {e : Nat} {r : Option Nat} (h : mO e r < 0) (he : e < 16) (hr : ∀ k, r = some k → k < 64) : r = none := by
  cases r with
  | none => rfl
  | some k => exact absurd h (nI_pos (by have := hr k rfl; omega))
theorem mO_pos {e : Nat} {r : Option Nat} (h : ¬ mO e r < 0) : ∃ k, r = some k := by
  cases r with
  | none => exact absurd (show (-1 : Int32) < 0 by decide) h
  | some k => exact ⟨k, rfl⟩
theorem m_bo_a {I : zI} {e i : Nat} {m : Int32} (h : I 79 (448 + (4 * e + i)) ≤ m) : m_bo I e m (i + 1) = m_bo I e m i := by
  cases hz : m_bo I e m i with
  | none => simp only [m_bo, hz, if_pos h]
  | some k => simp only [m_bo, hz, if_pos h]
theorem m_bo_b {I : zI} {e i : Nat} {m : Int32} (h : ¬ I 79 (448 + (4 * e + i)) ≤ m) (hr : m_bo I e m i = none) : m_bo I e m (i + 1) = some i := by
  simp only [m_bo, hr, if_neg h]
theorem m_bo_c {I : zI} {e i r : Nat} {m : Int32} (h : ¬ I 79 (448 + (4 * e + i)) ≤ m) (hr : m_bo I e m i = some r) (hb : m_bt I (4 * e + i) (4 * e + r) = true) : m_bo I e m (i + 1) = some i := by
  simp only [m_bo, hr, if_neg h, if_pos hb]
theorem m_bo_d {I : zI} {e i r : Nat} {m : Int32} (h : ¬ I 79 (448 + (4 * e + i)) ≤ m) (hr : m_bo I e m i = some r) (hb : m_bt I (4 * e + i) (4 * e + r) = false) : m_bo I e m (i + 1) = m_bo I e m i := by
  rw [m_bo, hr]
  simp only [if_neg h, if_neg (show ¬ m_bt I (4 * e + i) (4 * e + r) = true by rw [hb]; decide)]
theorem nI4s (e i : Nat) : nI (4 * e + i) + Int32.ofInt 1 = nI (4 * e + (i + 1)) := by
  rw [show 4 * e + (i + 1) = (4 * e + i) + 1 from rfl, nI_succ]
  rfl
/-- what the reference chooses: a slot, or none -/
def m_ch (I : zI) (e : Nat) : Option Nat := if I 70 e < 0 then (if I 71 e < 0 ∨ I 79 (448 + 4 * e + (I 71 e).toNatClampNeg) ≤ 0 then (match m_bo I e (I 69 e) 4 with
    | none => m_bo I e 0 4
    | some k => some k) else some (I 71 e).toNatClampNeg) else some (I 70 e).toNatClampNeg
set_option maxRecDepth 100000 in
set_option maxHeartbeats 4000000 in
theorem c_Mo_whole {la : Launch} {G : zG} {I : zI} {J : zJ} {e : Nat} (he : e < 16) : zCi la G y_Mo_whole (Cond.code y_Mo_whole prog_8_method_2_code 2 (some .boolean) :: TBL) (zR 1) [.ref (zad G 64), .int (nI e)] I J (zB (m_wh I e)) (I) (J) := by
  refine zCi_of (by decide) (by simp [lg_sl, Value.category]) (zB_nar _) (fun X hla hX hR => ?_)
  subst hla
  refine Z_loc (l' := [(0, .ref (zad G 64)), (1, .int (nI e))]) (by simp [lv_args, Value.category, List.lookup]) ?_
  refine Z_aload_n (i := 0) hX d_Mo_whole_0 rfl rfl ?_
  refine Z_getR (k0 := 2) hX d_Mo_whole_1 rfl rfl u_Mo (by decide) lk_Mo_17 rfl ?_
  refine Z_iload_n (i := 1) hX d_Mo_whole_4 rfl rfl ?_
  refine Z_zald hX d_Mo_whole_5 rfl rfl (by omega) (by decide) ?_
  refine Z_ifeq (tgt := 26) hX d_Mo_whole_6 rfl (fun h6 => ?_) (fun h6 => ?_)
  · refine Z_iconst (v := 0) hX d_Mo_whole_26 rfl ?_
    exact Z_ri (hR _ _ d_Mo_whole_27) (by simp [m_wh, zB, *]) rfl rfl
  · refine Z_aload_n (i := 0) hX d_Mo_whole_9 rfl rfl ?_
    refine Z_getR (k0 := 17) hX d_Mo_whole_10 rfl rfl u_Mo (by decide) lk_Mo_64 rfl ?_
    refine Z_sipush (v := nI 672) hX d_Mo_whole_13 rfl ?_
    refine Z_iload_n (i := 1) hX d_Mo_whole_16 rfl rfl ?_
    refine Z_iaddN hX d_Mo_whole_17 ?_
    refine Z_iald hX d_Mo_whole_18 rfl rfl (by omega) (by decide) ?_
    refine Z_ifne (tgt := 26) hX d_Mo_whole_19 rfl (fun h19 => ?_) (fun h19 => ?_)
    · refine Z_iconst (v := 0) hX d_Mo_whole_26 rfl ?_
      exact Z_ri (hR _ _ d_Mo_whole_27) (by simp [m_wh, zB, *]) rfl rfl
    · refine Z_iconst (v := 1) hX d_Mo_whole_22 rfl ?_
      refine Z_goto (tgt := 27) hX d_Mo_whole_23 rfl ?_
      exact Z_ri (hR _ _ d_Mo_whole_27) (by simp [m_wh, zB, *]) rfl rfl

set_option maxRecDepth 100000 in
set_option maxHeartbeats 4000000 in
theorem c_Mo_across {la : Launch} {G : zG} {I : zI} {J : zJ} {p l : Nat} (hp : p < 64) (hl : l < 24) (hl2 : I 74 p = nI l) : zCi la G y_Mo_across (Cond.code y_Mo_across prog_8_method_3_code 3 (some .int) :: TBL) (zR 1) [.ref (zad G 64), .int (nI p)] I J (m_ax I l p) (I) (J) := by
  refine zCi_of (by decide) (by simp [lg_sl, Value.category]) (rfl) (fun X hla hX hR => ?_)
  subst hla
  refine Z_loc (l' := [(0, .ref (zad G 64)), (1, .int (nI p))]) (by simp [lv_args, Value.category, List.lookup]) ?_
  refine Z_aload_n (i := 0) hX d_Mo_across_0 rfl rfl ?_
  refine Z_getR (k0 := 11) hX d_Mo_across_1 rfl rfl u_Mo (by decide) lk_Mo_46 rfl ?_
  refine Z_iload_n (i := 1) hX d_Mo_across_4 rfl rfl ?_
  refine Z_iald hX d_Mo_across_5 rfl rfl (by omega) (by decide) ?_
  refine Z_top hl2 ?_
  refine Z_istore_n (i := 2) hX d_Mo_across_6 rfl (by decide) rfl ?_
  refine Z_aload_n (i := 0) hX d_Mo_across_7 rfl rfl ?_
  refine Z_getR (k0 := 15) hX d_Mo_across_8 rfl rfl u_Mo (by decide) lk_Mo_58 rfl ?_
  refine Z_iload_n (i := 2) hX d_Mo_across_11 rfl rfl ?_
  refine Z_iald hX d_Mo_across_12 rfl rfl (by omega) (by decide) ?_
  refine Z_iload_n (i := 1) hX d_Mo_across_13 rfl rfl ?_
  refine Z_icne (tgt := 26) hX d_Mo_across_14 rfl (fun h14 => ?_) (fun h14 => ?_)
  · refine Z_aload_n (i := 0) hX d_Mo_across_26 rfl rfl ?_
    refine Z_getR (k0 := 15) hX d_Mo_across_27 rfl rfl u_Mo (by decide) lk_Mo_58 rfl ?_
    refine Z_iload_n (i := 2) hX d_Mo_across_30 rfl rfl ?_
    refine Z_iald hX d_Mo_across_31 rfl rfl (by omega) (by decide) ?_
    exact Z_ri (hR _ _ d_Mo_across_32) (by exact (if_neg h14).symm) rfl rfl
  · refine Z_aload_n (i := 0) hX d_Mo_across_17 rfl rfl ?_
    refine Z_getR (k0 := 16) hX d_Mo_across_18 rfl rfl u_Mo (by decide) lk_Mo_61 rfl ?_
    refine Z_iload_n (i := 2) hX d_Mo_across_21 rfl rfl ?_
    refine Z_iald hX d_Mo_across_22 rfl rfl (by omega) (by decide) ?_
    refine Z_goto (tgt := 32) hX d_Mo_across_23 rfl ?_
    exact Z_ri (hR _ _ d_Mo_across_32) (by exact (if_pos h14).symm) rfl rfl

set_option maxRecDepth 100000 in
set_option maxHeartbeats 4000000 in
theorem c_Mo_gets {la : Launch} {G : zG} {I : zI} {J : zJ} {p : Nat} (hp : p < 64) (hM : okM I) : zCv la G y_Mo_gets (Cond.code y_Mo_gets prog_8_method_4_code 5 none :: TBL) (zR 2) [.ref (zad G 64), .int (nI p)] I J (m_ge I p) (J) := by
  refine zCv_of (by decide) (by simp [lg_sl, Value.category]) (fun X hla hX hR => ?_)
  subst hla
  refine Z_loc (l' := [(0, .ref (zad G 64)), (1, .int (nI p))]) (by simp [lv_args, Value.category, List.lookup]) ?_
  refine Z_aload_n (i := 0) hX d_Mo_gets_0 rfl rfl ?_
  refine Z_getR (k0 := 11) hX d_Mo_gets_1 rfl rfl u_Mo (by decide) lk_Mo_46 rfl ?_
  refine Z_iload_n (i := 1) hX d_Mo_gets_4 rfl rfl ?_
  refine Z_iald hX d_Mo_gets_5 rfl rfl (by omega) (by decide) ?_
  refine Z_istore_n (i := 2) hX d_Mo_gets_6 rfl (by decide) rfl ?_
  refine Z_iload_n (i := 2) hX d_Mo_gets_7 rfl rfl ?_
  refine Z_iflt (tgt := 25) hX d_Mo_gets_8 rfl (fun h8 => ?_) (fun h8 => ?_)
  · exact Z_mem (by exact (m_ge_0 h8).symm) (by rfl) (hR _ _ d_Mo_gets_25)
  · obtain ⟨l, hl, hl2, ha, hc⟩ := okM_at hM hp h8
    refine Z_aload_n (i := 0) hX d_Mo_gets_11 rfl rfl ?_
    refine Z_getR (k0 := 17) hX d_Mo_gets_12 rfl rfl u_Mo (by decide) lk_Mo_64 rfl ?_
    refine Z_sipush (v := nI 688) hX d_Mo_gets_15 rfl ?_
    refine Z_iload_n (i := 2) hX d_Mo_gets_18 rfl rfl ?_
    refine Z_top hl2 ?_
    refine Z_iaddN hX d_Mo_gets_19 ?_
    refine Z_iald hX d_Mo_gets_20 rfl rfl (by omega) (by decide) ?_
    refine Z_iconst (v := 1) hX d_Mo_gets_21 rfl ?_
    refine Z_icne (tgt := 26) hX d_Mo_gets_22 rfl (fun h22 => ?_) (fun h22 => ?_)
    · obtain ⟨o, ho, ho2⟩ := m_ax_ok (p := p) ha hc
      refine Z_aload_n (i := 0) hX d_Mo_gets_26 rfl rfl ?_
      refine Z_iload_n (i := 1) hX d_Mo_gets_27 rfl rfl ?_
      refine Z_cVi1 hX d_Mo_gets_28 (c_Mo_across (by omega) hl hl2) m_Mo_across rfl rfl lk_Mo_89 ⟨by decide, by decide⟩ ⟨by decide, by decide⟩ (Nat.le_of_ble_eq_true rfl) ?_
      refine Z_top ho2 ?_
      refine Z_istore_n (i := 3) hX d_Mo_gets_31 rfl (by decide) rfl ?_
      refine Z_cut (pc' := 69) (P := fun v => v = zB (m_lo I l p)) ?_ (fun hJ69 => ?_)
      · intro v hv69
        subst hv69
        refine Z_istore hX d_Mo_gets_69 (by decide) rfl ?_
        refine Z_aload_n (i := 0) hX d_Mo_gets_71 rfl rfl ?_
        refine Z_iload_n (i := 3) hX d_Mo_gets_72 rfl rfl ?_
        refine Z_iconst (v := 4) hX d_Mo_gets_73 rfl ?_
        refine Z_div4 hX d_Mo_gets_74 (by omega) ?_
        refine Z_cVi1 hX d_Mo_gets_75 (c_Mo_whole (by omega)) m_Mo_whole rfl rfl lk_Mo_93 ⟨by decide, by decide⟩ ⟨by decide, by decide⟩ (Nat.le_of_ble_eq_true rfl) ?_
        refine Z_ifeqB (tgt := 99) hX d_Mo_gets_78 rfl (fun h78 => ?_) (fun h78 => ?_)
        · exact Z_mem (by exact (m_ge_n h8 hl hl2 (by rw [m_co_o ho ho2]; simp [*])).symm) (by rfl) (hR _ _ d_Mo_gets_99)
        · refine Z_iload hX d_Mo_gets_81 rfl ?_
          refine Z_ifneB (tgt := 99) hX d_Mo_gets_83 rfl (fun h83 => ?_) (fun h83 => ?_)
          · exact Z_mem (by exact (m_ge_n h8 hl hl2 (by rw [m_co_o ho ho2]; simp [*])).symm) (by rfl) (hR _ _ d_Mo_gets_99)
          · refine Z_aload_n (i := 0) hX d_Mo_gets_86 rfl rfl ?_
            refine Z_getR (k0 := 17) hX d_Mo_gets_87 rfl rfl u_Mo (by decide) lk_Mo_64 rfl ?_
            refine Z_sipush (v := nI 256) hX d_Mo_gets_90 rfl ?_
            refine Z_iload_n (i := 3) hX d_Mo_gets_93 rfl rfl ?_
            refine Z_iaddN hX d_Mo_gets_94 ?_
            refine Z_iald hX d_Mo_gets_95 rfl rfl (by omega) (by decide) ?_
            refine Z_ifge (tgt := 100) hX d_Mo_gets_96 rfl (fun h96 => ?_) (fun h96 => ?_)
            · refine Z_aload_n (i := 0) hX d_Mo_gets_100 rfl rfl ?_
              refine Z_getR (k0 := 17) hX d_Mo_gets_101 rfl rfl u_Mo (by decide) lk_Mo_64 rfl ?_
              refine Z_iconst (v := nI 0) hX d_Mo_gets_104 rfl ?_
              refine Z_iload_n (i := 1) hX d_Mo_gets_105 rfl rfl ?_
              refine Z_iadd0N hX d_Mo_gets_106 ?_
              refine Z_aload_n (i := 0) hX d_Mo_gets_107 rfl rfl ?_
              refine Z_getR (k0 := 17) hX d_Mo_gets_108 rfl rfl u_Mo (by decide) lk_Mo_64 rfl ?_
              refine Z_sipush (v := nI 256) hX d_Mo_gets_111 rfl ?_
              refine Z_iload_n (i := 3) hX d_Mo_gets_114 rfl rfl ?_
              refine Z_iaddN hX d_Mo_gets_115 ?_
              refine Z_iald hX d_Mo_gets_116 rfl rfl (by omega) (by decide) ?_
              refine Z_iast hX d_Mo_gets_117 rfl rfl (by omega) (by decide) ?_
              refine Z_aload_n (i := 0) hX d_Mo_gets_118 rfl rfl ?_
              refine Z_getR (k0 := 17) hX d_Mo_gets_119 rfl rfl u_Mo (by decide) lk_Mo_64 rfl ?_
              refine Z_bipush (v := nI 64) hX d_Mo_gets_122 rfl ?_
              refine Z_iload_n (i := 1) hX d_Mo_gets_124 rfl rfl ?_
              refine Z_iaddN hX d_Mo_gets_125 ?_
              refine Z_aload_n (i := 0) hX d_Mo_gets_126 rfl rfl ?_
              refine Z_getR (k0 := 17) hX d_Mo_gets_127 rfl rfl u_Mo (by decide) lk_Mo_64 rfl ?_
              refine Z_sipush (v := nI 320) hX d_Mo_gets_130 rfl ?_
              refine Z_iload_n (i := 3) hX d_Mo_gets_133 rfl rfl ?_
              refine Z_iaddN hX d_Mo_gets_134 ?_
              refine Z_iald hX d_Mo_gets_135 rfl rfl (by omega) (by decide) ?_
              refine Z_iast hX d_Mo_gets_136 rfl rfl (by omega) (by decide) ?_
              refine Z_aload_n (i := 0) hX d_Mo_gets_137 rfl rfl ?_
              refine Z_getR (k0 := 17) hX d_Mo_gets_138 rfl rfl u_Mo (by decide) lk_Mo_64 rfl ?_
              refine Z_sipush (v := nI 128) hX d_Mo_gets_141 rfl ?_
              refine Z_iload_n (i := 1) hX d_Mo_gets_144 rfl rfl ?_
              refine Z_iaddN hX d_Mo_gets_145 ?_
              refine Z_aload_n (i := 0) hX d_Mo_gets_146 rfl rfl ?_
              refine Z_getR (k0 := 17) hX d_Mo_gets_147 rfl rfl u_Mo (by decide) lk_Mo_64 rfl ?_
              refine Z_sipush (v := nI 384) hX d_Mo_gets_150 rfl ?_
              refine Z_iload_n (i := 3) hX d_Mo_gets_153 rfl rfl ?_
              refine Z_iaddN hX d_Mo_gets_154 ?_
              refine Z_iald hX d_Mo_gets_155 rfl rfl (by omega) (by decide) ?_
              refine Z_iast hX d_Mo_gets_156 rfl rfl (by omega) (by decide) ?_
              refine Z_aload_n (i := 0) hX d_Mo_gets_157 rfl rfl ?_
              refine Z_getR (k0 := 17) hX d_Mo_gets_158 rfl rfl u_Mo (by decide) lk_Mo_64 rfl ?_
              refine Z_sipush (v := nI 192) hX d_Mo_gets_161 rfl ?_
              refine Z_iload_n (i := 1) hX d_Mo_gets_164 rfl rfl ?_
              refine Z_iaddN hX d_Mo_gets_165 ?_
              refine Z_aload_n (i := 0) hX d_Mo_gets_166 rfl rfl ?_
              refine Z_getR (k0 := 17) hX d_Mo_gets_167 rfl rfl u_Mo (by decide) lk_Mo_64 rfl ?_
              refine Z_sipush (v := nI 760) hX d_Mo_gets_170 rfl ?_
              refine Z_iald hX d_Mo_gets_173 rfl rfl (by omega) (by decide) ?_
              refine Z_iast hX d_Mo_gets_174 rfl rfl (by omega) (by decide) ?_
              exact Z_mem (by exact (m_ge_y h8 hl hl2 ho ho2 (by rw [m_co_o ho ho2]; simp [*])).symm) (by rfl) (hR _ _ d_Mo_gets_175)
            · exact Z_mem (by exact (m_ge_n h8 hl hl2 (by rw [m_co_o ho ho2]; simp [*])).symm) (by rfl) (hR _ _ d_Mo_gets_99)
      · refine Z_aload_n (i := 0) hX d_Mo_gets_32 rfl rfl ?_
        refine Z_getR (k0 := 17) hX d_Mo_gets_33 rfl rfl u_Mo (by decide) lk_Mo_64 rfl ?_
        refine Z_sipush (v := nI 712) hX d_Mo_gets_36 rfl ?_
        refine Z_iconst (v := nI 2) hX d_Mo_gets_39 rfl ?_
        refine Z_iload_n (i := 2) hX d_Mo_gets_40 rfl rfl ?_
        refine Z_top hl2 ?_
        refine Z_imulN hX d_Mo_gets_41 ?_
        refine Z_iaddN hX d_Mo_gets_42 ?_
        refine Z_cut (pc' := 58) (P := fun v => v = nI (if I 78 l = nI p then 0 else 1)) ?_ (fun hJ58 => ?_)
        · intro v hv58
          subst hv58
          refine Z_iaddN hX d_Mo_gets_58 ?_
          refine Z_iald (k0 := m_li I l p) hX d_Mo_gets_59 rfl rfl (by unfold m_li; split <;> omega) (by decide) ?_
          refine Z_iconst (v := 1) hX d_Mo_gets_60 rfl ?_
          refine Z_icne (tgt := 68) hX d_Mo_gets_61 rfl (fun h61 => ?_) (fun h61 => ?_)
          · refine Z_iconst (v := 0) hX d_Mo_gets_68 rfl ?_
            exact hJ69 _ (by simp [m_lo, zB, *])
          · refine Z_iconst (v := 1) hX d_Mo_gets_64 rfl ?_
            refine Z_goto (tgt := 69) hX d_Mo_gets_65 rfl ?_
            exact hJ69 _ (by simp [m_lo, zB, *])
        · refine Z_aload_n (i := 0) hX d_Mo_gets_43 rfl rfl ?_
          refine Z_getR (k0 := 16) hX d_Mo_gets_44 rfl rfl u_Mo (by decide) lk_Mo_61 rfl ?_
          refine Z_iload_n (i := 2) hX d_Mo_gets_47 rfl rfl ?_
          refine Z_top hl2 ?_
          refine Z_iald hX d_Mo_gets_48 rfl rfl (by omega) (by decide) ?_
          refine Z_iload_n (i := 1) hX d_Mo_gets_49 rfl rfl ?_
          refine Z_icne (tgt := 57) hX d_Mo_gets_50 rfl (fun h50 => ?_) (fun h50 => ?_)
          · refine Z_iconst (v := 1) hX d_Mo_gets_57 rfl ?_
            exact hJ58 _ (by first | (rw [if_pos h50]; rfl) | (rw [if_neg h50]; rfl))
          · refine Z_iconst (v := 0) hX d_Mo_gets_53 rfl ?_
            refine Z_goto (tgt := 58) hX d_Mo_gets_54 rfl ?_
            exact hJ58 _ (by first | (rw [if_pos h50]; rfl) | (rw [if_neg h50]; rfl))
    · exact Z_mem (by exact (m_ge_n h8 hl hl2 (by simp [m_co, h22])).symm) (by rfl) (hR _ _ d_Mo_gets_25)

set_option maxRecDepth 100000 in
set_option maxHeartbeats 4000000 in
theorem c_Mo_hasWord {la : Launch} {G : zG} {I : zI} {J : zJ} {p : Nat} (hp : p < 64) : zCi la G y_Mo_hasWord (Cond.code y_Mo_hasWord prog_8_method_5_code 2 (some .boolean) :: TBL) (zR 1) [.ref (zad G 64), .int (nI p)] I J (zB (m_hw I p)) (I) (J) := by
  refine zCi_of (by decide) (by simp [lg_sl, Value.category]) (zB_nar _) (fun X hla hX hR => ?_)
  subst hla
  refine Z_loc (l' := [(0, .ref (zad G 64)), (1, .int (nI p))]) (by simp [lv_args, Value.category, List.lookup]) ?_
  refine Z_aload_n (i := 0) hX d_Mo_hasWord_0 rfl rfl ?_
  refine Z_getR (k0 := 11) hX d_Mo_hasWord_1 rfl rfl u_Mo (by decide) lk_Mo_46 rfl ?_
  refine Z_iload_n (i := 1) hX d_Mo_hasWord_4 rfl rfl ?_
  refine Z_iald hX d_Mo_hasWord_5 rfl rfl (by omega) (by decide) ?_
  refine Z_iflt (tgt := 47) hX d_Mo_hasWord_6 rfl (fun h6 => ?_) (fun h6 => ?_)
  · refine Z_iconst (v := 0) hX d_Mo_hasWord_47 rfl ?_
    exact Z_ri (hR _ _ d_Mo_hasWord_48) (by simp [m_hw, zB, *]) rfl rfl
  · refine Z_aload_n (i := 0) hX d_Mo_hasWord_9 rfl rfl ?_
    refine Z_getR (k0 := 17) hX d_Mo_hasWord_10 rfl rfl u_Mo (by decide) lk_Mo_64 rfl ?_
    refine Z_iconst (v := nI 0) hX d_Mo_hasWord_13 rfl ?_
    refine Z_iload_n (i := 1) hX d_Mo_hasWord_14 rfl rfl ?_
    refine Z_iadd0N hX d_Mo_hasWord_15 ?_
    refine Z_iald hX d_Mo_hasWord_16 rfl rfl (by omega) (by decide) ?_
    refine Z_iflt (tgt := 47) hX d_Mo_hasWord_17 rfl (fun h17 => ?_) (fun h17 => ?_)
    · refine Z_iconst (v := 0) hX d_Mo_hasWord_47 rfl ?_
      exact Z_ri (hR _ _ d_Mo_hasWord_48) (by simp [m_hw, zB, *]) rfl rfl
    · refine Z_aload_n (i := 0) hX d_Mo_hasWord_20 rfl rfl ?_
      refine Z_getR (k0 := 17) hX d_Mo_hasWord_21 rfl rfl u_Mo (by decide) lk_Mo_64 rfl ?_
      refine Z_sipush (v := nI 760) hX d_Mo_hasWord_24 rfl ?_
      refine Z_iald hX d_Mo_hasWord_27 rfl rfl (by omega) (by decide) ?_
      refine Z_aload_n (i := 0) hX d_Mo_hasWord_28 rfl rfl ?_
      refine Z_getR (k0 := 17) hX d_Mo_hasWord_29 rfl rfl u_Mo (by decide) lk_Mo_64 rfl ?_
      refine Z_sipush (v := nI 192) hX d_Mo_hasWord_32 rfl ?_
      refine Z_iload_n (i := 1) hX d_Mo_hasWord_35 rfl rfl ?_
      refine Z_iaddN hX d_Mo_hasWord_36 ?_
      refine Z_iald hX d_Mo_hasWord_37 rfl rfl (by omega) (by decide) ?_
      refine Z_isub hX d_Mo_hasWord_38 ?_
      refine Z_iconst (v := 3) hX d_Mo_hasWord_39 rfl ?_
      refine Z_icge (tgt := 47) hX d_Mo_hasWord_40 rfl (fun h40 => ?_) (fun h40 => ?_)
      · refine Z_iconst (v := 0) hX d_Mo_hasWord_47 rfl ?_
        exact Z_ri (hR _ _ d_Mo_hasWord_48) (by simp [m_hw, zB, *]) rfl rfl
      · refine Z_iconst (v := 1) hX d_Mo_hasWord_43 rfl ?_
        refine Z_goto (tgt := 48) hX d_Mo_hasWord_44 rfl ?_
        exact Z_ri (hR _ _ d_Mo_hasWord_48) (by simp [m_hw, zB, *]) rfl rfl

set_option maxRecDepth 100000 in
set_option maxHeartbeats 4000000 in
theorem c_Mo_usable {la : Launch} {G : zG} {I : zI} {J : zJ} {p : Nat} (hp : p < 64) : zCi la G y_Mo_usable (Cond.code y_Mo_usable prog_8_method_6_code 3 (some .boolean) :: TBL) (zR 2) [.ref (zad G 64), .int (nI p)] I J (zB (m_us I p)) (I) (J) := by
  refine zCi_of (by decide) (by simp [lg_sl, Value.category]) (zB_nar _) (fun X hla hX hR => ?_)
  subst hla
  refine Z_loc (l' := [(0, .ref (zad G 64)), (1, .int (nI p))]) (by simp [lv_args, Value.category, List.lookup]) ?_
  refine Z_aload_n (i := 0) hX d_Mo_usable_0 rfl rfl ?_
  refine Z_getR (k0 := 13) hX d_Mo_usable_1 rfl rfl u_Mo (by decide) lk_Mo_52 rfl ?_
  refine Z_iload_n (i := 1) hX d_Mo_usable_4 rfl rfl ?_
  refine Z_zald hX d_Mo_usable_5 rfl rfl (by omega) (by decide) ?_
  refine Z_ifeq (tgt := 11) hX d_Mo_usable_6 rfl (fun h6 => ?_) (fun h6 => ?_)
  · refine Z_aload_n (i := 0) hX d_Mo_usable_11 rfl rfl ?_
    refine Z_getR (k0 := 9) hX d_Mo_usable_12 rfl rfl u_Mo (by decide) lk_Mo_40 rfl ?_
    refine Z_iload_n (i := 1) hX d_Mo_usable_15 rfl rfl ?_
    refine Z_iald hX d_Mo_usable_16 rfl rfl (by omega) (by decide) ?_
    refine Z_iflt (tgt := 22) hX d_Mo_usable_17 rfl (fun h17 => ?_) (fun h17 => ?_)
    · refine Z_cut (pc' := 54) (P := fun v => v = zB (m_ow I p)) ?_ (fun hJ54 => ?_)
      · intro v hv54
        subst hv54
        refine Z_istore_n (i := 2) hX d_Mo_usable_54 rfl (by decide) rfl ?_
        refine Z_aload_n (i := 0) hX d_Mo_usable_55 rfl rfl ?_
        refine Z_iload_n (i := 1) hX d_Mo_usable_56 rfl rfl ?_
        refine Z_cVi1 hX d_Mo_usable_57 (c_Mo_hasWord (by omega)) m_Mo_hasWord rfl rfl lk_Mo_97 ⟨by decide, by decide⟩ ⟨by decide, by decide⟩ (Nat.le_of_ble_eq_true rfl) ?_
        refine Z_ifeqB (tgt := 84) hX d_Mo_usable_60 rfl (fun h60 => ?_) (fun h60 => ?_)
        · refine Z_iconst (v := 0) hX d_Mo_usable_84 rfl ?_
          exact Z_ri (hR _ _ d_Mo_usable_85) (by simp [m_us, zB, *]) rfl rfl
        · refine Z_aload_n (i := 0) hX d_Mo_usable_63 rfl rfl ?_
          refine Z_getR (k0 := 17) hX d_Mo_usable_64 rfl rfl u_Mo (by decide) lk_Mo_64 rfl ?_
          refine Z_iconst (v := nI 0) hX d_Mo_usable_67 rfl ?_
          refine Z_iload_n (i := 1) hX d_Mo_usable_68 rfl rfl ?_
          refine Z_iadd0N hX d_Mo_usable_69 ?_
          refine Z_iald hX d_Mo_usable_70 rfl rfl (by omega) (by decide) ?_
          refine Z_bipush (v := 7) hX d_Mo_usable_71 rfl ?_
          refine Z_icge (tgt := 84) hX d_Mo_usable_73 rfl (fun h73 => ?_) (fun h73 => ?_)
          · refine Z_iconst (v := 0) hX d_Mo_usable_84 rfl ?_
            exact Z_ri (hR _ _ d_Mo_usable_85) (by simp [m_us, zB, *]) rfl rfl
          · refine Z_iload_n (i := 2) hX d_Mo_usable_76 rfl rfl ?_
            refine Z_ifneB (tgt := 84) hX d_Mo_usable_77 rfl (fun h77 => ?_) (fun h77 => ?_)
            · refine Z_iconst (v := 0) hX d_Mo_usable_84 rfl ?_
              exact Z_ri (hR _ _ d_Mo_usable_85) (by simp [m_us, zB, *]) rfl rfl
            · refine Z_iconst (v := 1) hX d_Mo_usable_80 rfl ?_
              refine Z_goto (tgt := 85) hX d_Mo_usable_81 rfl ?_
              exact Z_ri (hR _ _ d_Mo_usable_85) (by simp [m_us, zB, *]) rfl rfl
      · refine Z_aload_n (i := 0) hX d_Mo_usable_22 rfl rfl ?_
        refine Z_getI (k0 := 1) hX d_Mo_usable_23 rfl rfl u_Mo (by decide) lk_Mo_13 rfl ?_
        refine Z_ifeq (tgt := 53) hX d_Mo_usable_26 rfl (fun h26 => ?_) (fun h26 => ?_)
        · refine Z_iconst (v := 0) hX d_Mo_usable_53 rfl ?_
          exact hJ54 _ (by simp [m_ow, f_bit, zB, *])
        · refine Z_aload_n (i := 0) hX d_Mo_usable_29 rfl rfl ?_
          refine Z_getR (k0 := 17) hX d_Mo_usable_30 rfl rfl u_Mo (by decide) lk_Mo_64 rfl ?_
          refine Z_sipush (v := nI 128) hX d_Mo_usable_33 rfl ?_
          refine Z_iload_n (i := 1) hX d_Mo_usable_36 rfl rfl ?_
          refine Z_iaddN hX d_Mo_usable_37 ?_
          refine Z_iald hX d_Mo_usable_38 rfl rfl (by omega) (by decide) ?_
          refine Z_iload_n (i := 1) hX d_Mo_usable_39 rfl rfl ?_
          refine Z_iconst (v := 4) hX d_Mo_usable_40 rfl ?_
          refine Z_div4 hX d_Mo_usable_41 (by omega) ?_
          refine Z_ishr hX d_Mo_usable_42 ?_
          refine Z_iconst (v := 1) hX d_Mo_usable_43 rfl ?_
          refine Z_iand hX d_Mo_usable_44 ?_
          refine Z_iconst (v := 1) hX d_Mo_usable_45 rfl ?_
          refine Z_icne (tgt := 53) hX d_Mo_usable_46 rfl (fun h46 => ?_) (fun h46 => ?_)
          · refine Z_iconst (v := 0) hX d_Mo_usable_53 rfl ?_
            exact hJ54 _ (by simp [m_ow, f_bit, zB, *])
          · refine Z_iconst (v := 1) hX d_Mo_usable_49 rfl ?_
            refine Z_goto (tgt := 54) hX d_Mo_usable_50 rfl ?_
            exact hJ54 _ (by simp [m_ow, f_bit, zB, *])
    · refine Z_iconst (v := 1) hX d_Mo_usable_20 rfl ?_
      exact Z_ri (hR _ _ d_Mo_usable_21) (by simp [m_us, zB, *]) rfl rfl
  · refine Z_iconst (v := 0) hX d_Mo_usable_9 rfl ?_
    exact Z_ri (hR _ _ d_Mo_usable_10) (by simp [m_us, zB, *]) rfl rfl

set_option maxRecDepth 100000 in
set_option maxHeartbeats 4000000 in
theorem c_Mo_qualityOf {la : Launch} {G : zG} {I : zI} {J : zJ} {p : Nat} (hp : p < 64) : zCi la G y_Mo_qualityOf (Cond.code y_Mo_qualityOf prog_8_method_7_code 2 (some .int) :: TBL) (zR 1) [.ref (zad G 64), .int (nI p)] I J (m_qu I p) (I) (J) := by
  refine zCi_of (by decide) (by simp [lg_sl, Value.category]) (rfl) (fun X hla hX hR => ?_)
  subst hla
  refine Z_loc (l' := [(0, .ref (zad G 64)), (1, .int (nI p))]) (by simp [lv_args, Value.category, List.lookup]) ?_
  refine Z_aload_n (i := 0) hX d_Mo_qualityOf_0 rfl rfl ?_
  refine Z_getR (k0 := 9) hX d_Mo_qualityOf_1 rfl rfl u_Mo (by decide) lk_Mo_40 rfl ?_
  refine Z_iload_n (i := 1) hX d_Mo_qualityOf_4 rfl rfl ?_
  refine Z_iald hX d_Mo_qualityOf_5 rfl rfl (by omega) (by decide) ?_
  refine Z_iflt (tgt := 18) hX d_Mo_qualityOf_6 rfl (fun h6 => ?_) (fun h6 => ?_)
  · refine Z_aload_n (i := 0) hX d_Mo_qualityOf_18 rfl rfl ?_
    refine Z_getR (k0 := 17) hX d_Mo_qualityOf_19 rfl rfl u_Mo (by decide) lk_Mo_64 rfl ?_
    refine Z_iconst (v := nI 0) hX d_Mo_qualityOf_22 rfl ?_
    refine Z_iload_n (i := 1) hX d_Mo_qualityOf_23 rfl rfl ?_
    refine Z_iadd0N hX d_Mo_qualityOf_24 ?_
    refine Z_iald hX d_Mo_qualityOf_25 rfl rfl (by omega) (by decide) ?_
    exact Z_ri (hR _ _ d_Mo_qualityOf_26) (by exact (if_pos h6).symm) rfl rfl
  · refine Z_aload_n (i := 0) hX d_Mo_qualityOf_9 rfl rfl ?_
    refine Z_getR (k0 := 9) hX d_Mo_qualityOf_10 rfl rfl u_Mo (by decide) lk_Mo_40 rfl ?_
    refine Z_iload_n (i := 1) hX d_Mo_qualityOf_13 rfl rfl ?_
    refine Z_iald hX d_Mo_qualityOf_14 rfl rfl (by omega) (by decide) ?_
    refine Z_goto (tgt := 26) hX d_Mo_qualityOf_15 rfl ?_
    exact Z_ri (hR _ _ d_Mo_qualityOf_26) (by exact (if_neg h6).symm) rfl rfl

set_option maxRecDepth 100000 in
set_option maxHeartbeats 4000000 in
theorem c_Mo_hopsOf {la : Launch} {G : zG} {I : zI} {J : zJ} {p : Nat} (hp : p < 64) : zCi la G y_Mo_hopsOf (Cond.code y_Mo_hopsOf prog_8_method_8_code 2 (some .int) :: TBL) (zR 1) [.ref (zad G 64), .int (nI p)] I J (m_ho I p) (I) (J) := by
  refine zCi_of (by decide) (by simp [lg_sl, Value.category]) (rfl) (fun X hla hX hR => ?_)
  subst hla
  refine Z_loc (l' := [(0, .ref (zad G 64)), (1, .int (nI p))]) (by simp [lv_args, Value.category, List.lookup]) ?_
  refine Z_aload_n (i := 0) hX d_Mo_hopsOf_0 rfl rfl ?_
  refine Z_getR (k0 := 9) hX d_Mo_hopsOf_1 rfl rfl u_Mo (by decide) lk_Mo_40 rfl ?_
  refine Z_iload_n (i := 1) hX d_Mo_hopsOf_4 rfl rfl ?_
  refine Z_iald hX d_Mo_hopsOf_5 rfl rfl (by omega) (by decide) ?_
  refine Z_iflt (tgt := 13) hX d_Mo_hopsOf_6 rfl (fun h6 => ?_) (fun h6 => ?_)
  · refine Z_aload_n (i := 0) hX d_Mo_hopsOf_13 rfl rfl ?_
    refine Z_getR (k0 := 17) hX d_Mo_hopsOf_14 rfl rfl u_Mo (by decide) lk_Mo_64 rfl ?_
    refine Z_bipush (v := nI 64) hX d_Mo_hopsOf_17 rfl ?_
    refine Z_iload_n (i := 1) hX d_Mo_hopsOf_19 rfl rfl ?_
    refine Z_iaddN hX d_Mo_hopsOf_20 ?_
    refine Z_iald hX d_Mo_hopsOf_21 rfl rfl (by omega) (by decide) ?_
    exact Z_ri (hR _ _ d_Mo_hopsOf_22) (by exact (if_pos h6).symm) rfl rfl
  · refine Z_iconst (v := 0) hX d_Mo_hopsOf_9 rfl ?_
    refine Z_goto (tgt := 22) hX d_Mo_hopsOf_10 rfl ?_
    exact Z_ri (hR _ _ d_Mo_hopsOf_22) (by exact (if_neg h6).symm) rfl rfl

set_option maxRecDepth 100000 in
set_option maxHeartbeats 4000000 in
theorem c_Mo_better {la : Launch} {G : zG} {I : zI} {J : zJ} {s t : Nat} (hs : s < 64) (ht : t < 64) : zCi la G y_Mo_better (Cond.code y_Mo_better prog_8_method_9_code 3 (some .boolean) :: TBL) (zR 2) [.ref (zad G 64), .int (nI s), .int (nI t)] I J (zB (m_bt I s t)) (I) (J) := by
  refine zCi_of (by decide) (by simp [lg_sl, Value.category]) (zB_nar _) (fun X hla hX hR => ?_)
  subst hla
  refine Z_loc (l' := [(0, .ref (zad G 64)), (1, .int (nI s)), (2, .int (nI t))]) (by simp [lv_args, Value.category, List.lookup]) ?_
  refine Z_aload_n (i := 0) hX d_Mo_better_0 rfl rfl ?_
  refine Z_iload_n (i := 1) hX d_Mo_better_1 rfl rfl ?_
  refine Z_cVi1 hX d_Mo_better_2 (c_Mo_qualityOf (by omega)) m_Mo_qualityOf rfl rfl lk_Mo_100 ⟨by decide, by decide⟩ ⟨by decide, by decide⟩ (Nat.le_of_ble_eq_true rfl) ?_
  refine Z_aload_n (i := 0) hX d_Mo_better_5 rfl rfl ?_
  refine Z_iload_n (i := 2) hX d_Mo_better_6 rfl rfl ?_
  refine Z_cVi1 hX d_Mo_better_7 (c_Mo_qualityOf (by omega)) m_Mo_qualityOf rfl rfl lk_Mo_100 ⟨by decide, by decide⟩ ⟨by decide, by decide⟩ (Nat.le_of_ble_eq_true rfl) ?_
  refine Z_iceq (tgt := 32) hX d_Mo_better_10 rfl (fun h10 => ?_) (fun h10 => ?_)
  · refine Z_aload_n (i := 0) hX d_Mo_better_32 rfl rfl ?_
    refine Z_iload_n (i := 1) hX d_Mo_better_33 rfl rfl ?_
    refine Z_cVi1 hX d_Mo_better_34 (c_Mo_hopsOf (by omega)) m_Mo_hopsOf rfl rfl lk_Mo_103 ⟨by decide, by decide⟩ ⟨by decide, by decide⟩ (Nat.le_of_ble_eq_true rfl) ?_
    refine Z_aload_n (i := 0) hX d_Mo_better_37 rfl rfl ?_
    refine Z_iload_n (i := 2) hX d_Mo_better_38 rfl rfl ?_
    refine Z_cVi1 hX d_Mo_better_39 (c_Mo_hopsOf (by omega)) m_Mo_hopsOf rfl rfl lk_Mo_103 ⟨by decide, by decide⟩ ⟨by decide, by decide⟩ (Nat.le_of_ble_eq_true rfl) ?_
    refine Z_iceq (tgt := 64) hX d_Mo_better_42 rfl (fun h42 => ?_) (fun h42 => ?_)
    · refine Z_aload_n (i := 0) hX d_Mo_better_64 rfl rfl ?_
      refine Z_getR (k0 := 12) hX d_Mo_better_65 rfl rfl u_Mo (by decide) lk_Mo_49 rfl ?_
      refine Z_iload_n (i := 1) hX d_Mo_better_68 rfl rfl ?_
      refine Z_iald hX d_Mo_better_69 rfl rfl (by omega) (by decide) ?_
      refine Z_aload_n (i := 0) hX d_Mo_better_70 rfl rfl ?_
      refine Z_getR (k0 := 12) hX d_Mo_better_71 rfl rfl u_Mo (by decide) lk_Mo_49 rfl ?_
      refine Z_iload_n (i := 2) hX d_Mo_better_74 rfl rfl ?_
      refine Z_iald hX d_Mo_better_75 rfl rfl (by omega) (by decide) ?_
      refine Z_icge (tgt := 83) hX d_Mo_better_76 rfl (fun h76 => ?_) (fun h76 => ?_)
      · refine Z_iconst (v := 0) hX d_Mo_better_83 rfl ?_
        exact Z_ri (hR _ _ d_Mo_better_84) (by simp [m_bt, zB, *]) rfl rfl
      · refine Z_iconst (v := 1) hX d_Mo_better_79 rfl ?_
        refine Z_goto (tgt := 84) hX d_Mo_better_80 rfl ?_
        exact Z_ri (hR _ _ d_Mo_better_84) (by simp [m_bt, zB, *]) rfl rfl
    · refine Z_aload_n (i := 0) hX d_Mo_better_45 rfl rfl ?_
      refine Z_iload_n (i := 1) hX d_Mo_better_46 rfl rfl ?_
      refine Z_cVi1 hX d_Mo_better_47 (c_Mo_hopsOf (by omega)) m_Mo_hopsOf rfl rfl lk_Mo_103 ⟨by decide, by decide⟩ ⟨by decide, by decide⟩ (Nat.le_of_ble_eq_true rfl) ?_
      refine Z_aload_n (i := 0) hX d_Mo_better_50 rfl rfl ?_
      refine Z_iload_n (i := 2) hX d_Mo_better_51 rfl rfl ?_
      refine Z_cVi1 hX d_Mo_better_52 (c_Mo_hopsOf (by omega)) m_Mo_hopsOf rfl rfl lk_Mo_103 ⟨by decide, by decide⟩ ⟨by decide, by decide⟩ (Nat.le_of_ble_eq_true rfl) ?_
      refine Z_icge (tgt := 62) hX d_Mo_better_55 rfl (fun h55 => ?_) (fun h55 => ?_)
      · refine Z_iconst (v := 0) hX d_Mo_better_62 rfl ?_
        exact Z_ri (hR _ _ d_Mo_better_63) (by simp [m_bt, zB, *]) rfl rfl
      · refine Z_iconst (v := 1) hX d_Mo_better_58 rfl ?_
        refine Z_goto (tgt := 63) hX d_Mo_better_59 rfl ?_
        exact Z_ri (hR _ _ d_Mo_better_63) (by simp [m_bt, zB, *]) rfl rfl
  · refine Z_aload_n (i := 0) hX d_Mo_better_13 rfl rfl ?_
    refine Z_iload_n (i := 1) hX d_Mo_better_14 rfl rfl ?_
    refine Z_cVi1 hX d_Mo_better_15 (c_Mo_qualityOf (by omega)) m_Mo_qualityOf rfl rfl lk_Mo_100 ⟨by decide, by decide⟩ ⟨by decide, by decide⟩ (Nat.le_of_ble_eq_true rfl) ?_
    refine Z_aload_n (i := 0) hX d_Mo_better_18 rfl rfl ?_
    refine Z_iload_n (i := 2) hX d_Mo_better_19 rfl rfl ?_
    refine Z_cVi1 hX d_Mo_better_20 (c_Mo_qualityOf (by omega)) m_Mo_qualityOf rfl rfl lk_Mo_100 ⟨by decide, by decide⟩ ⟨by decide, by decide⟩ (Nat.le_of_ble_eq_true rfl) ?_
    refine Z_icge (tgt := 30) hX d_Mo_better_23 rfl (fun h23 => ?_) (fun h23 => ?_)
    · refine Z_iconst (v := 0) hX d_Mo_better_30 rfl ?_
      exact Z_ri (hR _ _ d_Mo_better_31) (by simp [m_bt, zB, *]) rfl rfl
    · refine Z_iconst (v := 1) hX d_Mo_better_26 rfl ?_
      refine Z_goto (tgt := 31) hX d_Mo_better_27 rfl ?_
      exact Z_ri (hR _ _ d_Mo_better_31) (by simp [m_bt, zB, *]) rfl rfl

set_option maxRecDepth 100000 in
set_option maxHeartbeats 4000000 in
theorem c_Mo_bestOf {la : Launch} {G : zG} {I : zI} {J : zJ} {e : Nat} (he : e < 16) {m : Int32} : zCi la G y_Mo_bestOf (Cond.code y_Mo_bestOf prog_8_method_10_code 5 (some .int) :: TBL) (zR 3) [.ref (zad G 64), .int (nI e), .int m] I J (mO e (m_bo I e m 4)) (I) (J) := by
  refine zCi_of (by decide) (by simp [lg_sl, Value.category]) (rfl) (fun X hla hX hR => ?_)
  subst hla
  refine Z_loc (l' := [(0, .ref (zad G 64)), (1, .int (nI e)), (2, .int m)]) (by simp [lv_args, Value.category, List.lookup]) ?_
  refine Z_iconst (v := (-1)) hX d_Mo_bestOf_0 rfl ?_
  refine Z_istore_n (i := 3) hX d_Mo_bestOf_1 rfl (by decide) rfl ?_
  refine Z_iconst (v := nI 4) hX d_Mo_bestOf_2 rfl ?_
  refine Z_iload_n (i := 1) hX d_Mo_bestOf_3 rfl rfl ?_
  refine Z_imulN hX d_Mo_bestOf_4 ?_
  refine Z_istore hX d_Mo_bestOf_5 (by decide) rfl ?_
  have hL7 : ∀ k i : Nat, k + i = 4 → Z X G 5 0 0 7 [(4, .int (nI (4 * e + i))), (3, .int (mO e (m_bo I e m i))), (2, .int m), (1, .int (nI e)), (0, .ref (zad G 64))] [] (I) (J) := by
    intro k
    induction k with
    | zero =>
      intro i hi
      obtain rfl : i = 4 := by omega
      refine Z_iload hX d_Mo_bestOf_7 rfl ?_
      refine Z_iconst (v := nI 4) hX d_Mo_bestOf_9 rfl ?_
      refine Z_iload_n (i := 1) hX d_Mo_bestOf_10 rfl rfl ?_
      refine Z_imulN hX d_Mo_bestOf_11 ?_
      refine Z_iconst (v := nI 4) hX d_Mo_bestOf_12 rfl ?_
      refine Z_iaddN hX d_Mo_bestOf_13 ?_
      refine Z_icge (tgt := 55) hX d_Mo_bestOf_14 rfl (fun h14 => ?_) (fun h => absurd (nI_le (Nat.le_refl _) (by omega)) h)
      refine Z_iload_n (i := 3) hX d_Mo_bestOf_55 rfl rfl ?_
      exact Z_ri (hR _ _ d_Mo_bestOf_56) (by rfl) rfl rfl
    | succ k ih =>
      intro i hi
      have hi2 : i < 4 := by omega
      refine Z_iload hX d_Mo_bestOf_7 rfl ?_
      refine Z_iconst (v := nI 4) hX d_Mo_bestOf_9 rfl ?_
      refine Z_iload_n (i := 1) hX d_Mo_bestOf_10 rfl rfl ?_
      refine Z_imulN hX d_Mo_bestOf_11 ?_
      refine Z_iconst (v := nI 4) hX d_Mo_bestOf_12 rfl ?_
      refine Z_iaddN hX d_Mo_bestOf_13 ?_
      refine Z_icge (tgt := 55) hX d_Mo_bestOf_14 rfl (fun h => absurd h (nI_ge (by omega) (by omega))) (fun h14 => ?_)
      refine Z_aload_n (i := 0) hX d_Mo_bestOf_17 rfl rfl ?_
      refine Z_getR (k0 := 17) hX d_Mo_bestOf_18 rfl rfl u_Mo (by decide) lk_Mo_64 rfl ?_
      refine Z_sipush (v := nI 448) hX d_Mo_bestOf_21 rfl ?_
      refine Z_iload hX d_Mo_bestOf_24 rfl ?_
      refine Z_iaddN hX d_Mo_bestOf_26 ?_
      refine Z_iald (k0 := 448 + (4 * e + i)) hX d_Mo_bestOf_27 rfl rfl (by omega) (by decide) ?_
      refine Z_iload_n (i := 2) hX d_Mo_bestOf_28 rfl rfl ?_
      refine Z_icle (tgt := 49) hX d_Mo_bestOf_29 rfl (fun h29 => ?_) (fun h29 => ?_)
      · refine Z_iinc (v := nI (4 * e + (i + 1))) hX d_Mo_bestOf_49 rfl (nI4s e i) (by decide) rfl ?_
        refine Z_goto (tgt := 7) hX d_Mo_bestOf_52 rfl ?_
        refine Z_loc ?_ (Z_mem ?_ ?_ (ih (i + 1) (by omega)))
        · (rw [m_bo_a h29]; rfl)
        · rfl
        · rfl
      · refine Z_iload_n (i := 3) hX d_Mo_bestOf_32 rfl rfl ?_
        refine Z_iflt (tgt := 46) hX d_Mo_bestOf_33 rfl (fun h33 => ?_) (fun h33 => ?_)
        · have hr := mO_neg h33 he (fun k hk => Nat.lt_trans (m_bo_lt i k hk) (by omega))
          refine Z_iload hX d_Mo_bestOf_46 rfl ?_
          refine Z_istore_n (i := 3) hX d_Mo_bestOf_48 rfl (by decide) rfl ?_
          refine Z_iinc (v := nI (4 * e + (i + 1))) hX d_Mo_bestOf_49 rfl (nI4s e i) (by decide) rfl ?_
          refine Z_goto (tgt := 7) hX d_Mo_bestOf_52 rfl ?_
          refine Z_loc ?_ (Z_mem ?_ ?_ (ih (i + 1) (by omega)))
          · (rw [m_bo_b h29 hr]; rfl)
          · rfl
          · rfl
        · obtain ⟨r, hr⟩ := mO_pos h33
          have hr2 := m_bo_lt i r hr
          refine Z_aload_n (i := 0) hX d_Mo_bestOf_36 rfl rfl ?_
          refine Z_iload hX d_Mo_bestOf_37 rfl ?_
          refine Z_iload_n (i := 3) hX d_Mo_bestOf_39 rfl rfl ?_
          refine Z_top (y := nI (4 * e + r)) (by rw [hr]; rfl) ?_
          refine Z_cVi2 hX d_Mo_bestOf_40 (c_Mo_better (by omega) (by omega)) m_Mo_better rfl rfl lk_Mo_106 ⟨by decide, by decide⟩ ⟨by decide, by decide⟩ (Nat.le_of_ble_eq_true rfl) ?_
          refine Z_ifeqB (tgt := 49) hX d_Mo_bestOf_43 rfl (fun h43 => ?_) (fun h43 => ?_)
          · refine Z_iinc (v := nI (4 * e + (i + 1))) hX d_Mo_bestOf_49 rfl (nI4s e i) (by decide) rfl ?_
            refine Z_goto (tgt := 7) hX d_Mo_bestOf_52 rfl ?_
            refine Z_loc ?_ (Z_mem ?_ ?_ (ih (i + 1) (by omega)))
            · (rw [m_bo_d h29 hr h43]; rfl)
            · rfl
            · rfl
          · refine Z_iload hX d_Mo_bestOf_46 rfl ?_
            refine Z_istore_n (i := 3) hX d_Mo_bestOf_48 rfl (by decide) rfl ?_
            refine Z_iinc (v := nI (4 * e + (i + 1))) hX d_Mo_bestOf_49 rfl (nI4s e i) (by decide) rfl ?_
            refine Z_goto (tgt := 7) hX d_Mo_bestOf_52 rfl ?_
            refine Z_loc ?_ (Z_mem ?_ ?_ (ih (i + 1) (by omega)))
            · (rw [m_bo_c h29 hr h43]; rfl)
            · rfl
            · rfl
  refine Z_loc ?_ (Z_mem ?_ ?_ (hL7 4 0 (by omega)))
  · rfl
  · rfl
  · rfl
end
