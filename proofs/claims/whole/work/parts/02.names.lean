def R_Ca : String := "ClockTree$Calm"
def T_Ca : u_T := fun k => match k with
  | 0 => ("ClockTree$Calm", "condition", "[I", true)
  | 1 => ("ClockTree$Calm", "chosen", "[I", true)
  | _ => ("ClockTree$Calm", "rounds", "I", false)
def t_Ca : Nat → FieldType := fun k => match k with
  | 0 => .array .int
  | 1 => .array .int
  | _ => .int
theorem n_Ca : ∀ a, a < 3 → ∀ b, b < 3 → a ≠ b → (T_Ca a).2.1 ≠ (T_Ca b).2.1 := by decide +kernel
theorem to_Ca : ∀ k, k < 3 → parseFieldDescriptor (T_Ca k).2.2.1 = some (t_Ca k) := by decide +kernel
def R_Ck : String := "ClockTree$Clocks"
def T_Ck : u_T := fun k => match k with
  | 0 => ("ClockTree$Clocks", "now", "[I", true)
  | 1 => ("ClockTree$Clocks", "before", "[I", true)
  | 2 => ("ClockTree$Clocks", "next", "[I", true)
  | _ => ("ClockTree$Clocks", "sum", "[J", true)
def t_Ck : Nat → FieldType := fun k => match k with
  | 0 => .array .int
  | 1 => .array .int
  | 2 => .array .int
  | _ => .array .long
theorem n_Ck : ∀ a, a < 4 → ∀ b, b < 4 → a ≠ b → (T_Ck a).2.1 ≠ (T_Ck b).2.1 := by decide +kernel
theorem to_Ck : ∀ k, k < 4 → parseFieldDescriptor (T_Ck k).2.2.1 = some (t_Ck k) := by decide +kernel
def R_Fl : String := "ClockTree$Flow"
def T_Fl : u_T := fun k => match k with
  | 0 => ("ClockTree$Flow", "plan", "LClockTree$Plan;", true)
  | 1 => ("ClockTree$Flow", "got", "LClockTree$Words;", true)
  | 2 => ("ClockTree$Flow", "sent", "LClockTree$Words;", true)
  | 3 => ("ClockTree$Flow", "offered", "LClockTree$Words;", true)
  | 4 => ("ClockTree$Flow", "age", "[I", true)
  | 5 => ("ClockTree$Flow", "usableFor", "[I", true)
  | 6 => ("ClockTree$Flow", "condition", "[I", true)
  | 7 => ("ClockTree$Flow", "chosen", "[I", true)
  | 8 => ("ClockTree$Flow", "hops", "[I", true)
  | 9 => ("ClockTree$Flow", "quality", "[I", true)
  | 10 => ("ClockTree$Flow", "everLocked", "I", false)
  | 11 => ("ClockTree$Flow", "failedElements", "I", false)
  | 12 => ("ClockTree$Flow", "failedLinks", "I", false)
  | 13 => ("ClockTree$Flow", "lost", "J", false)
  | _ => ("ClockTree$Flow", "moved", "Z", false)
def t_Fl : Nat → FieldType := fun k => match k with
  | 0 => .object "ClockTree$Plan"
  | 1 => .object "ClockTree$Words"
  | 2 => .object "ClockTree$Words"
  | 3 => .object "ClockTree$Words"
  | 4 => .array .int
  | 5 => .array .int
  | 6 => .array .int
  | 7 => .array .int
  | 8 => .array .int
  | 9 => .array .int
  | 10 => .int
  | 11 => .int
  | 12 => .int
  | 13 => .long
  | _ => .boolean
theorem n_Fl : ∀ a, a < 15 → ∀ b, b < 15 → a ≠ b → (T_Fl a).2.1 ≠ (T_Fl b).2.1 := by decide +kernel
theorem to_Fl : ∀ k, k < 15 → parseFieldDescriptor (T_Fl k).2.2.1 = some (t_Fl k) := by decide +kernel
def R_Pl : String := "ClockTree$Plan"
def T_Pl : u_T := fun k => match k with
  | 0 => ("ClockTree$Plan", "there", "[Z", true)
  | 1 => ("ClockTree$Plan", "quality", "[I", true)
  | 2 => ("ClockTree$Plan", "offset", "[I", true)
  | 3 => ("ClockTree$Plan", "slope", "[I", true)
  | 4 => ("ClockTree$Plan", "restore", "[I", true)
  | 5 => ("ClockTree$Plan", "forced", "[I", true)
  | 6 => ("ClockTree$Plan", "manual", "[I", true)
  | 7 => ("ClockTree$Plan", "linkOf", "[I", true)
  | 8 => ("ClockTree$Plan", "peer", "[I", true)
  | 9 => ("ClockTree$Plan", "sourceQuality", "[I", true)
  | 10 => ("ClockTree$Plan", "sourceOffset", "[I", true)
  | 11 => ("ClockTree$Plan", "priority", "[I", true)
  | 12 => ("ClockTree$Plan", "lockedOut", "[Z", true)
  | 13 => ("ClockTree$Plan", "firstEnd", "[I", true)
  | 14 => ("ClockTree$Plan", "links", "I", false)
  | _ => ("ClockTree$Plan", "tracing", "Z", false)
def t_Pl : Nat → FieldType := fun k => match k with
  | 0 => .array .boolean
  | 1 => .array .int
  | 2 => .array .int
  | 3 => .array .int
  | 4 => .array .int
  | 5 => .array .int
  | 6 => .array .int
  | 7 => .array .int
  | 8 => .array .int
  | 9 => .array .int
  | 10 => .array .int
  | 11 => .array .int
  | 12 => .array .boolean
  | 13 => .array .int
  | 14 => .int
  | _ => .boolean
theorem n_Pl : ∀ a, a < 16 → ∀ b, b < 16 → a ≠ b → (T_Pl a).2.1 ≠ (T_Pl b).2.1 := by decide +kernel
theorem to_Pl : ∀ k, k < 16 → parseFieldDescriptor (T_Pl k).2.2.1 = some (t_Pl k) := by decide +kernel
def R_Wo : String := "ClockTree$Words"
def T_Wo : u_T := fun k => match k with
  | 0 => ("ClockTree$Words", "quality", "[I", true)
  | 1 => ("ClockTree$Words", "hops", "[I", true)
  | _ => ("ClockTree$Words", "trace", "[I", true)
def t_Wo : Nat → FieldType := fun k => match k with
  | 0 => .array .int
  | 1 => .array .int
  | _ => .array .int
theorem n_Wo : ∀ a, a < 3 → ∀ b, b < 3 → a ≠ b → (T_Wo a).2.1 ≠ (T_Wo b).2.1 := by decide +kernel
theorem to_Wo : ∀ k, k < 3 → parseFieldDescriptor (T_Wo k).2.2.1 = some (t_Wo k) := by decide +kernel
def R_CT : String := "ClockTree"
def T_CT : u_T := fun k => match k with
  | 0 => ("ClockTree", "plan", "LClockTree$Plan;", true)
  | 1 => ("ClockTree", "flow", "LClockTree$Flow;", true)
  | 2 => ("ClockTree", "trial", "LClockTree$Flow;", true)
  | 3 => ("ClockTree", "clocks", "LClockTree$Clocks;", true)
  | 4 => ("ClockTree", "calm", "LClockTree$Calm;", true)
  | 5 => ("ClockTree", "findingFailed", "[I", true)
  | 6 => ("ClockTree", "findingStarved", "[I", true)
  | _ => ("ClockTree", "findings", "I", false)
def t_CT : Nat → FieldType := fun k => match k with
  | 0 => .object "ClockTree$Plan"
  | 1 => .object "ClockTree$Flow"
  | 2 => .object "ClockTree$Flow"
  | 3 => .object "ClockTree$Clocks"
  | 4 => .object "ClockTree$Calm"
  | 5 => .array .int
  | 6 => .array .int
  | _ => .int
theorem n_CT : ∀ a, a < 8 → ∀ b, b < 8 → a ≠ b → (T_CT a).2.1 ≠ (T_CT b).2.1 := by decide +kernel
theorem to_CT : ∀ k, k < 8 → parseFieldDescriptor (T_CT k).2.2.1 = some (t_CT k) := by decide +kernel
def R_Mo : String := "ClockTreeModel"
def T_Mo : u_T := fun k => match k with
  | 0 => ("ClockTreeModel", "thrownCode", "I", false)
  | 1 => ("ClockTreeModel", "trace", "Z", false)
  | 2 => ("ClockTreeModel", "there", "[Z", true)
  | 3 => ("ClockTreeModel", "quality", "[I", true)
  | 4 => ("ClockTreeModel", "offset0", "[I", true)
  | 5 => ("ClockTreeModel", "slope", "[I", true)
  | 6 => ("ClockTreeModel", "restore", "[I", true)
  | 7 => ("ClockTreeModel", "forced", "[I", true)
  | 8 => ("ClockTreeModel", "manual", "[I", true)
  | 9 => ("ClockTreeModel", "source", "[I", true)
  | 10 => ("ClockTreeModel", "sourceOffset", "[I", true)
  | 11 => ("ClockTreeModel", "linkOf", "[I", true)
  | 12 => ("ClockTreeModel", "prior", "[I", true)
  | 13 => ("ClockTreeModel", "out", "[Z", true)
  | 14 => ("ClockTreeModel", "links", "I", false)
  | 15 => ("ClockTreeModel", "one", "[I", true)
  | 16 => ("ClockTreeModel", "two", "[I", true)
  | 17 => ("ClockTreeModel", "net", "[I", true)
  | 18 => ("ClockTreeModel", "kept", "[I", true)
  | 19 => ("ClockTreeModel", "phases", "[J", true)
  | 20 => ("ClockTreeModel", "keptPhases", "[J", true)
  | 21 => ("ClockTreeModel", "fresh", "[I", true)
  | 22 => ("ClockTreeModel", "findings", "I", false)
  | 23 => ("ClockTreeModel", "failedThere", "[I", true)
  | _ => ("ClockTreeModel", "starved", "[I", true)
def t_Mo : Nat → FieldType := fun k => match k with
  | 0 => .int
  | 1 => .boolean
  | 2 => .array .boolean
  | 3 => .array .int
  | 4 => .array .int
  | 5 => .array .int
  | 6 => .array .int
  | 7 => .array .int
  | 8 => .array .int
  | 9 => .array .int
  | 10 => .array .int
  | 11 => .array .int
  | 12 => .array .int
  | 13 => .array .boolean
  | 14 => .int
  | 15 => .array .int
  | 16 => .array .int
  | 17 => .array .int
  | 18 => .array .int
  | 19 => .array .long
  | 20 => .array .long
  | 21 => .array .int
  | 22 => .int
  | 23 => .array .int
  | _ => .array .int
theorem n_Mo : ∀ a, a < 25 → ∀ b, b < 25 → a ≠ b → (T_Mo a).2.1 ≠ (T_Mo b).2.1 := by decide +kernel
theorem to_Mo : ∀ k, k < 25 → parseFieldDescriptor (T_Mo k).2.2.1 = some (t_Mo k) := by decide +kernel
abbrev vwCl : List vw_C := [(R_Ca, T_Ca, 3), (R_Ck, T_Ck, 4), (R_Fl, T_Fl, 15), (R_Pl, T_Pl, 16), (R_Wo, T_Wo, 3), (R_CT, T_CT, 8), (R_Mo, T_Mo, 25)]
def y_CT_init : MethodName := ⟨"ClockTree", "<init>", "()V"⟩
def y_Pl_init : MethodName := ⟨"ClockTree$Plan", "<init>", "()V"⟩
def y_Fl_init : MethodName := ⟨"ClockTree$Flow", "<init>", "(LClockTree$Plan;)V"⟩
def y_Wo_init : MethodName := ⟨"ClockTree$Words", "<init>", "()V"⟩
def y_Ck_init : MethodName := ⟨"ClockTree$Clocks", "<init>", "()V"⟩
def y_Ca_init : MethodName := ⟨"ClockTree$Calm", "<init>", "()V"⟩
def y_CT_tracing : MethodName := ⟨"ClockTree", "tracing", "(Z)Z"⟩
def y_CT_settled : MethodName := ⟨"ClockTree", "settled", "()I"⟩
def y_CT_loop : MethodName := ⟨"ClockTree", "loop", "()Z"⟩
def y_Fl_follow : MethodName := ⟨"ClockTree$Flow", "follow", "(I)I"⟩
def y_Fl_isWhole : MethodName := ⟨"ClockTree$Flow", "isWhole", "(I)Z"⟩
def y_Fl_isLocked : MethodName := ⟨"ClockTree$Flow", "isLocked", "(I)Z"⟩
def y_CT_slotOf : MethodName := ⟨"ClockTree", "slotOf", "(II)I"⟩
def y_CT_elementOf : MethodName := ⟨"ClockTree", "elementOf", "(I)I"⟩
def y_CT_check : MethodName := ⟨"ClockTree", "check", "()I"⟩
def y_Pl_longestRestore : MethodName := ⟨"ClockTree$Plan", "longestRestore", "()I"⟩
def y_Fl_isLinkWhole : MethodName := ⟨"ClockTree$Flow", "isLinkWhole", "(I)Z"⟩
def y_Fl_copy : MethodName := ⟨"ClockTree$Flow", "copy", "(LClockTree$Flow;)V"⟩
def y_Wo_copy : MethodName := ⟨"ClockTree$Words", "copy", "(LClockTree$Words;)V"⟩
def y_Fl_setLinkFailed : MethodName := ⟨"ClockTree$Flow", "setLinkFailed", "(IZ)V"⟩
def y_Fl_passRounds : MethodName := ⟨"ClockTree$Flow", "passRounds", "(I)V"⟩
def y_Fl_passRound : MethodName := ⟨"ClockTree$Flow", "passRound", "()V"⟩
def y_Fl_listen : MethodName := ⟨"ClockTree$Flow", "listen", "(I)V"⟩
def y_Fl_hear : MethodName := ⟨"ClockTree$Flow", "hear", "(I)V"⟩
def y_Fl_comes : MethodName := ⟨"ClockTree$Flow", "comes", "(II)Z"⟩
def y_Wo_isSame : MethodName := ⟨"ClockTree$Words", "isSame", "(ILClockTree$Words;I)Z"⟩
def y_Wo_write : MethodName := ⟨"ClockTree$Words", "write", "(IIII)V"⟩
def y_Fl_weigh : MethodName := ⟨"ClockTree$Flow", "weigh", "(I)V"⟩
def y_Pl_hasSource : MethodName := ⟨"ClockTree$Plan", "hasSource", "(I)Z"⟩
def y_Fl_countUsable : MethodName := ⟨"ClockTree$Flow", "countUsable", "(II)V"⟩
def y_Fl_isUsable : MethodName := ⟨"ClockTree$Flow", "isUsable", "(II)Z"⟩
def y_CT_isWithin : MethodName := ⟨"ClockTree", "isWithin", "(III)Z"⟩
def y_Fl_decide : MethodName := ⟨"ClockTree$Flow", "decide", "(I)V"⟩
def y_Fl_choose : MethodName := ⟨"ClockTree$Flow", "choose", "(I)I"⟩
def y_Fl_bestPort : MethodName := ⟨"ClockTree$Flow", "bestPort", "(II)I"⟩
def y_Fl_isBetter : MethodName := ⟨"ClockTree$Flow", "isBetter", "(II)Z"⟩
def y_Fl_speak : MethodName := ⟨"ClockTree$Flow", "speak", "(I)V"⟩
def y_CT_findStarved : MethodName := ⟨"ClockTree", "findStarved", "(I)V"⟩
def y_Fl_isStarved : MethodName := ⟨"ClockTree$Flow", "isStarved", "(I)Z"⟩
def y_Fl_bestReached : MethodName := ⟨"ClockTree$Flow", "bestReached", "(I)I"⟩
def y_Fl_reachedFrom : MethodName := ⟨"ClockTree$Flow", "reachedFrom", "(I)I"⟩
def y_Fl_across : MethodName := ⟨"ClockTree$Flow", "across", "(II)I"⟩
def y_Fl_setElementFailed : MethodName := ⟨"ClockTree$Flow", "setElementFailed", "(IZ)V"⟩
def y_Fl_forget : MethodName := ⟨"ClockTree$Flow", "forget", "(I)V"⟩
def y_La_element : MethodName := ⟨"ClockTreeLaw", "element", "(LClockTree;IIII)I"⟩
def y_CT_element : MethodName := ⟨"ClockTree", "element", "(IIII)V"⟩
def y_CT_refuseUnless : MethodName := ⟨"ClockTree", "refuseUnless", "(Z)V"⟩
def y_Ck_start : MethodName := ⟨"ClockTree$Clocks", "start", "(II)V"⟩
def y_La_link : MethodName := ⟨"ClockTreeLaw", "link", "(LClockTree;IIII[J)I"⟩
def y_CT_link : MethodName := ⟨"ClockTree", "link", "(IIII)I"⟩
def y_Pl_isPort : MethodName := ⟨"ClockTree$Plan", "isPort", "(II)Z"⟩
def y_Pl_isThere : MethodName := ⟨"ClockTree$Plan", "isThere", "(I)Z"⟩
def y_Pl_isTaken : MethodName := ⟨"ClockTree$Plan", "isTaken", "(I)Z"⟩
def y_Pl_join : MethodName := ⟨"ClockTree$Plan", "join", "(II)I"⟩
def y_La_source : MethodName := ⟨"ClockTreeLaw", "source", "(LClockTree;IIII)I"⟩
def y_CT_source : MethodName := ⟨"ClockTree", "source", "(IIII)V"⟩
def y_La_priority : MethodName := ⟨"ClockTreeLaw", "priority", "(LClockTree;III[J)I"⟩
def y_CT_priority : MethodName := ⟨"ClockTree", "priority", "(III)I"⟩
def y_La_restore : MethodName := ⟨"ClockTreeLaw", "restore", "(LClockTree;II[J)I"⟩
def y_CT_restore : MethodName := ⟨"ClockTree", "restore", "(II)I"⟩
def y_La_command : MethodName := ⟨"ClockTreeLaw", "command", "(LClockTree;III[J)I"⟩
def y_CT_command : MethodName := ⟨"ClockTree", "command", "(III)I"⟩
def y_La_lockout : MethodName := ⟨"ClockTreeLaw", "lockout", "(LClockTree;IIZ[J)I"⟩
def y_CT_lockout : MethodName := ⟨"ClockTree", "lockout", "(IIZ)Z"⟩
def y_La_fail : MethodName := ⟨"ClockTreeLaw", "fail", "(LClockTree;IZ[J)I"⟩
def y_CT_fail : MethodName := ⟨"ClockTree", "fail", "(IZ)Z"⟩
def y_Pl_isLink : MethodName := ⟨"ClockTree$Plan", "isLink", "(I)Z"⟩
def y_La_failElement : MethodName := ⟨"ClockTreeLaw", "failElement", "(LClockTree;IZ[J)I"⟩
def y_CT_failElement : MethodName := ⟨"ClockTree", "failElement", "(IZ)Z"⟩
def y_La_lose : MethodName := ⟨"ClockTreeLaw", "lose", "(LClockTree;IZ)I"⟩
def y_CT_lose : MethodName := ⟨"ClockTree", "lose", "(IZ)V"⟩
def y_Fl_loseFrom : MethodName := ⟨"ClockTree$Flow", "loseFrom", "(I)V"⟩
def y_La_rounds : MethodName := ⟨"ClockTreeLaw", "rounds", "(LClockTree;I[J)I"⟩
def y_CT_rounds : MethodName := ⟨"ClockTree", "rounds", "(I)I"⟩
def y_Ck_passRound : MethodName := ⟨"ClockTree$Clocks", "passRound", "(LClockTree$Plan;LClockTree$Flow;)V"⟩
def y_Ck_offsetAfter : MethodName := ⟨"ClockTree$Clocks", "offsetAfter", "(ILClockTree$Plan;LClockTree$Flow;)I"⟩
def y_Ca_passRound : MethodName := ⟨"ClockTree$Calm", "passRound", "(LClockTree$Flow;)V"⟩
def y_Fl_shownCondition : MethodName := ⟨"ClockTree$Flow", "shownCondition", "(I)I"⟩
def y_La_state : MethodName := ⟨"ClockTreeLaw", "state", "(LClockTree;II[J)I"⟩
def y_CT_state : MethodName := ⟨"ClockTree", "state", "(II)I"⟩
def y_La_phase : MethodName := ⟨"ClockTreeLaw", "phase", "(LClockTree;I[J)I"⟩
def y_CT_phase : MethodName := ⟨"ClockTree", "phase", "(I)J"⟩
def y_La_sends : MethodName := ⟨"ClockTreeLaw", "sends", "(LClockTree;II[J)I"⟩
def y_CT_sends : MethodName := ⟨"ClockTree", "sends", "(II)I"⟩
def y_La_traced : MethodName := ⟨"ClockTreeLaw", "traced", "(LClockTree;I[J)I"⟩
def y_CT_traced : MethodName := ⟨"ClockTree", "traced", "(I)I"⟩
def y_La_best : MethodName := ⟨"ClockTreeLaw", "best", "(LClockTree;I[J)I"⟩
def y_CT_best : MethodName := ⟨"ClockTree", "best", "(I)I"⟩
def y_La_finding : MethodName := ⟨"ClockTreeLaw", "finding", "(LClockTree;II[J)I"⟩
def y_CT_finding : MethodName := ⟨"ClockTree", "finding", "(II)I"⟩
def y_Mo_init : MethodName := ⟨"ClockTreeModel", "<init>", "()V"⟩
def y_Mo_thrown : MethodName := ⟨"ClockTreeModel", "thrown", "()I"⟩
def y_Mo_element : MethodName := ⟨"ClockTreeModel", "element", "(IIII)V"⟩
def y_Mo_link : MethodName := ⟨"ClockTreeModel", "link", "(IIII)I"⟩
def y_Mo_noPort : MethodName := ⟨"ClockTreeModel", "noPort", "(II)Z"⟩
def y_Mo_noElement : MethodName := ⟨"ClockTreeModel", "noElement", "(I)Z"⟩
def y_Mo_source : MethodName := ⟨"ClockTreeModel", "source", "(IIII)V"⟩
def y_Mo_priority : MethodName := ⟨"ClockTreeModel", "priority", "(III)I"⟩
def y_Mo_restore : MethodName := ⟨"ClockTreeModel", "restore", "(II)I"⟩
def y_Mo_tracing : MethodName := ⟨"ClockTreeModel", "tracing", "(Z)Z"⟩
def y_Mo_command : MethodName := ⟨"ClockTreeModel", "command", "(III)I"⟩
def y_Mo_lockout : MethodName := ⟨"ClockTreeModel", "lockout", "(IIZ)Z"⟩
def y_Mo_fail : MethodName := ⟨"ClockTreeModel", "fail", "(IZ)Z"⟩
def y_Mo_noLink : MethodName := ⟨"ClockTreeModel", "noLink", "(I)Z"⟩
def y_Mo_failElement : MethodName := ⟨"ClockTreeModel", "failElement", "(IZ)Z"⟩
def y_Mo_breakDown : MethodName := ⟨"ClockTreeModel", "breakDown", "(I)V"⟩
def y_Mo_sentNothing : MethodName := ⟨"ClockTreeModel", "sentNothing", "(I)V"⟩
def y_Mo_comesBack : MethodName := ⟨"ClockTreeModel", "comesBack", "(I)V"⟩
def y_Mo_lose : MethodName := ⟨"ClockTreeModel", "lose", "(IZ)V"⟩
def y_Mo_rounds : MethodName := ⟨"ClockTreeModel", "rounds", "(I)I"⟩
def y_Mo_round : MethodName := ⟨"ClockTreeModel", "round", "()V"⟩
def y_Mo_whole : MethodName := ⟨"ClockTreeModel", "whole", "(I)Z"⟩
def y_Mo_gets : MethodName := ⟨"ClockTreeModel", "gets", "(I)V"⟩
def y_Mo_across : MethodName := ⟨"ClockTreeModel", "across", "(I)I"⟩
def y_Mo_chooses : MethodName := ⟨"ClockTreeModel", "chooses", "(I)V"⟩
def y_Mo_usable : MethodName := ⟨"ClockTreeModel", "usable", "(I)Z"⟩
def y_Mo_hasWord : MethodName := ⟨"ClockTreeModel", "hasWord", "(I)Z"⟩
def y_Mo_choice : MethodName := ⟨"ClockTreeModel", "choice", "(I)I"⟩
def y_Mo_bestOf : MethodName := ⟨"ClockTreeModel", "bestOf", "(II)I"⟩
def y_Mo_better : MethodName := ⟨"ClockTreeModel", "better", "(II)Z"⟩
def y_Mo_qualityOf : MethodName := ⟨"ClockTreeModel", "qualityOf", "(I)I"⟩
def y_Mo_hopsOf : MethodName := ⟨"ClockTreeModel", "hopsOf", "(I)I"⟩
def y_Mo_stateOf : MethodName := ⟨"ClockTreeModel", "stateOf", "(I)I"⟩
def y_Mo_portOf : MethodName := ⟨"ClockTreeModel", "portOf", "(I)I"⟩
def y_Mo_settled : MethodName := ⟨"ClockTreeModel", "settled", "()I"⟩
def y_Mo_state : MethodName := ⟨"ClockTreeModel", "state", "(II)I"⟩
def y_Mo_phase : MethodName := ⟨"ClockTreeModel", "phase", "(I)J"⟩
def y_Mo_sends : MethodName := ⟨"ClockTreeModel", "sends", "(II)I"⟩
def y_Mo_traced : MethodName := ⟨"ClockTreeModel", "traced", "(I)I"⟩
def y_Mo_followed : MethodName := ⟨"ClockTreeModel", "followed", "(I)I"⟩
def y_Mo_loop : MethodName := ⟨"ClockTreeModel", "loop", "()Z"⟩
def y_Mo_best : MethodName := ⟨"ClockTreeModel", "best", "(I)I"⟩
def y_Mo_bestFor : MethodName := ⟨"ClockTreeModel", "bestFor", "(I)I"⟩
def y_Mo_reached : MethodName := ⟨"ClockTreeModel", "reached", "(I)I"⟩
def y_Mo_check : MethodName := ⟨"ClockTreeModel", "check", "()I"⟩
def y_Mo_keep : MethodName := ⟨"ClockTreeModel", "keep", "(Z)V"⟩
def y_Mo_goOn : MethodName := ⟨"ClockTreeModel", "goOn", "(I)V"⟩
def y_Mo_finding : MethodName := ⟨"ClockTreeModel", "finding", "(II)I"⟩
abbrev zL : Type := (Bool × Nat) ⊕ (Nat ⊕ (Nat × List (Option (Option Nat))))
abbrev lay0 : List zL := [.inr (.inr (5, [(some (some 1)), (some (some 16)), (some (some 35)), (some (some 54)), (some (some 59)), (some (some 62)), (some (some 63)), none])), .inr (.inr (3, [(some (some 2)), (some (some 3)), (some (some 4)), (some (some 5)), (some (some 6)), (some (some 7)), (some (some 8)), (some (some 9)), (some (some 10)), (some (some 11)), (some (some 12)), (some (some 13)), (some (some 14)), (some (some 15)), none, none])), .inl (true, 16), .inl (false, 16), .inl (false, 16), .inl (false, 16), .inl (false, 16), .inl (false, 16), .inl (false, 16), .inl (false, 64), .inl (false, 64), .inl (false, 64), .inl (false, 64), .inl (false, 64), .inl (true, 64), .inl (false, 24), .inr (.inr (2, [(some (some 1)), (some (some 17)), (some (some 21)), (some (some 25)), (some (some 29)), (some (some 30)), (some (some 31)), (some (some 32)), (some (some 33)), (some (some 34)), none, none, none, (some none), none])), .inr (.inr (4, [(some (some 18)), (some (some 19)), (some (some 20))])), .inl (false, 64), .inl (false, 64), .inl (false, 64), .inr (.inr (4, [(some (some 22)), (some (some 23)), (some (some 24))])), .inl (false, 64), .inl (false, 64), .inl (false, 64), .inr (.inr (4, [(some (some 26)), (some (some 27)), (some (some 28))])), .inl (false, 64), .inl (false, 64), .inl (false, 64), .inl (false, 64), .inl (false, 64), .inl (false, 16), .inl (false, 16), .inl (false, 16), .inl (false, 16), .inr (.inr (2, [(some (some 1)), (some (some 36)), (some (some 40)), (some (some 44)), (some (some 48)), (some (some 49)), (some (some 50)), (some (some 51)), (some (some 52)), (some (some 53)), none, none, none, (some none), none])), .inr (.inr (4, [(some (some 37)), (some (some 38)), (some (some 39))])), .inl (false, 64), .inl (false, 64), .inl (false, 64), .inr (.inr (4, [(some (some 41)), (some (some 42)), (some (some 43))])), .inl (false, 64), .inl (false, 64), .inl (false, 64), .inr (.inr (4, [(some (some 45)), (some (some 46)), (some (some 47))])), .inl (false, 64), .inl (false, 64), .inl (false, 64), .inl (false, 64), .inl (false, 64), .inl (false, 16), .inl (false, 16), .inl (false, 16), .inl (false, 16), .inr (.inr (1, [(some (some 55)), (some (some 56)), (some (some 57)), (some (some 58))])), .inl (false, 16), .inl (false, 16), .inl (false, 16), .inr (.inl 16), .inr (.inr (0, [(some (some 60)), (some (some 61)), none])), .inl (false, 16), .inl (false, 16), .inl (false, 100), .inl (false, 100), .inr (.inr (6, [none, none, (some (some 65)), (some (some 66)), (some (some 67)), (some (some 68)), (some (some 69)), (some (some 70)), (some (some 71)), (some (some 72)), (some (some 73)), (some (some 74)), (some (some 75)), (some (some 76)), none, (some (some 77)), (some (some 78)), (some (some 79)), (some (some 80)), (some (some 81)), (some (some 82)), (some (some 83)), none, (some (some 84)), (some (some 85))])), .inl (true, 16), .inl (false, 16), .inl (false, 16), .inl (false, 16), .inl (false, 16), .inl (false, 16), .inl (false, 16), .inl (false, 64), .inl (false, 64), .inl (false, 64), .inl (false, 64), .inl (true, 64), .inl (false, 24), .inl (false, 24), .inl (false, 762), .inl (false, 762), .inr (.inl 16), .inr (.inl 16), .inl (false, 192), .inl (false, 100), .inl (false, 100), .inr (.inl 1)]
theorem lF {b : Nat} (hb : b = 16 ∨ b = 35) : lay0[b]? = some (.inr (.inr (2, [(some (some 1)), (some (some (b + 1))), (some (some (b + 5))), (some (some (b + 9))), (some (some (b + 13))), (some (some (b + 14))), (some (some (b + 15))), (some (some (b + 16))), (some (some (b + 17))), (some (some (b + 18))), none, none, none, (some none), none]))) := by rcases hb with rfl | rfl <;> rfl
theorem lF1 {b : Nat} (hb : b = 16 ∨ b = 35) : lay0[b + 1]? = some (.inr (.inr (4, [(some (some (b + 2))), (some (some (b + 3))), (some (some (b + 4)))]))) := by rcases hb with rfl | rfl <;> rfl
theorem lF2 {b : Nat} (hb : b = 16 ∨ b = 35) : lay0[b + 2]? = some (.inl (false, 64)) := by rcases hb with rfl | rfl <;> rfl
theorem lF3 {b : Nat} (hb : b = 16 ∨ b = 35) : lay0[b + 3]? = some (.inl (false, 64)) := by rcases hb with rfl | rfl <;> rfl
theorem lF4 {b : Nat} (hb : b = 16 ∨ b = 35) : lay0[b + 4]? = some (.inl (false, 64)) := by rcases hb with rfl | rfl <;> rfl
theorem lF5 {b : Nat} (hb : b = 16 ∨ b = 35) : lay0[b + 5]? = some (.inr (.inr (4, [(some (some (b + 6))), (some (some (b + 7))), (some (some (b + 8)))]))) := by rcases hb with rfl | rfl <;> rfl
theorem lF6 {b : Nat} (hb : b = 16 ∨ b = 35) : lay0[b + 6]? = some (.inl (false, 64)) := by rcases hb with rfl | rfl <;> rfl
theorem lF7 {b : Nat} (hb : b = 16 ∨ b = 35) : lay0[b + 7]? = some (.inl (false, 64)) := by rcases hb with rfl | rfl <;> rfl
theorem lF8 {b : Nat} (hb : b = 16 ∨ b = 35) : lay0[b + 8]? = some (.inl (false, 64)) := by rcases hb with rfl | rfl <;> rfl
theorem lF9 {b : Nat} (hb : b = 16 ∨ b = 35) : lay0[b + 9]? = some (.inr (.inr (4, [(some (some (b + 10))), (some (some (b + 11))), (some (some (b + 12)))]))) := by rcases hb with rfl | rfl <;> rfl
theorem lF10 {b : Nat} (hb : b = 16 ∨ b = 35) : lay0[b + 10]? = some (.inl (false, 64)) := by rcases hb with rfl | rfl <;> rfl
theorem lF11 {b : Nat} (hb : b = 16 ∨ b = 35) : lay0[b + 11]? = some (.inl (false, 64)) := by rcases hb with rfl | rfl <;> rfl
theorem lF12 {b : Nat} (hb : b = 16 ∨ b = 35) : lay0[b + 12]? = some (.inl (false, 64)) := by rcases hb with rfl | rfl <;> rfl
theorem lF13 {b : Nat} (hb : b = 16 ∨ b = 35) : lay0[b + 13]? = some (.inl (false, 64)) := by rcases hb with rfl | rfl <;> rfl
theorem lF14 {b : Nat} (hb : b = 16 ∨ b = 35) : lay0[b + 14]? = some (.inl (false, 64)) := by rcases hb with rfl | rfl <;> rfl
theorem lF15 {b : Nat} (hb : b = 16 ∨ b = 35) : lay0[b + 15]? = some (.inl (false, 16)) := by rcases hb with rfl | rfl <;> rfl
theorem lF16 {b : Nat} (hb : b = 16 ∨ b = 35) : lay0[b + 16]? = some (.inl (false, 16)) := by rcases hb with rfl | rfl <;> rfl
theorem lF17 {b : Nat} (hb : b = 16 ∨ b = 35) : lay0[b + 17]? = some (.inl (false, 16)) := by rcases hb with rfl | rfl <;> rfl
theorem lF18 {b : Nat} (hb : b = 16 ∨ b = 35) : lay0[b + 18]? = some (.inl (false, 16)) := by rcases hb with rfl | rfl <;> rfl
def isW (w : Nat) : Prop := w = 17 ∨ w = 21 ∨ w = 25 ∨ w = 36 ∨ w = 40 ∨ w = 44
theorem lW {w : Nat} (hw : isW w) : lay0[w]? = some (.inr (.inr (4, [some (some (w + 1)), some (some (w + 2)), some (some (w + 3))]))) := by rcases hw with rfl | rfl | rfl | rfl | rfl | rfl <;> rfl
theorem lW1 {w : Nat} (hw : isW w) : lay0[w + 1]? = some (.inl (false, 64)) := by rcases hw with rfl | rfl | rfl | rfl | rfl | rfl <;> rfl
theorem lW2 {w : Nat} (hw : isW w) : lay0[w + 2]? = some (.inl (false, 64)) := by rcases hw with rfl | rfl | rfl | rfl | rfl | rfl <;> rfl
theorem lW3 {w : Nat} (hw : isW w) : lay0[w + 3]? = some (.inl (false, 64)) := by rcases hw with rfl | rfl | rfl | rfl | rfl | rfl <;> rfl
theorem wF1 {b : Nat} (hb : b = 16 ∨ b = 35) : isW (b + 1) := by unfold isW; omega
theorem wF5 {b : Nat} (hb : b = 16 ∨ b = 35) : isW (b + 5) := by unfold isW; omega
theorem wF9 {b : Nat} (hb : b = 16 ∨ b = 35) : isW (b + 9) := by unfold isW; omega
def TBL : List Cond := k2_sels lw_privs ++ tables_1.filter goodWord
theorem tb0 {w : Cond} (h : w ∈ tables_1_1) (g : goodWord w = true) : w ∈ TBL := List.mem_append_right _ (List.mem_filter.mpr ⟨by unfold tables_1; exact List.mem_append_left _ h, g⟩)
theorem tb1 {w : Cond} (h : w ∈ tables_1_2) (g : goodWord w = true) : w ∈ TBL := List.mem_append_right _ (List.mem_filter.mpr ⟨by unfold tables_1; exact List.mem_append_right _ (List.mem_append_left _ h), g⟩)
theorem tb2 {w : Cond} (h : w ∈ tables_1_3) (g : goodWord w = true) : w ∈ TBL := List.mem_append_right _ (List.mem_filter.mpr ⟨by unfold tables_1; exact List.mem_append_right _ (List.mem_append_right _ (List.mem_append_left _ h)), g⟩)
theorem tb3 {w : Cond} (h : w ∈ tables_1_4) (g : goodWord w = true) : w ∈ TBL := List.mem_append_right _ (List.mem_filter.mpr ⟨by unfold tables_1; exact List.mem_append_right _ (List.mem_append_right _ (List.mem_append_right _ (List.mem_append_left _ h))), g⟩)
theorem tb4 {w : Cond} (h : w ∈ tables_1_5) (g : goodWord w = true) : w ∈ TBL := List.mem_append_right _ (List.mem_filter.mpr ⟨by unfold tables_1; exact List.mem_append_right _ (List.mem_append_right _ (List.mem_append_right _ (List.mem_append_right _ (h)))), g⟩)
theorem tbS {q : MethodName × Nat} (h : q ∈ lw_privs) : Cond.selects q.1.cls q.1 q.1 ∈ TBL := List.mem_append_left _ (List.mem_map.mpr ⟨q, h, rfl⟩)
theorem TBL_good : ∀ w ∈ TBL, (w.onTables && w.keeps) = true ∨ ∃ ty, w = .arrayClass ty := by
  intro w hw
  rcases List.mem_append.mp hw with h | h
  · obtain ⟨q, -, rfl⟩ := List.mem_map.mp h
    exact Or.inl rfl
  · exact good_of_word (List.mem_filter.mp h).2
theorem TBL_in : ∀ w ∈ TBL, w ∈ lw_tbl := by
  intro w hw
  rcases List.mem_append.mp hw with h | h
  · exact List.mem_append_left _ h
  · exact List.mem_append_right _ (List.mem_filter.mp h).1
def NEST : List Cond := [.methodLinkNest "ClockTree$Flow" 91 y_CT_slotOf "ClockTree", .methodLinkNest "ClockTree$Flow" 152 y_CT_elementOf "ClockTree", .methodLinkNest "ClockTree$Flow" 165 y_CT_isWithin "ClockTree", .methodLinkNest "ClockTree$Plan" 69 y_CT_isWithin "ClockTree", .methodLinkNest "ClockTree$Clocks" 41 y_CT_slotOf "ClockTree", .methodLinkNest "ClockTree$Clocks" 53 y_CT_elementOf "ClockTree"]
theorem NEST_is : ∀ w ∈ NEST, ∃ (a : String) (i : Nat) (x : MethodName) (h : String), w = .methodLinkNest a i x h := by
  intro w hw
  simp only [NEST, List.mem_cons, List.not_mem_nil, or_false] at hw
  rcases hw with rfl | rfl | rfl | rfl | rfl | rfl <;> exact ⟨_, _, _, _, rfl⟩
theorem ne_Fl_91 : Cond.methodLinkNest "ClockTree$Flow" 91 y_CT_slotOf "ClockTree" ∈ NEST := List.mem_of_getElem? (i := 0) rfl
theorem ne_Fl_152 : Cond.methodLinkNest "ClockTree$Flow" 152 y_CT_elementOf "ClockTree" ∈ NEST := List.mem_of_getElem? (i := 1) rfl
theorem ne_Fl_165 : Cond.methodLinkNest "ClockTree$Flow" 165 y_CT_isWithin "ClockTree" ∈ NEST := List.mem_of_getElem? (i := 2) rfl
theorem ne_Pl_69 : Cond.methodLinkNest "ClockTree$Plan" 69 y_CT_isWithin "ClockTree" ∈ NEST := List.mem_of_getElem? (i := 3) rfl
theorem ne_Ck_41 : Cond.methodLinkNest "ClockTree$Clocks" 41 y_CT_slotOf "ClockTree" ∈ NEST := List.mem_of_getElem? (i := 4) rfl
theorem ne_Ck_53 : Cond.methodLinkNest "ClockTree$Clocks" 53 y_CT_elementOf "ClockTree" ∈ NEST := List.mem_of_getElem? (i := 5) rfl
theorem u_Ca : ∀ w ∈ u_ws R_Ca T_Ca 3, w ∈ TBL := by
  intro w hw
  obtain ⟨k, hk, rfl⟩ := List.mem_map.mp hw
  have hk := List.mem_range.mp hk
  rcases (by omega : k = 0 ∨ k = 1 ∨ k = 2) with rfl | rfl | rfl
  · exact tb0 (List.mem_of_getElem? (i := 232) rfl) rfl
  · exact tb0 (List.mem_of_getElem? (i := 234) rfl) rfl
  · exact tb0 (List.mem_of_getElem? (i := 236) rfl) rfl
theorem u_Ck : ∀ w ∈ u_ws R_Ck T_Ck 4, w ∈ TBL := by
  intro w hw
  obtain ⟨k, hk, rfl⟩ := List.mem_map.mp hw
  have hk := List.mem_range.mp hk
  rcases (by omega : k = 0 ∨ k = 1 ∨ k = 2 ∨ k = 3) with rfl | rfl | rfl | rfl
  · exact tb0 (List.mem_of_getElem? (i := 211) rfl) rfl
  · exact tb0 (List.mem_of_getElem? (i := 213) rfl) rfl
  · exact tb0 (List.mem_of_getElem? (i := 215) rfl) rfl
  · exact tb0 (List.mem_of_getElem? (i := 217) rfl) rfl
theorem u_Fl : ∀ w ∈ u_ws R_Fl T_Fl 15, w ∈ TBL := by
  intro w hw
  obtain ⟨k, hk, rfl⟩ := List.mem_map.mp hw
  have hk := List.mem_range.mp hk
  rcases (by omega : k = 0 ∨ k = 1 ∨ k = 2 ∨ k = 3 ∨ k = 4 ∨ k = 5 ∨ k = 6 ∨ k = 7 ∨ k = 8 ∨ k = 9 ∨ k = 10 ∨ k = 11 ∨ k = 12 ∨ k = 13 ∨ k = 14) with rfl | rfl | rfl | rfl | rfl | rfl | rfl | rfl | rfl | rfl | rfl | rfl | rfl | rfl | rfl
  · exact tb0 (List.mem_of_getElem? (i := 168) rfl) rfl
  · exact tb0 (List.mem_of_getElem? (i := 170) rfl) rfl
  · exact tb0 (List.mem_of_getElem? (i := 172) rfl) rfl
  · exact tb0 (List.mem_of_getElem? (i := 174) rfl) rfl
  · exact tb0 (List.mem_of_getElem? (i := 176) rfl) rfl
  · exact tb0 (List.mem_of_getElem? (i := 178) rfl) rfl
  · exact tb0 (List.mem_of_getElem? (i := 180) rfl) rfl
  · exact tb0 (List.mem_of_getElem? (i := 182) rfl) rfl
  · exact tb0 (List.mem_of_getElem? (i := 184) rfl) rfl
  · exact tb0 (List.mem_of_getElem? (i := 186) rfl) rfl
  · exact tb0 (List.mem_of_getElem? (i := 188) rfl) rfl
  · exact tb0 (List.mem_of_getElem? (i := 190) rfl) rfl
  · exact tb0 (List.mem_of_getElem? (i := 192) rfl) rfl
  · exact tb0 (List.mem_of_getElem? (i := 194) rfl) rfl
  · exact tb0 (List.mem_of_getElem? (i := 196) rfl) rfl
theorem u_Pl : ∀ w ∈ u_ws R_Pl T_Pl 16, w ∈ TBL := by
  intro w hw
  obtain ⟨k, hk, rfl⟩ := List.mem_map.mp hw
  have hk := List.mem_range.mp hk
  rcases (by omega : k = 0 ∨ k = 1 ∨ k = 2 ∨ k = 3 ∨ k = 4 ∨ k = 5 ∨ k = 6 ∨ k = 7 ∨ k = 8 ∨ k = 9 ∨ k = 10 ∨ k = 11 ∨ k = 12 ∨ k = 13 ∨ k = 14 ∨ k = 15) with rfl | rfl | rfl | rfl | rfl | rfl | rfl | rfl | rfl | rfl | rfl | rfl | rfl | rfl | rfl | rfl
  · exact tb0 (List.mem_of_getElem? (i := 83) rfl) rfl
  · exact tb0 (List.mem_of_getElem? (i := 85) rfl) rfl
  · exact tb0 (List.mem_of_getElem? (i := 87) rfl) rfl
  · exact tb0 (List.mem_of_getElem? (i := 89) rfl) rfl
  · exact tb0 (List.mem_of_getElem? (i := 91) rfl) rfl
  · exact tb0 (List.mem_of_getElem? (i := 93) rfl) rfl
  · exact tb0 (List.mem_of_getElem? (i := 95) rfl) rfl
  · exact tb0 (List.mem_of_getElem? (i := 97) rfl) rfl
  · exact tb0 (List.mem_of_getElem? (i := 99) rfl) rfl
  · exact tb0 (List.mem_of_getElem? (i := 101) rfl) rfl
  · exact tb0 (List.mem_of_getElem? (i := 103) rfl) rfl
  · exact tb0 (List.mem_of_getElem? (i := 105) rfl) rfl
  · exact tb0 (List.mem_of_getElem? (i := 107) rfl) rfl
  · exact tb0 (List.mem_of_getElem? (i := 109) rfl) rfl
  · exact tb0 (List.mem_of_getElem? (i := 111) rfl) rfl
  · exact tb0 (List.mem_of_getElem? (i := 113) rfl) rfl
theorem u_Wo : ∀ w ∈ u_ws R_Wo T_Wo 3, w ∈ TBL := by
  intro w hw
  obtain ⟨k, hk, rfl⟩ := List.mem_map.mp hw
  have hk := List.mem_range.mp hk
  rcases (by omega : k = 0 ∨ k = 1 ∨ k = 2) with rfl | rfl | rfl
  · exact tb0 (List.mem_of_getElem? (i := 138) rfl) rfl
  · exact tb0 (List.mem_of_getElem? (i := 140) rfl) rfl
  · exact tb0 (List.mem_of_getElem? (i := 142) rfl) rfl
theorem u_CT : ∀ w ∈ u_ws R_CT T_CT 8, w ∈ TBL := by
  intro w hw
  obtain ⟨k, hk, rfl⟩ := List.mem_map.mp hw
  have hk := List.mem_range.mp hk
  rcases (by omega : k = 0 ∨ k = 1 ∨ k = 2 ∨ k = 3 ∨ k = 4 ∨ k = 5 ∨ k = 6 ∨ k = 7) with rfl | rfl | rfl | rfl | rfl | rfl | rfl | rfl
  · exact tb1 (List.mem_of_getElem? (i := 7) rfl) rfl
  · exact tb1 (List.mem_of_getElem? (i := 9) rfl) rfl
  · exact tb1 (List.mem_of_getElem? (i := 11) rfl) rfl
  · exact tb1 (List.mem_of_getElem? (i := 13) rfl) rfl
  · exact tb1 (List.mem_of_getElem? (i := 15) rfl) rfl
  · exact tb1 (List.mem_of_getElem? (i := 17) rfl) rfl
  · exact tb1 (List.mem_of_getElem? (i := 19) rfl) rfl
  · exact tb1 (List.mem_of_getElem? (i := 21) rfl) rfl
theorem u_Mo : ∀ w ∈ u_ws R_Mo T_Mo 25, w ∈ TBL := by
  intro w hw
  obtain ⟨k, hk, rfl⟩ := List.mem_map.mp hw
  have hk := List.mem_range.mp hk
  rcases (by omega : k = 0 ∨ k = 1 ∨ k = 2 ∨ k = 3 ∨ k = 4 ∨ k = 5 ∨ k = 6 ∨ k = 7 ∨ k = 8 ∨ k = 9 ∨ k = 10 ∨ k = 11 ∨ k = 12 ∨ k = 13 ∨ k = 14 ∨ k = 15 ∨ k = 16 ∨ k = 17 ∨ k = 18 ∨ k = 19 ∨ k = 20 ∨ k = 21 ∨ k = 22 ∨ k = 23 ∨ k = 24) with rfl | rfl | rfl | rfl | rfl | rfl | rfl | rfl | rfl | rfl | rfl | rfl | rfl | rfl | rfl | rfl | rfl | rfl | rfl | rfl | rfl | rfl | rfl | rfl | rfl
  · exact tb3 (List.mem_of_getElem? (i := 2) rfl) rfl
  · exact tb3 (List.mem_of_getElem? (i := 4) rfl) rfl
  · exact tb3 (List.mem_of_getElem? (i := 6) rfl) rfl
  · exact tb3 (List.mem_of_getElem? (i := 8) rfl) rfl
  · exact tb3 (List.mem_of_getElem? (i := 10) rfl) rfl
  · exact tb3 (List.mem_of_getElem? (i := 12) rfl) rfl
  · exact tb3 (List.mem_of_getElem? (i := 14) rfl) rfl
  · exact tb3 (List.mem_of_getElem? (i := 16) rfl) rfl
  · exact tb3 (List.mem_of_getElem? (i := 18) rfl) rfl
  · exact tb3 (List.mem_of_getElem? (i := 20) rfl) rfl
  · exact tb3 (List.mem_of_getElem? (i := 22) rfl) rfl
  · exact tb3 (List.mem_of_getElem? (i := 24) rfl) rfl
  · exact tb3 (List.mem_of_getElem? (i := 26) rfl) rfl
  · exact tb3 (List.mem_of_getElem? (i := 28) rfl) rfl
  · exact tb3 (List.mem_of_getElem? (i := 30) rfl) rfl
  · exact tb3 (List.mem_of_getElem? (i := 32) rfl) rfl
  · exact tb3 (List.mem_of_getElem? (i := 34) rfl) rfl
  · exact tb3 (List.mem_of_getElem? (i := 36) rfl) rfl
  · exact tb3 (List.mem_of_getElem? (i := 38) rfl) rfl
  · exact tb3 (List.mem_of_getElem? (i := 40) rfl) rfl
  · exact tb3 (List.mem_of_getElem? (i := 42) rfl) rfl
  · exact tb3 (List.mem_of_getElem? (i := 44) rfl) rfl
  · exact tb3 (List.mem_of_getElem? (i := 46) rfl) rfl
  · exact tb3 (List.mem_of_getElem? (i := 48) rfl) rfl
  · exact tb3 (List.mem_of_getElem? (i := 50) rfl) rfl
theorem lk_La_73 : Cond.methodLink "ClockTreeLaw" 73 y_CT_init ∈ TBL := tb0 (List.mem_of_getElem? (i := 18) rfl) rfl
theorem lk_CT_11 : Cond.methodLink "ClockTree" 11 y_Pl_init ∈ TBL := tb0 (List.mem_of_getElem? (i := 26) rfl) rfl
theorem lk_Pl_9 : Cond.fieldLink "ClockTree$Plan" 9 "ClockTree$Plan" "there" "[Z" ∈ TBL := tb0 (List.mem_of_getElem? (i := 33) rfl) rfl
theorem lk_CT_61 : Cond.fieldLink "ClockTree" 61 "ClockTree$Plan" "there" "[Z" ∈ TBL := tb0 (List.mem_of_getElem? (i := 34) rfl) rfl
theorem lk_Fl_81 : Cond.fieldLink "ClockTree$Flow" 81 "ClockTree$Plan" "there" "[Z" ∈ TBL := tb0 (List.mem_of_getElem? (i := 35) rfl) rfl
theorem lk_Pl_15 : Cond.fieldLink "ClockTree$Plan" 15 "ClockTree$Plan" "quality" "[I" ∈ TBL := tb0 (List.mem_of_getElem? (i := 36) rfl) rfl
theorem lk_CT_72 : Cond.fieldLink "ClockTree" 72 "ClockTree$Plan" "quality" "[I" ∈ TBL := tb0 (List.mem_of_getElem? (i := 37) rfl) rfl
theorem lk_Fl_199 : Cond.fieldLink "ClockTree$Flow" 199 "ClockTree$Plan" "quality" "[I" ∈ TBL := tb0 (List.mem_of_getElem? (i := 38) rfl) rfl
theorem lk_Pl_19 : Cond.fieldLink "ClockTree$Plan" 19 "ClockTree$Plan" "offset" "[I" ∈ TBL := tb0 (List.mem_of_getElem? (i := 39) rfl) rfl
theorem lk_CT_75 : Cond.fieldLink "ClockTree" 75 "ClockTree$Plan" "offset" "[I" ∈ TBL := tb0 (List.mem_of_getElem? (i := 40) rfl) rfl
theorem lk_Ck_66 : Cond.fieldLink "ClockTree$Clocks" 66 "ClockTree$Plan" "offset" "[I" ∈ TBL := tb0 (List.mem_of_getElem? (i := 41) rfl) rfl
theorem lk_Pl_22 : Cond.fieldLink "ClockTree$Plan" 22 "ClockTree$Plan" "slope" "[I" ∈ TBL := tb0 (List.mem_of_getElem? (i := 42) rfl) rfl
theorem lk_CT_78 : Cond.fieldLink "ClockTree" 78 "ClockTree$Plan" "slope" "[I" ∈ TBL := tb0 (List.mem_of_getElem? (i := 43) rfl) rfl
theorem lk_Ck_63 : Cond.fieldLink "ClockTree$Clocks" 63 "ClockTree$Plan" "slope" "[I" ∈ TBL := tb0 (List.mem_of_getElem? (i := 44) rfl) rfl
theorem lk_Pl_25 : Cond.fieldLink "ClockTree$Plan" 25 "ClockTree$Plan" "restore" "[I" ∈ TBL := tb0 (List.mem_of_getElem? (i := 45) rfl) rfl
theorem lk_CT_122 : Cond.fieldLink "ClockTree" 122 "ClockTree$Plan" "restore" "[I" ∈ TBL := tb0 (List.mem_of_getElem? (i := 46) rfl) rfl
theorem lk_Fl_184 : Cond.fieldLink "ClockTree$Flow" 184 "ClockTree$Plan" "restore" "[I" ∈ TBL := tb0 (List.mem_of_getElem? (i := 47) rfl) rfl
theorem lk_Pl_28 : Cond.fieldLink "ClockTree$Plan" 28 "ClockTree$Plan" "forced" "[I" ∈ TBL := tb0 (List.mem_of_getElem? (i := 48) rfl) rfl
theorem lk_CT_129 : Cond.fieldLink "ClockTree" 129 "ClockTree$Plan" "forced" "[I" ∈ TBL := tb0 (List.mem_of_getElem? (i := 49) rfl) rfl
theorem lk_Fl_178 : Cond.fieldLink "ClockTree$Flow" 178 "ClockTree$Plan" "forced" "[I" ∈ TBL := tb0 (List.mem_of_getElem? (i := 50) rfl) rfl
theorem lk_Pl_31 : Cond.fieldLink "ClockTree$Plan" 31 "ClockTree$Plan" "manual" "[I" ∈ TBL := tb0 (List.mem_of_getElem? (i := 51) rfl) rfl
theorem lk_CT_132 : Cond.fieldLink "ClockTree" 132 "ClockTree$Plan" "manual" "[I" ∈ TBL := tb0 (List.mem_of_getElem? (i := 52) rfl) rfl
theorem lk_Fl_181 : Cond.fieldLink "ClockTree$Flow" 181 "ClockTree$Plan" "manual" "[I" ∈ TBL := tb0 (List.mem_of_getElem? (i := 53) rfl) rfl
theorem lk_Pl_34 : Cond.fieldLink "ClockTree$Plan" 34 "ClockTree$Plan" "linkOf" "[I" ∈ TBL := tb0 (List.mem_of_getElem? (i := 54) rfl) rfl
theorem lk_Ck_45 : Cond.fieldLink "ClockTree$Clocks" 45 "ClockTree$Plan" "linkOf" "[I" ∈ TBL := tb0 (List.mem_of_getElem? (i := 55) rfl) rfl
theorem lk_CT_105 : Cond.fieldLink "ClockTree" 105 "ClockTree$Plan" "linkOf" "[I" ∈ TBL := tb0 (List.mem_of_getElem? (i := 56) rfl) rfl
theorem lk_Fl_115 : Cond.fieldLink "ClockTree$Flow" 115 "ClockTree$Plan" "linkOf" "[I" ∈ TBL := tb0 (List.mem_of_getElem? (i := 57) rfl) rfl
theorem lk_Pl_37 : Cond.fieldLink "ClockTree$Plan" 37 "ClockTree$Plan" "peer" "[I" ∈ TBL := tb0 (List.mem_of_getElem? (i := 58) rfl) rfl
theorem lk_Ck_50 : Cond.fieldLink "ClockTree$Clocks" 50 "ClockTree$Plan" "peer" "[I" ∈ TBL := tb0 (List.mem_of_getElem? (i := 59) rfl) rfl
theorem lk_CT_157 : Cond.fieldLink "ClockTree" 157 "ClockTree$Plan" "peer" "[I" ∈ TBL := tb0 (List.mem_of_getElem? (i := 60) rfl) rfl
theorem lk_Fl_128 : Cond.fieldLink "ClockTree$Flow" 128 "ClockTree$Plan" "peer" "[I" ∈ TBL := tb0 (List.mem_of_getElem? (i := 61) rfl) rfl
theorem lk_Pl_40 : Cond.fieldLink "ClockTree$Plan" 40 "ClockTree$Plan" "sourceQuality" "[I" ∈ TBL := tb0 (List.mem_of_getElem? (i := 62) rfl) rfl
theorem lk_CT_110 : Cond.fieldLink "ClockTree" 110 "ClockTree$Plan" "sourceQuality" "[I" ∈ TBL := tb0 (List.mem_of_getElem? (i := 63) rfl) rfl
theorem lk_Fl_159 : Cond.fieldLink "ClockTree$Flow" 159 "ClockTree$Plan" "sourceQuality" "[I" ∈ TBL := tb0 (List.mem_of_getElem? (i := 64) rfl) rfl
theorem lk_Pl_43 : Cond.fieldLink "ClockTree$Plan" 43 "ClockTree$Plan" "sourceOffset" "[I" ∈ TBL := tb0 (List.mem_of_getElem? (i := 65) rfl) rfl
theorem lk_Ck_57 : Cond.fieldLink "ClockTree$Clocks" 57 "ClockTree$Plan" "sourceOffset" "[I" ∈ TBL := tb0 (List.mem_of_getElem? (i := 66) rfl) rfl
theorem lk_CT_113 : Cond.fieldLink "ClockTree" 113 "ClockTree$Plan" "sourceOffset" "[I" ∈ TBL := tb0 (List.mem_of_getElem? (i := 67) rfl) rfl
theorem lk_Pl_46 : Cond.fieldLink "ClockTree$Plan" 46 "ClockTree$Plan" "priority" "[I" ∈ TBL := tb0 (List.mem_of_getElem? (i := 68) rfl) rfl
theorem lk_CT_116 : Cond.fieldLink "ClockTree" 116 "ClockTree$Plan" "priority" "[I" ∈ TBL := tb0 (List.mem_of_getElem? (i := 69) rfl) rfl
theorem lk_Fl_193 : Cond.fieldLink "ClockTree$Flow" 193 "ClockTree$Plan" "priority" "[I" ∈ TBL := tb0 (List.mem_of_getElem? (i := 70) rfl) rfl
theorem lk_Pl_49 : Cond.fieldLink "ClockTree$Plan" 49 "ClockTree$Plan" "lockedOut" "[Z" ∈ TBL := tb0 (List.mem_of_getElem? (i := 71) rfl) rfl
theorem lk_CT_135 : Cond.fieldLink "ClockTree" 135 "ClockTree$Plan" "lockedOut" "[Z" ∈ TBL := tb0 (List.mem_of_getElem? (i := 72) rfl) rfl
theorem lk_Fl_169 : Cond.fieldLink "ClockTree$Flow" 169 "ClockTree$Plan" "lockedOut" "[Z" ∈ TBL := tb0 (List.mem_of_getElem? (i := 73) rfl) rfl
theorem lk_Pl_52 : Cond.fieldLink "ClockTree$Plan" 52 "ClockTree$Plan" "firstEnd" "[I" ∈ TBL := tb0 (List.mem_of_getElem? (i := 74) rfl) rfl
theorem lk_CT_154 : Cond.fieldLink "ClockTree" 154 "ClockTree$Plan" "firstEnd" "[I" ∈ TBL := tb0 (List.mem_of_getElem? (i := 75) rfl) rfl
theorem lk_Fl_209 : Cond.fieldLink "ClockTree$Flow" 209 "ClockTree$Plan" "firstEnd" "[I" ∈ TBL := tb0 (List.mem_of_getElem? (i := 76) rfl) rfl
theorem lk_Pl_55 : Cond.fieldLink "ClockTree$Plan" 55 "ClockTree$Plan" "links" "I" ∈ TBL := tb0 (List.mem_of_getElem? (i := 77) rfl) rfl
theorem lk_CT_97 : Cond.fieldLink "ClockTree" 97 "ClockTree$Plan" "links" "I" ∈ TBL := tb0 (List.mem_of_getElem? (i := 78) rfl) rfl
theorem lk_Fl_203 : Cond.fieldLink "ClockTree$Flow" 203 "ClockTree$Plan" "links" "I" ∈ TBL := tb0 (List.mem_of_getElem? (i := 79) rfl) rfl
theorem lk_Pl_59 : Cond.fieldLink "ClockTree$Plan" 59 "ClockTree$Plan" "tracing" "Z" ∈ TBL := tb0 (List.mem_of_getElem? (i := 80) rfl) rfl
theorem lk_CT_125 : Cond.fieldLink "ClockTree" 125 "ClockTree$Plan" "tracing" "Z" ∈ TBL := tb0 (List.mem_of_getElem? (i := 81) rfl) rfl
theorem lk_Fl_172 : Cond.fieldLink "ClockTree$Flow" 172 "ClockTree$Plan" "tracing" "Z" ∈ TBL := tb0 (List.mem_of_getElem? (i := 82) rfl) rfl
theorem lk_CT_18 : Cond.methodLink "ClockTree" 18 y_Fl_init ∈ TBL := tb0 (List.mem_of_getElem? (i := 120) rfl) rfl
theorem lk_Fl_11 : Cond.methodLink "ClockTree$Flow" 11 y_Wo_init ∈ TBL := tb0 (List.mem_of_getElem? (i := 126) rfl) rfl
theorem lk_Wo_9 : Cond.fieldLink "ClockTree$Words" 9 "ClockTree$Words" "quality" "[I" ∈ TBL := tb0 (List.mem_of_getElem? (i := 131) rfl) rfl
theorem lk_Fl_144 : Cond.fieldLink "ClockTree$Flow" 144 "ClockTree$Words" "quality" "[I" ∈ TBL := tb0 (List.mem_of_getElem? (i := 132) rfl) rfl
theorem lk_CT_203 : Cond.fieldLink "ClockTree" 203 "ClockTree$Words" "quality" "[I" ∈ TBL := tb0 (List.mem_of_getElem? (i := 133) rfl) rfl
theorem lk_Wo_15 : Cond.fieldLink "ClockTree$Words" 15 "ClockTree$Words" "hops" "[I" ∈ TBL := tb0 (List.mem_of_getElem? (i := 134) rfl) rfl
theorem lk_Fl_145 : Cond.fieldLink "ClockTree$Flow" 145 "ClockTree$Words" "hops" "[I" ∈ TBL := tb0 (List.mem_of_getElem? (i := 135) rfl) rfl
theorem lk_Wo_18 : Cond.fieldLink "ClockTree$Words" 18 "ClockTree$Words" "trace" "[I" ∈ TBL := tb0 (List.mem_of_getElem? (i := 136) rfl) rfl
theorem lk_Fl_146 : Cond.fieldLink "ClockTree$Flow" 146 "ClockTree$Words" "trace" "[I" ∈ TBL := tb0 (List.mem_of_getElem? (i := 137) rfl) rfl
theorem lk_Fl_61 : Cond.fieldLink "ClockTree$Flow" 61 "ClockTree$Flow" "plan" "LClockTree$Plan;" ∈ TBL := tb0 (List.mem_of_getElem? (i := 146) rfl) rfl
theorem lk_Fl_12 : Cond.fieldLink "ClockTree$Flow" 12 "ClockTree$Flow" "got" "LClockTree$Words;" ∈ TBL := tb0 (List.mem_of_getElem? (i := 147) rfl) rfl
theorem lk_Fl_18 : Cond.fieldLink "ClockTree$Flow" 18 "ClockTree$Flow" "sent" "LClockTree$Words;" ∈ TBL := tb0 (List.mem_of_getElem? (i := 148) rfl) rfl
theorem lk_CT_199 : Cond.fieldLink "ClockTree" 199 "ClockTree$Flow" "sent" "LClockTree$Words;" ∈ TBL := tb0 (List.mem_of_getElem? (i := 149) rfl) rfl
theorem lk_Fl_21 : Cond.fieldLink "ClockTree$Flow" 21 "ClockTree$Flow" "offered" "LClockTree$Words;" ∈ TBL := tb0 (List.mem_of_getElem? (i := 150) rfl) rfl
theorem lk_Fl_24 : Cond.fieldLink "ClockTree$Flow" 24 "ClockTree$Flow" "age" "[I" ∈ TBL := tb0 (List.mem_of_getElem? (i := 151) rfl) rfl
theorem lk_Fl_28 : Cond.fieldLink "ClockTree$Flow" 28 "ClockTree$Flow" "usableFor" "[I" ∈ TBL := tb0 (List.mem_of_getElem? (i := 152) rfl) rfl
theorem lk_Fl_31 : Cond.fieldLink "ClockTree$Flow" 31 "ClockTree$Flow" "condition" "[I" ∈ TBL := tb0 (List.mem_of_getElem? (i := 153) rfl) rfl
theorem lk_Ck_60 : Cond.fieldLink "ClockTree$Clocks" 60 "ClockTree$Flow" "condition" "[I" ∈ TBL := tb0 (List.mem_of_getElem? (i := 154) rfl) rfl
theorem lk_Fl_34 : Cond.fieldLink "ClockTree$Flow" 34 "ClockTree$Flow" "chosen" "[I" ∈ TBL := tb0 (List.mem_of_getElem? (i := 155) rfl) rfl
theorem lk_Ca_34 : Cond.fieldLink "ClockTree$Calm" 34 "ClockTree$Flow" "chosen" "[I" ∈ TBL := tb0 (List.mem_of_getElem? (i := 156) rfl) rfl
theorem lk_Ck_38 : Cond.fieldLink "ClockTree$Clocks" 38 "ClockTree$Flow" "chosen" "[I" ∈ TBL := tb0 (List.mem_of_getElem? (i := 157) rfl) rfl
theorem lk_CT_180 : Cond.fieldLink "ClockTree" 180 "ClockTree$Flow" "chosen" "[I" ∈ TBL := tb0 (List.mem_of_getElem? (i := 158) rfl) rfl
theorem lk_Fl_37 : Cond.fieldLink "ClockTree$Flow" 37 "ClockTree$Flow" "hops" "[I" ∈ TBL := tb0 (List.mem_of_getElem? (i := 159) rfl) rfl
theorem lk_CT_183 : Cond.fieldLink "ClockTree" 183 "ClockTree$Flow" "hops" "[I" ∈ TBL := tb0 (List.mem_of_getElem? (i := 160) rfl) rfl
theorem lk_Fl_40 : Cond.fieldLink "ClockTree$Flow" 40 "ClockTree$Flow" "quality" "[I" ∈ TBL := tb0 (List.mem_of_getElem? (i := 161) rfl) rfl
theorem lk_CT_186 : Cond.fieldLink "ClockTree" 186 "ClockTree$Flow" "quality" "[I" ∈ TBL := tb0 (List.mem_of_getElem? (i := 162) rfl) rfl
theorem lk_Fl_43 : Cond.fieldLink "ClockTree$Flow" 43 "ClockTree$Flow" "everLocked" "I" ∈ TBL := tb0 (List.mem_of_getElem? (i := 163) rfl) rfl
theorem lk_Fl_47 : Cond.fieldLink "ClockTree$Flow" 47 "ClockTree$Flow" "failedElements" "I" ∈ TBL := tb0 (List.mem_of_getElem? (i := 164) rfl) rfl
theorem lk_Fl_50 : Cond.fieldLink "ClockTree$Flow" 50 "ClockTree$Flow" "failedLinks" "I" ∈ TBL := tb0 (List.mem_of_getElem? (i := 165) rfl) rfl
theorem lk_Fl_53 : Cond.fieldLink "ClockTree$Flow" 53 "ClockTree$Flow" "lost" "J" ∈ TBL := tb0 (List.mem_of_getElem? (i := 166) rfl) rfl
theorem lk_Fl_57 : Cond.fieldLink "ClockTree$Flow" 57 "ClockTree$Flow" "moved" "Z" ∈ TBL := tb0 (List.mem_of_getElem? (i := 167) rfl) rfl
theorem lk_Ck_9 : Cond.fieldLink "ClockTree$Clocks" 9 "ClockTree$Clocks" "now" "[I" ∈ TBL := tb0 (List.mem_of_getElem? (i := 205) rfl) rfl
theorem lk_CT_187 : Cond.fieldLink "ClockTree" 187 "ClockTree$Clocks" "now" "[I" ∈ TBL := tb0 (List.mem_of_getElem? (i := 206) rfl) rfl
theorem lk_Ck_15 : Cond.fieldLink "ClockTree$Clocks" 15 "ClockTree$Clocks" "before" "[I" ∈ TBL := tb0 (List.mem_of_getElem? (i := 207) rfl) rfl
theorem lk_Ck_18 : Cond.fieldLink "ClockTree$Clocks" 18 "ClockTree$Clocks" "next" "[I" ∈ TBL := tb0 (List.mem_of_getElem? (i := 208) rfl) rfl
theorem lk_Ck_21 : Cond.fieldLink "ClockTree$Clocks" 21 "ClockTree$Clocks" "sum" "[J" ∈ TBL := tb0 (List.mem_of_getElem? (i := 209) rfl) rfl
theorem lk_CT_195 : Cond.fieldLink "ClockTree" 195 "ClockTree$Clocks" "sum" "[J" ∈ TBL := tb0 (List.mem_of_getElem? (i := 210) rfl) rfl
theorem lk_CT_37 : Cond.methodLink "ClockTree" 37 y_Ca_init ∈ TBL := tb0 (List.mem_of_getElem? (i := 223) rfl) rfl
theorem lk_Ca_9 : Cond.fieldLink "ClockTree$Calm" 9 "ClockTree$Calm" "condition" "[I" ∈ TBL := tb0 (List.mem_of_getElem? (i := 228) rfl) rfl
theorem lk_Ca_15 : Cond.fieldLink "ClockTree$Calm" 15 "ClockTree$Calm" "chosen" "[I" ∈ TBL := tb0 (List.mem_of_getElem? (i := 229) rfl) rfl
theorem lk_Ca_18 : Cond.fieldLink "ClockTree$Calm" 18 "ClockTree$Calm" "rounds" "I" ∈ TBL := tb0 (List.mem_of_getElem? (i := 230) rfl) rfl
theorem lk_CT_173 : Cond.fieldLink "ClockTree" 173 "ClockTree$Calm" "rounds" "I" ∈ TBL := tb0 (List.mem_of_getElem? (i := 231) rfl) rfl
theorem lk_CT_12 : Cond.fieldLink "ClockTree" 12 "ClockTree" "plan" "LClockTree$Plan;" ∈ TBL := tb0 (List.mem_of_getElem? (i := 239) rfl) rfl
theorem lk_CT_21 : Cond.fieldLink "ClockTree" 21 "ClockTree" "flow" "LClockTree$Flow;" ∈ TBL := tb1 (List.mem_of_getElem? (i := 0) rfl) rfl
theorem lk_CT_25 : Cond.fieldLink "ClockTree" 25 "ClockTree" "trial" "LClockTree$Flow;" ∈ TBL := tb1 (List.mem_of_getElem? (i := 1) rfl) rfl
theorem lk_CT_31 : Cond.fieldLink "ClockTree" 31 "ClockTree" "clocks" "LClockTree$Clocks;" ∈ TBL := tb1 (List.mem_of_getElem? (i := 2) rfl) rfl
theorem lk_CT_38 : Cond.fieldLink "ClockTree" 38 "ClockTree" "calm" "LClockTree$Calm;" ∈ TBL := tb1 (List.mem_of_getElem? (i := 3) rfl) rfl
theorem lk_CT_42 : Cond.fieldLink "ClockTree" 42 "ClockTree" "findingFailed" "[I" ∈ TBL := tb1 (List.mem_of_getElem? (i := 4) rfl) rfl
theorem lk_CT_46 : Cond.fieldLink "ClockTree" 46 "ClockTree" "findingStarved" "[I" ∈ TBL := tb1 (List.mem_of_getElem? (i := 5) rfl) rfl
theorem lk_CT_49 : Cond.fieldLink "ClockTree" 49 "ClockTree" "findings" "I" ∈ TBL := tb1 (List.mem_of_getElem? (i := 6) rfl) rfl
theorem lk_La_102 : Cond.methodLink "ClockTreeLaw" 102 y_CT_tracing ∈ TBL := tb1 (List.mem_of_getElem? (i := 24) rfl) rfl
theorem lk_La_129 : Cond.methodLink "ClockTreeLaw" 129 y_CT_settled ∈ TBL := tb1 (List.mem_of_getElem? (i := 28) rfl) rfl
theorem lk_La_145 : Cond.methodLink "ClockTreeLaw" 145 y_CT_loop ∈ TBL := tb1 (List.mem_of_getElem? (i := 32) rfl) rfl
theorem lk_CT_206 : Cond.methodLink "ClockTree" 206 y_Fl_follow ∈ TBL := tb1 (List.mem_of_getElem? (i := 36) rfl) rfl
theorem lk_Fl_102 : Cond.methodLink "ClockTree$Flow" 102 y_Fl_isWhole ∈ TBL := tb1 (List.mem_of_getElem? (i := 40) rfl) rfl
theorem lk_Fl_196 : Cond.methodLink "ClockTree$Flow" 196 y_Fl_isLocked ∈ TBL := tb1 (List.mem_of_getElem? (i := 44) rfl) rfl
theorem lk_La_153 : Cond.methodLink "ClockTreeLaw" 153 y_CT_check ∈ TBL := tb1 (List.mem_of_getElem? (i := 54) rfl) rfl
theorem lk_CT_212 : Cond.methodLink "ClockTree" 212 y_Pl_longestRestore ∈ TBL := tb1 (List.mem_of_getElem? (i := 58) rfl) rfl
theorem lk_Pl_80 : Cond.methodLink "ClockTree$Plan" 80 Lib.Math.max.name ∈ TBL := tb1 (List.mem_of_getElem? (i := 62) rfl) rfl
theorem lk_CT_141 : Cond.methodLink "ClockTree" 141 y_Fl_isLinkWhole ∈ TBL := tb1 (List.mem_of_getElem? (i := 65) rfl) rfl
theorem lk_CT_216 : Cond.methodLink "ClockTree" 216 y_Fl_copy ∈ TBL := tb1 (List.mem_of_getElem? (i := 69) rfl) rfl
theorem lk_Fl_71 : Cond.methodLink "ClockTree$Flow" 71 y_Wo_copy ∈ TBL := tb1 (List.mem_of_getElem? (i := 73) rfl) rfl
theorem lk_Wo_27 : Cond.methodLink "ClockTree$Words" 27 arraycopyName ∈ TBL := tb1 (List.mem_of_getElem? (i := 77) rfl) rfl
theorem lk_Fl_75 : Cond.methodLink "ClockTree$Flow" 75 arraycopyName ∈ TBL := tb1 (List.mem_of_getElem? (i := 80) rfl) rfl
theorem lk_CT_144 : Cond.methodLink "ClockTree" 144 y_Fl_setLinkFailed ∈ TBL := tb1 (List.mem_of_getElem? (i := 81) rfl) rfl
theorem lk_CT_219 : Cond.methodLink "ClockTree" 219 y_Fl_passRounds ∈ TBL := tb1 (List.mem_of_getElem? (i := 85) rfl) rfl
theorem lk_Fl_99 : Cond.methodLink "ClockTree$Flow" 99 y_Fl_passRound ∈ TBL := tb1 (List.mem_of_getElem? (i := 89) rfl) rfl
theorem lk_Fl_106 : Cond.methodLink "ClockTree$Flow" 106 y_Fl_listen ∈ TBL := tb1 (List.mem_of_getElem? (i := 93) rfl) rfl
theorem lk_Fl_118 : Cond.methodLink "ClockTree$Flow" 118 y_Fl_hear ∈ TBL := tb1 (List.mem_of_getElem? (i := 97) rfl) rfl
theorem lk_Fl_131 : Cond.methodLink "ClockTree$Flow" 131 Lib.Math.min.name ∈ TBL := tb1 (List.mem_of_getElem? (i := 101) rfl) rfl
theorem lk_Fl_136 : Cond.methodLink "ClockTree$Flow" 136 y_Fl_comes ∈ TBL := tb1 (List.mem_of_getElem? (i := 104) rfl) rfl
theorem lk_Fl_149 : Cond.methodLink "ClockTree$Flow" 149 y_Fl_isLinkWhole ∈ TBL := tb1 (List.mem_of_getElem? (i := 108) rfl) rfl
theorem lk_Fl_140 : Cond.methodLink "ClockTree$Flow" 140 y_Wo_isSame ∈ TBL := tb1 (List.mem_of_getElem? (i := 109) rfl) rfl
theorem lk_Fl_95 : Cond.methodLink "ClockTree$Flow" 95 y_Wo_write ∈ TBL := tb1 (List.mem_of_getElem? (i := 113) rfl) rfl
theorem lk_Fl_121 : Cond.methodLink "ClockTree$Flow" 121 y_Fl_weigh ∈ TBL := tb1 (List.mem_of_getElem? (i := 117) rfl) rfl
theorem lk_Fl_156 : Cond.methodLink "ClockTree$Flow" 156 y_Pl_hasSource ∈ TBL := tb1 (List.mem_of_getElem? (i := 121) rfl) rfl
theorem lk_Fl_124 : Cond.methodLink "ClockTree$Flow" 124 y_Fl_countUsable ∈ TBL := tb1 (List.mem_of_getElem? (i := 125) rfl) rfl
theorem lk_Fl_162 : Cond.methodLink "ClockTree$Flow" 162 y_Fl_isUsable ∈ TBL := tb1 (List.mem_of_getElem? (i := 129) rfl) rfl
theorem lk_Fl_109 : Cond.methodLink "ClockTree$Flow" 109 y_Fl_decide ∈ TBL := tb1 (List.mem_of_getElem? (i := 136) rfl) rfl
theorem lk_Fl_175 : Cond.methodLink "ClockTree$Flow" 175 y_Fl_choose ∈ TBL := tb1 (List.mem_of_getElem? (i := 140) rfl) rfl
theorem lk_Fl_187 : Cond.methodLink "ClockTree$Flow" 187 y_Fl_bestPort ∈ TBL := tb1 (List.mem_of_getElem? (i := 144) rfl) rfl
theorem lk_Fl_190 : Cond.methodLink "ClockTree$Flow" 190 y_Fl_isBetter ∈ TBL := tb1 (List.mem_of_getElem? (i := 148) rfl) rfl
theorem lk_Fl_112 : Cond.methodLink "ClockTree$Flow" 112 y_Fl_speak ∈ TBL := tb1 (List.mem_of_getElem? (i := 152) rfl) rfl
theorem lk_CT_222 : Cond.methodLink "ClockTree" 222 y_CT_findStarved ∈ TBL := tb1 (List.mem_of_getElem? (i := 156) rfl) rfl
theorem lk_CT_225 : Cond.methodLink "ClockTree" 225 y_Fl_isStarved ∈ TBL := tb1 (List.mem_of_getElem? (i := 160) rfl) rfl
theorem lk_Fl_212 : Cond.methodLink "ClockTree$Flow" 212 y_Fl_bestReached ∈ TBL := tb1 (List.mem_of_getElem? (i := 164) rfl) rfl
theorem lk_Fl_200 : Cond.methodLink "ClockTree$Flow" 200 y_Fl_reachedFrom ∈ TBL := tb1 (List.mem_of_getElem? (i := 168) rfl) rfl
theorem lk_Fl_206 : Cond.methodLink "ClockTree$Flow" 206 y_Fl_across ∈ TBL := tb1 (List.mem_of_getElem? (i := 172) rfl) rfl
theorem lk_CT_148 : Cond.methodLink "ClockTree" 148 y_Fl_isWhole ∈ TBL := tb1 (List.mem_of_getElem? (i := 176) rfl) rfl
theorem lk_CT_151 : Cond.methodLink "ClockTree" 151 y_Fl_setElementFailed ∈ TBL := tb1 (List.mem_of_getElem? (i := 177) rfl) rfl
theorem lk_Fl_87 : Cond.methodLink "ClockTree$Flow" 87 y_Fl_forget ∈ TBL := tb1 (List.mem_of_getElem? (i := 181) rfl) rfl
theorem lk_La_77 : Cond.methodLink "ClockTreeLaw" 77 y_La_element ∈ TBL := tb1 (List.mem_of_getElem? (i := 185) rfl) rfl
theorem lk_La_7 : Cond.methodLink "ClockTreeLaw" 7 y_CT_element ∈ TBL := tb1 (List.mem_of_getElem? (i := 190) rfl) rfl
theorem lk_CT_53 : Cond.methodLink "ClockTree" 53 y_CT_isWithin ∈ TBL := tb1 (List.mem_of_getElem? (i := 194) rfl) rfl
theorem lk_CT_57 : Cond.methodLink "ClockTree" 57 y_CT_refuseUnless ∈ TBL := tb1 (List.mem_of_getElem? (i := 195) rfl) rfl
theorem lk_CT_81 : Cond.methodLink "ClockTree" 81 y_Ck_start ∈ TBL := tb2 (List.mem_of_getElem? (i := 41) rfl) rfl
theorem lk_La_87 : Cond.methodLink "ClockTreeLaw" 87 y_La_link ∈ TBL := tb2 (List.mem_of_getElem? (i := 45) rfl) rfl
theorem lk_La_17 : Cond.methodLink "ClockTreeLaw" 17 y_CT_link ∈ TBL := tb2 (List.mem_of_getElem? (i := 48) rfl) rfl
theorem lk_CT_85 : Cond.methodLink "ClockTree" 85 y_Pl_isPort ∈ TBL := tb2 (List.mem_of_getElem? (i := 52) rfl) rfl
theorem lk_Pl_73 : Cond.methodLink "ClockTree$Plan" 73 y_Pl_isThere ∈ TBL := tb2 (List.mem_of_getElem? (i := 56) rfl) rfl
theorem lk_CT_89 : Cond.methodLink "ClockTree" 89 y_CT_slotOf ∈ TBL := tb2 (List.mem_of_getElem? (i := 61) rfl) rfl
theorem lk_CT_93 : Cond.methodLink "ClockTree" 93 y_Pl_isTaken ∈ TBL := tb2 (List.mem_of_getElem? (i := 62) rfl) rfl
theorem lk_Pl_77 : Cond.methodLink "ClockTree$Plan" 77 y_Pl_hasSource ∈ TBL := tb2 (List.mem_of_getElem? (i := 66) rfl) rfl
theorem lk_CT_102 : Cond.methodLink "ClockTree" 102 y_Pl_join ∈ TBL := tb2 (List.mem_of_getElem? (i := 68) rfl) rfl
theorem lk_La_91 : Cond.methodLink "ClockTreeLaw" 91 y_La_source ∈ TBL := tb2 (List.mem_of_getElem? (i := 72) rfl) rfl
theorem lk_La_21 : Cond.methodLink "ClockTreeLaw" 21 y_CT_source ∈ TBL := tb2 (List.mem_of_getElem? (i := 75) rfl) rfl
theorem lk_La_94 : Cond.methodLink "ClockTreeLaw" 94 y_La_priority ∈ TBL := tb2 (List.mem_of_getElem? (i := 80) rfl) rfl
theorem lk_La_24 : Cond.methodLink "ClockTreeLaw" 24 y_CT_priority ∈ TBL := tb2 (List.mem_of_getElem? (i := 83) rfl) rfl
theorem lk_La_98 : Cond.methodLink "ClockTreeLaw" 98 y_La_restore ∈ TBL := tb2 (List.mem_of_getElem? (i := 87) rfl) rfl
theorem lk_La_28 : Cond.methodLink "ClockTreeLaw" 28 y_CT_restore ∈ TBL := tb2 (List.mem_of_getElem? (i := 90) rfl) rfl
theorem lk_CT_119 : Cond.methodLink "ClockTree" 119 y_Pl_isThere ∈ TBL := tb2 (List.mem_of_getElem? (i := 94) rfl) rfl
theorem lk_La_107 : Cond.methodLink "ClockTreeLaw" 107 y_La_command ∈ TBL := tb2 (List.mem_of_getElem? (i := 95) rfl) rfl
theorem lk_La_32 : Cond.methodLink "ClockTreeLaw" 32 y_CT_command ∈ TBL := tb2 (List.mem_of_getElem? (i := 98) rfl) rfl
theorem lk_La_110 : Cond.methodLink "ClockTreeLaw" 110 y_La_lockout ∈ TBL := tb2 (List.mem_of_getElem? (i := 102) rfl) rfl
theorem lk_La_35 : Cond.methodLink "ClockTreeLaw" 35 y_CT_lockout ∈ TBL := tb2 (List.mem_of_getElem? (i := 105) rfl) rfl
theorem lk_La_114 : Cond.methodLink "ClockTreeLaw" 114 y_La_fail ∈ TBL := tb2 (List.mem_of_getElem? (i := 109) rfl) rfl
theorem lk_La_39 : Cond.methodLink "ClockTreeLaw" 39 y_CT_fail ∈ TBL := tb2 (List.mem_of_getElem? (i := 112) rfl) rfl
theorem lk_CT_138 : Cond.methodLink "ClockTree" 138 y_Pl_isLink ∈ TBL := tb2 (List.mem_of_getElem? (i := 116) rfl) rfl
theorem lk_La_118 : Cond.methodLink "ClockTreeLaw" 118 y_La_failElement ∈ TBL := tb2 (List.mem_of_getElem? (i := 120) rfl) rfl
theorem lk_La_43 : Cond.methodLink "ClockTreeLaw" 43 y_CT_failElement ∈ TBL := tb2 (List.mem_of_getElem? (i := 123) rfl) rfl
theorem lk_La_121 : Cond.methodLink "ClockTreeLaw" 121 y_La_lose ∈ TBL := tb2 (List.mem_of_getElem? (i := 127) rfl) rfl
theorem lk_La_46 : Cond.methodLink "ClockTreeLaw" 46 y_CT_lose ∈ TBL := tb2 (List.mem_of_getElem? (i := 130) rfl) rfl
theorem lk_CT_160 : Cond.methodLink "ClockTree" 160 y_Fl_loseFrom ∈ TBL := tb2 (List.mem_of_getElem? (i := 134) rfl) rfl
theorem lk_La_125 : Cond.methodLink "ClockTreeLaw" 125 y_La_rounds ∈ TBL := tb2 (List.mem_of_getElem? (i := 138) rfl) rfl
theorem lk_La_50 : Cond.methodLink "ClockTreeLaw" 50 y_CT_rounds ∈ TBL := tb2 (List.mem_of_getElem? (i := 141) rfl) rfl
theorem lk_CT_164 : Cond.methodLink "ClockTree" 164 y_Fl_passRound ∈ TBL := tb2 (List.mem_of_getElem? (i := 145) rfl) rfl
theorem lk_CT_167 : Cond.methodLink "ClockTree" 167 y_Ck_passRound ∈ TBL := tb2 (List.mem_of_getElem? (i := 146) rfl) rfl
theorem lk_Ck_25 : Cond.methodLink "ClockTree$Clocks" 25 y_Fl_isWhole ∈ TBL := tb2 (List.mem_of_getElem? (i := 150) rfl) rfl
theorem lk_Ck_31 : Cond.methodLink "ClockTree$Clocks" 31 y_Ck_offsetAfter ∈ TBL := tb2 (List.mem_of_getElem? (i := 151) rfl) rfl
theorem lk_Ck_35 : Cond.methodLink "ClockTree$Clocks" 35 y_Fl_isLocked ∈ TBL := tb2 (List.mem_of_getElem? (i := 155) rfl) rfl
theorem lk_CT_170 : Cond.methodLink "ClockTree" 170 y_Ca_passRound ∈ TBL := tb2 (List.mem_of_getElem? (i := 158) rfl) rfl
theorem lk_Ca_28 : Cond.methodLink "ClockTree$Calm" 28 y_Fl_shownCondition ∈ TBL := tb2 (List.mem_of_getElem? (i := 162) rfl) rfl
theorem lk_La_133 : Cond.methodLink "ClockTreeLaw" 133 y_La_state ∈ TBL := tb2 (List.mem_of_getElem? (i := 166) rfl) rfl
theorem lk_La_54 : Cond.methodLink "ClockTreeLaw" 54 y_CT_state ∈ TBL := tb2 (List.mem_of_getElem? (i := 169) rfl) rfl
theorem lk_CT_176 : Cond.methodLink "ClockTree" 176 y_Fl_shownCondition ∈ TBL := tb2 (List.mem_of_getElem? (i := 173) rfl) rfl
theorem lk_La_136 : Cond.methodLink "ClockTreeLaw" 136 y_La_phase ∈ TBL := tb2 (List.mem_of_getElem? (i := 175) rfl) rfl
theorem lk_La_57 : Cond.methodLink "ClockTreeLaw" 57 y_CT_phase ∈ TBL := tb2 (List.mem_of_getElem? (i := 178) rfl) rfl
theorem lk_La_139 : Cond.methodLink "ClockTreeLaw" 139 y_La_sends ∈ TBL := tb2 (List.mem_of_getElem? (i := 182) rfl) rfl
theorem lk_La_61 : Cond.methodLink "ClockTreeLaw" 61 y_CT_sends ∈ TBL := tb2 (List.mem_of_getElem? (i := 185) rfl) rfl
theorem lk_La_142 : Cond.methodLink "ClockTreeLaw" 142 y_La_traced ∈ TBL := tb2 (List.mem_of_getElem? (i := 189) rfl) rfl
theorem lk_La_64 : Cond.methodLink "ClockTreeLaw" 64 y_CT_traced ∈ TBL := tb2 (List.mem_of_getElem? (i := 192) rfl) rfl
theorem lk_La_150 : Cond.methodLink "ClockTreeLaw" 150 y_La_best ∈ TBL := tb2 (List.mem_of_getElem? (i := 196) rfl) rfl
theorem lk_La_67 : Cond.methodLink "ClockTreeLaw" 67 y_CT_best ∈ TBL := tb2 (List.mem_of_getElem? (i := 199) rfl) rfl
theorem lk_CT_209 : Cond.methodLink "ClockTree" 209 y_Fl_bestReached ∈ TBL := tb2 (List.mem_of_getElem? (i := 203) rfl) rfl
theorem lk_La_157 : Cond.methodLink "ClockTreeLaw" 157 y_La_finding ∈ TBL := tb2 (List.mem_of_getElem? (i := 204) rfl) rfl
theorem lk_La_70 : Cond.methodLink "ClockTreeLaw" 70 y_CT_finding ∈ TBL := tb2 (List.mem_of_getElem? (i := 207) rfl) rfl
theorem lk_La_76 : Cond.methodLink "ClockTreeLaw" 76 y_Mo_init ∈ TBL := tb2 (List.mem_of_getElem? (i := 213) rfl) rfl
theorem lk_Mo_7 : Cond.fieldLink "ClockTreeModel" 7 "ClockTreeModel" "thrownCode" "I" ∈ TBL := tb2 (List.mem_of_getElem? (i := 217) rfl) rfl
theorem lk_Mo_13 : Cond.fieldLink "ClockTreeModel" 13 "ClockTreeModel" "trace" "Z" ∈ TBL := tb2 (List.mem_of_getElem? (i := 218) rfl) rfl
theorem lk_Mo_17 : Cond.fieldLink "ClockTreeModel" 17 "ClockTreeModel" "there" "[Z" ∈ TBL := tb2 (List.mem_of_getElem? (i := 219) rfl) rfl
theorem lk_Mo_21 : Cond.fieldLink "ClockTreeModel" 21 "ClockTreeModel" "quality" "[I" ∈ TBL := tb2 (List.mem_of_getElem? (i := 220) rfl) rfl
theorem lk_Mo_25 : Cond.fieldLink "ClockTreeModel" 25 "ClockTreeModel" "offset0" "[I" ∈ TBL := tb2 (List.mem_of_getElem? (i := 221) rfl) rfl
theorem lk_Mo_28 : Cond.fieldLink "ClockTreeModel" 28 "ClockTreeModel" "slope" "[I" ∈ TBL := tb2 (List.mem_of_getElem? (i := 222) rfl) rfl
theorem lk_Mo_31 : Cond.fieldLink "ClockTreeModel" 31 "ClockTreeModel" "restore" "[I" ∈ TBL := tb2 (List.mem_of_getElem? (i := 223) rfl) rfl
theorem lk_Mo_34 : Cond.fieldLink "ClockTreeModel" 34 "ClockTreeModel" "forced" "[I" ∈ TBL := tb2 (List.mem_of_getElem? (i := 224) rfl) rfl
theorem lk_Mo_37 : Cond.fieldLink "ClockTreeModel" 37 "ClockTreeModel" "manual" "[I" ∈ TBL := tb2 (List.mem_of_getElem? (i := 225) rfl) rfl
theorem lk_Mo_40 : Cond.fieldLink "ClockTreeModel" 40 "ClockTreeModel" "source" "[I" ∈ TBL := tb2 (List.mem_of_getElem? (i := 226) rfl) rfl
theorem lk_Mo_43 : Cond.fieldLink "ClockTreeModel" 43 "ClockTreeModel" "sourceOffset" "[I" ∈ TBL := tb2 (List.mem_of_getElem? (i := 227) rfl) rfl
theorem lk_Mo_46 : Cond.fieldLink "ClockTreeModel" 46 "ClockTreeModel" "linkOf" "[I" ∈ TBL := tb2 (List.mem_of_getElem? (i := 228) rfl) rfl
theorem lk_Mo_49 : Cond.fieldLink "ClockTreeModel" 49 "ClockTreeModel" "prior" "[I" ∈ TBL := tb2 (List.mem_of_getElem? (i := 229) rfl) rfl
theorem lk_Mo_52 : Cond.fieldLink "ClockTreeModel" 52 "ClockTreeModel" "out" "[Z" ∈ TBL := tb2 (List.mem_of_getElem? (i := 230) rfl) rfl
theorem lk_Mo_55 : Cond.fieldLink "ClockTreeModel" 55 "ClockTreeModel" "links" "I" ∈ TBL := tb2 (List.mem_of_getElem? (i := 231) rfl) rfl
theorem lk_Mo_58 : Cond.fieldLink "ClockTreeModel" 58 "ClockTreeModel" "one" "[I" ∈ TBL := tb2 (List.mem_of_getElem? (i := 232) rfl) rfl
theorem lk_Mo_61 : Cond.fieldLink "ClockTreeModel" 61 "ClockTreeModel" "two" "[I" ∈ TBL := tb2 (List.mem_of_getElem? (i := 233) rfl) rfl
theorem lk_Mo_64 : Cond.fieldLink "ClockTreeModel" 64 "ClockTreeModel" "net" "[I" ∈ TBL := tb2 (List.mem_of_getElem? (i := 234) rfl) rfl
theorem lk_Mo_67 : Cond.fieldLink "ClockTreeModel" 67 "ClockTreeModel" "kept" "[I" ∈ TBL := tb2 (List.mem_of_getElem? (i := 235) rfl) rfl
theorem lk_Mo_70 : Cond.fieldLink "ClockTreeModel" 70 "ClockTreeModel" "phases" "[J" ∈ TBL := tb2 (List.mem_of_getElem? (i := 236) rfl) rfl
theorem lk_Mo_74 : Cond.fieldLink "ClockTreeModel" 74 "ClockTreeModel" "keptPhases" "[J" ∈ TBL := tb2 (List.mem_of_getElem? (i := 237) rfl) rfl
theorem lk_Mo_77 : Cond.fieldLink "ClockTreeModel" 77 "ClockTreeModel" "fresh" "[I" ∈ TBL := tb2 (List.mem_of_getElem? (i := 238) rfl) rfl
theorem lk_Mo_80 : Cond.fieldLink "ClockTreeModel" 80 "ClockTreeModel" "findings" "I" ∈ TBL := tb2 (List.mem_of_getElem? (i := 239) rfl) rfl
theorem lk_Mo_83 : Cond.fieldLink "ClockTreeModel" 83 "ClockTreeModel" "failedThere" "[I" ∈ TBL := tb3 (List.mem_of_getElem? (i := 0) rfl) rfl
theorem lk_Mo_86 : Cond.fieldLink "ClockTreeModel" 86 "ClockTreeModel" "starved" "[I" ∈ TBL := tb3 (List.mem_of_getElem? (i := 1) rfl) rfl
theorem lk_La_83 : Cond.methodLink "ClockTreeLaw" 83 y_Mo_thrown ∈ TBL := tb3 (List.mem_of_getElem? (i := 53) rfl) rfl
theorem lk_La_82 : Cond.methodLink "ClockTreeLaw" 82 y_Mo_element ∈ TBL := tb3 (List.mem_of_getElem? (i := 57) rfl) rfl
theorem lk_La_90 : Cond.methodLink "ClockTreeLaw" 90 y_Mo_link ∈ TBL := tb3 (List.mem_of_getElem? (i := 61) rfl) rfl
theorem lk_Mo_152 : Cond.methodLink "ClockTreeModel" 152 y_Mo_noPort ∈ TBL := tb3 (List.mem_of_getElem? (i := 65) rfl) rfl
theorem lk_Mo_149 : Cond.methodLink "ClockTreeModel" 149 y_Mo_noElement ∈ TBL := tb3 (List.mem_of_getElem? (i := 69) rfl) rfl
theorem lk_La_93 : Cond.methodLink "ClockTreeLaw" 93 y_Mo_source ∈ TBL := tb3 (List.mem_of_getElem? (i := 73) rfl) rfl
theorem lk_La_97 : Cond.methodLink "ClockTreeLaw" 97 y_Mo_priority ∈ TBL := tb3 (List.mem_of_getElem? (i := 77) rfl) rfl
theorem lk_La_101 : Cond.methodLink "ClockTreeLaw" 101 y_Mo_restore ∈ TBL := tb3 (List.mem_of_getElem? (i := 81) rfl) rfl
theorem lk_La_106 : Cond.methodLink "ClockTreeLaw" 106 y_Mo_tracing ∈ TBL := tb3 (List.mem_of_getElem? (i := 85) rfl) rfl
theorem lk_La_109 : Cond.methodLink "ClockTreeLaw" 109 y_Mo_command ∈ TBL := tb3 (List.mem_of_getElem? (i := 89) rfl) rfl
theorem lk_La_113 : Cond.methodLink "ClockTreeLaw" 113 y_Mo_lockout ∈ TBL := tb3 (List.mem_of_getElem? (i := 93) rfl) rfl
theorem lk_La_117 : Cond.methodLink "ClockTreeLaw" 117 y_Mo_fail ∈ TBL := tb3 (List.mem_of_getElem? (i := 97) rfl) rfl
theorem lk_Mo_155 : Cond.methodLink "ClockTreeModel" 155 y_Mo_noLink ∈ TBL := tb3 (List.mem_of_getElem? (i := 101) rfl) rfl
theorem lk_La_120 : Cond.methodLink "ClockTreeLaw" 120 y_Mo_failElement ∈ TBL := tb3 (List.mem_of_getElem? (i := 105) rfl) rfl
theorem lk_Mo_158 : Cond.methodLink "ClockTreeModel" 158 y_Mo_breakDown ∈ TBL := tb3 (List.mem_of_getElem? (i := 109) rfl) rfl
theorem lk_Mo_133 : Cond.methodLink "ClockTreeModel" 133 y_Mo_sentNothing ∈ TBL := tb3 (List.mem_of_getElem? (i := 113) rfl) rfl
theorem lk_Mo_161 : Cond.methodLink "ClockTreeModel" 161 y_Mo_comesBack ∈ TBL := tb3 (List.mem_of_getElem? (i := 117) rfl) rfl
theorem lk_La_124 : Cond.methodLink "ClockTreeLaw" 124 y_Mo_lose ∈ TBL := tb3 (List.mem_of_getElem? (i := 121) rfl) rfl
theorem lk_La_128 : Cond.methodLink "ClockTreeLaw" 128 y_Mo_rounds ∈ TBL := tb3 (List.mem_of_getElem? (i := 125) rfl) rfl
theorem lk_Mo_139 : Cond.methodLink "ClockTreeModel" 139 y_Mo_round ∈ TBL := tb3 (List.mem_of_getElem? (i := 129) rfl) rfl
theorem lk_Mo_93 : Cond.methodLink "ClockTreeModel" 93 y_Mo_whole ∈ TBL := tb3 (List.mem_of_getElem? (i := 133) rfl) rfl
theorem lk_Mo_120 : Cond.methodLink "ClockTreeModel" 120 y_Mo_gets ∈ TBL := tb3 (List.mem_of_getElem? (i := 137) rfl) rfl
theorem lk_Mo_89 : Cond.methodLink "ClockTreeModel" 89 y_Mo_across ∈ TBL := tb3 (List.mem_of_getElem? (i := 141) rfl) rfl
theorem lk_Mo_124 : Cond.methodLink "ClockTreeModel" 124 y_Mo_chooses ∈ TBL := tb3 (List.mem_of_getElem? (i := 145) rfl) rfl
theorem lk_Mo_114 : Cond.methodLink "ClockTreeModel" 114 y_Mo_usable ∈ TBL := tb3 (List.mem_of_getElem? (i := 149) rfl) rfl
theorem lk_Mo_97 : Cond.methodLink "ClockTreeModel" 97 y_Mo_hasWord ∈ TBL := tb3 (List.mem_of_getElem? (i := 153) rfl) rfl
theorem lk_Mo_117 : Cond.methodLink "ClockTreeModel" 117 y_Mo_choice ∈ TBL := tb3 (List.mem_of_getElem? (i := 157) rfl) rfl
theorem lk_Mo_110 : Cond.methodLink "ClockTreeModel" 110 y_Mo_bestOf ∈ TBL := tb3 (List.mem_of_getElem? (i := 161) rfl) rfl
theorem lk_Mo_106 : Cond.methodLink "ClockTreeModel" 106 y_Mo_better ∈ TBL := tb3 (List.mem_of_getElem? (i := 165) rfl) rfl
theorem lk_Mo_100 : Cond.methodLink "ClockTreeModel" 100 y_Mo_qualityOf ∈ TBL := tb3 (List.mem_of_getElem? (i := 169) rfl) rfl
theorem lk_Mo_103 : Cond.methodLink "ClockTreeModel" 103 y_Mo_hopsOf ∈ TBL := tb3 (List.mem_of_getElem? (i := 173) rfl) rfl
theorem lk_Mo_127 : Cond.methodLink "ClockTreeModel" 127 y_Mo_stateOf ∈ TBL := tb3 (List.mem_of_getElem? (i := 177) rfl) rfl
theorem lk_Mo_130 : Cond.methodLink "ClockTreeModel" 130 y_Mo_portOf ∈ TBL := tb3 (List.mem_of_getElem? (i := 181) rfl) rfl
theorem lk_La_132 : Cond.methodLink "ClockTreeLaw" 132 y_Mo_settled ∈ TBL := tb3 (List.mem_of_getElem? (i := 185) rfl) rfl
theorem lk_La_135 : Cond.methodLink "ClockTreeLaw" 135 y_Mo_state ∈ TBL := tb3 (List.mem_of_getElem? (i := 189) rfl) rfl
theorem lk_La_138 : Cond.methodLink "ClockTreeLaw" 138 y_Mo_phase ∈ TBL := tb3 (List.mem_of_getElem? (i := 193) rfl) rfl
theorem lk_La_141 : Cond.methodLink "ClockTreeLaw" 141 y_Mo_sends ∈ TBL := tb3 (List.mem_of_getElem? (i := 197) rfl) rfl
theorem lk_La_144 : Cond.methodLink "ClockTreeLaw" 144 y_Mo_traced ∈ TBL := tb3 (List.mem_of_getElem? (i := 201) rfl) rfl
theorem lk_Mo_164 : Cond.methodLink "ClockTreeModel" 164 y_Mo_followed ∈ TBL := tb3 (List.mem_of_getElem? (i := 205) rfl) rfl
theorem lk_La_149 : Cond.methodLink "ClockTreeLaw" 149 y_Mo_loop ∈ TBL := tb3 (List.mem_of_getElem? (i := 209) rfl) rfl
theorem lk_La_152 : Cond.methodLink "ClockTreeLaw" 152 y_Mo_best ∈ TBL := tb3 (List.mem_of_getElem? (i := 213) rfl) rfl
theorem lk_Mo_142 : Cond.methodLink "ClockTreeModel" 142 y_Mo_bestFor ∈ TBL := tb3 (List.mem_of_getElem? (i := 217) rfl) rfl
theorem lk_Mo_136 : Cond.methodLink "ClockTreeModel" 136 y_Mo_reached ∈ TBL := tb3 (List.mem_of_getElem? (i := 221) rfl) rfl
theorem lk_La_156 : Cond.methodLink "ClockTreeLaw" 156 y_Mo_check ∈ TBL := tb3 (List.mem_of_getElem? (i := 225) rfl) rfl
theorem lk_Mo_145 : Cond.methodLink "ClockTreeModel" 145 y_Mo_keep ∈ TBL := tb3 (List.mem_of_getElem? (i := 229) rfl) rfl
theorem lk_Mo_167 : Cond.methodLink "ClockTreeModel" 167 y_Mo_goOn ∈ TBL := tb3 (List.mem_of_getElem? (i := 233) rfl) rfl
theorem lk_La_159 : Cond.methodLink "ClockTreeLaw" 159 y_Mo_finding ∈ TBL := tb3 (List.mem_of_getElem? (i := 237) rfl) rfl
theorem m_CT_tracing : Cond.instanceMethod y_CT_tracing ∈ TBL ∧ Cond.selects y_CT_tracing.cls y_CT_tracing y_CT_tracing ∈ TBL ∧ Cond.initialized y_CT_tracing.cls ∈ TBL ∧ Cond.code y_CT_tracing prog_1_method_7_code 3 (some .boolean) ∈ TBL ∧ y_CT_tracing.cls ≠ "java/lang/invoke/MethodHandle" ∧ y_CT_tracing.cls ≠ "java/lang/invoke/VarHandle" ∧ (parseMethodDescriptor y_CT_tracing.desc).map (fun d => d.parameters.length) = some 1 := ⟨tb1 (List.mem_of_getElem? (i := 25) rfl) rfl, tb1 (List.mem_of_getElem? (i := 26) rfl) rfl, tb0 (List.mem_of_getElem? (i := 1) rfl) rfl, tb1 (List.mem_of_getElem? (i := 27) rfl) rfl, by decide, by decide, by decide +kernel⟩
theorem m_CT_settled : Cond.instanceMethod y_CT_settled ∈ TBL ∧ Cond.selects y_CT_settled.cls y_CT_settled y_CT_settled ∈ TBL ∧ Cond.initialized y_CT_settled.cls ∈ TBL ∧ Cond.code y_CT_settled prog_1_method_14_code 1 (some .int) ∈ TBL ∧ y_CT_settled.cls ≠ "java/lang/invoke/MethodHandle" ∧ y_CT_settled.cls ≠ "java/lang/invoke/VarHandle" ∧ (parseMethodDescriptor y_CT_settled.desc).map (fun d => d.parameters.length) = some 0 := ⟨tb1 (List.mem_of_getElem? (i := 29) rfl) rfl, tb1 (List.mem_of_getElem? (i := 30) rfl) rfl, tb0 (List.mem_of_getElem? (i := 1) rfl) rfl, tb1 (List.mem_of_getElem? (i := 31) rfl) rfl, by decide, by decide, by decide +kernel⟩
theorem m_CT_loop : Cond.instanceMethod y_CT_loop ∈ TBL ∧ Cond.selects y_CT_loop.cls y_CT_loop y_CT_loop ∈ TBL ∧ Cond.initialized y_CT_loop.cls ∈ TBL ∧ Cond.code y_CT_loop prog_1_method_19_code 2 (some .boolean) ∈ TBL ∧ y_CT_loop.cls ≠ "java/lang/invoke/MethodHandle" ∧ y_CT_loop.cls ≠ "java/lang/invoke/VarHandle" ∧ (parseMethodDescriptor y_CT_loop.desc).map (fun d => d.parameters.length) = some 0 := ⟨tb1 (List.mem_of_getElem? (i := 33) rfl) rfl, tb1 (List.mem_of_getElem? (i := 34) rfl) rfl, tb0 (List.mem_of_getElem? (i := 1) rfl) rfl, tb1 (List.mem_of_getElem? (i := 35) rfl) rfl, by decide, by decide, by decide +kernel⟩
theorem m_Fl_follow : Cond.instanceMethod y_Fl_follow ∈ TBL ∧ Cond.selects y_Fl_follow.cls y_Fl_follow y_Fl_follow ∈ TBL ∧ Cond.initialized y_Fl_follow.cls ∈ TBL ∧ Cond.code y_Fl_follow prog_4_method_24_code 5 (some .int) ∈ TBL ∧ y_Fl_follow.cls ≠ "java/lang/invoke/MethodHandle" ∧ y_Fl_follow.cls ≠ "java/lang/invoke/VarHandle" ∧ (parseMethodDescriptor y_Fl_follow.desc).map (fun d => d.parameters.length) = some 1 := ⟨tb1 (List.mem_of_getElem? (i := 37) rfl) rfl, tb1 (List.mem_of_getElem? (i := 38) rfl) rfl, tb0 (List.mem_of_getElem? (i := 4) rfl) rfl, tb1 (List.mem_of_getElem? (i := 39) rfl) rfl, by decide, by decide, by decide +kernel⟩
theorem m_Fl_isWhole : Cond.instanceMethod y_Fl_isWhole ∈ TBL ∧ Cond.selects y_Fl_isWhole.cls y_Fl_isWhole y_Fl_isWhole ∈ TBL ∧ Cond.initialized y_Fl_isWhole.cls ∈ TBL ∧ Cond.code y_Fl_isWhole prog_4_method_3_code 2 (some .boolean) ∈ TBL ∧ y_Fl_isWhole.cls ≠ "java/lang/invoke/MethodHandle" ∧ y_Fl_isWhole.cls ≠ "java/lang/invoke/VarHandle" ∧ (parseMethodDescriptor y_Fl_isWhole.desc).map (fun d => d.parameters.length) = some 1 := ⟨tb1 (List.mem_of_getElem? (i := 41) rfl) rfl, tb1 (List.mem_of_getElem? (i := 42) rfl) rfl, tb0 (List.mem_of_getElem? (i := 4) rfl) rfl, tb1 (List.mem_of_getElem? (i := 43) rfl) rfl, by decide, by decide, by decide +kernel⟩
theorem m_Fl_isLocked : Cond.instanceMethod y_Fl_isLocked ∈ TBL ∧ Cond.selects y_Fl_isLocked.cls y_Fl_isLocked y_Fl_isLocked ∈ TBL ∧ Cond.initialized y_Fl_isLocked.cls ∈ TBL ∧ Cond.code y_Fl_isLocked prog_4_method_5_code 2 (some .boolean) ∈ TBL ∧ y_Fl_isLocked.cls ≠ "java/lang/invoke/MethodHandle" ∧ y_Fl_isLocked.cls ≠ "java/lang/invoke/VarHandle" ∧ (parseMethodDescriptor y_Fl_isLocked.desc).map (fun d => d.parameters.length) = some 1 := ⟨tb1 (List.mem_of_getElem? (i := 45) rfl) rfl, tb1 (List.mem_of_getElem? (i := 46) rfl) rfl, tb0 (List.mem_of_getElem? (i := 4) rfl) rfl, tb1 (List.mem_of_getElem? (i := 47) rfl) rfl, by decide, by decide, by decide +kernel⟩
theorem m_CT_slotOf : Cond.static y_CT_slotOf ∈ TBL ∧ Cond.initialized y_CT_slotOf.cls ∈ TBL ∧ Cond.code y_CT_slotOf prog_1_method_26_code 2 (some .int) ∈ TBL ∧ y_CT_slotOf.cls ≠ "java/lang/invoke/MethodHandle" ∧ y_CT_slotOf.cls ≠ "java/lang/invoke/VarHandle" ∧ (parseMethodDescriptor y_CT_slotOf.desc).map (fun d => d.parameters.length) = some 2 := ⟨tb1 (List.mem_of_getElem? (i := 49) rfl) rfl, tb0 (List.mem_of_getElem? (i := 1) rfl) rfl, tb1 (List.mem_of_getElem? (i := 50) rfl) rfl, by decide, by decide, by decide +kernel⟩
theorem m_CT_elementOf : Cond.static y_CT_elementOf ∈ TBL ∧ Cond.initialized y_CT_elementOf.cls ∈ TBL ∧ Cond.code y_CT_elementOf prog_1_method_27_code 1 (some .int) ∈ TBL ∧ y_CT_elementOf.cls ≠ "java/lang/invoke/MethodHandle" ∧ y_CT_elementOf.cls ≠ "java/lang/invoke/VarHandle" ∧ (parseMethodDescriptor y_CT_elementOf.desc).map (fun d => d.parameters.length) = some 1 := ⟨tb1 (List.mem_of_getElem? (i := 52) rfl) rfl, tb0 (List.mem_of_getElem? (i := 1) rfl) rfl, tb1 (List.mem_of_getElem? (i := 53) rfl) rfl, by decide, by decide, by decide +kernel⟩
theorem m_CT_check : Cond.instanceMethod y_CT_check ∈ TBL ∧ Cond.selects y_CT_check.cls y_CT_check y_CT_check ∈ TBL ∧ Cond.initialized y_CT_check.cls ∈ TBL ∧ Cond.code y_CT_check prog_1_method_21_code 3 (some .int) ∈ TBL ∧ y_CT_check.cls ≠ "java/lang/invoke/MethodHandle" ∧ y_CT_check.cls ≠ "java/lang/invoke/VarHandle" ∧ (parseMethodDescriptor y_CT_check.desc).map (fun d => d.parameters.length) = some 0 := ⟨tb1 (List.mem_of_getElem? (i := 55) rfl) rfl, tb1 (List.mem_of_getElem? (i := 56) rfl) rfl, tb0 (List.mem_of_getElem? (i := 1) rfl) rfl, tb1 (List.mem_of_getElem? (i := 57) rfl) rfl, by decide, by decide, by decide +kernel⟩
theorem m_Pl_longestRestore : Cond.instanceMethod y_Pl_longestRestore ∈ TBL ∧ Cond.selects y_Pl_longestRestore.cls y_Pl_longestRestore y_Pl_longestRestore ∈ TBL ∧ Cond.initialized y_Pl_longestRestore.cls ∈ TBL ∧ Cond.code y_Pl_longestRestore prog_5_method_8_code 3 (some .int) ∈ TBL ∧ y_Pl_longestRestore.cls ≠ "java/lang/invoke/MethodHandle" ∧ y_Pl_longestRestore.cls ≠ "java/lang/invoke/VarHandle" ∧ (parseMethodDescriptor y_Pl_longestRestore.desc).map (fun d => d.parameters.length) = some 0 := ⟨tb1 (List.mem_of_getElem? (i := 59) rfl) rfl, tb1 (List.mem_of_getElem? (i := 60) rfl) rfl, tb0 (List.mem_of_getElem? (i := 2) rfl) rfl, tb1 (List.mem_of_getElem? (i := 61) rfl) rfl, by decide, by decide, by decide +kernel⟩
theorem m_Fl_isLinkWhole : Cond.instanceMethod y_Fl_isLinkWhole ∈ TBL ∧ Cond.selects y_Fl_isLinkWhole.cls y_Fl_isLinkWhole y_Fl_isLinkWhole ∈ TBL ∧ Cond.initialized y_Fl_isLinkWhole.cls ∈ TBL ∧ Cond.code y_Fl_isLinkWhole prog_4_method_4_code 2 (some .boolean) ∈ TBL ∧ y_Fl_isLinkWhole.cls ≠ "java/lang/invoke/MethodHandle" ∧ y_Fl_isLinkWhole.cls ≠ "java/lang/invoke/VarHandle" ∧ (parseMethodDescriptor y_Fl_isLinkWhole.desc).map (fun d => d.parameters.length) = some 1 := ⟨tb1 (List.mem_of_getElem? (i := 66) rfl) rfl, tb1 (List.mem_of_getElem? (i := 67) rfl) rfl, tb0 (List.mem_of_getElem? (i := 4) rfl) rfl, tb1 (List.mem_of_getElem? (i := 68) rfl) rfl, by decide, by decide, by decide +kernel⟩
theorem m_Fl_copy : Cond.instanceMethod y_Fl_copy ∈ TBL ∧ Cond.selects y_Fl_copy.cls y_Fl_copy y_Fl_copy ∈ TBL ∧ Cond.initialized y_Fl_copy.cls ∈ TBL ∧ Cond.code y_Fl_copy prog_4_method_2_code 2 none ∈ TBL ∧ y_Fl_copy.cls ≠ "java/lang/invoke/MethodHandle" ∧ y_Fl_copy.cls ≠ "java/lang/invoke/VarHandle" ∧ (parseMethodDescriptor y_Fl_copy.desc).map (fun d => d.parameters.length) = some 1 := ⟨tb1 (List.mem_of_getElem? (i := 70) rfl) rfl, tb1 (List.mem_of_getElem? (i := 71) rfl) rfl, tb0 (List.mem_of_getElem? (i := 4) rfl) rfl, tb1 (List.mem_of_getElem? (i := 72) rfl) rfl, by decide, by decide, by decide +kernel⟩
theorem m_Wo_copy : Cond.instanceMethod y_Wo_copy ∈ TBL ∧ Cond.selects y_Wo_copy.cls y_Wo_copy y_Wo_copy ∈ TBL ∧ Cond.initialized y_Wo_copy.cls ∈ TBL ∧ Cond.code y_Wo_copy prog_6_method_4_code 2 none ∈ TBL ∧ y_Wo_copy.cls ≠ "java/lang/invoke/MethodHandle" ∧ y_Wo_copy.cls ≠ "java/lang/invoke/VarHandle" ∧ (parseMethodDescriptor y_Wo_copy.desc).map (fun d => d.parameters.length) = some 1 := ⟨tb1 (List.mem_of_getElem? (i := 74) rfl) rfl, tb1 (List.mem_of_getElem? (i := 75) rfl) rfl, tb0 (List.mem_of_getElem? (i := 5) rfl) rfl, tb1 (List.mem_of_getElem? (i := 76) rfl) rfl, by decide, by decide, by decide +kernel⟩
theorem m_Fl_setLinkFailed : Cond.instanceMethod y_Fl_setLinkFailed ∈ TBL ∧ Cond.selects y_Fl_setLinkFailed.cls y_Fl_setLinkFailed y_Fl_setLinkFailed ∈ TBL ∧ Cond.initialized y_Fl_setLinkFailed.cls ∈ TBL ∧ Cond.code y_Fl_setLinkFailed prog_4_method_7_code 3 none ∈ TBL ∧ y_Fl_setLinkFailed.cls ≠ "java/lang/invoke/MethodHandle" ∧ y_Fl_setLinkFailed.cls ≠ "java/lang/invoke/VarHandle" ∧ (parseMethodDescriptor y_Fl_setLinkFailed.desc).map (fun d => d.parameters.length) = some 2 := ⟨tb1 (List.mem_of_getElem? (i := 82) rfl) rfl, tb1 (List.mem_of_getElem? (i := 83) rfl) rfl, tb0 (List.mem_of_getElem? (i := 4) rfl) rfl, tb1 (List.mem_of_getElem? (i := 84) rfl) rfl, by decide, by decide, by decide +kernel⟩
theorem m_Fl_passRounds : Cond.instanceMethod y_Fl_passRounds ∈ TBL ∧ Cond.selects y_Fl_passRounds.cls y_Fl_passRounds y_Fl_passRounds ∈ TBL ∧ Cond.initialized y_Fl_passRounds.cls ∈ TBL ∧ Cond.code y_Fl_passRounds prog_4_method_11_code 3 none ∈ TBL ∧ y_Fl_passRounds.cls ≠ "java/lang/invoke/MethodHandle" ∧ y_Fl_passRounds.cls ≠ "java/lang/invoke/VarHandle" ∧ (parseMethodDescriptor y_Fl_passRounds.desc).map (fun d => d.parameters.length) = some 1 := ⟨tb1 (List.mem_of_getElem? (i := 86) rfl) rfl, tb1 (List.mem_of_getElem? (i := 87) rfl) rfl, tb0 (List.mem_of_getElem? (i := 4) rfl) rfl, tb1 (List.mem_of_getElem? (i := 88) rfl) rfl, by decide, by decide, by decide +kernel⟩
theorem m_Fl_passRound : Cond.instanceMethod y_Fl_passRound ∈ TBL ∧ Cond.selects y_Fl_passRound.cls y_Fl_passRound y_Fl_passRound ∈ TBL ∧ Cond.initialized y_Fl_passRound.cls ∈ TBL ∧ Cond.code y_Fl_passRound prog_4_method_12_code 2 none ∈ TBL ∧ y_Fl_passRound.cls ≠ "java/lang/invoke/MethodHandle" ∧ y_Fl_passRound.cls ≠ "java/lang/invoke/VarHandle" ∧ (parseMethodDescriptor y_Fl_passRound.desc).map (fun d => d.parameters.length) = some 0 := ⟨tb1 (List.mem_of_getElem? (i := 90) rfl) rfl, tb1 (List.mem_of_getElem? (i := 91) rfl) rfl, tb0 (List.mem_of_getElem? (i := 4) rfl) rfl, tb1 (List.mem_of_getElem? (i := 92) rfl) rfl, by decide, by decide, by decide +kernel⟩
theorem m_Fl_listen : Cond.instanceMethod y_Fl_listen ∈ TBL ∧ Cond.selects y_Fl_listen.cls y_Fl_listen y_Fl_listen ∈ TBL ∧ Cond.initialized y_Fl_listen.cls ∈ TBL ∧ Cond.code y_Fl_listen prog_4_method_13_code 4 none ∈ TBL ∧ y_Fl_listen.cls ≠ "java/lang/invoke/MethodHandle" ∧ y_Fl_listen.cls ≠ "java/lang/invoke/VarHandle" ∧ (parseMethodDescriptor y_Fl_listen.desc).map (fun d => d.parameters.length) = some 1 := ⟨tb1 (List.mem_of_getElem? (i := 95) rfl) rfl, tbS (q := (y_Fl_listen, 15)) (List.mem_append_left _ (List.mem_of_getElem? (i := 0) rfl)), tb0 (List.mem_of_getElem? (i := 4) rfl) rfl, tb1 (List.mem_of_getElem? (i := 96) rfl) rfl, by decide, by decide, by decide +kernel⟩
theorem m_Fl_hear : Cond.instanceMethod y_Fl_hear ∈ TBL ∧ Cond.selects y_Fl_hear.cls y_Fl_hear y_Fl_hear ∈ TBL ∧ Cond.initialized y_Fl_hear.cls ∈ TBL ∧ Cond.code y_Fl_hear prog_4_method_14_code 4 none ∈ TBL ∧ y_Fl_hear.cls ≠ "java/lang/invoke/MethodHandle" ∧ y_Fl_hear.cls ≠ "java/lang/invoke/VarHandle" ∧ (parseMethodDescriptor y_Fl_hear.desc).map (fun d => d.parameters.length) = some 1 := ⟨tb1 (List.mem_of_getElem? (i := 99) rfl) rfl, tbS (q := (y_Fl_hear, 15)) (List.mem_append_left _ (List.mem_of_getElem? (i := 1) rfl)), tb0 (List.mem_of_getElem? (i := 4) rfl) rfl, tb1 (List.mem_of_getElem? (i := 100) rfl) rfl, by decide, by decide, by decide +kernel⟩
theorem m_Fl_comes : Cond.instanceMethod y_Fl_comes ∈ TBL ∧ Cond.selects y_Fl_comes.cls y_Fl_comes y_Fl_comes ∈ TBL ∧ Cond.initialized y_Fl_comes.cls ∈ TBL ∧ Cond.code y_Fl_comes prog_4_method_15_code 3 (some .boolean) ∈ TBL ∧ y_Fl_comes.cls ≠ "java/lang/invoke/MethodHandle" ∧ y_Fl_comes.cls ≠ "java/lang/invoke/VarHandle" ∧ (parseMethodDescriptor y_Fl_comes.desc).map (fun d => d.parameters.length) = some 2 := ⟨tb1 (List.mem_of_getElem? (i := 106) rfl) rfl, tbS (q := (y_Fl_comes, 15)) (List.mem_append_left _ (List.mem_of_getElem? (i := 2) rfl)), tb0 (List.mem_of_getElem? (i := 4) rfl) rfl, tb1 (List.mem_of_getElem? (i := 107) rfl) rfl, by decide, by decide, by decide +kernel⟩
theorem m_Wo_isSame : Cond.instanceMethod y_Wo_isSame ∈ TBL ∧ Cond.selects y_Wo_isSame.cls y_Wo_isSame y_Wo_isSame ∈ TBL ∧ Cond.initialized y_Wo_isSame.cls ∈ TBL ∧ Cond.code y_Wo_isSame prog_6_method_3_code 4 (some .boolean) ∈ TBL ∧ y_Wo_isSame.cls ≠ "java/lang/invoke/MethodHandle" ∧ y_Wo_isSame.cls ≠ "java/lang/invoke/VarHandle" ∧ (parseMethodDescriptor y_Wo_isSame.desc).map (fun d => d.parameters.length) = some 3 := ⟨tb1 (List.mem_of_getElem? (i := 110) rfl) rfl, tb1 (List.mem_of_getElem? (i := 111) rfl) rfl, tb0 (List.mem_of_getElem? (i := 5) rfl) rfl, tb1 (List.mem_of_getElem? (i := 112) rfl) rfl, by decide, by decide, by decide +kernel⟩
theorem m_Wo_write : Cond.instanceMethod y_Wo_write ∈ TBL ∧ Cond.selects y_Wo_write.cls y_Wo_write y_Wo_write ∈ TBL ∧ Cond.initialized y_Wo_write.cls ∈ TBL ∧ Cond.code y_Wo_write prog_6_method_2_code 5 none ∈ TBL ∧ y_Wo_write.cls ≠ "java/lang/invoke/MethodHandle" ∧ y_Wo_write.cls ≠ "java/lang/invoke/VarHandle" ∧ (parseMethodDescriptor y_Wo_write.desc).map (fun d => d.parameters.length) = some 4 := ⟨tb1 (List.mem_of_getElem? (i := 114) rfl) rfl, tb1 (List.mem_of_getElem? (i := 115) rfl) rfl, tb0 (List.mem_of_getElem? (i := 5) rfl) rfl, tb1 (List.mem_of_getElem? (i := 116) rfl) rfl, by decide, by decide, by decide +kernel⟩
theorem m_Fl_weigh : Cond.instanceMethod y_Fl_weigh ∈ TBL ∧ Cond.selects y_Fl_weigh.cls y_Fl_weigh y_Fl_weigh ∈ TBL ∧ Cond.initialized y_Fl_weigh.cls ∈ TBL ∧ Cond.code y_Fl_weigh prog_4_method_16_code 2 none ∈ TBL ∧ y_Fl_weigh.cls ≠ "java/lang/invoke/MethodHandle" ∧ y_Fl_weigh.cls ≠ "java/lang/invoke/VarHandle" ∧ (parseMethodDescriptor y_Fl_weigh.desc).map (fun d => d.parameters.length) = some 1 := ⟨tb1 (List.mem_of_getElem? (i := 119) rfl) rfl, tbS (q := (y_Fl_weigh, 15)) (List.mem_append_left _ (List.mem_of_getElem? (i := 3) rfl)), tb0 (List.mem_of_getElem? (i := 4) rfl) rfl, tb1 (List.mem_of_getElem? (i := 120) rfl) rfl, by decide, by decide, by decide +kernel⟩
theorem m_Pl_hasSource : Cond.instanceMethod y_Pl_hasSource ∈ TBL ∧ Cond.selects y_Pl_hasSource.cls y_Pl_hasSource y_Pl_hasSource ∈ TBL ∧ Cond.initialized y_Pl_hasSource.cls ∈ TBL ∧ Cond.code y_Pl_hasSource prog_5_method_6_code 2 (some .boolean) ∈ TBL ∧ y_Pl_hasSource.cls ≠ "java/lang/invoke/MethodHandle" ∧ y_Pl_hasSource.cls ≠ "java/lang/invoke/VarHandle" ∧ (parseMethodDescriptor y_Pl_hasSource.desc).map (fun d => d.parameters.length) = some 1 := ⟨tb1 (List.mem_of_getElem? (i := 122) rfl) rfl, tb1 (List.mem_of_getElem? (i := 123) rfl) rfl, tb0 (List.mem_of_getElem? (i := 2) rfl) rfl, tb1 (List.mem_of_getElem? (i := 124) rfl) rfl, by decide, by decide, by decide +kernel⟩
theorem m_Fl_countUsable : Cond.instanceMethod y_Fl_countUsable ∈ TBL ∧ Cond.selects y_Fl_countUsable.cls y_Fl_countUsable y_Fl_countUsable ∈ TBL ∧ Cond.initialized y_Fl_countUsable.cls ∈ TBL ∧ Cond.code y_Fl_countUsable prog_4_method_17_code 4 none ∈ TBL ∧ y_Fl_countUsable.cls ≠ "java/lang/invoke/MethodHandle" ∧ y_Fl_countUsable.cls ≠ "java/lang/invoke/VarHandle" ∧ (parseMethodDescriptor y_Fl_countUsable.desc).map (fun d => d.parameters.length) = some 2 := ⟨tb1 (List.mem_of_getElem? (i := 127) rfl) rfl, tbS (q := (y_Fl_countUsable, 15)) (List.mem_append_left _ (List.mem_of_getElem? (i := 4) rfl)), tb0 (List.mem_of_getElem? (i := 4) rfl) rfl, tb1 (List.mem_of_getElem? (i := 128) rfl) rfl, by decide, by decide, by decide +kernel⟩
theorem m_Fl_isUsable : Cond.instanceMethod y_Fl_isUsable ∈ TBL ∧ Cond.selects y_Fl_isUsable.cls y_Fl_isUsable y_Fl_isUsable ∈ TBL ∧ Cond.initialized y_Fl_isUsable.cls ∈ TBL ∧ Cond.code y_Fl_isUsable prog_4_method_18_code 5 (some .boolean) ∈ TBL ∧ y_Fl_isUsable.cls ≠ "java/lang/invoke/MethodHandle" ∧ y_Fl_isUsable.cls ≠ "java/lang/invoke/VarHandle" ∧ (parseMethodDescriptor y_Fl_isUsable.desc).map (fun d => d.parameters.length) = some 2 := ⟨tb1 (List.mem_of_getElem? (i := 131) rfl) rfl, tbS (q := (y_Fl_isUsable, 15)) (List.mem_append_left _ (List.mem_of_getElem? (i := 5) rfl)), tb0 (List.mem_of_getElem? (i := 4) rfl) rfl, tb1 (List.mem_of_getElem? (i := 132) rfl) rfl, by decide, by decide, by decide +kernel⟩
theorem m_CT_isWithin : Cond.static y_CT_isWithin ∈ TBL ∧ Cond.initialized y_CT_isWithin.cls ∈ TBL ∧ Cond.code y_CT_isWithin prog_1_method_25_code 3 (some .boolean) ∈ TBL ∧ y_CT_isWithin.cls ≠ "java/lang/invoke/MethodHandle" ∧ y_CT_isWithin.cls ≠ "java/lang/invoke/VarHandle" ∧ (parseMethodDescriptor y_CT_isWithin.desc).map (fun d => d.parameters.length) = some 3 := ⟨tb1 (List.mem_of_getElem? (i := 134) rfl) rfl, tb0 (List.mem_of_getElem? (i := 1) rfl) rfl, tb1 (List.mem_of_getElem? (i := 135) rfl) rfl, by decide, by decide, by decide +kernel⟩
theorem m_Fl_decide : Cond.instanceMethod y_Fl_decide ∈ TBL ∧ Cond.selects y_Fl_decide.cls y_Fl_decide y_Fl_decide ∈ TBL ∧ Cond.initialized y_Fl_decide.cls ∈ TBL ∧ Cond.code y_Fl_decide prog_4_method_19_code 4 none ∈ TBL ∧ y_Fl_decide.cls ≠ "java/lang/invoke/MethodHandle" ∧ y_Fl_decide.cls ≠ "java/lang/invoke/VarHandle" ∧ (parseMethodDescriptor y_Fl_decide.desc).map (fun d => d.parameters.length) = some 1 := ⟨tb1 (List.mem_of_getElem? (i := 138) rfl) rfl, tbS (q := (y_Fl_decide, 15)) (List.mem_append_left _ (List.mem_of_getElem? (i := 6) rfl)), tb0 (List.mem_of_getElem? (i := 4) rfl) rfl, tb1 (List.mem_of_getElem? (i := 139) rfl) rfl, by decide, by decide, by decide +kernel⟩
theorem m_Fl_choose : Cond.instanceMethod y_Fl_choose ∈ TBL ∧ Cond.selects y_Fl_choose.cls y_Fl_choose y_Fl_choose ∈ TBL ∧ Cond.initialized y_Fl_choose.cls ∈ TBL ∧ Cond.code y_Fl_choose prog_4_method_20_code 4 (some .int) ∈ TBL ∧ y_Fl_choose.cls ≠ "java/lang/invoke/MethodHandle" ∧ y_Fl_choose.cls ≠ "java/lang/invoke/VarHandle" ∧ (parseMethodDescriptor y_Fl_choose.desc).map (fun d => d.parameters.length) = some 1 := ⟨tb1 (List.mem_of_getElem? (i := 142) rfl) rfl, tbS (q := (y_Fl_choose, 15)) (List.mem_append_left _ (List.mem_of_getElem? (i := 7) rfl)), tb0 (List.mem_of_getElem? (i := 4) rfl) rfl, tb1 (List.mem_of_getElem? (i := 143) rfl) rfl, by decide, by decide, by decide +kernel⟩
theorem m_Fl_bestPort : Cond.instanceMethod y_Fl_bestPort ∈ TBL ∧ Cond.selects y_Fl_bestPort.cls y_Fl_bestPort y_Fl_bestPort ∈ TBL ∧ Cond.initialized y_Fl_bestPort.cls ∈ TBL ∧ Cond.code y_Fl_bestPort prog_4_method_21_code 6 (some .int) ∈ TBL ∧ y_Fl_bestPort.cls ≠ "java/lang/invoke/MethodHandle" ∧ y_Fl_bestPort.cls ≠ "java/lang/invoke/VarHandle" ∧ (parseMethodDescriptor y_Fl_bestPort.desc).map (fun d => d.parameters.length) = some 2 := ⟨tb1 (List.mem_of_getElem? (i := 146) rfl) rfl, tbS (q := (y_Fl_bestPort, 15)) (List.mem_append_left _ (List.mem_of_getElem? (i := 8) rfl)), tb0 (List.mem_of_getElem? (i := 4) rfl) rfl, tb1 (List.mem_of_getElem? (i := 147) rfl) rfl, by decide, by decide, by decide +kernel⟩
theorem m_Fl_isBetter : Cond.instanceMethod y_Fl_isBetter ∈ TBL ∧ Cond.selects y_Fl_isBetter.cls y_Fl_isBetter y_Fl_isBetter ∈ TBL ∧ Cond.initialized y_Fl_isBetter.cls ∈ TBL ∧ Cond.code y_Fl_isBetter prog_4_method_22_code 3 (some .boolean) ∈ TBL ∧ y_Fl_isBetter.cls ≠ "java/lang/invoke/MethodHandle" ∧ y_Fl_isBetter.cls ≠ "java/lang/invoke/VarHandle" ∧ (parseMethodDescriptor y_Fl_isBetter.desc).map (fun d => d.parameters.length) = some 2 := ⟨tb1 (List.mem_of_getElem? (i := 150) rfl) rfl, tbS (q := (y_Fl_isBetter, 15)) (List.mem_append_left _ (List.mem_of_getElem? (i := 9) rfl)), tb0 (List.mem_of_getElem? (i := 4) rfl) rfl, tb1 (List.mem_of_getElem? (i := 151) rfl) rfl, by decide, by decide, by decide +kernel⟩
theorem m_Fl_speak : Cond.instanceMethod y_Fl_speak ∈ TBL ∧ Cond.selects y_Fl_speak.cls y_Fl_speak y_Fl_speak ∈ TBL ∧ Cond.initialized y_Fl_speak.cls ∈ TBL ∧ Cond.code y_Fl_speak prog_4_method_23_code 5 none ∈ TBL ∧ y_Fl_speak.cls ≠ "java/lang/invoke/MethodHandle" ∧ y_Fl_speak.cls ≠ "java/lang/invoke/VarHandle" ∧ (parseMethodDescriptor y_Fl_speak.desc).map (fun d => d.parameters.length) = some 1 := ⟨tb1 (List.mem_of_getElem? (i := 154) rfl) rfl, tbS (q := (y_Fl_speak, 15)) (List.mem_append_left _ (List.mem_of_getElem? (i := 10) rfl)), tb0 (List.mem_of_getElem? (i := 4) rfl) rfl, tb1 (List.mem_of_getElem? (i := 155) rfl) rfl, by decide, by decide, by decide +kernel⟩
theorem m_CT_findStarved : Cond.instanceMethod y_CT_findStarved ∈ TBL ∧ Cond.selects y_CT_findStarved.cls y_CT_findStarved y_CT_findStarved ∈ TBL ∧ Cond.initialized y_CT_findStarved.cls ∈ TBL ∧ Cond.code y_CT_findStarved prog_1_method_23_code 3 none ∈ TBL ∧ y_CT_findStarved.cls ≠ "java/lang/invoke/MethodHandle" ∧ y_CT_findStarved.cls ≠ "java/lang/invoke/VarHandle" ∧ (parseMethodDescriptor y_CT_findStarved.desc).map (fun d => d.parameters.length) = some 1 := ⟨tb1 (List.mem_of_getElem? (i := 158) rfl) rfl, tbS (q := (y_CT_findStarved, 8)) (List.mem_append_left _ (List.mem_of_getElem? (i := 11) rfl)), tb0 (List.mem_of_getElem? (i := 1) rfl) rfl, tb1 (List.mem_of_getElem? (i := 159) rfl) rfl, by decide, by decide, by decide +kernel⟩
theorem m_Fl_isStarved : Cond.instanceMethod y_Fl_isStarved ∈ TBL ∧ Cond.selects y_Fl_isStarved.cls y_Fl_isStarved y_Fl_isStarved ∈ TBL ∧ Cond.initialized y_Fl_isStarved.cls ∈ TBL ∧ Cond.code y_Fl_isStarved prog_4_method_28_code 2 (some .boolean) ∈ TBL ∧ y_Fl_isStarved.cls ≠ "java/lang/invoke/MethodHandle" ∧ y_Fl_isStarved.cls ≠ "java/lang/invoke/VarHandle" ∧ (parseMethodDescriptor y_Fl_isStarved.desc).map (fun d => d.parameters.length) = some 1 := ⟨tb1 (List.mem_of_getElem? (i := 161) rfl) rfl, tb1 (List.mem_of_getElem? (i := 162) rfl) rfl, tb0 (List.mem_of_getElem? (i := 4) rfl) rfl, tb1 (List.mem_of_getElem? (i := 163) rfl) rfl, by decide, by decide, by decide +kernel⟩
theorem m_Fl_bestReached : Cond.instanceMethod y_Fl_bestReached ∈ TBL ∧ Cond.selects y_Fl_bestReached.cls y_Fl_bestReached y_Fl_bestReached ∈ TBL ∧ Cond.initialized y_Fl_bestReached.cls ∈ TBL ∧ Cond.code y_Fl_bestReached prog_4_method_25_code 5 (some .int) ∈ TBL ∧ y_Fl_bestReached.cls ≠ "java/lang/invoke/MethodHandle" ∧ y_Fl_bestReached.cls ≠ "java/lang/invoke/VarHandle" ∧ (parseMethodDescriptor y_Fl_bestReached.desc).map (fun d => d.parameters.length) = some 1 := ⟨tb1 (List.mem_of_getElem? (i := 165) rfl) rfl, tb1 (List.mem_of_getElem? (i := 166) rfl) rfl, tb0 (List.mem_of_getElem? (i := 4) rfl) rfl, tb1 (List.mem_of_getElem? (i := 167) rfl) rfl, by decide, by decide, by decide +kernel⟩
theorem m_Fl_reachedFrom : Cond.instanceMethod y_Fl_reachedFrom ∈ TBL ∧ Cond.selects y_Fl_reachedFrom.cls y_Fl_reachedFrom y_Fl_reachedFrom ∈ TBL ∧ Cond.initialized y_Fl_reachedFrom.cls ∈ TBL ∧ Cond.code y_Fl_reachedFrom prog_4_method_26_code 6 (some .int) ∈ TBL ∧ y_Fl_reachedFrom.cls ≠ "java/lang/invoke/MethodHandle" ∧ y_Fl_reachedFrom.cls ≠ "java/lang/invoke/VarHandle" ∧ (parseMethodDescriptor y_Fl_reachedFrom.desc).map (fun d => d.parameters.length) = some 1 := ⟨tb1 (List.mem_of_getElem? (i := 170) rfl) rfl, tbS (q := (y_Fl_reachedFrom, 15)) (List.mem_append_left _ (List.mem_of_getElem? (i := 12) rfl)), tb0 (List.mem_of_getElem? (i := 4) rfl) rfl, tb1 (List.mem_of_getElem? (i := 171) rfl) rfl, by decide, by decide, by decide +kernel⟩
theorem m_Fl_across : Cond.instanceMethod y_Fl_across ∈ TBL ∧ Cond.selects y_Fl_across.cls y_Fl_across y_Fl_across ∈ TBL ∧ Cond.initialized y_Fl_across.cls ∈ TBL ∧ Cond.code y_Fl_across prog_4_method_27_code 7 (some .int) ∈ TBL ∧ y_Fl_across.cls ≠ "java/lang/invoke/MethodHandle" ∧ y_Fl_across.cls ≠ "java/lang/invoke/VarHandle" ∧ (parseMethodDescriptor y_Fl_across.desc).map (fun d => d.parameters.length) = some 2 := ⟨tb1 (List.mem_of_getElem? (i := 174) rfl) rfl, tbS (q := (y_Fl_across, 15)) (List.mem_append_left _ (List.mem_of_getElem? (i := 13) rfl)), tb0 (List.mem_of_getElem? (i := 4) rfl) rfl, tb1 (List.mem_of_getElem? (i := 175) rfl) rfl, by decide, by decide, by decide +kernel⟩
theorem m_Fl_setElementFailed : Cond.instanceMethod y_Fl_setElementFailed ∈ TBL ∧ Cond.selects y_Fl_setElementFailed.cls y_Fl_setElementFailed y_Fl_setElementFailed ∈ TBL ∧ Cond.initialized y_Fl_setElementFailed.cls ∈ TBL ∧ Cond.code y_Fl_setElementFailed prog_4_method_8_code 3 none ∈ TBL ∧ y_Fl_setElementFailed.cls ≠ "java/lang/invoke/MethodHandle" ∧ y_Fl_setElementFailed.cls ≠ "java/lang/invoke/VarHandle" ∧ (parseMethodDescriptor y_Fl_setElementFailed.desc).map (fun d => d.parameters.length) = some 2 := ⟨tb1 (List.mem_of_getElem? (i := 178) rfl) rfl, tb1 (List.mem_of_getElem? (i := 179) rfl) rfl, tb0 (List.mem_of_getElem? (i := 4) rfl) rfl, tb1 (List.mem_of_getElem? (i := 180) rfl) rfl, by decide, by decide, by decide +kernel⟩
theorem m_Fl_forget : Cond.instanceMethod y_Fl_forget ∈ TBL ∧ Cond.selects y_Fl_forget.cls y_Fl_forget y_Fl_forget ∈ TBL ∧ Cond.initialized y_Fl_forget.cls ∈ TBL ∧ Cond.code y_Fl_forget prog_4_method_10_code 4 none ∈ TBL ∧ y_Fl_forget.cls ≠ "java/lang/invoke/MethodHandle" ∧ y_Fl_forget.cls ≠ "java/lang/invoke/VarHandle" ∧ (parseMethodDescriptor y_Fl_forget.desc).map (fun d => d.parameters.length) = some 1 := ⟨tb1 (List.mem_of_getElem? (i := 183) rfl) rfl, tbS (q := (y_Fl_forget, 15)) (List.mem_append_left _ (List.mem_of_getElem? (i := 14) rfl)), tb0 (List.mem_of_getElem? (i := 4) rfl) rfl, tb1 (List.mem_of_getElem? (i := 184) rfl) rfl, by decide, by decide, by decide +kernel⟩
theorem m_CT_element : Cond.instanceMethod y_CT_element ∈ TBL ∧ Cond.selects y_CT_element.cls y_CT_element y_CT_element ∈ TBL ∧ Cond.initialized y_CT_element.cls ∈ TBL ∧ Cond.code y_CT_element prog_1_method_2_code 5 none ∈ TBL ∧ y_CT_element.cls ≠ "java/lang/invoke/MethodHandle" ∧ y_CT_element.cls ≠ "java/lang/invoke/VarHandle" ∧ (parseMethodDescriptor y_CT_element.desc).map (fun d => d.parameters.length) = some 4 := ⟨tb1 (List.mem_of_getElem? (i := 191) rfl) rfl, tb1 (List.mem_of_getElem? (i := 192) rfl) rfl, tb0 (List.mem_of_getElem? (i := 1) rfl) rfl, tb1 (List.mem_of_getElem? (i := 193) rfl) rfl, by decide, by decide, by decide +kernel⟩
theorem m_CT_refuseUnless : Cond.static y_CT_refuseUnless ∈ TBL ∧ Cond.initialized y_CT_refuseUnless.cls ∈ TBL ∧ Cond.code y_CT_refuseUnless prog_1_method_24_code 1 none ∈ TBL ∧ y_CT_refuseUnless.cls ≠ "java/lang/invoke/MethodHandle" ∧ y_CT_refuseUnless.cls ≠ "java/lang/invoke/VarHandle" ∧ (parseMethodDescriptor y_CT_refuseUnless.desc).map (fun d => d.parameters.length) = some 1 := ⟨tb1 (List.mem_of_getElem? (i := 196) rfl) rfl, tb0 (List.mem_of_getElem? (i := 1) rfl) rfl, tb1 (List.mem_of_getElem? (i := 197) rfl) rfl, by decide, by decide, by decide +kernel⟩
theorem m_Ck_start : Cond.instanceMethod y_Ck_start ∈ TBL ∧ Cond.selects y_Ck_start.cls y_Ck_start y_Ck_start ∈ TBL ∧ Cond.initialized y_Ck_start.cls ∈ TBL ∧ Cond.code y_Ck_start prog_3_method_2_code 3 none ∈ TBL ∧ y_Ck_start.cls ≠ "java/lang/invoke/MethodHandle" ∧ y_Ck_start.cls ≠ "java/lang/invoke/VarHandle" ∧ (parseMethodDescriptor y_Ck_start.desc).map (fun d => d.parameters.length) = some 2 := ⟨tb2 (List.mem_of_getElem? (i := 42) rfl) rfl, tb2 (List.mem_of_getElem? (i := 43) rfl) rfl, tb0 (List.mem_of_getElem? (i := 6) rfl) rfl, tb2 (List.mem_of_getElem? (i := 44) rfl) rfl, by decide, by decide, by decide +kernel⟩
theorem m_CT_link : Cond.instanceMethod y_CT_link ∈ TBL ∧ Cond.selects y_CT_link.cls y_CT_link y_CT_link ∈ TBL ∧ Cond.initialized y_CT_link.cls ∈ TBL ∧ Cond.code y_CT_link prog_1_method_3_code 7 (some .int) ∈ TBL ∧ y_CT_link.cls ≠ "java/lang/invoke/MethodHandle" ∧ y_CT_link.cls ≠ "java/lang/invoke/VarHandle" ∧ (parseMethodDescriptor y_CT_link.desc).map (fun d => d.parameters.length) = some 4 := ⟨tb2 (List.mem_of_getElem? (i := 49) rfl) rfl, tb2 (List.mem_of_getElem? (i := 50) rfl) rfl, tb0 (List.mem_of_getElem? (i := 1) rfl) rfl, tb2 (List.mem_of_getElem? (i := 51) rfl) rfl, by decide, by decide, by decide +kernel⟩
theorem m_Pl_isPort : Cond.instanceMethod y_Pl_isPort ∈ TBL ∧ Cond.selects y_Pl_isPort.cls y_Pl_isPort y_Pl_isPort ∈ TBL ∧ Cond.initialized y_Pl_isPort.cls ∈ TBL ∧ Cond.code y_Pl_isPort prog_5_method_3_code 3 (some .boolean) ∈ TBL ∧ y_Pl_isPort.cls ≠ "java/lang/invoke/MethodHandle" ∧ y_Pl_isPort.cls ≠ "java/lang/invoke/VarHandle" ∧ (parseMethodDescriptor y_Pl_isPort.desc).map (fun d => d.parameters.length) = some 2 := ⟨tb2 (List.mem_of_getElem? (i := 53) rfl) rfl, tb2 (List.mem_of_getElem? (i := 54) rfl) rfl, tb0 (List.mem_of_getElem? (i := 2) rfl) rfl, tb2 (List.mem_of_getElem? (i := 55) rfl) rfl, by decide, by decide, by decide +kernel⟩
theorem m_Pl_isThere : Cond.instanceMethod y_Pl_isThere ∈ TBL ∧ Cond.selects y_Pl_isThere.cls y_Pl_isThere y_Pl_isThere ∈ TBL ∧ Cond.initialized y_Pl_isThere.cls ∈ TBL ∧ Cond.code y_Pl_isThere prog_5_method_2_code 2 (some .boolean) ∈ TBL ∧ y_Pl_isThere.cls ≠ "java/lang/invoke/MethodHandle" ∧ y_Pl_isThere.cls ≠ "java/lang/invoke/VarHandle" ∧ (parseMethodDescriptor y_Pl_isThere.desc).map (fun d => d.parameters.length) = some 1 := ⟨tb2 (List.mem_of_getElem? (i := 57) rfl) rfl, tb2 (List.mem_of_getElem? (i := 58) rfl) rfl, tb0 (List.mem_of_getElem? (i := 2) rfl) rfl, tb2 (List.mem_of_getElem? (i := 59) rfl) rfl, by decide, by decide, by decide +kernel⟩
theorem m_Pl_isTaken : Cond.instanceMethod y_Pl_isTaken ∈ TBL ∧ Cond.selects y_Pl_isTaken.cls y_Pl_isTaken y_Pl_isTaken ∈ TBL ∧ Cond.initialized y_Pl_isTaken.cls ∈ TBL ∧ Cond.code y_Pl_isTaken prog_5_method_5_code 2 (some .boolean) ∈ TBL ∧ y_Pl_isTaken.cls ≠ "java/lang/invoke/MethodHandle" ∧ y_Pl_isTaken.cls ≠ "java/lang/invoke/VarHandle" ∧ (parseMethodDescriptor y_Pl_isTaken.desc).map (fun d => d.parameters.length) = some 1 := ⟨tb2 (List.mem_of_getElem? (i := 63) rfl) rfl, tb2 (List.mem_of_getElem? (i := 64) rfl) rfl, tb0 (List.mem_of_getElem? (i := 2) rfl) rfl, tb2 (List.mem_of_getElem? (i := 65) rfl) rfl, by decide, by decide, by decide +kernel⟩
theorem m_Pl_join : Cond.instanceMethod y_Pl_join ∈ TBL ∧ Cond.selects y_Pl_join.cls y_Pl_join y_Pl_join ∈ TBL ∧ Cond.initialized y_Pl_join.cls ∈ TBL ∧ Cond.code y_Pl_join prog_5_method_7_code 4 (some .int) ∈ TBL ∧ y_Pl_join.cls ≠ "java/lang/invoke/MethodHandle" ∧ y_Pl_join.cls ≠ "java/lang/invoke/VarHandle" ∧ (parseMethodDescriptor y_Pl_join.desc).map (fun d => d.parameters.length) = some 2 := ⟨tb2 (List.mem_of_getElem? (i := 69) rfl) rfl, tb2 (List.mem_of_getElem? (i := 70) rfl) rfl, tb0 (List.mem_of_getElem? (i := 2) rfl) rfl, tb2 (List.mem_of_getElem? (i := 71) rfl) rfl, by decide, by decide, by decide +kernel⟩
theorem m_CT_source : Cond.instanceMethod y_CT_source ∈ TBL ∧ Cond.selects y_CT_source.cls y_CT_source y_CT_source ∈ TBL ∧ Cond.initialized y_CT_source.cls ∈ TBL ∧ Cond.code y_CT_source prog_1_method_4_code 6 none ∈ TBL ∧ y_CT_source.cls ≠ "java/lang/invoke/MethodHandle" ∧ y_CT_source.cls ≠ "java/lang/invoke/VarHandle" ∧ (parseMethodDescriptor y_CT_source.desc).map (fun d => d.parameters.length) = some 4 := ⟨tb2 (List.mem_of_getElem? (i := 76) rfl) rfl, tb2 (List.mem_of_getElem? (i := 77) rfl) rfl, tb0 (List.mem_of_getElem? (i := 1) rfl) rfl, tb2 (List.mem_of_getElem? (i := 78) rfl) rfl, by decide, by decide, by decide +kernel⟩
theorem m_CT_priority : Cond.instanceMethod y_CT_priority ∈ TBL ∧ Cond.selects y_CT_priority.cls y_CT_priority y_CT_priority ∈ TBL ∧ Cond.initialized y_CT_priority.cls ∈ TBL ∧ Cond.code y_CT_priority prog_1_method_5_code 6 (some .int) ∈ TBL ∧ y_CT_priority.cls ≠ "java/lang/invoke/MethodHandle" ∧ y_CT_priority.cls ≠ "java/lang/invoke/VarHandle" ∧ (parseMethodDescriptor y_CT_priority.desc).map (fun d => d.parameters.length) = some 3 := ⟨tb2 (List.mem_of_getElem? (i := 84) rfl) rfl, tb2 (List.mem_of_getElem? (i := 85) rfl) rfl, tb0 (List.mem_of_getElem? (i := 1) rfl) rfl, tb2 (List.mem_of_getElem? (i := 86) rfl) rfl, by decide, by decide, by decide +kernel⟩
theorem m_CT_restore : Cond.instanceMethod y_CT_restore ∈ TBL ∧ Cond.selects y_CT_restore.cls y_CT_restore y_CT_restore ∈ TBL ∧ Cond.initialized y_CT_restore.cls ∈ TBL ∧ Cond.code y_CT_restore prog_1_method_6_code 4 (some .int) ∈ TBL ∧ y_CT_restore.cls ≠ "java/lang/invoke/MethodHandle" ∧ y_CT_restore.cls ≠ "java/lang/invoke/VarHandle" ∧ (parseMethodDescriptor y_CT_restore.desc).map (fun d => d.parameters.length) = some 2 := ⟨tb2 (List.mem_of_getElem? (i := 91) rfl) rfl, tb2 (List.mem_of_getElem? (i := 92) rfl) rfl, tb0 (List.mem_of_getElem? (i := 1) rfl) rfl, tb2 (List.mem_of_getElem? (i := 93) rfl) rfl, by decide, by decide, by decide +kernel⟩
theorem m_CT_command : Cond.instanceMethod y_CT_command ∈ TBL ∧ Cond.selects y_CT_command.cls y_CT_command y_CT_command ∈ TBL ∧ Cond.initialized y_CT_command.cls ∈ TBL ∧ Cond.code y_CT_command prog_1_method_8_code 6 (some .int) ∈ TBL ∧ y_CT_command.cls ≠ "java/lang/invoke/MethodHandle" ∧ y_CT_command.cls ≠ "java/lang/invoke/VarHandle" ∧ (parseMethodDescriptor y_CT_command.desc).map (fun d => d.parameters.length) = some 3 := ⟨tb2 (List.mem_of_getElem? (i := 99) rfl) rfl, tb2 (List.mem_of_getElem? (i := 100) rfl) rfl, tb0 (List.mem_of_getElem? (i := 1) rfl) rfl, tb2 (List.mem_of_getElem? (i := 101) rfl) rfl, by decide, by decide, by decide +kernel⟩
theorem m_CT_lockout : Cond.instanceMethod y_CT_lockout ∈ TBL ∧ Cond.selects y_CT_lockout.cls y_CT_lockout y_CT_lockout ∈ TBL ∧ Cond.initialized y_CT_lockout.cls ∈ TBL ∧ Cond.code y_CT_lockout prog_1_method_9_code 6 (some .boolean) ∈ TBL ∧ y_CT_lockout.cls ≠ "java/lang/invoke/MethodHandle" ∧ y_CT_lockout.cls ≠ "java/lang/invoke/VarHandle" ∧ (parseMethodDescriptor y_CT_lockout.desc).map (fun d => d.parameters.length) = some 3 := ⟨tb2 (List.mem_of_getElem? (i := 106) rfl) rfl, tb2 (List.mem_of_getElem? (i := 107) rfl) rfl, tb0 (List.mem_of_getElem? (i := 1) rfl) rfl, tb2 (List.mem_of_getElem? (i := 108) rfl) rfl, by decide, by decide, by decide +kernel⟩
theorem m_CT_fail : Cond.instanceMethod y_CT_fail ∈ TBL ∧ Cond.selects y_CT_fail.cls y_CT_fail y_CT_fail ∈ TBL ∧ Cond.initialized y_CT_fail.cls ∈ TBL ∧ Cond.code y_CT_fail prog_1_method_10_code 4 (some .boolean) ∈ TBL ∧ y_CT_fail.cls ≠ "java/lang/invoke/MethodHandle" ∧ y_CT_fail.cls ≠ "java/lang/invoke/VarHandle" ∧ (parseMethodDescriptor y_CT_fail.desc).map (fun d => d.parameters.length) = some 2 := ⟨tb2 (List.mem_of_getElem? (i := 113) rfl) rfl, tb2 (List.mem_of_getElem? (i := 114) rfl) rfl, tb0 (List.mem_of_getElem? (i := 1) rfl) rfl, tb2 (List.mem_of_getElem? (i := 115) rfl) rfl, by decide, by decide, by decide +kernel⟩
theorem m_Pl_isLink : Cond.instanceMethod y_Pl_isLink ∈ TBL ∧ Cond.selects y_Pl_isLink.cls y_Pl_isLink y_Pl_isLink ∈ TBL ∧ Cond.initialized y_Pl_isLink.cls ∈ TBL ∧ Cond.code y_Pl_isLink prog_5_method_4_code 2 (some .boolean) ∈ TBL ∧ y_Pl_isLink.cls ≠ "java/lang/invoke/MethodHandle" ∧ y_Pl_isLink.cls ≠ "java/lang/invoke/VarHandle" ∧ (parseMethodDescriptor y_Pl_isLink.desc).map (fun d => d.parameters.length) = some 1 := ⟨tb2 (List.mem_of_getElem? (i := 117) rfl) rfl, tb2 (List.mem_of_getElem? (i := 118) rfl) rfl, tb0 (List.mem_of_getElem? (i := 2) rfl) rfl, tb2 (List.mem_of_getElem? (i := 119) rfl) rfl, by decide, by decide, by decide +kernel⟩
theorem m_CT_failElement : Cond.instanceMethod y_CT_failElement ∈ TBL ∧ Cond.selects y_CT_failElement.cls y_CT_failElement y_CT_failElement ∈ TBL ∧ Cond.initialized y_CT_failElement.cls ∈ TBL ∧ Cond.code y_CT_failElement prog_1_method_11_code 4 (some .boolean) ∈ TBL ∧ y_CT_failElement.cls ≠ "java/lang/invoke/MethodHandle" ∧ y_CT_failElement.cls ≠ "java/lang/invoke/VarHandle" ∧ (parseMethodDescriptor y_CT_failElement.desc).map (fun d => d.parameters.length) = some 2 := ⟨tb2 (List.mem_of_getElem? (i := 124) rfl) rfl, tb2 (List.mem_of_getElem? (i := 125) rfl) rfl, tb0 (List.mem_of_getElem? (i := 1) rfl) rfl, tb2 (List.mem_of_getElem? (i := 126) rfl) rfl, by decide, by decide, by decide +kernel⟩
theorem m_CT_lose : Cond.instanceMethod y_CT_lose ∈ TBL ∧ Cond.selects y_CT_lose.cls y_CT_lose y_CT_lose ∈ TBL ∧ Cond.initialized y_CT_lose.cls ∈ TBL ∧ Cond.code y_CT_lose prog_1_method_12_code 4 none ∈ TBL ∧ y_CT_lose.cls ≠ "java/lang/invoke/MethodHandle" ∧ y_CT_lose.cls ≠ "java/lang/invoke/VarHandle" ∧ (parseMethodDescriptor y_CT_lose.desc).map (fun d => d.parameters.length) = some 2 := ⟨tb2 (List.mem_of_getElem? (i := 131) rfl) rfl, tb2 (List.mem_of_getElem? (i := 132) rfl) rfl, tb0 (List.mem_of_getElem? (i := 1) rfl) rfl, tb2 (List.mem_of_getElem? (i := 133) rfl) rfl, by decide, by decide, by decide +kernel⟩
theorem m_Fl_loseFrom : Cond.instanceMethod y_Fl_loseFrom ∈ TBL ∧ Cond.selects y_Fl_loseFrom.cls y_Fl_loseFrom y_Fl_loseFrom ∈ TBL ∧ Cond.initialized y_Fl_loseFrom.cls ∈ TBL ∧ Cond.code y_Fl_loseFrom prog_4_method_9_code 2 none ∈ TBL ∧ y_Fl_loseFrom.cls ≠ "java/lang/invoke/MethodHandle" ∧ y_Fl_loseFrom.cls ≠ "java/lang/invoke/VarHandle" ∧ (parseMethodDescriptor y_Fl_loseFrom.desc).map (fun d => d.parameters.length) = some 1 := ⟨tb2 (List.mem_of_getElem? (i := 135) rfl) rfl, tb2 (List.mem_of_getElem? (i := 136) rfl) rfl, tb0 (List.mem_of_getElem? (i := 4) rfl) rfl, tb2 (List.mem_of_getElem? (i := 137) rfl) rfl, by decide, by decide, by decide +kernel⟩
theorem m_CT_rounds : Cond.instanceMethod y_CT_rounds ∈ TBL ∧ Cond.selects y_CT_rounds.cls y_CT_rounds y_CT_rounds ∈ TBL ∧ Cond.initialized y_CT_rounds.cls ∈ TBL ∧ Cond.code y_CT_rounds prog_1_method_13_code 3 (some .int) ∈ TBL ∧ y_CT_rounds.cls ≠ "java/lang/invoke/MethodHandle" ∧ y_CT_rounds.cls ≠ "java/lang/invoke/VarHandle" ∧ (parseMethodDescriptor y_CT_rounds.desc).map (fun d => d.parameters.length) = some 1 := ⟨tb2 (List.mem_of_getElem? (i := 142) rfl) rfl, tb2 (List.mem_of_getElem? (i := 143) rfl) rfl, tb0 (List.mem_of_getElem? (i := 1) rfl) rfl, tb2 (List.mem_of_getElem? (i := 144) rfl) rfl, by decide, by decide, by decide +kernel⟩
theorem m_Ck_passRound : Cond.instanceMethod y_Ck_passRound ∈ TBL ∧ Cond.selects y_Ck_passRound.cls y_Ck_passRound y_Ck_passRound ∈ TBL ∧ Cond.initialized y_Ck_passRound.cls ∈ TBL ∧ Cond.code y_Ck_passRound prog_3_method_3_code 4 none ∈ TBL ∧ y_Ck_passRound.cls ≠ "java/lang/invoke/MethodHandle" ∧ y_Ck_passRound.cls ≠ "java/lang/invoke/VarHandle" ∧ (parseMethodDescriptor y_Ck_passRound.desc).map (fun d => d.parameters.length) = some 2 := ⟨tb2 (List.mem_of_getElem? (i := 147) rfl) rfl, tb2 (List.mem_of_getElem? (i := 148) rfl) rfl, tb0 (List.mem_of_getElem? (i := 6) rfl) rfl, tb2 (List.mem_of_getElem? (i := 149) rfl) rfl, by decide, by decide, by decide +kernel⟩
theorem m_Ck_offsetAfter : Cond.instanceMethod y_Ck_offsetAfter ∈ TBL ∧ Cond.selects y_Ck_offsetAfter.cls y_Ck_offsetAfter y_Ck_offsetAfter ∈ TBL ∧ Cond.initialized y_Ck_offsetAfter.cls ∈ TBL ∧ Cond.code y_Ck_offsetAfter prog_3_method_4_code 6 (some .int) ∈ TBL ∧ y_Ck_offsetAfter.cls ≠ "java/lang/invoke/MethodHandle" ∧ y_Ck_offsetAfter.cls ≠ "java/lang/invoke/VarHandle" ∧ (parseMethodDescriptor y_Ck_offsetAfter.desc).map (fun d => d.parameters.length) = some 3 := ⟨tb2 (List.mem_of_getElem? (i := 153) rfl) rfl, tbS (q := (y_Ck_offsetAfter, 4)) (List.mem_append_right _ (List.mem_append_left _ (List.mem_of_getElem? (i := 0) rfl))), tb0 (List.mem_of_getElem? (i := 6) rfl) rfl, tb2 (List.mem_of_getElem? (i := 154) rfl) rfl, by decide, by decide, by decide +kernel⟩
theorem m_Ca_passRound : Cond.instanceMethod y_Ca_passRound ∈ TBL ∧ Cond.selects y_Ca_passRound.cls y_Ca_passRound y_Ca_passRound ∈ TBL ∧ Cond.initialized y_Ca_passRound.cls ∈ TBL ∧ Cond.code y_Ca_passRound prog_2_method_2_code 4 none ∈ TBL ∧ y_Ca_passRound.cls ≠ "java/lang/invoke/MethodHandle" ∧ y_Ca_passRound.cls ≠ "java/lang/invoke/VarHandle" ∧ (parseMethodDescriptor y_Ca_passRound.desc).map (fun d => d.parameters.length) = some 1 := ⟨tb2 (List.mem_of_getElem? (i := 159) rfl) rfl, tb2 (List.mem_of_getElem? (i := 160) rfl) rfl, tb0 (List.mem_of_getElem? (i := 7) rfl) rfl, tb2 (List.mem_of_getElem? (i := 161) rfl) rfl, by decide, by decide, by decide +kernel⟩
theorem m_Fl_shownCondition : Cond.instanceMethod y_Fl_shownCondition ∈ TBL ∧ Cond.selects y_Fl_shownCondition.cls y_Fl_shownCondition y_Fl_shownCondition ∈ TBL ∧ Cond.initialized y_Fl_shownCondition.cls ∈ TBL ∧ Cond.code y_Fl_shownCondition prog_4_method_6_code 2 (some .int) ∈ TBL ∧ y_Fl_shownCondition.cls ≠ "java/lang/invoke/MethodHandle" ∧ y_Fl_shownCondition.cls ≠ "java/lang/invoke/VarHandle" ∧ (parseMethodDescriptor y_Fl_shownCondition.desc).map (fun d => d.parameters.length) = some 1 := ⟨tb2 (List.mem_of_getElem? (i := 163) rfl) rfl, tb2 (List.mem_of_getElem? (i := 164) rfl) rfl, tb0 (List.mem_of_getElem? (i := 4) rfl) rfl, tb2 (List.mem_of_getElem? (i := 165) rfl) rfl, by decide, by decide, by decide +kernel⟩
theorem m_CT_state : Cond.instanceMethod y_CT_state ∈ TBL ∧ Cond.selects y_CT_state.cls y_CT_state y_CT_state ∈ TBL ∧ Cond.initialized y_CT_state.cls ∈ TBL ∧ Cond.code y_CT_state prog_1_method_15_code 3 (some .int) ∈ TBL ∧ y_CT_state.cls ≠ "java/lang/invoke/MethodHandle" ∧ y_CT_state.cls ≠ "java/lang/invoke/VarHandle" ∧ (parseMethodDescriptor y_CT_state.desc).map (fun d => d.parameters.length) = some 2 := ⟨tb2 (List.mem_of_getElem? (i := 170) rfl) rfl, tb2 (List.mem_of_getElem? (i := 171) rfl) rfl, tb0 (List.mem_of_getElem? (i := 1) rfl) rfl, tb2 (List.mem_of_getElem? (i := 172) rfl) rfl, by decide, by decide, by decide +kernel⟩
theorem m_CT_phase : Cond.instanceMethod y_CT_phase ∈ TBL ∧ Cond.selects y_CT_phase.cls y_CT_phase y_CT_phase ∈ TBL ∧ Cond.initialized y_CT_phase.cls ∈ TBL ∧ Cond.code y_CT_phase prog_1_method_16_code 2 (some .long) ∈ TBL ∧ y_CT_phase.cls ≠ "java/lang/invoke/MethodHandle" ∧ y_CT_phase.cls ≠ "java/lang/invoke/VarHandle" ∧ (parseMethodDescriptor y_CT_phase.desc).map (fun d => d.parameters.length) = some 1 := ⟨tb2 (List.mem_of_getElem? (i := 179) rfl) rfl, tb2 (List.mem_of_getElem? (i := 180) rfl) rfl, tb0 (List.mem_of_getElem? (i := 1) rfl) rfl, tb2 (List.mem_of_getElem? (i := 181) rfl) rfl, by decide, by decide, by decide +kernel⟩
theorem m_CT_sends : Cond.instanceMethod y_CT_sends ∈ TBL ∧ Cond.selects y_CT_sends.cls y_CT_sends y_CT_sends ∈ TBL ∧ Cond.initialized y_CT_sends.cls ∈ TBL ∧ Cond.code y_CT_sends prog_1_method_17_code 3 (some .int) ∈ TBL ∧ y_CT_sends.cls ≠ "java/lang/invoke/MethodHandle" ∧ y_CT_sends.cls ≠ "java/lang/invoke/VarHandle" ∧ (parseMethodDescriptor y_CT_sends.desc).map (fun d => d.parameters.length) = some 2 := ⟨tb2 (List.mem_of_getElem? (i := 186) rfl) rfl, tb2 (List.mem_of_getElem? (i := 187) rfl) rfl, tb0 (List.mem_of_getElem? (i := 1) rfl) rfl, tb2 (List.mem_of_getElem? (i := 188) rfl) rfl, by decide, by decide, by decide +kernel⟩
theorem m_CT_traced : Cond.instanceMethod y_CT_traced ∈ TBL ∧ Cond.selects y_CT_traced.cls y_CT_traced y_CT_traced ∈ TBL ∧ Cond.initialized y_CT_traced.cls ∈ TBL ∧ Cond.code y_CT_traced prog_1_method_18_code 3 (some .int) ∈ TBL ∧ y_CT_traced.cls ≠ "java/lang/invoke/MethodHandle" ∧ y_CT_traced.cls ≠ "java/lang/invoke/VarHandle" ∧ (parseMethodDescriptor y_CT_traced.desc).map (fun d => d.parameters.length) = some 1 := ⟨tb2 (List.mem_of_getElem? (i := 193) rfl) rfl, tb2 (List.mem_of_getElem? (i := 194) rfl) rfl, tb0 (List.mem_of_getElem? (i := 1) rfl) rfl, tb2 (List.mem_of_getElem? (i := 195) rfl) rfl, by decide, by decide, by decide +kernel⟩
theorem m_CT_best : Cond.instanceMethod y_CT_best ∈ TBL ∧ Cond.selects y_CT_best.cls y_CT_best y_CT_best ∈ TBL ∧ Cond.initialized y_CT_best.cls ∈ TBL ∧ Cond.code y_CT_best prog_1_method_20_code 2 (some .int) ∈ TBL ∧ y_CT_best.cls ≠ "java/lang/invoke/MethodHandle" ∧ y_CT_best.cls ≠ "java/lang/invoke/VarHandle" ∧ (parseMethodDescriptor y_CT_best.desc).map (fun d => d.parameters.length) = some 1 := ⟨tb2 (List.mem_of_getElem? (i := 200) rfl) rfl, tb2 (List.mem_of_getElem? (i := 201) rfl) rfl, tb0 (List.mem_of_getElem? (i := 1) rfl) rfl, tb2 (List.mem_of_getElem? (i := 202) rfl) rfl, by decide, by decide, by decide +kernel⟩
theorem m_CT_finding : Cond.instanceMethod y_CT_finding ∈ TBL ∧ Cond.selects y_CT_finding.cls y_CT_finding y_CT_finding ∈ TBL ∧ Cond.initialized y_CT_finding.cls ∈ TBL ∧ Cond.code y_CT_finding prog_1_method_22_code 3 (some .int) ∈ TBL ∧ y_CT_finding.cls ≠ "java/lang/invoke/MethodHandle" ∧ y_CT_finding.cls ≠ "java/lang/invoke/VarHandle" ∧ (parseMethodDescriptor y_CT_finding.desc).map (fun d => d.parameters.length) = some 2 := ⟨tb2 (List.mem_of_getElem? (i := 208) rfl) rfl, tb2 (List.mem_of_getElem? (i := 209) rfl) rfl, tb0 (List.mem_of_getElem? (i := 1) rfl) rfl, tb2 (List.mem_of_getElem? (i := 210) rfl) rfl, by decide, by decide, by decide +kernel⟩
theorem m_Mo_thrown : Cond.instanceMethod y_Mo_thrown ∈ TBL ∧ Cond.selects y_Mo_thrown.cls y_Mo_thrown y_Mo_thrown ∈ TBL ∧ Cond.initialized y_Mo_thrown.cls ∈ TBL ∧ Cond.code y_Mo_thrown prog_8_method_24_code 1 (some .int) ∈ TBL ∧ y_Mo_thrown.cls ≠ "java/lang/invoke/MethodHandle" ∧ y_Mo_thrown.cls ≠ "java/lang/invoke/VarHandle" ∧ (parseMethodDescriptor y_Mo_thrown.desc).map (fun d => d.parameters.length) = some 0 := ⟨tb3 (List.mem_of_getElem? (i := 54) rfl) rfl, tb3 (List.mem_of_getElem? (i := 55) rfl) rfl, tb0 (List.mem_of_getElem? (i := 8) rfl) rfl, tb3 (List.mem_of_getElem? (i := 56) rfl) rfl, by decide, by decide, by decide +kernel⟩
theorem m_Mo_element : Cond.instanceMethod y_Mo_element ∈ TBL ∧ Cond.selects y_Mo_element.cls y_Mo_element y_Mo_element ∈ TBL ∧ Cond.initialized y_Mo_element.cls ∈ TBL ∧ Cond.code y_Mo_element prog_8_method_28_code 6 none ∈ TBL ∧ y_Mo_element.cls ≠ "java/lang/invoke/MethodHandle" ∧ y_Mo_element.cls ≠ "java/lang/invoke/VarHandle" ∧ (parseMethodDescriptor y_Mo_element.desc).map (fun d => d.parameters.length) = some 4 := ⟨tb3 (List.mem_of_getElem? (i := 58) rfl) rfl, tb3 (List.mem_of_getElem? (i := 59) rfl) rfl, tb0 (List.mem_of_getElem? (i := 8) rfl) rfl, tb3 (List.mem_of_getElem? (i := 60) rfl) rfl, by decide, by decide, by decide +kernel⟩
theorem m_Mo_link : Cond.instanceMethod y_Mo_link ∈ TBL ∧ Cond.selects y_Mo_link.cls y_Mo_link y_Mo_link ∈ TBL ∧ Cond.initialized y_Mo_link.cls ∈ TBL ∧ Cond.code y_Mo_link prog_8_method_29_code 7 (some .int) ∈ TBL ∧ y_Mo_link.cls ≠ "java/lang/invoke/MethodHandle" ∧ y_Mo_link.cls ≠ "java/lang/invoke/VarHandle" ∧ (parseMethodDescriptor y_Mo_link.desc).map (fun d => d.parameters.length) = some 4 := ⟨tb3 (List.mem_of_getElem? (i := 62) rfl) rfl, tb3 (List.mem_of_getElem? (i := 63) rfl) rfl, tb0 (List.mem_of_getElem? (i := 8) rfl) rfl, tb3 (List.mem_of_getElem? (i := 64) rfl) rfl, by decide, by decide, by decide +kernel⟩
theorem m_Mo_noPort : Cond.instanceMethod y_Mo_noPort ∈ TBL ∧ Cond.selects y_Mo_noPort.cls y_Mo_noPort y_Mo_noPort ∈ TBL ∧ Cond.initialized y_Mo_noPort.cls ∈ TBL ∧ Cond.code y_Mo_noPort prog_8_method_26_code 3 (some .boolean) ∈ TBL ∧ y_Mo_noPort.cls ≠ "java/lang/invoke/MethodHandle" ∧ y_Mo_noPort.cls ≠ "java/lang/invoke/VarHandle" ∧ (parseMethodDescriptor y_Mo_noPort.desc).map (fun d => d.parameters.length) = some 2 := ⟨tb3 (List.mem_of_getElem? (i := 67) rfl) rfl, tbS (q := (y_Mo_noPort, 25)) (List.mem_append_right _ (List.mem_append_left _ (List.mem_of_getElem? (i := 1) rfl))), tb0 (List.mem_of_getElem? (i := 8) rfl) rfl, tb3 (List.mem_of_getElem? (i := 68) rfl) rfl, by decide, by decide, by decide +kernel⟩
theorem m_Mo_noElement : Cond.instanceMethod y_Mo_noElement ∈ TBL ∧ Cond.selects y_Mo_noElement.cls y_Mo_noElement y_Mo_noElement ∈ TBL ∧ Cond.initialized y_Mo_noElement.cls ∈ TBL ∧ Cond.code y_Mo_noElement prog_8_method_25_code 2 (some .boolean) ∈ TBL ∧ y_Mo_noElement.cls ≠ "java/lang/invoke/MethodHandle" ∧ y_Mo_noElement.cls ≠ "java/lang/invoke/VarHandle" ∧ (parseMethodDescriptor y_Mo_noElement.desc).map (fun d => d.parameters.length) = some 1 := ⟨tb3 (List.mem_of_getElem? (i := 71) rfl) rfl, tbS (q := (y_Mo_noElement, 25)) (List.mem_append_right _ (List.mem_append_left _ (List.mem_of_getElem? (i := 2) rfl))), tb0 (List.mem_of_getElem? (i := 8) rfl) rfl, tb3 (List.mem_of_getElem? (i := 72) rfl) rfl, by decide, by decide, by decide +kernel⟩
theorem m_Mo_source : Cond.instanceMethod y_Mo_source ∈ TBL ∧ Cond.selects y_Mo_source.cls y_Mo_source y_Mo_source ∈ TBL ∧ Cond.initialized y_Mo_source.cls ∈ TBL ∧ Cond.code y_Mo_source prog_8_method_30_code 5 none ∈ TBL ∧ y_Mo_source.cls ≠ "java/lang/invoke/MethodHandle" ∧ y_Mo_source.cls ≠ "java/lang/invoke/VarHandle" ∧ (parseMethodDescriptor y_Mo_source.desc).map (fun d => d.parameters.length) = some 4 := ⟨tb3 (List.mem_of_getElem? (i := 74) rfl) rfl, tb3 (List.mem_of_getElem? (i := 75) rfl) rfl, tb0 (List.mem_of_getElem? (i := 8) rfl) rfl, tb3 (List.mem_of_getElem? (i := 76) rfl) rfl, by decide, by decide, by decide +kernel⟩
theorem m_Mo_priority : Cond.instanceMethod y_Mo_priority ∈ TBL ∧ Cond.selects y_Mo_priority.cls y_Mo_priority y_Mo_priority ∈ TBL ∧ Cond.initialized y_Mo_priority.cls ∈ TBL ∧ Cond.code y_Mo_priority prog_8_method_31_code 5 (some .int) ∈ TBL ∧ y_Mo_priority.cls ≠ "java/lang/invoke/MethodHandle" ∧ y_Mo_priority.cls ≠ "java/lang/invoke/VarHandle" ∧ (parseMethodDescriptor y_Mo_priority.desc).map (fun d => d.parameters.length) = some 3 := ⟨tb3 (List.mem_of_getElem? (i := 78) rfl) rfl, tb3 (List.mem_of_getElem? (i := 79) rfl) rfl, tb0 (List.mem_of_getElem? (i := 8) rfl) rfl, tb3 (List.mem_of_getElem? (i := 80) rfl) rfl, by decide, by decide, by decide +kernel⟩
theorem m_Mo_restore : Cond.instanceMethod y_Mo_restore ∈ TBL ∧ Cond.selects y_Mo_restore.cls y_Mo_restore y_Mo_restore ∈ TBL ∧ Cond.initialized y_Mo_restore.cls ∈ TBL ∧ Cond.code y_Mo_restore prog_8_method_32_code 4 (some .int) ∈ TBL ∧ y_Mo_restore.cls ≠ "java/lang/invoke/MethodHandle" ∧ y_Mo_restore.cls ≠ "java/lang/invoke/VarHandle" ∧ (parseMethodDescriptor y_Mo_restore.desc).map (fun d => d.parameters.length) = some 2 := ⟨tb3 (List.mem_of_getElem? (i := 82) rfl) rfl, tb3 (List.mem_of_getElem? (i := 83) rfl) rfl, tb0 (List.mem_of_getElem? (i := 8) rfl) rfl, tb3 (List.mem_of_getElem? (i := 84) rfl) rfl, by decide, by decide, by decide +kernel⟩
theorem m_Mo_tracing : Cond.instanceMethod y_Mo_tracing ∈ TBL ∧ Cond.selects y_Mo_tracing.cls y_Mo_tracing y_Mo_tracing ∈ TBL ∧ Cond.initialized y_Mo_tracing.cls ∈ TBL ∧ Cond.code y_Mo_tracing prog_8_method_33_code 3 (some .boolean) ∈ TBL ∧ y_Mo_tracing.cls ≠ "java/lang/invoke/MethodHandle" ∧ y_Mo_tracing.cls ≠ "java/lang/invoke/VarHandle" ∧ (parseMethodDescriptor y_Mo_tracing.desc).map (fun d => d.parameters.length) = some 1 := ⟨tb3 (List.mem_of_getElem? (i := 86) rfl) rfl, tb3 (List.mem_of_getElem? (i := 87) rfl) rfl, tb0 (List.mem_of_getElem? (i := 8) rfl) rfl, tb3 (List.mem_of_getElem? (i := 88) rfl) rfl, by decide, by decide, by decide +kernel⟩
theorem m_Mo_command : Cond.instanceMethod y_Mo_command ∈ TBL ∧ Cond.selects y_Mo_command.cls y_Mo_command y_Mo_command ∈ TBL ∧ Cond.initialized y_Mo_command.cls ∈ TBL ∧ Cond.code y_Mo_command prog_8_method_34_code 5 (some .int) ∈ TBL ∧ y_Mo_command.cls ≠ "java/lang/invoke/MethodHandle" ∧ y_Mo_command.cls ≠ "java/lang/invoke/VarHandle" ∧ (parseMethodDescriptor y_Mo_command.desc).map (fun d => d.parameters.length) = some 3 := ⟨tb3 (List.mem_of_getElem? (i := 90) rfl) rfl, tb3 (List.mem_of_getElem? (i := 91) rfl) rfl, tb0 (List.mem_of_getElem? (i := 8) rfl) rfl, tb3 (List.mem_of_getElem? (i := 92) rfl) rfl, by decide, by decide, by decide +kernel⟩
theorem m_Mo_lockout : Cond.instanceMethod y_Mo_lockout ∈ TBL ∧ Cond.selects y_Mo_lockout.cls y_Mo_lockout y_Mo_lockout ∈ TBL ∧ Cond.initialized y_Mo_lockout.cls ∈ TBL ∧ Cond.code y_Mo_lockout prog_8_method_35_code 5 (some .boolean) ∈ TBL ∧ y_Mo_lockout.cls ≠ "java/lang/invoke/MethodHandle" ∧ y_Mo_lockout.cls ≠ "java/lang/invoke/VarHandle" ∧ (parseMethodDescriptor y_Mo_lockout.desc).map (fun d => d.parameters.length) = some 3 := ⟨tb3 (List.mem_of_getElem? (i := 94) rfl) rfl, tb3 (List.mem_of_getElem? (i := 95) rfl) rfl, tb0 (List.mem_of_getElem? (i := 8) rfl) rfl, tb3 (List.mem_of_getElem? (i := 96) rfl) rfl, by decide, by decide, by decide +kernel⟩
theorem m_Mo_fail : Cond.instanceMethod y_Mo_fail ∈ TBL ∧ Cond.selects y_Mo_fail.cls y_Mo_fail y_Mo_fail ∈ TBL ∧ Cond.initialized y_Mo_fail.cls ∈ TBL ∧ Cond.code y_Mo_fail prog_8_method_36_code 4 (some .boolean) ∈ TBL ∧ y_Mo_fail.cls ≠ "java/lang/invoke/MethodHandle" ∧ y_Mo_fail.cls ≠ "java/lang/invoke/VarHandle" ∧ (parseMethodDescriptor y_Mo_fail.desc).map (fun d => d.parameters.length) = some 2 := ⟨tb3 (List.mem_of_getElem? (i := 98) rfl) rfl, tb3 (List.mem_of_getElem? (i := 99) rfl) rfl, tb0 (List.mem_of_getElem? (i := 8) rfl) rfl, tb3 (List.mem_of_getElem? (i := 100) rfl) rfl, by decide, by decide, by decide +kernel⟩
theorem m_Mo_noLink : Cond.instanceMethod y_Mo_noLink ∈ TBL ∧ Cond.selects y_Mo_noLink.cls y_Mo_noLink y_Mo_noLink ∈ TBL ∧ Cond.initialized y_Mo_noLink.cls ∈ TBL ∧ Cond.code y_Mo_noLink prog_8_method_27_code 2 (some .boolean) ∈ TBL ∧ y_Mo_noLink.cls ≠ "java/lang/invoke/MethodHandle" ∧ y_Mo_noLink.cls ≠ "java/lang/invoke/VarHandle" ∧ (parseMethodDescriptor y_Mo_noLink.desc).map (fun d => d.parameters.length) = some 1 := ⟨tb3 (List.mem_of_getElem? (i := 103) rfl) rfl, tbS (q := (y_Mo_noLink, 25)) (List.mem_append_right _ (List.mem_append_left _ (List.mem_of_getElem? (i := 3) rfl))), tb0 (List.mem_of_getElem? (i := 8) rfl) rfl, tb3 (List.mem_of_getElem? (i := 104) rfl) rfl, by decide, by decide, by decide +kernel⟩
theorem m_Mo_failElement : Cond.instanceMethod y_Mo_failElement ∈ TBL ∧ Cond.selects y_Mo_failElement.cls y_Mo_failElement y_Mo_failElement ∈ TBL ∧ Cond.initialized y_Mo_failElement.cls ∈ TBL ∧ Cond.code y_Mo_failElement prog_8_method_37_code 4 (some .boolean) ∈ TBL ∧ y_Mo_failElement.cls ≠ "java/lang/invoke/MethodHandle" ∧ y_Mo_failElement.cls ≠ "java/lang/invoke/VarHandle" ∧ (parseMethodDescriptor y_Mo_failElement.desc).map (fun d => d.parameters.length) = some 2 := ⟨tb3 (List.mem_of_getElem? (i := 106) rfl) rfl, tb3 (List.mem_of_getElem? (i := 107) rfl) rfl, tb0 (List.mem_of_getElem? (i := 8) rfl) rfl, tb3 (List.mem_of_getElem? (i := 108) rfl) rfl, by decide, by decide, by decide +kernel⟩
theorem m_Mo_breakDown : Cond.instanceMethod y_Mo_breakDown ∈ TBL ∧ Cond.selects y_Mo_breakDown.cls y_Mo_breakDown y_Mo_breakDown ∈ TBL ∧ Cond.initialized y_Mo_breakDown.cls ∈ TBL ∧ Cond.code y_Mo_breakDown prog_8_method_17_code 2 none ∈ TBL ∧ y_Mo_breakDown.cls ≠ "java/lang/invoke/MethodHandle" ∧ y_Mo_breakDown.cls ≠ "java/lang/invoke/VarHandle" ∧ (parseMethodDescriptor y_Mo_breakDown.desc).map (fun d => d.parameters.length) = some 1 := ⟨tb3 (List.mem_of_getElem? (i := 111) rfl) rfl, tbS (q := (y_Mo_breakDown, 25)) (List.mem_append_right _ (List.mem_append_left _ (List.mem_of_getElem? (i := 4) rfl))), tb0 (List.mem_of_getElem? (i := 8) rfl) rfl, tb3 (List.mem_of_getElem? (i := 112) rfl) rfl, by decide, by decide, by decide +kernel⟩
theorem m_Mo_sentNothing : Cond.instanceMethod y_Mo_sentNothing ∈ TBL ∧ Cond.selects y_Mo_sentNothing.cls y_Mo_sentNothing y_Mo_sentNothing ∈ TBL ∧ Cond.initialized y_Mo_sentNothing.cls ∈ TBL ∧ Cond.code y_Mo_sentNothing prog_8_method_16_code 3 none ∈ TBL ∧ y_Mo_sentNothing.cls ≠ "java/lang/invoke/MethodHandle" ∧ y_Mo_sentNothing.cls ≠ "java/lang/invoke/VarHandle" ∧ (parseMethodDescriptor y_Mo_sentNothing.desc).map (fun d => d.parameters.length) = some 1 := ⟨tb3 (List.mem_of_getElem? (i := 115) rfl) rfl, tbS (q := (y_Mo_sentNothing, 25)) (List.mem_append_right _ (List.mem_append_left _ (List.mem_of_getElem? (i := 5) rfl))), tb0 (List.mem_of_getElem? (i := 8) rfl) rfl, tb3 (List.mem_of_getElem? (i := 116) rfl) rfl, by decide, by decide, by decide +kernel⟩
theorem m_Mo_comesBack : Cond.instanceMethod y_Mo_comesBack ∈ TBL ∧ Cond.selects y_Mo_comesBack.cls y_Mo_comesBack y_Mo_comesBack ∈ TBL ∧ Cond.initialized y_Mo_comesBack.cls ∈ TBL ∧ Cond.code y_Mo_comesBack prog_8_method_18_code 3 none ∈ TBL ∧ y_Mo_comesBack.cls ≠ "java/lang/invoke/MethodHandle" ∧ y_Mo_comesBack.cls ≠ "java/lang/invoke/VarHandle" ∧ (parseMethodDescriptor y_Mo_comesBack.desc).map (fun d => d.parameters.length) = some 1 := ⟨tb3 (List.mem_of_getElem? (i := 119) rfl) rfl, tbS (q := (y_Mo_comesBack, 25)) (List.mem_append_right _ (List.mem_append_left _ (List.mem_of_getElem? (i := 6) rfl))), tb0 (List.mem_of_getElem? (i := 8) rfl) rfl, tb3 (List.mem_of_getElem? (i := 120) rfl) rfl, by decide, by decide, by decide +kernel⟩
theorem m_Mo_lose : Cond.instanceMethod y_Mo_lose ∈ TBL ∧ Cond.selects y_Mo_lose.cls y_Mo_lose y_Mo_lose ∈ TBL ∧ Cond.initialized y_Mo_lose.cls ∈ TBL ∧ Cond.code y_Mo_lose prog_8_method_38_code 3 none ∈ TBL ∧ y_Mo_lose.cls ≠ "java/lang/invoke/MethodHandle" ∧ y_Mo_lose.cls ≠ "java/lang/invoke/VarHandle" ∧ (parseMethodDescriptor y_Mo_lose.desc).map (fun d => d.parameters.length) = some 2 := ⟨tb3 (List.mem_of_getElem? (i := 122) rfl) rfl, tb3 (List.mem_of_getElem? (i := 123) rfl) rfl, tb0 (List.mem_of_getElem? (i := 8) rfl) rfl, tb3 (List.mem_of_getElem? (i := 124) rfl) rfl, by decide, by decide, by decide +kernel⟩
theorem m_Mo_rounds : Cond.instanceMethod y_Mo_rounds ∈ TBL ∧ Cond.selects y_Mo_rounds.cls y_Mo_rounds y_Mo_rounds ∈ TBL ∧ Cond.initialized y_Mo_rounds.cls ∈ TBL ∧ Cond.code y_Mo_rounds prog_8_method_39_code 3 (some .int) ∈ TBL ∧ y_Mo_rounds.cls ≠ "java/lang/invoke/MethodHandle" ∧ y_Mo_rounds.cls ≠ "java/lang/invoke/VarHandle" ∧ (parseMethodDescriptor y_Mo_rounds.desc).map (fun d => d.parameters.length) = some 1 := ⟨tb3 (List.mem_of_getElem? (i := 126) rfl) rfl, tb3 (List.mem_of_getElem? (i := 127) rfl) rfl, tb0 (List.mem_of_getElem? (i := 8) rfl) rfl, tb3 (List.mem_of_getElem? (i := 128) rfl) rfl, by decide, by decide, by decide +kernel⟩
theorem m_Mo_round : Cond.instanceMethod y_Mo_round ∈ TBL ∧ Cond.selects y_Mo_round.cls y_Mo_round y_Mo_round ∈ TBL ∧ Cond.initialized y_Mo_round.cls ∈ TBL ∧ Cond.code y_Mo_round prog_8_method_13_code 5 none ∈ TBL ∧ y_Mo_round.cls ≠ "java/lang/invoke/MethodHandle" ∧ y_Mo_round.cls ≠ "java/lang/invoke/VarHandle" ∧ (parseMethodDescriptor y_Mo_round.desc).map (fun d => d.parameters.length) = some 0 := ⟨tb3 (List.mem_of_getElem? (i := 131) rfl) rfl, tbS (q := (y_Mo_round, 25)) (List.mem_append_right _ (List.mem_append_left _ (List.mem_of_getElem? (i := 7) rfl))), tb0 (List.mem_of_getElem? (i := 8) rfl) rfl, tb3 (List.mem_of_getElem? (i := 132) rfl) rfl, by decide, by decide, by decide +kernel⟩
theorem m_Mo_whole : Cond.instanceMethod y_Mo_whole ∈ TBL ∧ Cond.selects y_Mo_whole.cls y_Mo_whole y_Mo_whole ∈ TBL ∧ Cond.initialized y_Mo_whole.cls ∈ TBL ∧ Cond.code y_Mo_whole prog_8_method_2_code 2 (some .boolean) ∈ TBL ∧ y_Mo_whole.cls ≠ "java/lang/invoke/MethodHandle" ∧ y_Mo_whole.cls ≠ "java/lang/invoke/VarHandle" ∧ (parseMethodDescriptor y_Mo_whole.desc).map (fun d => d.parameters.length) = some 1 := ⟨tb3 (List.mem_of_getElem? (i := 135) rfl) rfl, tbS (q := (y_Mo_whole, 25)) (List.mem_append_right _ (List.mem_append_left _ (List.mem_of_getElem? (i := 8) rfl))), tb0 (List.mem_of_getElem? (i := 8) rfl) rfl, tb3 (List.mem_of_getElem? (i := 136) rfl) rfl, by decide, by decide, by decide +kernel⟩
theorem m_Mo_gets : Cond.instanceMethod y_Mo_gets ∈ TBL ∧ Cond.selects y_Mo_gets.cls y_Mo_gets y_Mo_gets ∈ TBL ∧ Cond.initialized y_Mo_gets.cls ∈ TBL ∧ Cond.code y_Mo_gets prog_8_method_4_code 5 none ∈ TBL ∧ y_Mo_gets.cls ≠ "java/lang/invoke/MethodHandle" ∧ y_Mo_gets.cls ≠ "java/lang/invoke/VarHandle" ∧ (parseMethodDescriptor y_Mo_gets.desc).map (fun d => d.parameters.length) = some 1 := ⟨tb3 (List.mem_of_getElem? (i := 139) rfl) rfl, tbS (q := (y_Mo_gets, 25)) (List.mem_append_right _ (List.mem_append_left _ (List.mem_of_getElem? (i := 9) rfl))), tb0 (List.mem_of_getElem? (i := 8) rfl) rfl, tb3 (List.mem_of_getElem? (i := 140) rfl) rfl, by decide, by decide, by decide +kernel⟩
theorem m_Mo_across : Cond.instanceMethod y_Mo_across ∈ TBL ∧ Cond.selects y_Mo_across.cls y_Mo_across y_Mo_across ∈ TBL ∧ Cond.initialized y_Mo_across.cls ∈ TBL ∧ Cond.code y_Mo_across prog_8_method_3_code 3 (some .int) ∈ TBL ∧ y_Mo_across.cls ≠ "java/lang/invoke/MethodHandle" ∧ y_Mo_across.cls ≠ "java/lang/invoke/VarHandle" ∧ (parseMethodDescriptor y_Mo_across.desc).map (fun d => d.parameters.length) = some 1 := ⟨tb3 (List.mem_of_getElem? (i := 143) rfl) rfl, tbS (q := (y_Mo_across, 25)) (List.mem_append_right _ (List.mem_append_left _ (List.mem_of_getElem? (i := 10) rfl))), tb0 (List.mem_of_getElem? (i := 8) rfl) rfl, tb3 (List.mem_of_getElem? (i := 144) rfl) rfl, by decide, by decide, by decide +kernel⟩
theorem m_Mo_chooses : Cond.instanceMethod y_Mo_chooses ∈ TBL ∧ Cond.selects y_Mo_chooses.cls y_Mo_chooses y_Mo_chooses ∈ TBL ∧ Cond.initialized y_Mo_chooses.cls ∈ TBL ∧ Cond.code y_Mo_chooses prog_8_method_12_code 6 none ∈ TBL ∧ y_Mo_chooses.cls ≠ "java/lang/invoke/MethodHandle" ∧ y_Mo_chooses.cls ≠ "java/lang/invoke/VarHandle" ∧ (parseMethodDescriptor y_Mo_chooses.desc).map (fun d => d.parameters.length) = some 1 := ⟨tb3 (List.mem_of_getElem? (i := 147) rfl) rfl, tbS (q := (y_Mo_chooses, 25)) (List.mem_append_right _ (List.mem_append_left _ (List.mem_of_getElem? (i := 11) rfl))), tb0 (List.mem_of_getElem? (i := 8) rfl) rfl, tb3 (List.mem_of_getElem? (i := 148) rfl) rfl, by decide, by decide, by decide +kernel⟩
theorem m_Mo_usable : Cond.instanceMethod y_Mo_usable ∈ TBL ∧ Cond.selects y_Mo_usable.cls y_Mo_usable y_Mo_usable ∈ TBL ∧ Cond.initialized y_Mo_usable.cls ∈ TBL ∧ Cond.code y_Mo_usable prog_8_method_6_code 3 (some .boolean) ∈ TBL ∧ y_Mo_usable.cls ≠ "java/lang/invoke/MethodHandle" ∧ y_Mo_usable.cls ≠ "java/lang/invoke/VarHandle" ∧ (parseMethodDescriptor y_Mo_usable.desc).map (fun d => d.parameters.length) = some 1 := ⟨tb3 (List.mem_of_getElem? (i := 151) rfl) rfl, tbS (q := (y_Mo_usable, 25)) (List.mem_append_right _ (List.mem_append_left _ (List.mem_of_getElem? (i := 12) rfl))), tb0 (List.mem_of_getElem? (i := 8) rfl) rfl, tb3 (List.mem_of_getElem? (i := 152) rfl) rfl, by decide, by decide, by decide +kernel⟩
theorem m_Mo_hasWord : Cond.instanceMethod y_Mo_hasWord ∈ TBL ∧ Cond.selects y_Mo_hasWord.cls y_Mo_hasWord y_Mo_hasWord ∈ TBL ∧ Cond.initialized y_Mo_hasWord.cls ∈ TBL ∧ Cond.code y_Mo_hasWord prog_8_method_5_code 2 (some .boolean) ∈ TBL ∧ y_Mo_hasWord.cls ≠ "java/lang/invoke/MethodHandle" ∧ y_Mo_hasWord.cls ≠ "java/lang/invoke/VarHandle" ∧ (parseMethodDescriptor y_Mo_hasWord.desc).map (fun d => d.parameters.length) = some 1 := ⟨tb3 (List.mem_of_getElem? (i := 155) rfl) rfl, tbS (q := (y_Mo_hasWord, 25)) (List.mem_append_right _ (List.mem_append_left _ (List.mem_of_getElem? (i := 13) rfl))), tb0 (List.mem_of_getElem? (i := 8) rfl) rfl, tb3 (List.mem_of_getElem? (i := 156) rfl) rfl, by decide, by decide, by decide +kernel⟩
theorem m_Mo_choice : Cond.instanceMethod y_Mo_choice ∈ TBL ∧ Cond.selects y_Mo_choice.cls y_Mo_choice y_Mo_choice ∈ TBL ∧ Cond.initialized y_Mo_choice.cls ∈ TBL ∧ Cond.code y_Mo_choice prog_8_method_11_code 3 (some .int) ∈ TBL ∧ y_Mo_choice.cls ≠ "java/lang/invoke/MethodHandle" ∧ y_Mo_choice.cls ≠ "java/lang/invoke/VarHandle" ∧ (parseMethodDescriptor y_Mo_choice.desc).map (fun d => d.parameters.length) = some 1 := ⟨tb3 (List.mem_of_getElem? (i := 159) rfl) rfl, tbS (q := (y_Mo_choice, 25)) (List.mem_append_right _ (List.mem_append_left _ (List.mem_of_getElem? (i := 14) rfl))), tb0 (List.mem_of_getElem? (i := 8) rfl) rfl, tb3 (List.mem_of_getElem? (i := 160) rfl) rfl, by decide, by decide, by decide +kernel⟩
theorem m_Mo_bestOf : Cond.instanceMethod y_Mo_bestOf ∈ TBL ∧ Cond.selects y_Mo_bestOf.cls y_Mo_bestOf y_Mo_bestOf ∈ TBL ∧ Cond.initialized y_Mo_bestOf.cls ∈ TBL ∧ Cond.code y_Mo_bestOf prog_8_method_10_code 5 (some .int) ∈ TBL ∧ y_Mo_bestOf.cls ≠ "java/lang/invoke/MethodHandle" ∧ y_Mo_bestOf.cls ≠ "java/lang/invoke/VarHandle" ∧ (parseMethodDescriptor y_Mo_bestOf.desc).map (fun d => d.parameters.length) = some 2 := ⟨tb3 (List.mem_of_getElem? (i := 163) rfl) rfl, tbS (q := (y_Mo_bestOf, 25)) (List.mem_append_right _ (List.mem_append_left _ (List.mem_of_getElem? (i := 15) rfl))), tb0 (List.mem_of_getElem? (i := 8) rfl) rfl, tb3 (List.mem_of_getElem? (i := 164) rfl) rfl, by decide, by decide, by decide +kernel⟩
theorem m_Mo_better : Cond.instanceMethod y_Mo_better ∈ TBL ∧ Cond.selects y_Mo_better.cls y_Mo_better y_Mo_better ∈ TBL ∧ Cond.initialized y_Mo_better.cls ∈ TBL ∧ Cond.code y_Mo_better prog_8_method_9_code 3 (some .boolean) ∈ TBL ∧ y_Mo_better.cls ≠ "java/lang/invoke/MethodHandle" ∧ y_Mo_better.cls ≠ "java/lang/invoke/VarHandle" ∧ (parseMethodDescriptor y_Mo_better.desc).map (fun d => d.parameters.length) = some 2 := ⟨tb3 (List.mem_of_getElem? (i := 167) rfl) rfl, tbS (q := (y_Mo_better, 25)) (List.mem_append_right _ (List.mem_append_right _ ((List.mem_of_getElem? (i := 0) rfl)))), tb0 (List.mem_of_getElem? (i := 8) rfl) rfl, tb3 (List.mem_of_getElem? (i := 168) rfl) rfl, by decide, by decide, by decide +kernel⟩
theorem m_Mo_qualityOf : Cond.instanceMethod y_Mo_qualityOf ∈ TBL ∧ Cond.selects y_Mo_qualityOf.cls y_Mo_qualityOf y_Mo_qualityOf ∈ TBL ∧ Cond.initialized y_Mo_qualityOf.cls ∈ TBL ∧ Cond.code y_Mo_qualityOf prog_8_method_7_code 2 (some .int) ∈ TBL ∧ y_Mo_qualityOf.cls ≠ "java/lang/invoke/MethodHandle" ∧ y_Mo_qualityOf.cls ≠ "java/lang/invoke/VarHandle" ∧ (parseMethodDescriptor y_Mo_qualityOf.desc).map (fun d => d.parameters.length) = some 1 := ⟨tb3 (List.mem_of_getElem? (i := 171) rfl) rfl, tbS (q := (y_Mo_qualityOf, 25)) (List.mem_append_right _ (List.mem_append_right _ ((List.mem_of_getElem? (i := 1) rfl)))), tb0 (List.mem_of_getElem? (i := 8) rfl) rfl, tb3 (List.mem_of_getElem? (i := 172) rfl) rfl, by decide, by decide, by decide +kernel⟩
theorem m_Mo_hopsOf : Cond.instanceMethod y_Mo_hopsOf ∈ TBL ∧ Cond.selects y_Mo_hopsOf.cls y_Mo_hopsOf y_Mo_hopsOf ∈ TBL ∧ Cond.initialized y_Mo_hopsOf.cls ∈ TBL ∧ Cond.code y_Mo_hopsOf prog_8_method_8_code 2 (some .int) ∈ TBL ∧ y_Mo_hopsOf.cls ≠ "java/lang/invoke/MethodHandle" ∧ y_Mo_hopsOf.cls ≠ "java/lang/invoke/VarHandle" ∧ (parseMethodDescriptor y_Mo_hopsOf.desc).map (fun d => d.parameters.length) = some 1 := ⟨tb3 (List.mem_of_getElem? (i := 175) rfl) rfl, tbS (q := (y_Mo_hopsOf, 25)) (List.mem_append_right _ (List.mem_append_right _ ((List.mem_of_getElem? (i := 2) rfl)))), tb0 (List.mem_of_getElem? (i := 8) rfl) rfl, tb3 (List.mem_of_getElem? (i := 176) rfl) rfl, by decide, by decide, by decide +kernel⟩
theorem m_Mo_stateOf : Cond.instanceMethod y_Mo_stateOf ∈ TBL ∧ Cond.selects y_Mo_stateOf.cls y_Mo_stateOf y_Mo_stateOf ∈ TBL ∧ Cond.initialized y_Mo_stateOf.cls ∈ TBL ∧ Cond.code y_Mo_stateOf prog_8_method_14_code 2 (some .int) ∈ TBL ∧ y_Mo_stateOf.cls ≠ "java/lang/invoke/MethodHandle" ∧ y_Mo_stateOf.cls ≠ "java/lang/invoke/VarHandle" ∧ (parseMethodDescriptor y_Mo_stateOf.desc).map (fun d => d.parameters.length) = some 1 := ⟨tb3 (List.mem_of_getElem? (i := 179) rfl) rfl, tbS (q := (y_Mo_stateOf, 25)) (List.mem_append_right _ (List.mem_append_right _ ((List.mem_of_getElem? (i := 3) rfl)))), tb0 (List.mem_of_getElem? (i := 8) rfl) rfl, tb3 (List.mem_of_getElem? (i := 180) rfl) rfl, by decide, by decide, by decide +kernel⟩
theorem m_Mo_portOf : Cond.instanceMethod y_Mo_portOf ∈ TBL ∧ Cond.selects y_Mo_portOf.cls y_Mo_portOf y_Mo_portOf ∈ TBL ∧ Cond.initialized y_Mo_portOf.cls ∈ TBL ∧ Cond.code y_Mo_portOf prog_8_method_15_code 2 (some .int) ∈ TBL ∧ y_Mo_portOf.cls ≠ "java/lang/invoke/MethodHandle" ∧ y_Mo_portOf.cls ≠ "java/lang/invoke/VarHandle" ∧ (parseMethodDescriptor y_Mo_portOf.desc).map (fun d => d.parameters.length) = some 1 := ⟨tb3 (List.mem_of_getElem? (i := 183) rfl) rfl, tbS (q := (y_Mo_portOf, 25)) (List.mem_append_right _ (List.mem_append_right _ ((List.mem_of_getElem? (i := 4) rfl)))), tb0 (List.mem_of_getElem? (i := 8) rfl) rfl, tb3 (List.mem_of_getElem? (i := 184) rfl) rfl, by decide, by decide, by decide +kernel⟩
theorem m_Mo_settled : Cond.instanceMethod y_Mo_settled ∈ TBL ∧ Cond.selects y_Mo_settled.cls y_Mo_settled y_Mo_settled ∈ TBL ∧ Cond.initialized y_Mo_settled.cls ∈ TBL ∧ Cond.code y_Mo_settled prog_8_method_40_code 1 (some .int) ∈ TBL ∧ y_Mo_settled.cls ≠ "java/lang/invoke/MethodHandle" ∧ y_Mo_settled.cls ≠ "java/lang/invoke/VarHandle" ∧ (parseMethodDescriptor y_Mo_settled.desc).map (fun d => d.parameters.length) = some 0 := ⟨tb3 (List.mem_of_getElem? (i := 186) rfl) rfl, tb3 (List.mem_of_getElem? (i := 187) rfl) rfl, tb0 (List.mem_of_getElem? (i := 8) rfl) rfl, tb3 (List.mem_of_getElem? (i := 188) rfl) rfl, by decide, by decide, by decide +kernel⟩
theorem m_Mo_state : Cond.instanceMethod y_Mo_state ∈ TBL ∧ Cond.selects y_Mo_state.cls y_Mo_state y_Mo_state ∈ TBL ∧ Cond.initialized y_Mo_state.cls ∈ TBL ∧ Cond.code y_Mo_state prog_8_method_41_code 3 (some .int) ∈ TBL ∧ y_Mo_state.cls ≠ "java/lang/invoke/MethodHandle" ∧ y_Mo_state.cls ≠ "java/lang/invoke/VarHandle" ∧ (parseMethodDescriptor y_Mo_state.desc).map (fun d => d.parameters.length) = some 2 := ⟨tb3 (List.mem_of_getElem? (i := 190) rfl) rfl, tb3 (List.mem_of_getElem? (i := 191) rfl) rfl, tb0 (List.mem_of_getElem? (i := 8) rfl) rfl, tb3 (List.mem_of_getElem? (i := 192) rfl) rfl, by decide, by decide, by decide +kernel⟩
theorem m_Mo_phase : Cond.instanceMethod y_Mo_phase ∈ TBL ∧ Cond.selects y_Mo_phase.cls y_Mo_phase y_Mo_phase ∈ TBL ∧ Cond.initialized y_Mo_phase.cls ∈ TBL ∧ Cond.code y_Mo_phase prog_8_method_42_code 2 (some .long) ∈ TBL ∧ y_Mo_phase.cls ≠ "java/lang/invoke/MethodHandle" ∧ y_Mo_phase.cls ≠ "java/lang/invoke/VarHandle" ∧ (parseMethodDescriptor y_Mo_phase.desc).map (fun d => d.parameters.length) = some 1 := ⟨tb3 (List.mem_of_getElem? (i := 194) rfl) rfl, tb3 (List.mem_of_getElem? (i := 195) rfl) rfl, tb0 (List.mem_of_getElem? (i := 8) rfl) rfl, tb3 (List.mem_of_getElem? (i := 196) rfl) rfl, by decide, by decide, by decide +kernel⟩
theorem m_Mo_sends : Cond.instanceMethod y_Mo_sends ∈ TBL ∧ Cond.selects y_Mo_sends.cls y_Mo_sends y_Mo_sends ∈ TBL ∧ Cond.initialized y_Mo_sends.cls ∈ TBL ∧ Cond.code y_Mo_sends prog_8_method_43_code 3 (some .int) ∈ TBL ∧ y_Mo_sends.cls ≠ "java/lang/invoke/MethodHandle" ∧ y_Mo_sends.cls ≠ "java/lang/invoke/VarHandle" ∧ (parseMethodDescriptor y_Mo_sends.desc).map (fun d => d.parameters.length) = some 2 := ⟨tb3 (List.mem_of_getElem? (i := 198) rfl) rfl, tb3 (List.mem_of_getElem? (i := 199) rfl) rfl, tb0 (List.mem_of_getElem? (i := 8) rfl) rfl, tb3 (List.mem_of_getElem? (i := 200) rfl) rfl, by decide, by decide, by decide +kernel⟩
theorem m_Mo_traced : Cond.instanceMethod y_Mo_traced ∈ TBL ∧ Cond.selects y_Mo_traced.cls y_Mo_traced y_Mo_traced ∈ TBL ∧ Cond.initialized y_Mo_traced.cls ∈ TBL ∧ Cond.code y_Mo_traced prog_8_method_44_code 4 (some .int) ∈ TBL ∧ y_Mo_traced.cls ≠ "java/lang/invoke/MethodHandle" ∧ y_Mo_traced.cls ≠ "java/lang/invoke/VarHandle" ∧ (parseMethodDescriptor y_Mo_traced.desc).map (fun d => d.parameters.length) = some 1 := ⟨tb3 (List.mem_of_getElem? (i := 202) rfl) rfl, tb3 (List.mem_of_getElem? (i := 203) rfl) rfl, tb0 (List.mem_of_getElem? (i := 8) rfl) rfl, tb3 (List.mem_of_getElem? (i := 204) rfl) rfl, by decide, by decide, by decide +kernel⟩
theorem m_Mo_followed : Cond.instanceMethod y_Mo_followed ∈ TBL ∧ Cond.selects y_Mo_followed.cls y_Mo_followed y_Mo_followed ∈ TBL ∧ Cond.initialized y_Mo_followed.cls ∈ TBL ∧ Cond.code y_Mo_followed prog_8_method_21_code 3 (some .int) ∈ TBL ∧ y_Mo_followed.cls ≠ "java/lang/invoke/MethodHandle" ∧ y_Mo_followed.cls ≠ "java/lang/invoke/VarHandle" ∧ (parseMethodDescriptor y_Mo_followed.desc).map (fun d => d.parameters.length) = some 1 := ⟨tb3 (List.mem_of_getElem? (i := 207) rfl) rfl, tbS (q := (y_Mo_followed, 25)) (List.mem_append_right _ (List.mem_append_right _ ((List.mem_of_getElem? (i := 5) rfl)))), tb0 (List.mem_of_getElem? (i := 8) rfl) rfl, tb3 (List.mem_of_getElem? (i := 208) rfl) rfl, by decide, by decide, by decide +kernel⟩
theorem m_Mo_loop : Cond.instanceMethod y_Mo_loop ∈ TBL ∧ Cond.selects y_Mo_loop.cls y_Mo_loop y_Mo_loop ∈ TBL ∧ Cond.initialized y_Mo_loop.cls ∈ TBL ∧ Cond.code y_Mo_loop prog_8_method_45_code 5 (some .boolean) ∈ TBL ∧ y_Mo_loop.cls ≠ "java/lang/invoke/MethodHandle" ∧ y_Mo_loop.cls ≠ "java/lang/invoke/VarHandle" ∧ (parseMethodDescriptor y_Mo_loop.desc).map (fun d => d.parameters.length) = some 0 := ⟨tb3 (List.mem_of_getElem? (i := 210) rfl) rfl, tb3 (List.mem_of_getElem? (i := 211) rfl) rfl, tb0 (List.mem_of_getElem? (i := 8) rfl) rfl, tb3 (List.mem_of_getElem? (i := 212) rfl) rfl, by decide, by decide, by decide +kernel⟩
theorem m_Mo_best : Cond.instanceMethod y_Mo_best ∈ TBL ∧ Cond.selects y_Mo_best.cls y_Mo_best y_Mo_best ∈ TBL ∧ Cond.initialized y_Mo_best.cls ∈ TBL ∧ Cond.code y_Mo_best prog_8_method_46_code 2 (some .int) ∈ TBL ∧ y_Mo_best.cls ≠ "java/lang/invoke/MethodHandle" ∧ y_Mo_best.cls ≠ "java/lang/invoke/VarHandle" ∧ (parseMethodDescriptor y_Mo_best.desc).map (fun d => d.parameters.length) = some 1 := ⟨tb3 (List.mem_of_getElem? (i := 214) rfl) rfl, tb3 (List.mem_of_getElem? (i := 215) rfl) rfl, tb0 (List.mem_of_getElem? (i := 8) rfl) rfl, tb3 (List.mem_of_getElem? (i := 216) rfl) rfl, by decide, by decide, by decide +kernel⟩
theorem m_Mo_bestFor : Cond.instanceMethod y_Mo_bestFor ∈ TBL ∧ Cond.selects y_Mo_bestFor.cls y_Mo_bestFor y_Mo_bestFor ∈ TBL ∧ Cond.initialized y_Mo_bestFor.cls ∈ TBL ∧ Cond.code y_Mo_bestFor prog_8_method_20_code 5 (some .int) ∈ TBL ∧ y_Mo_bestFor.cls ≠ "java/lang/invoke/MethodHandle" ∧ y_Mo_bestFor.cls ≠ "java/lang/invoke/VarHandle" ∧ (parseMethodDescriptor y_Mo_bestFor.desc).map (fun d => d.parameters.length) = some 1 := ⟨tb3 (List.mem_of_getElem? (i := 219) rfl) rfl, tbS (q := (y_Mo_bestFor, 25)) (List.mem_append_right _ (List.mem_append_right _ ((List.mem_of_getElem? (i := 6) rfl)))), tb0 (List.mem_of_getElem? (i := 8) rfl) rfl, tb3 (List.mem_of_getElem? (i := 220) rfl) rfl, by decide, by decide, by decide +kernel⟩
theorem m_Mo_reached : Cond.instanceMethod y_Mo_reached ∈ TBL ∧ Cond.selects y_Mo_reached.cls y_Mo_reached y_Mo_reached ∈ TBL ∧ Cond.initialized y_Mo_reached.cls ∈ TBL ∧ Cond.code y_Mo_reached prog_8_method_19_code 8 (some .int) ∈ TBL ∧ y_Mo_reached.cls ≠ "java/lang/invoke/MethodHandle" ∧ y_Mo_reached.cls ≠ "java/lang/invoke/VarHandle" ∧ (parseMethodDescriptor y_Mo_reached.desc).map (fun d => d.parameters.length) = some 1 := ⟨tb3 (List.mem_of_getElem? (i := 223) rfl) rfl, tbS (q := (y_Mo_reached, 25)) (List.mem_append_right _ (List.mem_append_right _ ((List.mem_of_getElem? (i := 7) rfl)))), tb0 (List.mem_of_getElem? (i := 8) rfl) rfl, tb3 (List.mem_of_getElem? (i := 224) rfl) rfl, by decide, by decide, by decide +kernel⟩
theorem m_Mo_check : Cond.instanceMethod y_Mo_check ∈ TBL ∧ Cond.selects y_Mo_check.cls y_Mo_check y_Mo_check ∈ TBL ∧ Cond.initialized y_Mo_check.cls ∈ TBL ∧ Cond.code y_Mo_check prog_8_method_47_code 2 (some .int) ∈ TBL ∧ y_Mo_check.cls ≠ "java/lang/invoke/MethodHandle" ∧ y_Mo_check.cls ≠ "java/lang/invoke/VarHandle" ∧ (parseMethodDescriptor y_Mo_check.desc).map (fun d => d.parameters.length) = some 0 := ⟨tb3 (List.mem_of_getElem? (i := 226) rfl) rfl, tb3 (List.mem_of_getElem? (i := 227) rfl) rfl, tb0 (List.mem_of_getElem? (i := 8) rfl) rfl, tb3 (List.mem_of_getElem? (i := 228) rfl) rfl, by decide, by decide, by decide +kernel⟩
theorem m_Mo_keep : Cond.instanceMethod y_Mo_keep ∈ TBL ∧ Cond.selects y_Mo_keep.cls y_Mo_keep y_Mo_keep ∈ TBL ∧ Cond.initialized y_Mo_keep.cls ∈ TBL ∧ Cond.code y_Mo_keep prog_8_method_22_code 3 none ∈ TBL ∧ y_Mo_keep.cls ≠ "java/lang/invoke/MethodHandle" ∧ y_Mo_keep.cls ≠ "java/lang/invoke/VarHandle" ∧ (parseMethodDescriptor y_Mo_keep.desc).map (fun d => d.parameters.length) = some 1 := ⟨tb3 (List.mem_of_getElem? (i := 231) rfl) rfl, tbS (q := (y_Mo_keep, 25)) (List.mem_append_right _ (List.mem_append_right _ ((List.mem_of_getElem? (i := 8) rfl)))), tb0 (List.mem_of_getElem? (i := 8) rfl) rfl, tb3 (List.mem_of_getElem? (i := 232) rfl) rfl, by decide, by decide, by decide +kernel⟩
theorem m_Mo_goOn : Cond.instanceMethod y_Mo_goOn ∈ TBL ∧ Cond.selects y_Mo_goOn.cls y_Mo_goOn y_Mo_goOn ∈ TBL ∧ Cond.initialized y_Mo_goOn.cls ∈ TBL ∧ Cond.code y_Mo_goOn prog_8_method_23_code 4 none ∈ TBL ∧ y_Mo_goOn.cls ≠ "java/lang/invoke/MethodHandle" ∧ y_Mo_goOn.cls ≠ "java/lang/invoke/VarHandle" ∧ (parseMethodDescriptor y_Mo_goOn.desc).map (fun d => d.parameters.length) = some 1 := ⟨tb3 (List.mem_of_getElem? (i := 235) rfl) rfl, tbS (q := (y_Mo_goOn, 25)) (List.mem_append_right _ (List.mem_append_right _ ((List.mem_of_getElem? (i := 9) rfl)))), tb0 (List.mem_of_getElem? (i := 8) rfl) rfl, tb3 (List.mem_of_getElem? (i := 236) rfl) rfl, by decide, by decide, by decide +kernel⟩
theorem m_Mo_finding : Cond.instanceMethod y_Mo_finding ∈ TBL ∧ Cond.selects y_Mo_finding.cls y_Mo_finding y_Mo_finding ∈ TBL ∧ Cond.initialized y_Mo_finding.cls ∈ TBL ∧ Cond.code y_Mo_finding prog_8_method_48_code 3 (some .int) ∈ TBL ∧ y_Mo_finding.cls ≠ "java/lang/invoke/MethodHandle" ∧ y_Mo_finding.cls ≠ "java/lang/invoke/VarHandle" ∧ (parseMethodDescriptor y_Mo_finding.desc).map (fun d => d.parameters.length) = some 2 := ⟨tb3 (List.mem_of_getElem? (i := 238) rfl) rfl, tb3 (List.mem_of_getElem? (i := 239) rfl) rfl, tb0 (List.mem_of_getElem? (i := 8) rfl) rfl, tb4 (List.mem_of_getElem? (i := 0) rfl) rfl, by decide, by decide, by decide +kernel⟩
theorem m_min : Cond.static Lib.Math.min.name ∈ TBL ∧ Cond.initialized "java/lang/Math" ∈ TBL ∧ Cond.code Lib.Math.min.name Lib.Math.min.code 2 (some .int) ∈ TBL := ⟨tb1 (List.mem_of_getElem? (i := 102) rfl) rfl, tb0 (List.mem_of_getElem? (i := 14) rfl) rfl, tb1 (List.mem_of_getElem? (i := 103) rfl) rfl⟩
theorem m_max : Cond.static Lib.Math.max.name ∈ TBL ∧ Cond.initialized "java/lang/Math" ∈ TBL ∧ Cond.code Lib.Math.max.name Lib.Math.max.code 2 (some .int) ∈ TBL := ⟨tb1 (List.mem_of_getElem? (i := 63) rfl) rfl, tb0 (List.mem_of_getElem? (i := 14) rfl) rfl, tb1 (List.mem_of_getElem? (i := 64) rfl) rfl⟩
theorem m_copy : Cond.native arraycopyName ∈ TBL ∧ Cond.static arraycopyName ∈ TBL ∧ Cond.initialized "java/lang/System" ∈ TBL := ⟨tb1 (List.mem_of_getElem? (i := 79) rfl) rfl, tb1 (List.mem_of_getElem? (i := 78) rfl) rfl, tb0 (List.mem_of_getElem? (i := 15) rfl) rfl⟩
