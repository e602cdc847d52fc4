/-! Rules: a call that throws; a body that throws; a body with handlers; a call of such a body. -/
section XR
variable {X : zX} {G : zG} {cc cc2 : ByteArray} {nL nL2 a b pc n index : Nat} {own : String} {d rm2 : Room} {l : List (Nat × Value)} {st : List Value} {I I1 : zI} {J J1 : zJ} {E : String} {y : MethodName} {ret : Option FieldType} {hh : List (Nat × Nat × Nat × Nat)}
theorem zx_len {y : MethodName} {n : Nat} {As : List Value} (hn : As.length = n) (h : (parseMethodDescriptor y.desc).map (fun d => d.parameters.length) = some n) : ∀ sig, parseMethodDescriptor y.desc = some sig → As.length = sig.parameters.length := by
  intro sig hs
  rw [hs] at h
  exact hn.trans (Option.some.inj h).symm
theorem Z_cSx {As : List Value} (hX : zOk X G cc nL own d) (hO : zOx X) (hd : decode cc pc = .ok (.invokestatic index, 3)) (hM : zCx X.2.1 G y (Cond.code y cc2 nL2 ret :: TBL) rm2 As I J E) (hy : zMS y cc2 nL2 ret n) (hn : As.length = n) (h1 : Cond.methodLink own index y ∈ TBL) (hR : rm2.frames + 1 ≤ d.frames ∧ 8 + (nL2 + 11) + rm2.locals ≤ d.locals) (hf : a + rm2.cells ≤ d.cells ∧ b + rm2.slots ≤ d.slots) (hst : (st.map fun v => v.category).sum ≤ 8) (k : Zx X G nL (a + rm2.cells) (b + rm2.slots) pc l E I J) : Z X G nL a b pc l (As.reverse ++ st) I J := by
  obtain ⟨y1, y3, y4, y5, y6, y7⟩ := hy
  have go := zx_go (st := st) hX hO hM y3 y4 hd hR hf hst k
  obtain ⟨p, la, e, R, s, m, args, below, meth, c, Q, A⟩ := X
  intro ls H locs hl hP hS T hT X
  subst hT
  have hts := hX.1.2.2.2.2
  have hb := hX.1.2.1
  subst hb
  obtain ⟨mk, hnamed⟩ := Cond.code_named (hts _ y4)
  obtain ⟨methM, cM, hmethM, -, -, -, -, -, -, hsigM⟩ := Cond.code_spec hnamed (hts _ y4)
  have hstatic : methM.isStatic = true := Cond.static_spec hnamed hmethM (hts _ y1)
  obtain ⟨kP, hkP, -⟩ := className_of_methodNamed hnamed
  have hinitP : kP.init = .initialized := Cond.initialized_spec (findClass_of_methodNamed hnamed) hkP (hts _ y3)
  obtain ⟨vm1, X1, hstep⟩ := X.invokestatic hX.1.1 hX.1.2.2.2.1 (hts _ h1) hnamed hmethM hstatic hkP hinitP ⟨y5, y6⟩ (g := F0 m pc ls (As.reverse ++ st)) rfl (argsL := As) (rest := st) (zx_len hn y7 _ hsigM) rfl hd
  obtain ⟨t, h9, hq⟩ := go ls locs (T.setVm vm1) mk hl hP hS X1 (X1.named hnamed)
  exact ⟨t, hstep _ (fun acts => h9 acts), hq⟩
theorem Z_cVx {c0 ci N : Nat} {T : u_T} {ds : List (Option (Option Nat))} {As : List Value} (hX : zOk X G cc nL own d) (hO : zOx X) (hd : decode cc pc = .ok (.invokevirtual index, 3)) (hM : zCx X.2.1 G y (Cond.code y cc2 nL2 ret :: TBL) rm2 (.ref (zad G c0) :: As) I J E) (hy : zMV y cc2 nL2 ret n) (hn : As.length = n) (hL : lay0[c0]? = some (.inr (.inr (ci, ds)))) (hc : vwCl[ci]? = some (y.cls, T, N)) (h1 : Cond.methodLink own index y ∈ TBL) (hR : rm2.frames + 1 ≤ d.frames ∧ 8 + (nL2 + 11) + rm2.locals ≤ d.locals) (hf : a + rm2.cells ≤ d.cells ∧ b + rm2.slots ≤ d.slots) (hst : (st.map fun v => v.category).sum ≤ 8) (k : Zx X G nL (a + rm2.cells) (b + rm2.slots) pc l E I J) : Z X G nL a b pc l (As.reverse ++ .ref (zad G c0) :: st) I J := by
  obtain ⟨y1, y2, y3, y4, y5, y6, y7⟩ := hy
  have go := zx_go (st := st) hX hO hM y3 y4 hd hR hf hst k
  obtain ⟨p, la, e, R, s, m, args, below, meth, c, Q, A⟩ := X
  intro ls H locs hl hP hS T hT X
  subst hT
  have hts := hX.1.2.2.2.2
  have hb := hX.1.2.1
  subst hb
  obtain ⟨cellB, hcell, hobj, hclB⟩ := va_recv hX.2.2.1 hP hc (zW_at hL)
  obtain ⟨mk, methM, hnamed, hmethM, hstM, habM⟩ := Cond.instanceMethod_spec (hts _ y1)
  obtain ⟨methM', cM, hmethM', -, -, -, -, -, -, hsigM⟩ := Cond.code_spec hnamed (hts _ y4)
  cases hmethM.symm.trans hmethM'
  obtain ⟨c2, r2, m2, q1, q2, q3, q4, kP, hkP, hkPi⟩ := Cond.selects_spec (hts _ y2)
  cases hclB.symm.trans q1
  cases (State.methodFound?_of_named hnamed ⟨y5, y6⟩).symm.trans q2
  cases hnamed.symm.trans q3
  have hselP : selectMethod e.platform s.vm cellB.cls mk = .method mk := by rw [Launch.admits_selectMethod X.admits]; exact q4
  obtain ⟨vm1, X1, hstep⟩ := X.invokevirtual hX.1.1 hX.1.2.2.2.1 (hts _ h1) hnamed hmethM hstM hkP hkPi ⟨y5, y6⟩ (a := zad G c0) (cell := cellB) hcell (fun z h => by rw [h] at hobj; cases hobj) hselP hmethM habM hkP hkPi (g := F0 m pc ls (As.reverse ++ .ref (zad G c0) :: st)) rfl (argsL := As) (rest := st) (zx_len hn y7 _ hsigM) rfl hd
  obtain ⟨t, h9, hq⟩ := go ls locs (T.setVm vm1) mk hl hP hS X1 (X1.named hnamed)
  exact ⟨t, hstep _ (fun acts => h9 acts), hq⟩
theorem zCx_of {la : Launch} {rm : Room} {avs : List Value} (hla : la.stackTraces = false) (hy : plainName y.cls = true) (hlen : (lg_sl avs).length ≤ nL)
    (body : ∀ X : zX, X.2.1 = la → zOk X G cc nL y.cls rm → zOx X → zNh X → zEd X G rm.cells rm.slots E I J → Z X G nL 0 0 0 (lv_args 0 avs) [] I J) : zCx la G y (Cond.code y cc nL ret :: TBL) rm avs I J E := by
  intro sz
  refine MetFree.of_bodyS (code := cc) (maxLocals := nL) (ret := ret) hy ?_ ?_
  · intro args s m h hn
    obtain ⟨meth, c, h1, h2, h3, h4, h5, h6, -, -⟩ := Cond.code_spec hn (atoms_spec (ws := Cond.code y cc nL ret :: TBL) h _ List.mem_cons_self)
    exact ⟨meth, c, h1, h2, h3, h4, h5, h6⟩
  · intro p e s m args below meth c s₁ B hml hv _
    obtain ⟨⟨rfl, hsz, hP, hK, hI, hN⟩, hXo⟩ := hv
    subst hsz
    have hts := atoms_spec (ws := Cond.code y cc nL ret :: TBL) B.pre
    have hl := lv_entry avs hlen
    have hh0 : s₁.heap = s.heap := by rw [B.state]; rfl
    have K := body (p, la, e, rm, s, m, avs.toArray, below, meth, c, fun t => ∃ o, t.status = .running ∧ Ended t below o ∧ zXe G s.heap.size E I J rm.cells rm.slots avs.toArray s o t, zA G s.heap.size) rfl
      ⟨⟨B.exec, B.bytes, hml, findClass_of_methodNamed B.named, fun w hw => hts w (List.mem_cons_of_mem _ hw)⟩, rfl, hK, fun I J => zD_of hI (fun c hc => Or.inl ⟨c, hc, rfl⟩) I J, fun q h => Or.inr h, hN, B.notSynchronized⟩
      ⟨hla, hXo⟩ (B.noHandlers (hts _ List.mem_cons_self)) (fun t q ce locs h1 h2 h3 h4 h5 h6 h7 h8 h9 => ⟨.threw q, h1, h2, q, ce, locs, rfl, h6, h7, h8, h9, h5.F rfl, h3, h4, h5.2.2⟩) _ s.heap [] (z_has.of hl) hP va_S.rf
    rw [lg_entry_eq]
    obtain ⟨t, a1, o, b1, b2, b3⟩ := K s₁ hh0 (Stand.of_body B)
    exact ⟨t, o, a1, b1, b2, b3⟩
/-- a body with handlers, that comes back with an int -/
def zCw (la : Launch) (G : zG) (y : MethodName) (ws : List Cond) (rm : Room) (avs : List Value) (I : zI) (J : zJ) (v : Int32) (I1 : zI) (J1 : zJ) : Prop := ∀ sz : Nat, Met la y ws rm (zXp G avs sz I J) (va_Qi (fun r (_ : Unit) => r = v) (fun _ t => va_P G.1 vwCl (zW G I1 J1) t.heap) (zA G sz)) rm.cells rm.slots (zA G sz)
def zHs (X : zX) (hh : List (Nat × Nat × Nat × Nat)) : Prop := match X with
  | (_, _, _, _, _, _, _, _, _, c, _, _) => c.exceptionTable.toList.map (fun h => (h.startPc, h.endPc, h.handlerPc, h.catchType)) = hh
theorem zCw_of {la : Launch} {rm : Room} {avs : List Value} {v : Int32} (hla : la.stackTraces = false) (hy : plainName y.cls = true) (hlen : (lg_sl avs).length ≤ nL)
    (body : ∀ X : zX, X.2.1 = la → zOk X G cc nL y.cls rm → zOx X → zHs X hh → (∀ (pc : Nat) (l : List (Nat × Value)), decode cc pc = .ok (.ireturn, 1) → Z X G nL rm.cells rm.slots pc l [.int v] I1 J1) → Z X G nL 0 0 0 (lv_args 0 avs) [] I J) : zCw la G y (Cond.codeWith y cc nL (some .int) hh :: TBL) rm avs I J v I1 J1 := by
  intro sz
  refine va_MetW (cc := cc) (maxL := nL) (ret := (some .int)) (hh := hh) hy rfl ?_
  intro p e s m args below meth c s₁ B hml hv
  obtain ⟨⟨rfl, hsz, hP, hK, hI, hN⟩, hXo⟩ := hv
  subst hsz
  have hts := atoms_spec (ws := Cond.codeWith y cc nL (some .int) hh :: TBL) B.pre
  have hl := lv_entry avs hlen
  obtain ⟨m9, meth9, c9, hn9, hm9, hc9, -, -, hhs, -⟩ := Cond.codeWith_spec (hts _ List.mem_cons_self)
  cases B.named.symm.trans hn9
  cases B.method.symm.trans hm9
  have hcc : c9 = c := Option.some.inj (hc9.symm.trans (Stand.of_body B).code)
  subst hcc
  rw [lg_entry_eq]
  refine body (p, la, e, rm, s, m, avs.toArray, below, meth, c9, _, zA G s.heap.size) rfl ⟨⟨B.exec, B.bytes, hml, findClass_of_methodNamed B.named, fun w hw => hts w (List.mem_cons_of_mem _ hw)⟩, rfl, hK, fun I J => zD_of hI (fun c hc => Or.inl ⟨c, hc, rfl⟩) I J, fun q h => Or.inr h, hN, B.notSynchronized⟩ ⟨hla, hXo⟩ hhs (fun pc l hd => ?_) _ s.heap [] (z_has.of hl) hP va_S.rf
  intro ls H locs hl hP1 hS
  exact W.zret B.exec B.bytes B.returns rfl (fun t ht hW => ⟨⟨v, (), rfl, rfl, by show va_P G.1 vwCl (zW G I1 J1) t.heap; rw [ht]; exact hP1⟩, hS.F ht⟩) hS.2.2 hd B.notSynchronized
/-- the first row catches -/
theorem Zx_catch1 {s1 e1 h1 ct : Nat} {hs : List (Nat × Nat × Nat × Nat)} (hX : zOk X G cc nL own d) (hO : zOx X) (hH : zHs X ((s1, e1, h1, ct) :: hs)) (hcov : s1 ≤ pc ∧ pc < e1) (h0 : ct ≠ 0) (hl : Cond.classLink own ct E ∈ TBL) (hca : Cond.castable E E ∈ zYX) (k : ∀ q : Nat, Z X G nL a b h1 l [.ref q] I J) : Zx X G nL a b pc l E I J := by
  obtain ⟨p, la, e, R, s, m, args, below, meth, c, Q, A⟩ := X
  intro ls st locs q ce T hl2 hP hS hq hv hc X
  have hpl : e.platform.magicAccessors = ({} : Platform).magicAccessors := by rw [X.admits.platform]
  obtain ⟨c3, c4, hc3, hc4, hasg⟩ := Cond.castable_spec ((hO.2.2.2.2 _ hca).now (a := args))
  cases hc.symm.trans hc3
  cases hc.symm.trans hc4
  obtain ⟨c5, hc5, hcl⟩ := Cond.classLink_spec hX.1.2.2.2.1 (hX.1.2.2.2.2 _ hl) e.platform hpl
  cases hc.symm.trans hc5
  have hH : c.exceptionTable.toList.map (fun h => (h.startPc, h.endPc, h.handlerPc, h.catchType)) = (s1, e1, h1, ct) :: hs := hH
  cases hx : c.exceptionTable.toList with
  | nil => rw [hx] at hH; cases hH
  | cons x suf =>
    rw [hx, List.map_cons] at hH
    obtain ⟨hx1, -⟩ := List.cons.inj hH
    have q1 : x.startPc = s1 := congrArg (fun z => z.1) hx1
    have q2 : x.endPc = e1 := congrArg (fun z => z.2.1) hx1
    have q3 : x.handlerPc = h1 := congrArg (fun z => z.2.2.1) hx1
    have q4 : x.catchType = ct := congrArg (fun z => z.2.2.2) hx1
    obtain ⟨vm', X', st'⟩ := X.thenCaughtThrough q (g := F0 m pc ls st) rfl (Steps.refl _) hq (by rw [hv]; rfl) (by obtain ⟨k9, h9, -⟩ := Vm.findClass_spec hc; exact ⟨k9, h9⟩) [] x suf hx (fun z hz => by cases hz) (by simp [covers, q1, q2, hcov.1, hcov.2]) (Or.inr ⟨by rw [q4]; exact h0, ce.cls, by rw [q4]; exact hcl, hasg⟩)
    rw [q3] at st'
    obtain ⟨t, a1, b1⟩ := k q ls T.heap locs hl2 hP hS (T.setVm vm') rfl X'
    exact ⟨t, st'.trans a1, b1⟩
/-- the first row lets an IllegalStateException pass, the second catches it -/
theorem Zx_catch2 {s1 e1 h1 ct s2 e2 h2 ct2 : Nat} {hs : List (Nat × Nat × Nat × Nat)} (hX : zOk X G cc nL own d) (hO : zOx X) (hH : zHs X ((s1, e1, h1, ct) :: (s2, e2, h2, ct2) :: hs)) (hcov : s2 ≤ pc ∧ pc < e2) (h0 : ct ≠ 0 ∧ ct2 ≠ 0) (hl1 : Cond.classLink own ct zIA ∈ TBL) (hl : Cond.classLink own ct2 zIS ∈ TBL) (hca : Cond.castable zIS zIS ∈ zYX) (k : ∀ q : Nat, Z X G nL a b h2 l [.ref q] I J) : Zx X G nL a b pc l zIS I J := by
  obtain ⟨p, la, e, R, s, m, args, below, meth, c, Q, A⟩ := X
  intro ls st locs q ce T hl2 hP hS hq hv hc X
  have hpl : e.platform.magicAccessors = ({} : Platform).magicAccessors := by rw [X.admits.platform]
  obtain ⟨c3, c4, hc3, hc4, hasg⟩ := Cond.castable_spec ((hO.2.2.2.2 _ hca).now (a := args))
  cases hc.symm.trans hc3
  cases hc.symm.trans hc4
  obtain ⟨c5, hc5, hcl⟩ := Cond.classLink_spec hX.1.2.2.2.1 (hX.1.2.2.2.2 _ hl) e.platform hpl
  cases hc.symm.trans hc5
  obtain ⟨c6, hc6, hcl6⟩ := Cond.classLink_spec hX.1.2.2.2.1 (hX.1.2.2.2.2 _ hl1) e.platform hpl
  obtain ⟨c7, c8, hc7, hc8, hno⟩ := hO.2.2.2.1
  cases hc.symm.trans hc7
  cases hc6.symm.trans hc8
  have hH : c.exceptionTable.toList.map (fun h => (h.startPc, h.endPc, h.handlerPc, h.catchType)) = (s1, e1, h1, ct) :: (s2, e2, h2, ct2) :: hs := hH
  cases hx : c.exceptionTable.toList with
  | nil => rw [hx] at hH; cases hH
  | cons x0 suf0 =>
    rw [hx, List.map_cons] at hH
    obtain ⟨hx1, hH⟩ := List.cons.inj hH
    have q0 : x0.catchType = ct := congrArg (fun z => z.2.2.2) hx1
    cases suf0 with
    | nil => cases hH
    | cons x suf =>
      rw [List.map_cons] at hH
      obtain ⟨hx1, -⟩ := List.cons.inj hH
      have q1 : x.startPc = s2 := congrArg (fun z => z.1) hx1
      have q2 : x.endPc = e2 := congrArg (fun z => z.2.1) hx1
      have q3 : x.handlerPc = h2 := congrArg (fun z => z.2.2.1) hx1
      have q4 : x.catchType = ct2 := congrArg (fun z => z.2.2.2) hx1
      obtain ⟨vm', X', st'⟩ := X.thenCaughtThrough q (g := F0 m pc ls st) rfl (Steps.refl _) hq (by rw [hv]; rfl) (by obtain ⟨k9, h9, -⟩ := Vm.findClass_spec hc; exact ⟨k9, h9⟩) [x0] x suf hx (fun z hz => by
        rw [List.mem_singleton] at hz
        subst hz
        exact Or.inr ⟨by rw [q0]; exact h0.1, c6, by rw [q0]; exact hcl6, hno⟩) (by simp [covers, q1, q2, hcov.1, hcov.2]) (Or.inr ⟨by rw [q4]; exact h0.2, ce.cls, by rw [q4]; exact hcl, hasg⟩)
      rw [q3] at st'
      obtain ⟨t, a1, b1⟩ := k q ls T.heap locs hl2 hP hS (T.setVm vm') rfl X'
      exact ⟨t, st'.trans a1, b1⟩
def zMW (y : MethodName) (cc : ByteArray) (nL : Nat) (ret : Option FieldType) (hh : List (Nat × Nat × Nat × Nat)) (n : Nat) : Prop := Cond.static y ∈ TBL ∧ Cond.initialized y.cls ∈ TBL ∧ Cond.codeWith y cc nL ret hh ∈ TBL ∧ y.cls ≠ "java/lang/invoke/MethodHandle" ∧ y.cls ≠ "java/lang/invoke/VarHandle" ∧ (parseMethodDescriptor y.desc).map (fun d => d.parameters.length) = some n
theorem Z_cWi {As : List Value} {v : Int32} (hX : zOk X G cc nL own d) (hO : zOx X) (hd : decode cc pc = .ok (.invokestatic index, 3)) (hM : zCw X.2.1 G y (Cond.codeWith y cc2 nL2 ret hh :: TBL) rm2 As I J v I1 J1) (hy : zMW y cc2 nL2 ret hh n) (hn : As.length = n) (h1 : Cond.methodLink own index y ∈ TBL) (hR : rm2.frames + 1 ≤ d.frames ∧ 8 + (nL2 + 11) + rm2.locals ≤ d.locals) (hf : a + rm2.cells ≤ d.cells ∧ b + rm2.slots ≤ d.slots) (hst : (st.map fun v => v.category).sum ≤ 8) (k : Z X G nL (a + rm2.cells) (b + rm2.slots) (pc + 3) l (.int v :: st) I1 J1) : Z X G nL a b pc l (As.reverse ++ st) I J := by
  obtain ⟨p, la, e, R, s, m, args, below, meth, c, Q, A⟩ := X
  intro ls H locs hl hP hS
  obtain ⟨y1, y3, y4, y5, y6, y7⟩ := hy
  have hts := hX.1.2.2.2.2
  have hb := hX.1.2.1
  subst hb
  have hD := hX.2.1
  subst hD
  have hF := zS_call hX.2.2.2.1 hX.2.2.2.2.1 hS I J
  have hws : ∀ w ∈ Cond.codeWith y cc2 nL2 ret hh :: TBL, ∀ (a' : Array Value) (U : State), s.WarmedH U.vm → w.before a' U = true := fun w hw a' U hW => by
    have hw2 : w ∈ TBL := (List.mem_cons.mp hw).elim (fun e => e ▸ y4) id
    exact word_at hW (TBL_good w hw2) (hts w hw2)
  have hbl : FrameBlind (zXp G As H.size I J) := fun a U g mk h => zXp_blind h
  have hK : Back la R p e below s args y 3 8 (PreOf R rm2.cells rm2.slots (zXp G As H.size I J)) (PostOf (va_Qi (fun r (_ : Unit) => r = v) (fun _ t => va_P G.1 vwCl (zW G I1 J1) t.heap) (zA G H.size)) rm2.cells rm2.slots (zA G H.size)) :=
    va_backW (hh := hh) (bytes := cc2) (maxL := nL2) (ret := ret) (hM H.size) hbl rfl rfl hR.1 hR.2 hws List.mem_cons_self (fun a' U hW => word_at hW (TBL_good _ y3) (hts _ y3))
  have hrun : va_Run p la e R s m args below meth c H locs a b rm2.cells rm2.slots (F0 m pc ls (As.reverse ++ st)) st (va_Qi (fun r (_ : Unit) => r = v) (fun _ t => va_P G.1 vwCl (zW G I1 J1) t.heap) (zA G H.size) As.toArray) (zA G H.size) := by
    intro T hT X
    obtain ⟨mk, methM, cM, hnamed, hmethM, -, -, -, -, -, -, hsigM⟩ := Cond.codeWith_spec (hts _ y4)
    have hstatic : methM.isStatic = true := Cond.static_spec hnamed hmethM (hts _ y1)
    obtain ⟨kP, hkP, -⟩ := className_of_methodNamed hnamed
    have hinitP : kP.init = .initialized := Cond.initialized_spec (findClass_of_methodNamed hnamed) hkP (hts _ y3)
    obtain ⟨vm1, X1, hstep⟩ := X.invokestatic hX.1.1 hX.1.2.2.2.1 (hts _ h1) hnamed hmethM hstatic hkP hinitP ⟨y5, y6⟩ (g := F0 m pc ls (As.reverse ++ st)) rfl (argsL := As) (rest := st) (zx_len hn y7 _ hsigM) rfl hd
    obtain ⟨v9, ⟨U', l2, c2, s2⟩, X', ⟨g', mk9, t, L, e1, e2, hq, g1, hL, g2, g3⟩, hsteps⟩ := hK m meth c ⟨T.setVm vm1, locs, a, b⟩ (F0 m pc ls st) (.invokestatic index) mk As.toArray X1 rfl (hl.1.trans hX.1.2.2.1.symm) hd (lv_room hst) (X1.named hnamed) ⟨hf.1, hf.2, ⟨rfl, by show T.heap.size = _; rw [hT], by show va_P G.1 vwCl (zW G I J) T.heap; rw [hT]; exact hP, va_K.moved X1.warmed.alike hX.2.2.1, zInj_of (hX.2.2.2.1 I J), zNst_warm X1.warmed hX.2.2.2.2.2.1⟩, hO.2.go (fun q hq hz => hF q hz) X1.warmed (fun q hq hn => by show T.heap[q]? = _; rw [hT]; exact hS.2.1 q hq hn)⟩
    dsimp only [Pt.U, Pt.locs, Pt.cells, Pt.slots] at X' e1 e2 g1 g2 g3 hsteps
    subst g1; subst g2; subst g3
    exact ⟨v9, (T.setVm vm1).calling g' mk9 As.toArray, t, U', L, hT, X', hL, e1, e2, hq, fun target h => hstep _ fun acts => by rw [doInvoke_state]; exact hsteps.trans h⟩
  refine va_calli hrun hS (fun q _ h => hF q h) hF (fun r u t H1 locs1 ht hvm hp hB hz hk hS1 => ?_)
  subst hp
  exact k ls H1 locs1 hl (ht ▸ hB) hS1
end XR
