/-! A call that throws, in the calculus. -/
section XC
variable {p : Program} {l : Launch} {e : Env} {R : Room} {s : State} {m : MethodId} {args : Array Value} {below : List Frame} {meth : Method} {c : Code} {U : State} {Ls : List Loc} {c0 s0 : Nat}
/-- a callee that ends by throwing: what lies behind it is the caller's frame with the throw upon it -/
theorem zx_call {S : Spec} {P : Array Value → State → Prop} {Q : Array Value → State → Outcome → State → Prop} {y : MethodName} {mk : MethodId} {maxL : Nat} {methY : Method} {cY : Code} (hM : MetFree l y S P (fun _ _ _ _ _ => True) Q)
    (X : Stand p l e R s m args below meth c U Ls c0 s0) {g : JFrame} (hg : g.method = m) (hsize : g.locals.size = c.maxLocals) {ig : Instr} {len : Nat} (hdg : decode c.code g.pc = .ok (ig, len)) (h8 : 2 * g.monitorRoom + (g.stack.map fun v => v.category).sum ≤ 8)
    {a : Array Value} (hn : U.methodNamed? y = some mk) (hmY : U.vm.method? mk = some methY) (hcY : methY.code = some cY) (hlY : cY.maxLocals = maxL) (hini : (Cond.initialized y.cls).before a U = true) (hpre : S.pre.before a U = true)
    (hfr : S.room.frames + 1 ≤ R.frames) (hlo : 8 + (maxL + 11) + S.room.locals ≤ R.locals) (hce : c0 + S.room.cells ≤ R.cells) (hsl : s0 + S.room.slots ≤ R.slots) (hP : P a (U.calling g mk a))
    (hQ : ∀ o t, Q a (U.calling g mk a) o t → ∃ q L k n, o = .threw q ∧ (U.calling g mk a).WarmedH t.vm ∧ (U.calling g mk a).sameButNew ({ t with vm := (U.calling g mk a).vm } : State) L k n) :
    ∃ (q : Nat) (t U2 : State), Q a (U.calling g mk a) (.threw q) t ∧ U2.heap = t.heap ∧ U2.vm = t.vm ∧ U.WarmedH U2.vm ∧ (∀ L k n, (U.calling g mk a).sameButNew ({ t with vm := (U.calling g mk a).vm } : State) L k n → Stand p l e R s m args below meth c U2 (Ls ++ L) (c0 + k) (s0 + n)) ∧
      ∀ acts, Steps p.tables e below (doInvoke e (U.setTop g) acts mk a).1 ((U2.setTop g).pushFrame (.throwing q)) := by
  subst hg
  have h : At U g.method c below := X.here
  obtain ⟨kY, hkY, -⟩ := className_of_methodNamed hn
  have hinitY : kY.init = .initialized := Cond.initialized_spec (findClass_of_methodNamed hn) hkY hini
  have happ : S.appliesLoose y e.platform (U.calling g mk a) = true :=
    Spec.appliesLoose_calling (g := g) h hdg hn hkY hinitY (X.room_calling (g := g) (R' := S.room) hsize hmY hcY hfr (by rw [hlY]; omega) hce hsl) hpre
  obtain ⟨mid, hmid⟩ := h.above
  have hf : (U.setTop g).frames = (.java g :: mid) ++ below := by rw [State.frames_setTop' g h.top, hmid]; rfl
  obtain ⟨o, t, hsteps, -, hend, hq⟩ := Steps.callFree hM p X.admits X.cas X.clock (acts := []) hf happ hP trivial
  have hq : Q a (U.calling g mk a) o t := hq
  obtain ⟨q, L0, k0, n0, ho, hW, hsb⟩ := hQ o t hq
  subst ho
  rw [State.frames_setTop' g h.top] at hend
  have hft : t.frames = .throwing q :: .java g :: U.frames.tail := hend
  have hWU : U.WarmedH t.vm := hW
  obtain ⟨g9, hg9⟩ := Option.isSome_iff_exists.mp h.top
  obtain ⟨r, hr⟩ := State.topJava?_eq_some.mp hg9
  let U2 : State := ({ U with heap := t.heap, slotsUsed := t.slotsUsed } : State).setVm t.vm
  have hr2 : U2.frames = .java g9 :: r := hr
  have ht : t = (U2.setTop g).pushFrame (.throwing q) := by
    have e1 : t = ({ (U.calling g mk a).setFrames t.frames with heap := t.heap, slotsUsed := t.slotsUsed } : State).setVm t.vm := by
      have e0 : t = ({ t with vm := (U.calling g mk a).vm } : State).setVm t.vm := rfl
      rw [hsb.1] at e0
      exact e0
    refine e1.trans ?_
    rw [hft, State.calling_eq h.top, State.setFrames_setFrames, State.pushFrame, State.frames_setTop _ hr2, State.setTop_of_frames _ hr2, State.setFrames_setFrames, hr]
    rfl
  refine ⟨q, t, U2, hq, rfl, rfl, hWU, fun L k n hs => ?_, fun acts => ?_⟩
  · have hsame : U.sameButNew ({ U with heap := t.heap, slotsUsed := t.slotsUsed } : State) L k n := by
      obtain ⟨q1, q2, q3, q4, q5, q6⟩ := hs
      refine ⟨?_, q2, q3, q4, q5, q6⟩
      obtain ⟨t9, ht9, -⟩ := State.frames_cons hr
      show ({ U with heap := t.heap, slotsUsed := t.slotsUsed } : State) = { U.setFrames U.frames with heap := t.heap, slotsUsed := t.slotsUsed }
      rw [State.setFrames_self ht9]
    exact { X with here := (X.here.setHeapUsed t.heap t.slotsUsed).setVm hWU.alike, tail := X.tail, warmed := State.WarmedH.trans X.warmed hWU, limits := X.limits, bytes := X.bytes, same := X.same.trans (hsame.setVm s.vm) }
  · rw [← ht, doInvoke_state]; exact hsteps
end XC
/-- a contract: called so, the method throws an E, and the world is as it was -/
def zXp (G : zG) (avs : List Value) (sz : Nat) (I : zI) (J : zJ) : Array Value → State → Prop := fun a U => zPc G avs sz I J a U ∧ zXo (zA G sz) U
def zXe (G : zG) (sz : Nat) (E : String) (I : zI) (J : zJ) (mc ms : Nat) : Array Value → State → Outcome → State → Prop := fun _ st o t => ∃ (q : Nat) (ce : Cell) (L : List Loc), o = .threw q ∧ t.heap[q]? = some ce ∧ ce.vm = .none ∧ st.vm.findClass E = some ce.cls ∧ va_P G.1 vwCl (zW G I J) t.heap ∧ va_F (zA G sz) st t ∧ st.WarmedH t.vm ∧ st.sameButNew ({ t with vm := st.vm } : State) L mc ms ∧ ∀ z ∈ L, zA G sz z.base
def zCx (la : Launch) (G : zG) (y : MethodName) (ws : List Cond) (rm : Room) (avs : List Value) (I : zI) (J : zJ) (E : String) : Prop := ∀ sz : Nat, MetFree la y (headSpec ws rm) (zXp G avs sz I J) (fun _ _ _ _ _ => True) (zXe G sz E I J rm.cells rm.slots)
/-- what a frame knows of throws; no handlers; how a throw out of it ends well; a throw at pc -/
def zOx (X : zX) : Prop := match X with
  | (_, la, _, _, s, _, _, _, _, _, _, A) => la.stackTraces = false ∧ zXo A s
def zNh (X : zX) : Prop := match X with
  | (_, _, _, _, _, _, _, _, _, c, _, _) => c.exceptionTable.isEmpty = true
def zEd (X : zX) (G : zG) (a b : Nat) (E : String) (I : zI) (J : zJ) : Prop := match X with
  | (_, _, _, _, s, _, _, below, _, _, Q, A) => ∀ (t : State) (q : Nat) (ce : Cell) (locs : List Loc), t.status = .running → Ended t below (.threw q) → s.WarmedH t.vm → s.sameButNew ({ t with vm := s.vm } : State) locs a b → va_S A s.heap t.heap locs → t.heap[q]? = some ce → ce.vm = .none → s.vm.findClass E = some ce.cls → va_P G.1 vwCl (zW G I J) t.heap → Q t
def Zx (X : zX) (G : zG) (nL a b pc : Nat) (l : List (Nat × Value)) (E : String) (I : zI) (J : zJ) : Prop := match X with
  | (p, la, e, R, s, m, args, below, meth, c, Q, A) => ∀ (ls : Array Slot) (st : List Value) (locs : List Loc) (q : Nat) (ce : Cell) (T : State), z_has ls nL l → va_P G.1 vwCl (zW G I J) T.heap → va_S A s.heap T.heap locs → T.heap[q]? = some ce → ce.vm = .none → s.vm.findClass E = some ce.cls → Stand p la e R s m args below meth c T locs a b → ∃ t, Steps p.tables e below ((T.setTop (F0 m pc ls st)).pushFrame (.throwing q)) t ∧ Q t
theorem zXp_blind {G : zG} {avs : List Value} {sz : Nat} {I : zI} {J : zJ} {a : Array Value} {U : State} {g : JFrame} {mk : MethodId} (h : zXp G avs sz I J a U) : zXp G avs sz I J a (U.calling g mk a) := ⟨zPc_blind a U g mk h.1, h.2.same rfl rfl⟩
section XZ
variable {X : zX} {G : zG} {cc cc2 : ByteArray} {nL nL2 a b pc n index : Nat} {own : String} {d rm2 : Room} {l : List (Nat × Value)} {st : List Value} {I : zI} {J : zJ} {E : String} {y : MethodName} {ret : Option FieldType}
theorem Zx_out (hX : zOk X G cc nL own d) (hN : zNh X) (hE : zEd X G a b E I J) : Zx X G nL a b pc l E I J := by
  obtain ⟨p, la, e, R, s, m, args, below, meth, c, Q, A⟩ := X
  intro ls st locs q ce T hl hP hS hq hv hc X
  have hlocks : meth.locks = false := hX.2.2.2.2.2.2
  have hempty : c.exceptionTable.toList = [] := by
    have h1 : c.exceptionTable.size = 0 := by simpa [Array.isEmpty] using (show c.exceptionTable.isEmpty = true from hN)
    exact List.eq_nil_of_length_eq_zero (by simpa using h1)
  obtain ⟨h1, h2, h3, h4, h5⟩ := X.leaveThrown q (g := F0 m pc ls st) rfl rfl rfl (by rw [hempty]; intro x h; cases h) hlocks
  exact ⟨_, h1, hE _ q ce locs h2 h3 h4 h5 hS hq hv hc hP⟩
theorem Z_throw {ik is ic : Nat} {text : String} (hX : zOk X G cc nL "ClockTree" d) (hO : zOx X) (hN : zNh X) (hE : zEd X G (a + 1) (b + 6) E I J)
    (hcls : Jvm.Bundle.fit E = true) (hat : ∀ w ∈ Jvm.Bundle.ownAtoms "ClockTree" ic E zEN, w ∈ TBL ∨ w ∈ zEX ∨ w ∈ zYX) (hk : Cond.classLink "ClockTree" ik E ∈ TBL) (hini : Cond.initialized E ∈ TBL) (hins : Cond.instantiable E 6 ∈ TBL) (hs : (is, text) ∈ zTX)
    (d0 : decode cc pc = .ok (.new ik, 3)) (d3 : decode cc (pc + 3) = .ok (.dup, 1)) (d4 : decode cc (pc + 4) = .ok (.ldc is, 2)) (d6 : decode cc (pc + 6) = .ok (.invokespecial ic, 3)) (d9 : decode cc (pc + 9) = .ok (.athrow, 1))
    (hR : 6 ≤ d.frames ∧ 98 ≤ d.locals) (hf : a + 1 ≤ d.cells ∧ b + 6 ≤ d.slots) (hst : (st.map fun v => v.category).sum ≤ 8) : Z X G nL a b pc l st I J := by
  obtain ⟨p, la, e, R, s, m, args, below, meth, c, Q, A⟩ := X
  intro ls H locs hl hP hS T hT X
  subst hT
  obtain ⟨sa, hsa⟩ := hO.2.2.1 _ hs
  have hd := hX.2.1
  subst hd
  have hb := hX.1.2.1
  subst hb
  obtain ⟨U, ce, h1, h2, h3, h4, h5, h6, h7, h8, h9⟩ := zx_throw X hX.1.1 hO.1 hX.2.2.2.2.2.2 (A := A) hX.1.2.2.2.1 hcls hX.1.2.2.2.2 hO.2.1 hat hO.2.2.2.2 hk hini hins hsa hS (pc := pc) (ls := ls) (rest := st) (hl.1.trans hX.1.2.2.1.symm) hN d0 d3 d4 d6 d9 hR.1 (by omega) hf.1 hf.2
  have hsz : T.heap.size ≤ U.heap.size := Nat.le_of_lt (Array.getElem?_eq_some_iff.mp h6).1
  have hS2 : va_S A s.heap U.heap locs := ⟨Nat.le_trans hS.1 hsz, fun q hq hn => by rw [h9 q (Nat.lt_of_lt_of_le hq hS.1)]; exact hS.2.1 q hq hn, hS.2.2⟩
  exact ⟨U, h1, hE U _ ce locs h2 h3 h4 h5 hS2 h6 h7 h8 (fun k q hk => (hP k q hk).kept (h9 q.1 (hP k q hk).lt))⟩
/-- behind the invoking instruction: the callee throws -/
theorem zx_go {avs : List Value} (hX : zOk X G cc nL own d) (hO : zOx X) (hM : zCx X.2.1 G y (Cond.code y cc2 nL2 ret :: TBL) rm2 avs I J E) (y3 : Cond.initialized y.cls ∈ TBL) (y4 : Cond.code y cc2 nL2 ret ∈ TBL) {ig : Instr} {len : Nat} (hd : decode cc pc = .ok (ig, len))
    (hR : rm2.frames + 1 ≤ d.frames ∧ 8 + (nL2 + 11) + rm2.locals ≤ d.locals) (hf : a + rm2.cells ≤ d.cells ∧ b + rm2.slots ≤ d.slots) (hst : (st.map fun v => v.category).sum ≤ 8) (k : Zx X G nL (a + rm2.cells) (b + rm2.slots) pc l E I J) : match X with
    | (p, la, e, R, s, m, args, below, meth, c, Q, A) => ∀ (ls : Array Slot) (locs : List Loc) (T : State) (mk : MethodId), z_has ls nL l → va_P G.1 vwCl (zW G I J) T.heap → va_S A s.heap T.heap locs → Stand p la e R s m args below meth c T locs a b → T.methodNamed? y = some mk →
      ∃ t, (∀ acts, Steps p.tables e below (doInvoke e (T.setTop (F0 m pc ls st)) acts mk avs.toArray).1 t) ∧ Q t := by
  obtain ⟨p, la, e, R, s, m, args, below, meth, c, Q, A⟩ := X
  intro ls locs T mk hl hP hS X hn
  have hD := hX.2.1
  subst hD
  have hb := hX.1.2.1
  subst hb
  have hW := X.warmed
  have hws : ∀ w ∈ Cond.code y cc2 nL2 ret :: TBL, w.before avs.toArray T = true := fun w hw => by
    have hw2 : w ∈ TBL := (List.mem_cons.mp hw).elim (fun e => e ▸ y4) id
    exact word_at hW (TBL_good w hw2) (hX.1.2.2.2.2 w hw2)
  obtain ⟨methY, cY, hmY, hcY, -, hlY, -, -, -, -⟩ := Cond.code_spec hn (hws _ List.mem_cons_self)
  have hF := zS_call hX.2.2.2.1 hX.2.2.2.2.1 hS I J
  have hpc : zXp G avs T.heap.size I J avs.toArray T := by
    refine ⟨⟨rfl, rfl, hP, va_K.moved hW.alike hX.2.2.1, zInj_of (hX.2.2.2.1 I J), zNst_warm hW hX.2.2.2.2.2.1⟩, hO.2.go (fun q hq hz => ?_) hW hS.2.1⟩
    exact hF q hz
  obtain ⟨q, t, U2, hq, e1, e2, hW2, hSt, hsteps⟩ := zx_call (hM T.heap.size) X (g := F0 m pc ls st) rfl (hl.1.trans hX.1.2.2.1.symm) hd (by
      show 2 * 0 + (st.map fun v => v.category).sum ≤ 8
      omega) hn hmY hcY hlY (hws _ (List.mem_cons_of_mem _ y3)) (atoms_intro fun w hw => hws w hw) hR.1 hR.2 hf.1 hf.2 (zXp_blind hpc) (by
    intro o t hq
    obtain ⟨q, ce, L, ho, -, -, -, -, -, hw, hs, -⟩ := hq
    exact ⟨q, L, _, _, ho, hw, hs⟩)
  obtain ⟨q9, ce, L, ho, hce, hv, hcl, hP2, hF2, hw, hs, hL⟩ := hq
  cases ho
  have X2 := hSt L _ _ hs
  have hS2 : va_S A s.heap U2.heap (locs ++ L) := by
    rw [e1]
    refine ⟨Nat.le_trans hS.1 hF2.1, fun q1 h1 h2 => ?_, fun z hz => ?_⟩
    · have h3 : ¬ zA G T.heap.size q1 := fun hz => h2 (hF q1 hz)
      rw [hF2.2 q1 (Nat.lt_of_lt_of_le h1 hS.1) h3]
      exact hS.2.1 q1 h1 h2
    · rcases List.mem_append.mp hz with h | h
      · exact hS.2.2 z h
      · exact hF _ (hL z h)
  have hcl2 : s.vm.findClass E = some ce.cls := by
    have h9 : T.vm.findClass E = some ce.cls := hcl
    rw [hW.alike.findClass] at h9
    exact h9
  obtain ⟨t2, a1, b1⟩ := k ls st (locs ++ L) q ce U2 hl (by rw [e1]; exact hP2) hS2 (by rw [e1]; exact hce) hv hcl2 X2
  exact ⟨t2, fun acts => (hsteps acts).trans a1, b1⟩
end XZ
