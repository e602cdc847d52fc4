/-! Exceptions: what a throw rests on, a call that throws, a frame that lets it pass, a frame that catches it. -/
abbrev zIA : String := "java/lang/IllegalArgumentException"
abbrev zIS : String := "java/lang/IllegalStateException"
abbrev zEN : List String := ["java/lang/RuntimeException", "java/lang/Exception"]
abbrev zEX : List Cond := [.laysStatic "java/lang/Throwable" "UNASSIGNED_STACK" "[Ljava/lang/StackTraceElement;", .laysStatic "java/lang/Throwable" "SUPPRESSED_SENTINEL" "Ljava/util/List;", .isRef (.static "java/lang/Throwable" "UNASSIGNED_STACK" "[Ljava/lang/StackTraceElement;"), .isRef (.static "java/lang/Throwable" "SUPPRESSED_SENTINEL" "Ljava/util/List;")]
/-- a word that reads one cell of statics, outside A: it holds wherever that cell is the same -/
def zS1 (A : Nat → Prop) (w : Cond) (U : State) : Prop := ∃ (a0 : Nat) (cell : Cell), ¬ A a0 ∧ U.heap[a0]? = some cell ∧ ∀ (V : State) (a : Array Value), U.vm.Alike V.vm → V.heap[a0]? = some cell → w.before a V = true
theorem zS1.go {A B : Nat → Prop} {w : Cond} {U V : State} (h : zS1 A w U) (hA : ∀ q, q < U.heap.size → B q → A q) (hvm : U.vm.Alike V.vm) (hk : ∀ q : Nat, q < U.heap.size → ¬ A q → V.heap[q]? = U.heap[q]?) : zS1 B w V := by
  obtain ⟨a0, cell, h1, h2, h3⟩ := h
  have hlt := (Array.getElem?_eq_some_iff.mp h2).1
  exact ⟨a0, cell, fun hb => h1 (hA a0 hlt hb), by rw [hk a0 hlt h1]; exact h2, fun V9 a hv hc => h3 V9 a (hvm.trans hv) hc⟩
theorem zS1.now {A : Nat → Prop} {w : Cond} {U : State} {a : Array Value} (h : zS1 A w U) : w.before a U = true := by
  obtain ⟨a0, cell, -, h2, h3⟩ := h
  exact h3 U a (Vm.Alike.refl U.vm) h2
theorem zS1_lays {C n d : String} {A : Nat → Prop} {s : State} {args : Array Value} (h : (Cond.laysStatic C n d).before args s = true) (hA : ∀ a : Nat, a < s.heap.size → ¬ A a) : zS1 A (.laysStatic C n d) s := by
  obtain ⟨c, k, i, f, a, cell, hc, hi, hst, ha, hcell, hs, hcls, hlt, hty⟩ := Cond.laysStatic_spec h
  refine ⟨a, cell, hA a (Array.getElem?_eq_some_iff.mp hcell).1, hcell, fun V a9 hv hV => ?_⟩
  obtain ⟨k', hi', he⟩ := State.fieldFound?_setVm hv hi
  have hi2 : V.fieldFound? C n d = some (c, k', i, f) := hi'
  have hc2 : V.vm.findClass C = some c := by rw [hv.findClass]; exact hc
  have ha2 : k'.statics = some a := by rw [he]; exact ha
  have ht2 : k'.staticTypes[f.slot]? = some f.type := by rw [he]; exact hty
  simp only [Cond.before, Cond.holds, Cond.value, hc2, hi2, ha2, Option.bind_some, hV, Option.map_some, hst, hs, hcls, ht2, hlt, beq_self_eq_true, decide_true, Bool.and_self]
theorem zS1_ref {C n d : String} {A : Nat → Prop} {s : State} {args : Array Value} (hl : (Cond.laysStatic C n d).before args s = true) (h : (Cond.isRef (.static C n d)).before args s = true) (hA : ∀ a : Nat, a < s.heap.size → ¬ A a) : zS1 A (.isRef (.static C n d)) s := by
  obtain ⟨c, k, i, f, a, cell, hc, hi, hst, ha, hcell, hs, hcls, hlt, hty⟩ := Cond.laysStatic_spec hl
  refine ⟨a, cell, hA a (Array.getElem?_eq_some_iff.mp hcell).1, hcell, fun V a9 hv hV => ?_⟩
  obtain ⟨k', hi', he⟩ := State.fieldFound?_setVm hv hi
  have hi2 : V.fieldFound? C n d = some (c, k', i, f) := hi'
  have ha2 : k'.statics = some a := by rw [he]; exact ha
  have e1 : (Term.static C n d).eval args s none [] s = cell.slots[f.slot]? := by
    simp only [Term.eval, State.fieldNamed?, hi, Option.bind_eq_bind, Option.bind_some, hst, beq_self_eq_true, if_true, Option.pure_def, ha, hcell, hs]
  have e2 : (Term.static C n d).eval a9 V none [] V = cell.slots[f.slot]? := by
    simp only [Term.eval, State.fieldNamed?, hi2, Option.bind_eq_bind, Option.bind_some, hst, beq_self_eq_true, if_true, Option.pure_def, ha2, hV, hs]
  simp only [Cond.before, Cond.holds, Cond.value, e1] at h
  simp only [Cond.before, Cond.holds, Cond.value, e2]
  exact h
abbrev zTX : List (Nat × String) := [(228, "not as the document says"), (67, "the element is there already"), (100, "a port has something, or there are 24 links"), (108, "the port has a link"), (192, "what is 0 to 4")]
/-- a word that holds wherever the tables are alike -/
def zAw (w : Cond) (U : State) : Prop := ∀ (V : State) (a : Array Value), U.vm.Alike V.vm → w.before a V = true
theorem zAw_cast {C D : String} {s : State} {args : Array Value} (h : (Cond.castable C D).before args s = true) : zAw (.castable C D) s := by
  intro V a hv
  obtain ⟨c3, c4, hc3, hc4, has⟩ := Cond.castable_spec h
  simp [Cond.before, Cond.holds, Cond.value, hv.findClass, hc3, hc4, hv.assignable, has]
theorem zAw_decl {x : MethodName} {s : State} {args : Array Value} (h : (Cond.declares x).before args s = true) : zAw (.declares x) s := by
  intro V a hv
  have e1 : V.methodNamed? x = s.methodNamed? x := by
    have q : (s.setVm V.vm).methodNamed? x = s.methodNamed? x := State.methodNamed?_setVm hv x
    exact q
  have e2 : V.vm.method? = s.vm.method? := by
    funext k
    exact hv.method? k
  simp only [Cond.before, Cond.holds, Cond.value] at h ⊢
  rw [e1, e2]
  exact h
theorem zAw.go {w : Cond} {U V : State} (h : zAw w U) (hv : U.vm.Alike V.vm) : zAw w V := fun V9 a h9 => h V9 a (hv.trans h9)
theorem zAw.now {w : Cond} {U : State} {a : Array Value} (h : zAw w U) : w.before a U = true := h U a (Vm.Alike.refl _)
abbrev zYX : List Cond := [.castable zIA zIA, .castable zIS zIS, .declares ⟨"java/lang/RuntimeException", "<init>", "(Ljava/lang/String;)V"⟩, .declares ⟨"java/lang/Exception", "<init>", "(Ljava/lang/String;)V"⟩, .declares ⟨"java/lang/Throwable", "<init>", "(Ljava/lang/String;)V"⟩]
/-- all that a throw rests on and that is no plain word of the tables -/
def zXo (A : Nat → Prop) (U : State) : Prop := (∀ w ∈ zEX, zS1 A w U) ∧ (∀ q ∈ zTX, ∃ a : Nat, vk_R "ClockTree" q.1 q.2 a U) ∧ va_Nc zIS zIA U ∧ ∀ w ∈ zYX, zAw w U
theorem zXo.go {A B : Nat → Prop} {U V : State} (h : zXo A U) (hA : ∀ q, q < U.heap.size → B q → A q) (hW : U.WarmedH V.vm) (hk : ∀ q : Nat, q < U.heap.size → ¬ A q → V.heap[q]? = U.heap[q]?) : zXo B V := by
  refine ⟨fun w hw => (h.1 w hw).go hA hW.alike hk, fun q hq => ?_, va_Nc.moved hW.alike h.2.2.1, fun w hw => (h.2.2.2 w hw).go hW.alike⟩
  obtain ⟨a, ha⟩ := h.2.1 q hq
  exact ⟨a, vk_R.warm hW ha⟩
theorem zXo.same {A : Nat → Prop} {U V : State} (h : zXo A U) (hv : V.vm = U.vm) (hh : V.heap = U.heap) : zXo A V := by
  have ha : U.vm.Alike V.vm := by rw [hv]; exact Vm.Alike.refl _
  refine ⟨fun w hw => (h.1 w hw).go (fun _ _ z => z) ha (fun q _ _ => by rw [hh]), fun q hq => ?_, va_Nc.moved ha h.2.2.1, fun w hw => (h.2.2.2 w hw).go ha⟩
  obtain ⟨a, ha⟩ := h.2.1 q hq
  exact ⟨a, vk_R.same hv ha⟩
section XS
variable {p : Program} {l : Launch} {e : Env} {R : Room} {s : State} {m : MethodId} {args : Array Value} {below : List Frame} {meth : Method} {c : Code} {T : State} {locs : List Loc} {cells slots : Nat}
/-- the frame as it stands, taken for a new beginning: nothing written yet, nothing made -/
theorem zx_anew (X : Stand p l e R s m args below meth c T locs cells slots) {k n : Nat} (hc : cells + k ≤ R.cells) (hs : slots + n ≤ R.slots) :
    Stand p l e ({ R with cells := k, slots := n } : Room) ((T.setFrames (.invoking m args :: below)).setVm s.vm) m args below meth c T [] 0 0 := by
  obtain ⟨g0, hfr⟩ := X.frames_eq
  have hcur : T.cur < T.threads.size := State.cur_lt_of_frames hfr
  have hF : ((T.setFrames (.invoking m args :: below)).setVm s.vm).frames = .invoking m args :: below := State.frames_setFrames _ hcur
  have hL : e.platform.stackLimits (T.setFrames (.invoking m args :: below)).me = e.platform.stackLimits T.me := State.stackLimits_setFrames ..
  have hB : (T.setFrames (.invoking m args :: below)).me.stackBytes = T.me.stackBytes := State.stackBytes_setFrames ..
  have hU : ((T.setFrames (.invoking m args :: below)).setVm s.vm).localsInUse = s.localsInUse := by
    rw [State.localsInUse_invoking hF X.method X.code, State.localsInUse_invoking X.frames X.method X.code]
  refine { admits := X.admits, cas := X.cas, clock := X.clock, frames := hF, room := ?_, hears := X.hears, method := X.method, code := X.code, here := X.here, tail := X.tail, warmed := X.warmed, limits := hL.symm, bytes := hB.symm, same := ?_ }
  · have h0 := X.room
    simp only [State.hasRoom, Bool.and_eq_true, decide_eq_true_eq] at h0 ⊢
    obtain ⟨⟨⟨⟨h1, h2⟩, h3⟩, h4⟩, h5⟩ := h0
    rw [X.frames] at h2
    have q1 := X.heapSize
    have q2 := X.used
    refine ⟨⟨⟨⟨?_, ?_⟩, ?_⟩, ?_⟩, X.book⟩
    · rw [hU]; exact h1
    · rw [hU, hF]
      show _ ∧ _ ≤ (e.platform.stackLimits (T.setFrames (.invoking m args :: below)).me).1 ∧ _ ∧ _ ≤ (e.platform.stackLimits (T.setFrames (.invoking m args :: below)).me).2 ∧ (T.setFrames (.invoking m args :: below)).me.stackBytes = 0
      rw [hL, hB, X.limits, X.bytes]
      exact h2
    · show T.heap.size + k ≤ e.platform.maxCells
      omega
    · show T.slotsUsed + n ≤ e.platform.maxSlots
      omega
  · have hd : T.heap.toList.drop T.heap.size = [] := List.drop_eq_nil_of_le (by simp)
    refine ⟨?_, Nat.le_refl _, Nat.le_refl _, ?_, ?_, fun a c9 h9 => ⟨c9, h9, rfl, rfl, fun _ _ => rfl⟩⟩
    · obtain ⟨t, ht, -⟩ := State.frames_cons hfr
      have e1 : (T.setFrames (.invoking m args :: below)).setFrames T.frames = T := by rw [State.setFrames_setFrames, State.setFrames_self ht]
      have e2 : T.setVm s.vm = ((T.setFrames (.invoking m args :: below)).setFrames T.frames).setVm s.vm := by rw [e1]
      exact e2
    · show T.slotsUsed = T.slotsUsed + ((T.heap.toList.drop T.heap.size).map (·.slots.size)).sum
      rw [hd]; rfl
    · show ((T.heap.toList.drop T.heap.size).map (·.slots.size)).sum ≤ 0
      rw [hd]; exact Nat.le_refl _
theorem zx_keep {s0 U : State} {k n : Nat} (h : s0.sameButNew U [] k n) : ∀ a : Nat, a < s0.heap.size → U.heap[a]? = s0.heap[a]? := by
  intro a ha
  obtain ⟨c1, hc1⟩ : ∃ c1, s0.heap[a]? = some c1 := ⟨_, Array.getElem?_eq_getElem ha⟩
  obtain ⟨c2, h2, h3, h4, h5⟩ := h.2.2.2.2.2 a c1 hc1
  rw [h2, hc1, h3]
  have e1 : c2.slots = c1.slots := Array.ext_getElem? (fun i => h5 i (by simp))
  rw [e1]
/-- throw new E("..") at pc: the frame ends with it; of what was there nothing changes -/
theorem zx_throw (X : Stand p l e R s m args below meth c T locs cells slots) (hexec : p.tables.exec = Jvm.exec) (hl : l.stackTraces = false) (hlocks : meth.locks = false) {cls text : String} {ik is ic sa : Nat} {A : Nat → Prop}
    (hown : s.vm.findClass "ClockTree" = some m.cls) (hcls : Jvm.Bundle.fit cls = true) (hts : ∀ w ∈ TBL, w.before args s = true) (hX : ∀ w ∈ zEX, zS1 A w s)
    (hat : ∀ w ∈ Jvm.Bundle.ownAtoms "ClockTree" ic cls zEN, w ∈ TBL ∨ w ∈ zEX ∨ w ∈ zYX) (hca : ∀ w ∈ zYX, zAw w s) (hk : Cond.classLink "ClockTree" ik cls ∈ TBL) (hini : Cond.initialized cls ∈ TBL) (hins : Cond.instantiable cls 6 ∈ TBL) (hs : vk_R "ClockTree" is text sa s) (hS : va_S A s.heap T.heap locs)
    {pc : Nat} {ls : Array Slot} {rest : List Value} (hsize : ls.size = c.maxLocals) (hout : c.exceptionTable.isEmpty = true)
    (d0 : decode c.code pc = .ok (.new ik, 3)) (d3 : decode c.code (pc + 3) = .ok (.dup, 1)) (d4 : decode c.code (pc + 4) = .ok (.ldc is, 2)) (d6 : decode c.code (pc + 6) = .ok (.invokespecial ic, 3)) (d9 : decode c.code (pc + 9) = .ok (.athrow, 1))
    (hf : 6 ≤ R.frames) (hlo : (rest.map fun v => v.category).sum + 90 ≤ R.locals) (hce : cells + 1 ≤ R.cells) (hsl : slots + 6 ≤ R.slots) :
    ∃ (U : State) (ce : Cell), Steps p.tables e below (T.setTop (F0 m pc ls rest)) U ∧ U.status = .running ∧ Ended U below (.threw T.heap.size) ∧ s.WarmedH U.vm ∧ s.sameButNew ({ U with vm := s.vm } : State) locs (cells + 1) (slots + 6) ∧
      U.heap[T.heap.size]? = some ce ∧ ce.vm = .none ∧ s.vm.findClass cls = some ce.cls ∧ ∀ a : Nat, a < T.heap.size → U.heap[a]? = T.heap[a]? := by
  have X0 := zx_anew X hce hsl
  generalize hs0 : (T.setFrames (.invoking m args :: below)).setVm s.vm = s0 at X0
  have hv0 : s0.vm = s.vm := by rw [← hs0]; rfl
  have hh0 : s0.heap = T.heap := by rw [← hs0]; rfl
  have hW0 : s.WarmedH s0.vm := by rw [hv0]; exact State.WarmedH.refl s
  have hw : ∀ w ∈ TBL, w.before args s0 = true := fun w h => word_at hW0 (TBL_good w h) (hts w h)
  have hx : ∀ w ∈ zEX, w.before args s0 = true := fun w h => ((hX w h).go (B := A) (fun _ _ z => z) hW0.alike (fun q h1 h2 => by rw [hh0]; exact hS.2.1 q h1 h2)).now
  have hown0 : s0.vm.findClass "ClockTree" = some m.cls := by rw [hv0]; exact hown
  have hs1 : vk_R "ClockTree" is text sa s0 := vk_R.same hv0 hs
  have hempty : c.exceptionTable.toList = [] := by
    have h1 : c.exceptionTable.size = 0 := by simpa [Array.isEmpty] using hout
    exact List.eq_nil_of_length_eq_zero (by simpa using h1)
  have htr : e.platform.stackTraces = false := by rw [X.admits.platform]; exact hl
  obtain ⟨vm1, cC, kC, hfc, hkc, hkind, hn, X1, st1⟩ := X0.newCold hexec hown0 (hw _ hk) (hw _ hins) (hw _ hini) (g := F0 m pc ls rest) rfl d0 (by simp) (by simp)
  have hsl1 : (Term.string "ClockTree" is).eval args s0 none [] s0 = some (.ref sa) := hs1.2
  have hsr1 : (Cond.stringRef "ClockTree" is text).before args s0 = true := hs1.1
  have st2 := X1.ldcString hexec hown0 hsr1 hsl1 (g := F0 m (pc + 4) ls (.ref T.heap.size :: .ref T.heap.size :: rest)) rfl d4
  obtain ⟨U, hst, hrun, hend, hWU, hsame, ce, hce1, hoc⟩ := X1.ctorThrowS hexec htr (own := "ClockTree") (cls := cls) (names := zEN) (ic := ic) hown0 hcls (by decide) (fun w h => (hat w h).elim (hw w) (fun h => h.elim (hx w) (fun h => ((hca w h).go hW0.alike).now))) (fun x h => by cases h)
    (a := T.heap.size) hfc hkc (by simp [State.pushCell, Jvm.freshCell]) (by rw [hh0]; exact Nat.le_refl _) (msg := .ref sa) rfl (g := F0 m (pc + 6) ls (.ref sa :: .ref T.heap.size :: .ref T.heap.size :: rest)) rfl hsize rfl rfl (rest := rest) rfl d6 d9 (by rw [hempty]; intro x h; cases h) (by show 2 + 3 < R.frames; omega) (by
      show 2 * 0 + _ + (13 * 3 + 42) ≤ R.locals
      simp only [List.map_cons, List.sum_cons]
      have e9 : (Value.ref T.heap.size).category = 1 := rfl
      omega) hlocks
  refine ⟨U, ce, ?_, hrun, hend, ?_, ?_, hce1, hoc.vm, ?_, ?_⟩
  · refine st1 _ ?_
    have e9 : (Value.ref T.heap.size).category = 1 := rfl
    have k9 := st2 _ hst
    generalize (T.setVm vm1).pushCell { cls := cC, slots := kC.instanceTypes.map defaultValue, vm := .none } = T1 at X1 k9 ⊢
    jvm_step X1.here [X1.here.top, hexec, d3, e9]
    exact k9
  · subst hs0; exact hWU
  · have h1 : (T.setVm s.vm).sameButNew ({ U with vm := s.vm } : State) [] 1 6 := by
      subst hs0
      refine ⟨?_, hsame.2⟩
      have h2 := hsame.1
      have e9 : ∀ fr : List Frame, ((T.setFrames (.invoking m args :: below)).setVm s.vm).setFrames fr = (T.setVm s.vm).setFrames fr := fun fr => by
        show ((T.setVm s.vm).setFrames (.invoking m args :: below)).setFrames fr = _
        rw [State.setFrames_setFrames]
      rw [e9] at h2
      exact h2
    have h3 := X.same.trans h1
    simpa using h3
  · rw [← hv0]; exact hoc.cls
  · intro a ha
    have h1 := zx_keep hsame a (by rw [hh0]; exact ha)
    rw [← hh0]; exact h1
end XS

set_option maxRecDepth 100000 in
theorem ow_IA : ∀ w ∈ Jvm.Bundle.ownAtoms "ClockTree" 194 zIA zEN, w ∈ TBL ∨ w ∈ zEX ∨ w ∈ zYX := List.forall_mem_cons.mpr ⟨Or.inl (tb0 (List.mem_of_getElem? (i := 9) rfl) rfl), List.forall_mem_cons.mpr ⟨Or.inl (tb1 (List.mem_of_getElem? (i := 220) rfl) rfl), List.forall_mem_cons.mpr ⟨Or.inl (tb1 (List.mem_of_getElem? (i := 229) rfl) rfl), List.forall_mem_cons.mpr ⟨Or.inl (tb1 (List.mem_of_getElem? (i := 232) rfl) rfl), List.forall_mem_cons.mpr ⟨Or.inl (tb1 (List.mem_of_getElem? (i := 235) rfl) rfl), List.forall_mem_cons.mpr ⟨Or.inl (tb1 (List.mem_of_getElem? (i := 237) rfl) rfl), List.forall_mem_cons.mpr ⟨Or.inl (tb1 (List.mem_of_getElem? (i := 221) rfl) rfl), List.forall_mem_cons.mpr ⟨Or.inl (tb1 (List.mem_of_getElem? (i := 222) rfl) rfl), List.forall_mem_cons.mpr ⟨Or.inl (tb0 (List.mem_of_getElem? (i := 22) rfl) rfl), List.forall_mem_cons.mpr ⟨Or.inl (tb0 (List.mem_of_getElem? (i := 23) rfl) rfl), List.forall_mem_cons.mpr ⟨Or.inl (tb1 (List.mem_of_getElem? (i := 223) rfl) rfl), List.forall_mem_cons.mpr ⟨Or.inl (tb1 (List.mem_of_getElem? (i := 228) rfl) rfl), List.forall_mem_cons.mpr ⟨Or.inl (tb1 (List.mem_of_getElem? (i := 233) rfl) rfl), List.forall_mem_cons.mpr ⟨Or.inl (tb2 (List.mem_of_getElem? (i := 13) rfl) rfl), List.forall_mem_cons.mpr ⟨Or.inl (tb1 (List.mem_of_getElem? (i := 210) rfl) rfl), List.forall_mem_cons.mpr ⟨Or.inl (tb2 (List.mem_of_getElem? (i := 14) rfl) rfl), List.forall_mem_cons.mpr ⟨Or.inl (tb1 (List.mem_of_getElem? (i := 212) rfl) rfl), List.forall_mem_cons.mpr ⟨Or.inl (tb2 (List.mem_of_getElem? (i := 15) rfl) rfl), List.forall_mem_cons.mpr ⟨Or.inl (tb1 (List.mem_of_getElem? (i := 214) rfl) rfl), List.forall_mem_cons.mpr ⟨Or.inl (tb1 (List.mem_of_getElem? (i := 224) rfl) rfl), List.forall_mem_cons.mpr ⟨Or.inr (Or.inl (List.mem_of_getElem? (i := 0) rfl)), List.forall_mem_cons.mpr ⟨Or.inl (tb1 (List.mem_of_getElem? (i := 226) rfl) rfl), List.forall_mem_cons.mpr ⟨Or.inr (Or.inl (List.mem_of_getElem? (i := 1) rfl)), List.forall_mem_cons.mpr ⟨Or.inl (tb1 (List.mem_of_getElem? (i := 216) rfl) rfl), List.forall_mem_cons.mpr ⟨Or.inl (tb2 (List.mem_of_getElem? (i := 9) rfl) rfl), List.forall_mem_cons.mpr ⟨Or.inl (tb2 (List.mem_of_getElem? (i := 10) rfl) rfl), List.forall_mem_cons.mpr ⟨Or.inl (tb2 (List.mem_of_getElem? (i := 12) rfl) rfl), List.forall_mem_cons.mpr ⟨Or.inl (tb1 (List.mem_of_getElem? (i := 216) rfl) rfl), List.forall_mem_cons.mpr ⟨Or.inl (tb2 (List.mem_of_getElem? (i := 0) rfl) rfl), List.forall_mem_cons.mpr ⟨Or.inl (tb2 (List.mem_of_getElem? (i := 1) rfl) rfl), List.forall_mem_cons.mpr ⟨Or.inl (tb2 (List.mem_of_getElem? (i := 2) rfl) rfl), List.forall_mem_cons.mpr ⟨Or.inl (tb2 (List.mem_of_getElem? (i := 3) rfl) rfl), List.forall_mem_cons.mpr ⟨Or.inr (Or.inr (List.mem_of_getElem? (i := 2) rfl)), List.forall_mem_cons.mpr ⟨Or.inl (tb2 (List.mem_of_getElem? (i := 3) rfl) rfl), List.forall_mem_cons.mpr ⟨Or.inl (tb2 (List.mem_of_getElem? (i := 4) rfl) rfl), List.forall_mem_cons.mpr ⟨Or.inl (tb2 (List.mem_of_getElem? (i := 5) rfl) rfl), List.forall_mem_cons.mpr ⟨Or.inl (tb2 (List.mem_of_getElem? (i := 6) rfl) rfl), List.forall_mem_cons.mpr ⟨Or.inr (Or.inr (List.mem_of_getElem? (i := 3) rfl)), List.forall_mem_cons.mpr ⟨Or.inl (tb2 (List.mem_of_getElem? (i := 6) rfl) rfl), List.forall_mem_cons.mpr ⟨Or.inl (tb2 (List.mem_of_getElem? (i := 7) rfl) rfl), List.forall_mem_cons.mpr ⟨Or.inl (tb2 (List.mem_of_getElem? (i := 8) rfl) rfl), List.forall_mem_cons.mpr ⟨Or.inl (tb2 (List.mem_of_getElem? (i := 9) rfl) rfl), List.forall_mem_cons.mpr ⟨Or.inr (Or.inr (List.mem_of_getElem? (i := 4) rfl)), List.forall_mem_cons.mpr ⟨Or.inl (tb1 (List.mem_of_getElem? (i := 239) rfl) rfl), List.forall_mem_cons.mpr ⟨Or.inl (tb1 (List.mem_of_getElem? (i := 199) rfl) rfl), List.forall_mem_cons.mpr ⟨Or.inr (Or.inr (List.mem_of_getElem? (i := 0) rfl)), List.forall_mem_cons.mpr ⟨Or.inl (tb1 (List.mem_of_getElem? (i := 207) rfl) rfl), List.forall_mem_cons.mpr ⟨Or.inl (tb1 (List.mem_of_getElem? (i := 208) rfl) rfl), List.forall_mem_cons.mpr ⟨Or.inl (tb1 (List.mem_of_getElem? (i := 209) rfl) rfl), List.forall_mem_cons.mpr ⟨Or.inl (tb1 (List.mem_of_getElem? (i := 211) rfl) rfl), List.forall_mem_cons.mpr ⟨Or.inl (tb1 (List.mem_of_getElem? (i := 213) rfl) rfl), List.forall_mem_cons.mpr ⟨Or.inl (tb1 (List.mem_of_getElem? (i := 215) rfl) rfl), List.forall_mem_cons.mpr ⟨Or.inr (Or.inl (List.mem_of_getElem? (i := 2) rfl)), List.forall_mem_cons.mpr ⟨Or.inr (Or.inl (List.mem_of_getElem? (i := 3) rfl)), List.forall_mem_cons.mpr ⟨Or.inl (tb1 (List.mem_of_getElem? (i := 219) rfl) rfl), List.forall_mem_cons.mpr ⟨Or.inl (tb1 (List.mem_of_getElem? (i := 218) rfl) rfl), List.forall_mem_cons.mpr ⟨Or.inl (tb1 (List.mem_of_getElem? (i := 217) rfl) rfl), fun _ h => absurd h List.not_mem_nil⟩⟩⟩⟩⟩⟩⟩⟩⟩⟩⟩⟩⟩⟩⟩⟩⟩⟩⟩⟩⟩⟩⟩⟩⟩⟩⟩⟩⟩⟩⟩⟩⟩⟩⟩⟩⟩⟩⟩⟩⟩⟩⟩⟩⟩⟩⟩⟩⟩⟩⟩⟩⟩⟩⟩⟩⟩
set_option maxRecDepth 100000 in
theorem ow_IS : ∀ w ∈ Jvm.Bundle.ownAtoms "ClockTree" 69 zIS zEN, w ∈ TBL ∨ w ∈ zEX ∨ w ∈ zYX := List.forall_mem_cons.mpr ⟨Or.inl (tb0 (List.mem_of_getElem? (i := 9) rfl) rfl), List.forall_mem_cons.mpr ⟨Or.inl (tb1 (List.mem_of_getElem? (i := 220) rfl) rfl), List.forall_mem_cons.mpr ⟨Or.inl (tb1 (List.mem_of_getElem? (i := 229) rfl) rfl), List.forall_mem_cons.mpr ⟨Or.inl (tb1 (List.mem_of_getElem? (i := 232) rfl) rfl), List.forall_mem_cons.mpr ⟨Or.inl (tb1 (List.mem_of_getElem? (i := 235) rfl) rfl), List.forall_mem_cons.mpr ⟨Or.inl (tb1 (List.mem_of_getElem? (i := 237) rfl) rfl), List.forall_mem_cons.mpr ⟨Or.inl (tb1 (List.mem_of_getElem? (i := 221) rfl) rfl), List.forall_mem_cons.mpr ⟨Or.inl (tb1 (List.mem_of_getElem? (i := 222) rfl) rfl), List.forall_mem_cons.mpr ⟨Or.inl (tb0 (List.mem_of_getElem? (i := 22) rfl) rfl), List.forall_mem_cons.mpr ⟨Or.inl (tb0 (List.mem_of_getElem? (i := 23) rfl) rfl), List.forall_mem_cons.mpr ⟨Or.inl (tb1 (List.mem_of_getElem? (i := 223) rfl) rfl), List.forall_mem_cons.mpr ⟨Or.inl (tb1 (List.mem_of_getElem? (i := 228) rfl) rfl), List.forall_mem_cons.mpr ⟨Or.inl (tb1 (List.mem_of_getElem? (i := 233) rfl) rfl), List.forall_mem_cons.mpr ⟨Or.inl (tb2 (List.mem_of_getElem? (i := 13) rfl) rfl), List.forall_mem_cons.mpr ⟨Or.inl (tb1 (List.mem_of_getElem? (i := 210) rfl) rfl), List.forall_mem_cons.mpr ⟨Or.inl (tb2 (List.mem_of_getElem? (i := 14) rfl) rfl), List.forall_mem_cons.mpr ⟨Or.inl (tb1 (List.mem_of_getElem? (i := 212) rfl) rfl), List.forall_mem_cons.mpr ⟨Or.inl (tb2 (List.mem_of_getElem? (i := 15) rfl) rfl), List.forall_mem_cons.mpr ⟨Or.inl (tb1 (List.mem_of_getElem? (i := 214) rfl) rfl), List.forall_mem_cons.mpr ⟨Or.inl (tb1 (List.mem_of_getElem? (i := 224) rfl) rfl), List.forall_mem_cons.mpr ⟨Or.inr (Or.inl (List.mem_of_getElem? (i := 0) rfl)), List.forall_mem_cons.mpr ⟨Or.inl (tb1 (List.mem_of_getElem? (i := 226) rfl) rfl), List.forall_mem_cons.mpr ⟨Or.inr (Or.inl (List.mem_of_getElem? (i := 1) rfl)), List.forall_mem_cons.mpr ⟨Or.inl (tb1 (List.mem_of_getElem? (i := 216) rfl) rfl), List.forall_mem_cons.mpr ⟨Or.inl (tb2 (List.mem_of_getElem? (i := 9) rfl) rfl), List.forall_mem_cons.mpr ⟨Or.inl (tb2 (List.mem_of_getElem? (i := 10) rfl) rfl), List.forall_mem_cons.mpr ⟨Or.inl (tb2 (List.mem_of_getElem? (i := 12) rfl) rfl), List.forall_mem_cons.mpr ⟨Or.inl (tb1 (List.mem_of_getElem? (i := 216) rfl) rfl), List.forall_mem_cons.mpr ⟨Or.inl (tb2 (List.mem_of_getElem? (i := 36) rfl) rfl), List.forall_mem_cons.mpr ⟨Or.inl (tb2 (List.mem_of_getElem? (i := 37) rfl) rfl), List.forall_mem_cons.mpr ⟨Or.inl (tb2 (List.mem_of_getElem? (i := 38) rfl) rfl), List.forall_mem_cons.mpr ⟨Or.inl (tb2 (List.mem_of_getElem? (i := 3) rfl) rfl), List.forall_mem_cons.mpr ⟨Or.inr (Or.inr (List.mem_of_getElem? (i := 2) rfl)), List.forall_mem_cons.mpr ⟨Or.inl (tb2 (List.mem_of_getElem? (i := 3) rfl) rfl), List.forall_mem_cons.mpr ⟨Or.inl (tb2 (List.mem_of_getElem? (i := 4) rfl) rfl), List.forall_mem_cons.mpr ⟨Or.inl (tb2 (List.mem_of_getElem? (i := 5) rfl) rfl), List.forall_mem_cons.mpr ⟨Or.inl (tb2 (List.mem_of_getElem? (i := 6) rfl) rfl), List.forall_mem_cons.mpr ⟨Or.inr (Or.inr (List.mem_of_getElem? (i := 3) rfl)), List.forall_mem_cons.mpr ⟨Or.inl (tb2 (List.mem_of_getElem? (i := 6) rfl) rfl), List.forall_mem_cons.mpr ⟨Or.inl (tb2 (List.mem_of_getElem? (i := 7) rfl) rfl), List.forall_mem_cons.mpr ⟨Or.inl (tb2 (List.mem_of_getElem? (i := 8) rfl) rfl), List.forall_mem_cons.mpr ⟨Or.inl (tb2 (List.mem_of_getElem? (i := 9) rfl) rfl), List.forall_mem_cons.mpr ⟨Or.inr (Or.inr (List.mem_of_getElem? (i := 4) rfl)), List.forall_mem_cons.mpr ⟨Or.inl (tb2 (List.mem_of_getElem? (i := 35) rfl) rfl), List.forall_mem_cons.mpr ⟨Or.inl (tb2 (List.mem_of_getElem? (i := 26) rfl) rfl), List.forall_mem_cons.mpr ⟨Or.inr (Or.inr (List.mem_of_getElem? (i := 1) rfl)), List.forall_mem_cons.mpr ⟨Or.inl (tb2 (List.mem_of_getElem? (i := 28) rfl) rfl), List.forall_mem_cons.mpr ⟨Or.inl (tb1 (List.mem_of_getElem? (i := 231) rfl) rfl), List.forall_mem_cons.mpr ⟨Or.inl (tb2 (List.mem_of_getElem? (i := 29) rfl) rfl), List.forall_mem_cons.mpr ⟨Or.inl (tb2 (List.mem_of_getElem? (i := 30) rfl) rfl), List.forall_mem_cons.mpr ⟨Or.inl (tb2 (List.mem_of_getElem? (i := 31) rfl) rfl), List.forall_mem_cons.mpr ⟨Or.inl (tb2 (List.mem_of_getElem? (i := 32) rfl) rfl), List.forall_mem_cons.mpr ⟨Or.inr (Or.inl (List.mem_of_getElem? (i := 2) rfl)), List.forall_mem_cons.mpr ⟨Or.inr (Or.inl (List.mem_of_getElem? (i := 3) rfl)), List.forall_mem_cons.mpr ⟨Or.inl (tb1 (List.mem_of_getElem? (i := 219) rfl) rfl), List.forall_mem_cons.mpr ⟨Or.inl (tb1 (List.mem_of_getElem? (i := 218) rfl) rfl), List.forall_mem_cons.mpr ⟨Or.inl (tb2 (List.mem_of_getElem? (i := 33) rfl) rfl), fun _ h => absurd h List.not_mem_nil⟩⟩⟩⟩⟩⟩⟩⟩⟩⟩⟩⟩⟩⟩⟩⟩⟩⟩⟩⟩⟩⟩⟩⟩⟩⟩⟩⟩⟩⟩⟩⟩⟩⟩⟩⟩⟩⟩⟩⟩⟩⟩⟩⟩⟩⟩⟩⟩⟩⟩⟩⟩⟩⟩⟩⟩⟩
theorem in_IA : Cond.initialized zIA ∈ TBL := tb0 (List.mem_of_getElem? (i := 12) rfl) rfl
theorem in_IS : Cond.initialized zIS ∈ TBL := tb0 (List.mem_of_getElem? (i := 13) rfl) rfl
theorem is_IA : Cond.instantiable zIA 6 ∈ TBL := tb1 (List.mem_of_getElem? (i := 199) rfl) rfl
theorem is_IS : Cond.instantiable zIS 6 ∈ TBL := tb2 (List.mem_of_getElem? (i := 26) rfl) rfl
theorem kl_IA : Cond.classLink "ClockTree" 190 zIA ∈ TBL := tb1 (List.mem_of_getElem? (i := 198) rfl) rfl
theorem kl_IS : Cond.classLink "ClockTree" 65 zIS ∈ TBL := tb2 (List.mem_of_getElem? (i := 25) rfl) rfl
theorem ll_IA : Cond.classLink "ClockTreeLaw" 13 zIA ∈ TBL := tb1 (List.mem_of_getElem? (i := 188) rfl) rfl
theorem ll_IS : Cond.classLink "ClockTreeLaw" 15 zIS ∈ TBL := tb1 (List.mem_of_getElem? (i := 189) rfl) rfl
