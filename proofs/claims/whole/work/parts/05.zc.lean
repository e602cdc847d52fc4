def zA (G : zG) (sz : Nat) : Nat → Prop := fun q => (∃ c : Nat, c < lay0.length ∧ q = zad G c) ∨ sz ≤ q
def zInj (G : zG) : Prop := ∀ c c' : Nat, c < lay0.length → c' < lay0.length → zad G c = zad G c' → c = c'
theorem zW_len (G : zG) (I : zI) (J : zJ) : (zW G I J).length = lay0.length := by simp only [zW, List.length_mapIdx]
theorem zW_ad {G : zG} {I : zI} {J : zJ} {k : Nat} {q : Nat × va_E} (h : (zW G I J)[k]? = some q) : k < lay0.length ∧ q.1 = zad G k := by
  have hk := (List.getElem?_eq_some_iff.mp h).1
  rw [zW_len] at hk
  rw [zW_at (List.getElem?_eq_getElem hk)] at h
  cases h
  exact ⟨hk, rfl⟩
theorem zD_of {G : zG} (h : zInj G) {A : Nat → Prop} (hA : ∀ c : Nat, c < lay0.length → A (zad G c)) (I : zI) (J : zJ) : va_D A (zW G I J) := by
  refine ⟨fun i j p q hi hj hpq => ?_, fun k q hk => ?_⟩
  · obtain ⟨h1, e1⟩ := zW_ad hi
    obtain ⟨h2, e2⟩ := zW_ad hj
    exact h i j h1 h2 (by rw [← e1, ← e2]; exact hpq)
  · obtain ⟨h1, e1⟩ := zW_ad hk
    rw [e1]
    exact hA k h1
theorem zInj_of {G : zG} {A : Nat → Prop} {I : zI} {J : zJ} (h : va_D A (zW G I J)) : zInj G := by
  intro c c' hc hc' he
  exact h.1 c c' _ _ (zW_at (List.getElem?_eq_getElem hc)) (zW_at (List.getElem?_eq_getElem hc')) he
theorem zA_of {G : zG} {A : Nat → Prop} {I : zI} {J : zJ} (h : va_D A (zW G I J)) {c : Nat} (hc : c < lay0.length) : A (zad G c) := h.2 c _ (zW_at (List.getElem?_eq_getElem hc))
def zPc (G : zG) (avs : List Value) (sz : Nat) (I : zI) (J : zJ) : Array Value → State → Prop := va_Pc avs (fun U => U.heap.size = sz ∧ va_P G.1 vwCl (zW G I J) U.heap ∧ va_K G.1 vwCl (ztys G) U ∧ zInj G ∧ zNst U)
def zCi (la : Launch) (G : zG) (y : MethodName) (ws : List Cond) (rm : Room) (avs : List Value) (I : zI) (J : zJ) (v : Int32) (I1 : zI) (J1 : zJ) : Prop := ∀ sz : Nat, Met la y ws rm (zPc G avs sz I J) (va_Qi (fun r (_ : Unit) => r = v) (fun _ t => va_P G.1 vwCl (zW G I1 J1) t.heap) (zA G sz)) rm.cells rm.slots (zA G sz)
def zCl (la : Launch) (G : zG) (y : MethodName) (ws : List Cond) (rm : Room) (avs : List Value) (I : zI) (J : zJ) (v : Int64) (I1 : zI) (J1 : zJ) : Prop := ∀ sz : Nat, Met la y ws rm (zPc G avs sz I J) (va_Ql (fun r (_ : Unit) => r = v) (fun _ t => va_P G.1 vwCl (zW G I1 J1) t.heap) (zA G sz)) rm.cells rm.slots (zA G sz)
def zCv (la : Launch) (G : zG) (y : MethodName) (ws : List Cond) (rm : Room) (avs : List Value) (I : zI) (J : zJ) (I1 : zI) (J1 : zJ) : Prop := ∀ sz : Nat, Met la y ws rm (zPc G avs sz I J) (va_Qv (fun (_ : Unit) => True) (fun _ t => va_P G.1 vwCl (zW G I1 J1) t.heap) (zA G sz)) rm.cells rm.slots (zA G sz)
theorem zNst_warm {s U : State} (hW : s.WarmedH U.vm) (h : zNst s) : zNst U := by
  intro w hw
  have h1 := h w hw
  obtain ⟨a, i, x, hh, e1⟩ := NEST_is w hw
  subst e1
  exact va_Nw.warmM hW h1
theorem zNst_calling {U : State} {g : JFrame} {mk : MethodId} {a : Array Value} (h : zNst U) : zNst (U.calling g mk a) := by
  intro w hw
  have h1 := h w hw
  obtain ⟨a9, i, x, hh, e1⟩ := NEST_is w hw
  subst e1
  exact va_Nw.same rfl rfl h1
theorem zPc_blind {G : zG} {avs : List Value} {sz : Nat} {I : zI} {J : zJ} : FrameBlind (zPc G avs sz I J) := by
  intro a U g mk q
  obtain ⟨q0, q1, qP, qK, qI, qN⟩ := q
  exact ⟨q0, q1, qP, va_K.moved (u := U) (U := U.calling g mk a) (Vm.Alike.refl U.vm) qK, qI, zNst_calling qN⟩

theorem zCi_of {la : Launch} {G : zG} {y : MethodName} {cc : ByteArray} {nL : Nat} {ty : FieldType} {rm : Room} {avs : List Value} {I I1 : zI} {J J1 : zJ} {v : Int32} (hy : plainName y.cls = true) (hlen : (lg_sl avs).length ≤ nL) (hn : narrow ty (.int v) = .int v) 
    (body : ∀ X : zX, X.2.1 = la → zOk X G cc nL y.cls rm → (∀ (pc : Nat) (l : List (Nat × Value)), decode cc pc = .ok (.ireturn, 1) → Z X G nL rm.cells rm.slots pc l [.int v] I1 J1) → Z X G nL 0 0 0 (lv_args 0 avs) [] I J) : zCi la G y (Cond.code y cc nL (some ty) :: TBL) rm avs I J v I1 J1 := by
  intro sz
  refine Met.ofW (cc := cc) (maxL := nL) (ret := (some ty)) hy rfl ?_
  intro p e s m args below meth c s₁ B hml hv
  obtain ⟨rfl, hsz, hP, hK, hI, hN⟩ := hv
  subst hsz
  have hts := atoms_spec (ws := Cond.code y cc nL (some ty) :: TBL) B.pre
  have hl := lv_entry avs hlen
  rw [lg_entry_eq]
  refine body (p, la, e, rm, s, m, avs.toArray, below, meth, c, _, zA G s.heap.size) rfl ⟨⟨B.exec, B.bytes, hml, findClass_of_methodNamed B.named, fun w hw => hts w (List.mem_cons_of_mem _ hw)⟩, rfl, hK, fun I J => zD_of hI (fun c hc => Or.inl ⟨c, hc, rfl⟩) I J, fun q h => Or.inr h, hN, B.notSynchronized⟩ (fun pc l hd => ?_) _ s.heap [] (z_has.of hl) hP va_S.rf
  intro ls H locs hl hP1 hS
  exact W.zret B.exec B.bytes B.returns hn (fun t ht hW => ⟨⟨v, (), rfl, rfl, by show va_P G.1 vwCl (zW G I1 J1) t.heap; rw [ht]; exact hP1⟩, hS.F ht⟩) hS.2.2 hd B.notSynchronized
theorem zCl_of {la : Launch} {G : zG} {y : MethodName} {cc : ByteArray} {nL : Nat} {rm : Room} {avs : List Value} {I I1 : zI} {J J1 : zJ} {v : Int64} (hy : plainName y.cls = true) (hlen : (lg_sl avs).length ≤ nL) 
    (body : ∀ X : zX, X.2.1 = la → zOk X G cc nL y.cls rm → (∀ (pc : Nat) (l : List (Nat × Value)), decode cc pc = .ok (.lreturn, 1) → Z X G nL rm.cells rm.slots pc l [.long v] I1 J1) → Z X G nL 0 0 0 (lv_args 0 avs) [] I J) : zCl la G y (Cond.code y cc nL (some .long) :: TBL) rm avs I J v I1 J1 := by
  intro sz
  refine Met.ofW (cc := cc) (maxL := nL) (ret := (some .long)) hy rfl ?_
  intro p e s m args below meth c s₁ B hml hv
  obtain ⟨rfl, hsz, hP, hK, hI, hN⟩ := hv
  subst hsz
  have hts := atoms_spec (ws := Cond.code y cc nL (some .long) :: TBL) B.pre
  have hl := lv_entry avs hlen
  rw [lg_entry_eq]
  refine body (p, la, e, rm, s, m, avs.toArray, below, meth, c, _, zA G s.heap.size) rfl ⟨⟨B.exec, B.bytes, hml, findClass_of_methodNamed B.named, fun w hw => hts w (List.mem_cons_of_mem _ hw)⟩, rfl, hK, fun I J => zD_of hI (fun c hc => Or.inl ⟨c, hc, rfl⟩) I J, fun q h => Or.inr h, hN, B.notSynchronized⟩ (fun pc l hd => ?_) _ s.heap [] (z_has.of hl) hP va_S.rf
  intro ls H locs hl hP1 hS
  exact W.lret B.exec B.bytes B.returns (fun t ht hW => ⟨⟨v, (), rfl, rfl, by show va_P G.1 vwCl (zW G I1 J1) t.heap; rw [ht]; exact hP1⟩, hS.F ht⟩) hS.2.2 hd B.notSynchronized
theorem zCv_of {la : Launch} {G : zG} {y : MethodName} {cc : ByteArray} {nL : Nat} {rm : Room} {avs : List Value} {I I1 : zI} {J J1 : zJ} (hy : plainName y.cls = true) (hlen : (lg_sl avs).length ≤ nL) 
    (body : ∀ X : zX, X.2.1 = la → zOk X G cc nL y.cls rm → (∀ (pc : Nat) (l : List (Nat × Value)), decode cc pc = .ok (.return_, 1) → Z X G nL rm.cells rm.slots pc l [] I1 J1) → Z X G nL 0 0 0 (lv_args 0 avs) [] I J) : zCv la G y (Cond.code y cc nL none :: TBL) rm avs I J I1 J1 := by
  intro sz
  refine Met.ofW (cc := cc) (maxL := nL) (ret := none) hy rfl ?_
  intro p e s m args below meth c s₁ B hml hv
  obtain ⟨rfl, hsz, hP, hK, hI, hN⟩ := hv
  subst hsz
  have hts := atoms_spec (ws := Cond.code y cc nL none :: TBL) B.pre
  have hl := lv_entry avs hlen
  rw [lg_entry_eq]
  refine body (p, la, e, rm, s, m, avs.toArray, below, meth, c, _, zA G s.heap.size) rfl ⟨⟨B.exec, B.bytes, hml, findClass_of_methodNamed B.named, fun w hw => hts w (List.mem_cons_of_mem _ hw)⟩, rfl, hK, fun I J => zD_of hI (fun c hc => Or.inl ⟨c, hc, rfl⟩) I J, fun q h => Or.inr h, hN, B.notSynchronized⟩ (fun pc l hd => ?_) _ s.heap [] (z_has.of hl) hP va_S.rf
  intro ls H locs hl hP1 hS
  exact W.vret B.exec B.bytes B.returns (fun t ht hW => ⟨⟨(), rfl, trivial, by show va_P G.1 vwCl (zW G I1 J1) t.heap; rw [ht]; exact hP1⟩, hS.F ht⟩) hS.2.2 hd B.notSynchronized
/-- a method that may be called: its words -/
def zMV (y : MethodName) (cc : ByteArray) (nL : Nat) (ret : Option FieldType) (n : Nat) : Prop := Cond.instanceMethod y ∈ TBL ∧ Cond.selects y.cls y y ∈ TBL ∧ Cond.initialized y.cls ∈ TBL ∧ Cond.code y cc nL ret ∈ TBL ∧ y.cls ≠ "java/lang/invoke/MethodHandle" ∧ y.cls ≠ "java/lang/invoke/VarHandle" ∧ (parseMethodDescriptor y.desc).map (fun d => d.parameters.length) = some n
def zMS (y : MethodName) (cc : ByteArray) (nL : Nat) (ret : Option FieldType) (n : Nat) : Prop := Cond.static y ∈ TBL ∧ Cond.initialized y.cls ∈ TBL ∧ Cond.code y cc nL ret ∈ TBL ∧ y.cls ≠ "java/lang/invoke/MethodHandle" ∧ y.cls ≠ "java/lang/invoke/VarHandle" ∧ (parseMethodDescriptor y.desc).map (fun d => d.parameters.length) = some n
theorem zGood {y : MethodName} {cc : ByteArray} {nL : Nat} {ret : Option FieldType} (h : Cond.code y cc nL ret ∈ TBL) : GoodIn TBL (Cond.code y cc nL ret :: TBL) := by
  intro w hw
  rcases List.mem_cons.mp hw with rfl | h1
  · exact ⟨h, TBL_good _ h⟩
  · exact ⟨h1, TBL_good _ h1⟩
section ZC
variable {X : zX} {G : zG} {cc cc2 : ByteArray} {nL nL2 a b pc index n : Nat} {own : String} {d rm2 : Room} {l : List (Nat × Value)} {st : List Value} {I I1 : zI} {J J1 : zJ} {y : MethodName} {ret : Option FieldType}
theorem zS_call {A : Nat → Prop} {G : zG} {H0 H : Heap} {locs : List Loc} (hD : ∀ (I : zI) (J : zJ), va_D A (zW G I J)) (hA : ∀ q : Nat, H0.size ≤ q → A q) (hS : va_S A H0 H locs) (I : zI) (J : zJ) : ∀ q, zA G H.size q → A q := by
  intro q h
  rcases h with ⟨c, hc, rfl⟩ | h
  · exact zA_of (hD I J) hc
  · exact hA q (Nat.le_trans hS.1 h)

theorem Z_cVi {c0 ci N : Nat} {T : u_T} {ds : List (Option (Option Nat))} {As : List Value} {v : Int32} (hX : zOk X G cc nL own d) (hd : decode cc pc = .ok (.invokevirtual index, 3)) (hM : zCi X.2.1 G y (Cond.code y cc2 nL2 ret :: TBL) rm2 (.ref (zad G c0) :: As) I J v I1 J1) (hy : zMV y cc2 nL2 ret n) (hn : As.length = n) (hL : lay0[c0]? = some (.inr (.inr (ci, ds)))) (hc : vwCl[ci]? = some (y.cls, T, N)) (h1 : Cond.methodLink own index y ∈ TBL) (hR : rm2.frames + 1 ≤ d.frames ∧ 8 + (nL2 + 11) + rm2.locals ≤ d.locals) (hf : a + rm2.cells ≤ d.cells ∧ b + rm2.slots ≤ d.slots) (hst : (st.map fun v => v.category).sum ≤ 8) (k : Z X G nL (a + rm2.cells) (b + rm2.slots) (pc + 3) l (.int v :: st) I1 J1) : Z X G nL a b pc l (As.reverse ++ .ref (zad G c0) :: st) I J := by
  obtain ⟨p, la, e, R, s, m, args, below, meth, c, Q, A⟩ := X
  intro ls H locs hl hP hS
  obtain ⟨y1, y2, y3, y4, y5, y6, y7⟩ := hy
  have hts := hX.1.2.2.2.2
  have hG := zGood y4
  have hT : GoodIn TBL (wsV own index y.cls y (Cond.code y cc2 nL2 ret :: TBL)) := by
    intro w hw
    unfold wsV at hw
    rcases List.mem_append.mp hw with h | h
    · simp only [List.mem_cons, List.not_mem_nil, or_false] at h
      rcases h with rfl | rfl | rfl | rfl
      · exact ⟨h1, TBL_good _ h1⟩
      · exact ⟨y1, TBL_good _ y1⟩
      · exact ⟨y2, TBL_good _ y2⟩
      · exact ⟨y3, TBL_good _ y3⟩
    · exact hG w h
  have hF := zS_call hX.2.2.2.1 hX.2.2.2.2.1 hS I J
  refine va_calli (va_runV (C := y.cls) (n := n) (As := As) (rest := st) hX.1 (hM H.size) (cwV n hts hT rfl rfl rfl ⟨rfl, y5, y6, y7⟩ (by rw [hX.2.1]; exact hR)) ⟨zPc_blind, va_recv hX.2.2.1 hP hc (zW_at hL), fun U hU hW => ⟨rfl, by rw [hU], by rw [hU]; exact hP, va_K.moved hW.alike hX.2.2.1, zInj_of (hX.2.2.2.1 I J), zNst_warm hW hX.2.2.2.2.2.1⟩⟩ rfl hn (hl.1) rfl (lv_room hst) hd (by rw [hX.2.1]; exact hf)) hS (fun q _ h => hF q h) hF (fun r u t H1 locs1 ht hvm hp hB hz hk hS1 => ?_)
  subst hp
  exact k ls H1 locs1 hl (ht ▸ hB) hS1
theorem Z_cSi {As : List Value} {v : Int32} (hX : zOk X G cc nL own d) (hd : decode cc pc = .ok (.invokestatic index, 3)) (hM : zCi X.2.1 G y (Cond.code y cc2 nL2 ret :: TBL) rm2 As I J v I1 J1) (hy : zMS y cc2 nL2 ret n) (hn : As.length = n) (ho : y.cls = own) (h1 : Cond.methodLink own index y ∈ TBL) (hR : rm2.frames + 1 ≤ d.frames ∧ 8 + (nL2 + 11) + rm2.locals ≤ d.locals) (hf : a + rm2.cells ≤ d.cells ∧ b + rm2.slots ≤ d.slots) (hst : (st.map fun v => v.category).sum ≤ 8) (k : Z X G nL (a + rm2.cells) (b + rm2.slots) (pc + 3) l (.int v :: st) I1 J1) : Z X G nL a b pc l (As.reverse ++ st) I J := by
  obtain ⟨p, la, e, R, s, m, args, below, meth, c, Q, A⟩ := X
  intro ls H locs hl hP hS
  obtain ⟨y1, y3, y4, y5, y6, y7⟩ := hy
  have hts := hX.1.2.2.2.2
  have hG := zGood y4
  have hT : GoodIn TBL (wsS own index y (Cond.code y cc2 nL2 ret :: TBL)) := by
    intro w hw
    unfold wsS at hw
    rcases List.mem_append.mp hw with h | h
    · simp only [List.mem_cons, List.not_mem_nil, or_false] at h
      rcases h with rfl | rfl | rfl
      · exact ⟨h1, TBL_good _ h1⟩
      · exact ⟨y1, TBL_good _ y1⟩
      · rw [ho] at y3; exact ⟨y3, TBL_good _ y3⟩
    · exact hG w h
  have hF := zS_call hX.2.2.2.1 hX.2.2.2.2.1 hS I J
  refine va_calli (va_runS (n := n) (As := As) (rest := st) hX.1 (hM H.size) (cwS n hts hT rfl rfl rfl ⟨ho, y5, y6, y7⟩ (by rw [hX.2.1]; exact hR)) ⟨zPc_blind, fun U hU hW => ⟨rfl, by rw [hU], by rw [hU]; exact hP, va_K.moved hW.alike hX.2.2.1, zInj_of (hX.2.2.2.1 I J), zNst_warm hW hX.2.2.2.2.2.1⟩⟩ rfl hn (hl.1) rfl (lv_room hst) hd (by rw [hX.2.1]; exact hf)) hS (fun q _ h => hF q h) hF (fun r u t H1 locs1 ht hvm hp hB hz hk hS1 => ?_)
  subst hp
  exact k ls H1 locs1 hl (ht ▸ hB) hS1
theorem Z_cNi {As : List Value} {host : String} {v : Int32} (hX : zOk X G cc nL own d) (hd : decode cc pc = .ok (.invokestatic index, 3)) (hM : zCi X.2.1 G y (Cond.code y cc2 nL2 ret :: TBL) rm2 As I J v I1 J1) (hy : zMS y cc2 nL2 ret n) (hn : As.length = n) (h1 : Cond.methodLinkNest own index y host ∈ NEST) (hR : rm2.frames + 1 ≤ d.frames ∧ 8 + (nL2 + 11) + rm2.locals ≤ d.locals) (hf : a + rm2.cells ≤ d.cells ∧ b + rm2.slots ≤ d.slots) (hst : (st.map fun v => v.category).sum ≤ 8) (k : Z X G nL (a + rm2.cells) (b + rm2.slots) (pc + 3) l (.int v :: st) I1 J1) : Z X G nL a b pc l (As.reverse ++ st) I J := by
  obtain ⟨p, la, e, R, s, m, args, below, meth, c, Q, A⟩ := X
  intro ls H locs hl hP hS
  obtain ⟨y1, y3, y4, y5, y6, y7⟩ := hy
  have hts := hX.1.2.2.2.2
  have hF := zS_call hX.2.2.2.1 hX.2.2.2.2.1 hS I J
  refine va_calli (va_runSN (n := n) (As := As) (rest := st) hX.1 (hM H.size) ⟨va_cnB n hts (zGood y4) rfl rfl rfl (hX.2.2.2.2.2.1 _ h1) (hts _ y3) ⟨y5, y6, y7⟩ (by rw [hX.2.1]; exact hR), hts _ y1, trivial⟩ ⟨zPc_blind, fun U hU hW => ⟨rfl, by rw [hU], by rw [hU]; exact hP, va_K.moved hW.alike hX.2.2.1, zInj_of (hX.2.2.2.1 I J), zNst_warm hW hX.2.2.2.2.2.1⟩⟩ rfl hn (hl.1) rfl (lv_room hst) hd (by rw [hX.2.1]; exact hf)) hS (fun q _ h => hF q h) hF (fun r u t H1 locs1 ht hvm hp hB hz hk hS1 => ?_)
  subst hp
  exact k ls H1 locs1 hl (ht ▸ hB) hS1
theorem Z_cVi0 {c0 ci N : Nat} {T : u_T} {ds : List (Option (Option Nat))} {v : Int32} (hX : zOk X G cc nL own d) (hd : decode cc pc = .ok (.invokevirtual index, 3)) (hM : zCi X.2.1 G y (Cond.code y cc2 nL2 ret :: TBL) rm2 (.ref (zad G c0) :: []) I J v I1 J1) (hy : zMV y cc2 nL2 ret 0) (hL : lay0[c0]? = some (.inr (.inr (ci, ds)))) (hc : vwCl[ci]? = some (y.cls, T, N)) (h1 : Cond.methodLink own index y ∈ TBL) (hR : rm2.frames + 1 ≤ d.frames ∧ 8 + (nL2 + 11) + rm2.locals ≤ d.locals) (hf : a + rm2.cells ≤ d.cells ∧ b + rm2.slots ≤ d.slots) (hst : (st.map fun v => v.category).sum ≤ 8) (k : Z X G nL (a + rm2.cells) (b + rm2.slots) (pc + 3) l (.int v :: st) I1 J1) : Z X G nL a b pc l (.ref (zad G c0) :: st) I J := Z_cVi (As := []) hX hd hM hy rfl hL hc h1 hR hf hst k
theorem Z_cVi1 {c0 ci N : Nat} {T : u_T} {ds : List (Option (Option Nat))} {v1 : Value} {v : Int32} (hX : zOk X G cc nL own d) (hd : decode cc pc = .ok (.invokevirtual index, 3)) (hM : zCi X.2.1 G y (Cond.code y cc2 nL2 ret :: TBL) rm2 (.ref (zad G c0) :: [v1]) I J v I1 J1) (hy : zMV y cc2 nL2 ret 1) (hL : lay0[c0]? = some (.inr (.inr (ci, ds)))) (hc : vwCl[ci]? = some (y.cls, T, N)) (h1 : Cond.methodLink own index y ∈ TBL) (hR : rm2.frames + 1 ≤ d.frames ∧ 8 + (nL2 + 11) + rm2.locals ≤ d.locals) (hf : a + rm2.cells ≤ d.cells ∧ b + rm2.slots ≤ d.slots) (hst : (st.map fun v => v.category).sum ≤ 8) (k : Z X G nL (a + rm2.cells) (b + rm2.slots) (pc + 3) l (.int v :: st) I1 J1) : Z X G nL a b pc l (v1 :: .ref (zad G c0) :: st) I J := Z_cVi (As := [v1]) hX hd hM hy rfl hL hc h1 hR hf hst k
theorem Z_cSi1 {v1 : Value} {v : Int32} (hX : zOk X G cc nL own d) (hd : decode cc pc = .ok (.invokestatic index, 3)) (hM : zCi X.2.1 G y (Cond.code y cc2 nL2 ret :: TBL) rm2 [v1] I J v I1 J1) (hy : zMS y cc2 nL2 ret 1) (ho : y.cls = own) (h1 : Cond.methodLink own index y ∈ TBL) (hR : rm2.frames + 1 ≤ d.frames ∧ 8 + (nL2 + 11) + rm2.locals ≤ d.locals) (hf : a + rm2.cells ≤ d.cells ∧ b + rm2.slots ≤ d.slots) (hst : (st.map fun v => v.category).sum ≤ 8) (k : Z X G nL (a + rm2.cells) (b + rm2.slots) (pc + 3) l (.int v :: st) I1 J1) : Z X G nL a b pc l (v1 :: st) I J := Z_cSi (As := [v1]) hX hd hM hy rfl ho h1 hR hf hst k
theorem Z_cNi1 {host : String} {v1 : Value} {v : Int32} (hX : zOk X G cc nL own d) (hd : decode cc pc = .ok (.invokestatic index, 3)) (hM : zCi X.2.1 G y (Cond.code y cc2 nL2 ret :: TBL) rm2 [v1] I J v I1 J1) (hy : zMS y cc2 nL2 ret 1) (h1 : Cond.methodLinkNest own index y host ∈ NEST) (hR : rm2.frames + 1 ≤ d.frames ∧ 8 + (nL2 + 11) + rm2.locals ≤ d.locals) (hf : a + rm2.cells ≤ d.cells ∧ b + rm2.slots ≤ d.slots) (hst : (st.map fun v => v.category).sum ≤ 8) (k : Z X G nL (a + rm2.cells) (b + rm2.slots) (pc + 3) l (.int v :: st) I1 J1) : Z X G nL a b pc l (v1 :: st) I J := Z_cNi (As := [v1]) hX hd hM hy rfl h1 hR hf hst k
theorem Z_cVi2 {c0 ci N : Nat} {T : u_T} {ds : List (Option (Option Nat))} {v1 v2 : Value} {v : Int32} (hX : zOk X G cc nL own d) (hd : decode cc pc = .ok (.invokevirtual index, 3)) (hM : zCi X.2.1 G y (Cond.code y cc2 nL2 ret :: TBL) rm2 (.ref (zad G c0) :: [v1, v2]) I J v I1 J1) (hy : zMV y cc2 nL2 ret 2) (hL : lay0[c0]? = some (.inr (.inr (ci, ds)))) (hc : vwCl[ci]? = some (y.cls, T, N)) (h1 : Cond.methodLink own index y ∈ TBL) (hR : rm2.frames + 1 ≤ d.frames ∧ 8 + (nL2 + 11) + rm2.locals ≤ d.locals) (hf : a + rm2.cells ≤ d.cells ∧ b + rm2.slots ≤ d.slots) (hst : (st.map fun v => v.category).sum ≤ 8) (k : Z X G nL (a + rm2.cells) (b + rm2.slots) (pc + 3) l (.int v :: st) I1 J1) : Z X G nL a b pc l (v2 :: v1 :: .ref (zad G c0) :: st) I J := Z_cVi (As := [v1, v2]) hX hd hM hy rfl hL hc h1 hR hf hst k
theorem Z_cSi2 {v1 v2 : Value} {v : Int32} (hX : zOk X G cc nL own d) (hd : decode cc pc = .ok (.invokestatic index, 3)) (hM : zCi X.2.1 G y (Cond.code y cc2 nL2 ret :: TBL) rm2 [v1, v2] I J v I1 J1) (hy : zMS y cc2 nL2 ret 2) (ho : y.cls = own) (h1 : Cond.methodLink own index y ∈ TBL) (hR : rm2.frames + 1 ≤ d.frames ∧ 8 + (nL2 + 11) + rm2.locals ≤ d.locals) (hf : a + rm2.cells ≤ d.cells ∧ b + rm2.slots ≤ d.slots) (hst : (st.map fun v => v.category).sum ≤ 8) (k : Z X G nL (a + rm2.cells) (b + rm2.slots) (pc + 3) l (.int v :: st) I1 J1) : Z X G nL a b pc l (v2 :: v1 :: st) I J := Z_cSi (As := [v1, v2]) hX hd hM hy rfl ho h1 hR hf hst k
theorem Z_cNi2 {host : String} {v1 v2 : Value} {v : Int32} (hX : zOk X G cc nL own d) (hd : decode cc pc = .ok (.invokestatic index, 3)) (hM : zCi X.2.1 G y (Cond.code y cc2 nL2 ret :: TBL) rm2 [v1, v2] I J v I1 J1) (hy : zMS y cc2 nL2 ret 2) (h1 : Cond.methodLinkNest own index y host ∈ NEST) (hR : rm2.frames + 1 ≤ d.frames ∧ 8 + (nL2 + 11) + rm2.locals ≤ d.locals) (hf : a + rm2.cells ≤ d.cells ∧ b + rm2.slots ≤ d.slots) (hst : (st.map fun v => v.category).sum ≤ 8) (k : Z X G nL (a + rm2.cells) (b + rm2.slots) (pc + 3) l (.int v :: st) I1 J1) : Z X G nL a b pc l (v2 :: v1 :: st) I J := Z_cNi (As := [v1, v2]) hX hd hM hy rfl h1 hR hf hst k
theorem Z_cVi3 {c0 ci N : Nat} {T : u_T} {ds : List (Option (Option Nat))} {v1 v2 v3 : Value} {v : Int32} (hX : zOk X G cc nL own d) (hd : decode cc pc = .ok (.invokevirtual index, 3)) (hM : zCi X.2.1 G y (Cond.code y cc2 nL2 ret :: TBL) rm2 (.ref (zad G c0) :: [v1, v2, v3]) I J v I1 J1) (hy : zMV y cc2 nL2 ret 3) (hL : lay0[c0]? = some (.inr (.inr (ci, ds)))) (hc : vwCl[ci]? = some (y.cls, T, N)) (h1 : Cond.methodLink own index y ∈ TBL) (hR : rm2.frames + 1 ≤ d.frames ∧ 8 + (nL2 + 11) + rm2.locals ≤ d.locals) (hf : a + rm2.cells ≤ d.cells ∧ b + rm2.slots ≤ d.slots) (hst : (st.map fun v => v.category).sum ≤ 8) (k : Z X G nL (a + rm2.cells) (b + rm2.slots) (pc + 3) l (.int v :: st) I1 J1) : Z X G nL a b pc l (v3 :: v2 :: v1 :: .ref (zad G c0) :: st) I J := Z_cVi (As := [v1, v2, v3]) hX hd hM hy rfl hL hc h1 hR hf hst k
theorem Z_cSi3 {v1 v2 v3 : Value} {v : Int32} (hX : zOk X G cc nL own d) (hd : decode cc pc = .ok (.invokestatic index, 3)) (hM : zCi X.2.1 G y (Cond.code y cc2 nL2 ret :: TBL) rm2 [v1, v2, v3] I J v I1 J1) (hy : zMS y cc2 nL2 ret 3) (ho : y.cls = own) (h1 : Cond.methodLink own index y ∈ TBL) (hR : rm2.frames + 1 ≤ d.frames ∧ 8 + (nL2 + 11) + rm2.locals ≤ d.locals) (hf : a + rm2.cells ≤ d.cells ∧ b + rm2.slots ≤ d.slots) (hst : (st.map fun v => v.category).sum ≤ 8) (k : Z X G nL (a + rm2.cells) (b + rm2.slots) (pc + 3) l (.int v :: st) I1 J1) : Z X G nL a b pc l (v3 :: v2 :: v1 :: st) I J := Z_cSi (As := [v1, v2, v3]) hX hd hM hy rfl ho h1 hR hf hst k
theorem Z_cNi3 {host : String} {v1 v2 v3 : Value} {v : Int32} (hX : zOk X G cc nL own d) (hd : decode cc pc = .ok (.invokestatic index, 3)) (hM : zCi X.2.1 G y (Cond.code y cc2 nL2 ret :: TBL) rm2 [v1, v2, v3] I J v I1 J1) (hy : zMS y cc2 nL2 ret 3) (h1 : Cond.methodLinkNest own index y host ∈ NEST) (hR : rm2.frames + 1 ≤ d.frames ∧ 8 + (nL2 + 11) + rm2.locals ≤ d.locals) (hf : a + rm2.cells ≤ d.cells ∧ b + rm2.slots ≤ d.slots) (hst : (st.map fun v => v.category).sum ≤ 8) (k : Z X G nL (a + rm2.cells) (b + rm2.slots) (pc + 3) l (.int v :: st) I1 J1) : Z X G nL a b pc l (v3 :: v2 :: v1 :: st) I J := Z_cNi (As := [v1, v2, v3]) hX hd hM hy rfl h1 hR hf hst k
theorem Z_cVi4 {c0 ci N : Nat} {T : u_T} {ds : List (Option (Option Nat))} {v1 v2 v3 v4 : Value} {v : Int32} (hX : zOk X G cc nL own d) (hd : decode cc pc = .ok (.invokevirtual index, 3)) (hM : zCi X.2.1 G y (Cond.code y cc2 nL2 ret :: TBL) rm2 (.ref (zad G c0) :: [v1, v2, v3, v4]) I J v I1 J1) (hy : zMV y cc2 nL2 ret 4) (hL : lay0[c0]? = some (.inr (.inr (ci, ds)))) (hc : vwCl[ci]? = some (y.cls, T, N)) (h1 : Cond.methodLink own index y ∈ TBL) (hR : rm2.frames + 1 ≤ d.frames ∧ 8 + (nL2 + 11) + rm2.locals ≤ d.locals) (hf : a + rm2.cells ≤ d.cells ∧ b + rm2.slots ≤ d.slots) (hst : (st.map fun v => v.category).sum ≤ 8) (k : Z X G nL (a + rm2.cells) (b + rm2.slots) (pc + 3) l (.int v :: st) I1 J1) : Z X G nL a b pc l (v4 :: v3 :: v2 :: v1 :: .ref (zad G c0) :: st) I J := Z_cVi (As := [v1, v2, v3, v4]) hX hd hM hy rfl hL hc h1 hR hf hst k
theorem Z_cSi4 {v1 v2 v3 v4 : Value} {v : Int32} (hX : zOk X G cc nL own d) (hd : decode cc pc = .ok (.invokestatic index, 3)) (hM : zCi X.2.1 G y (Cond.code y cc2 nL2 ret :: TBL) rm2 [v1, v2, v3, v4] I J v I1 J1) (hy : zMS y cc2 nL2 ret 4) (ho : y.cls = own) (h1 : Cond.methodLink own index y ∈ TBL) (hR : rm2.frames + 1 ≤ d.frames ∧ 8 + (nL2 + 11) + rm2.locals ≤ d.locals) (hf : a + rm2.cells ≤ d.cells ∧ b + rm2.slots ≤ d.slots) (hst : (st.map fun v => v.category).sum ≤ 8) (k : Z X G nL (a + rm2.cells) (b + rm2.slots) (pc + 3) l (.int v :: st) I1 J1) : Z X G nL a b pc l (v4 :: v3 :: v2 :: v1 :: st) I J := Z_cSi (As := [v1, v2, v3, v4]) hX hd hM hy rfl ho h1 hR hf hst k
theorem Z_cNi4 {host : String} {v1 v2 v3 v4 : Value} {v : Int32} (hX : zOk X G cc nL own d) (hd : decode cc pc = .ok (.invokestatic index, 3)) (hM : zCi X.2.1 G y (Cond.code y cc2 nL2 ret :: TBL) rm2 [v1, v2, v3, v4] I J v I1 J1) (hy : zMS y cc2 nL2 ret 4) (h1 : Cond.methodLinkNest own index y host ∈ NEST) (hR : rm2.frames + 1 ≤ d.frames ∧ 8 + (nL2 + 11) + rm2.locals ≤ d.locals) (hf : a + rm2.cells ≤ d.cells ∧ b + rm2.slots ≤ d.slots) (hst : (st.map fun v => v.category).sum ≤ 8) (k : Z X G nL (a + rm2.cells) (b + rm2.slots) (pc + 3) l (.int v :: st) I1 J1) : Z X G nL a b pc l (v4 :: v3 :: v2 :: v1 :: st) I J := Z_cNi (As := [v1, v2, v3, v4]) hX hd hM hy rfl h1 hR hf hst k
theorem Z_cVl {c0 ci N : Nat} {T : u_T} {ds : List (Option (Option Nat))} {As : List Value} {v : Int64} (hX : zOk X G cc nL own d) (hd : decode cc pc = .ok (.invokevirtual index, 3)) (hM : zCl X.2.1 G y (Cond.code y cc2 nL2 ret :: TBL) rm2 (.ref (zad G c0) :: As) I J v I1 J1) (hy : zMV y cc2 nL2 ret n) (hn : As.length = n) (hL : lay0[c0]? = some (.inr (.inr (ci, ds)))) (hc : vwCl[ci]? = some (y.cls, T, N)) (h1 : Cond.methodLink own index y ∈ TBL) (hR : rm2.frames + 1 ≤ d.frames ∧ 8 + (nL2 + 11) + rm2.locals ≤ d.locals) (hf : a + rm2.cells ≤ d.cells ∧ b + rm2.slots ≤ d.slots) (hst : (st.map fun v => v.category).sum ≤ 8) (k : Z X G nL (a + rm2.cells) (b + rm2.slots) (pc + 3) l (.long v :: st) I1 J1) : Z X G nL a b pc l (As.reverse ++ .ref (zad G c0) :: st) I J := by
  obtain ⟨p, la, e, R, s, m, args, below, meth, c, Q, A⟩ := X
  intro ls H locs hl hP hS
  obtain ⟨y1, y2, y3, y4, y5, y6, y7⟩ := hy
  have hts := hX.1.2.2.2.2
  have hG := zGood y4
  have hT : GoodIn TBL (wsV own index y.cls y (Cond.code y cc2 nL2 ret :: TBL)) := by
    intro w hw
    unfold wsV at hw
    rcases List.mem_append.mp hw with h | h
    · simp only [List.mem_cons, List.not_mem_nil, or_false] at h
      rcases h with rfl | rfl | rfl | rfl
      · exact ⟨h1, TBL_good _ h1⟩
      · exact ⟨y1, TBL_good _ y1⟩
      · exact ⟨y2, TBL_good _ y2⟩
      · exact ⟨y3, TBL_good _ y3⟩
    · exact hG w h
  have hF := zS_call hX.2.2.2.1 hX.2.2.2.2.1 hS I J
  refine va_calll (va_runV (C := y.cls) (n := n) (As := As) (rest := st) hX.1 (hM H.size) (cwV n hts hT rfl rfl rfl ⟨rfl, y5, y6, y7⟩ (by rw [hX.2.1]; exact hR)) ⟨zPc_blind, va_recv hX.2.2.1 hP hc (zW_at hL), fun U hU hW => ⟨rfl, by rw [hU], by rw [hU]; exact hP, va_K.moved hW.alike hX.2.2.1, zInj_of (hX.2.2.2.1 I J), zNst_warm hW hX.2.2.2.2.2.1⟩⟩ rfl hn (hl.1) rfl (lv_room hst) hd (by rw [hX.2.1]; exact hf)) hS (fun q _ h => hF q h) hF (fun r u t H1 locs1 ht hvm hp hB hz hk hS1 => ?_)
  subst hp
  exact k ls H1 locs1 hl (ht ▸ hB) hS1
theorem Z_cSl {As : List Value} {v : Int64} (hX : zOk X G cc nL own d) (hd : decode cc pc = .ok (.invokestatic index, 3)) (hM : zCl X.2.1 G y (Cond.code y cc2 nL2 ret :: TBL) rm2 As I J v I1 J1) (hy : zMS y cc2 nL2 ret n) (hn : As.length = n) (ho : y.cls = own) (h1 : Cond.methodLink own index y ∈ TBL) (hR : rm2.frames + 1 ≤ d.frames ∧ 8 + (nL2 + 11) + rm2.locals ≤ d.locals) (hf : a + rm2.cells ≤ d.cells ∧ b + rm2.slots ≤ d.slots) (hst : (st.map fun v => v.category).sum ≤ 8) (k : Z X G nL (a + rm2.cells) (b + rm2.slots) (pc + 3) l (.long v :: st) I1 J1) : Z X G nL a b pc l (As.reverse ++ st) I J := by
  obtain ⟨p, la, e, R, s, m, args, below, meth, c, Q, A⟩ := X
  intro ls H locs hl hP hS
  obtain ⟨y1, y3, y4, y5, y6, y7⟩ := hy
  have hts := hX.1.2.2.2.2
  have hG := zGood y4
  have hT : GoodIn TBL (wsS own index y (Cond.code y cc2 nL2 ret :: TBL)) := by
    intro w hw
    unfold wsS at hw
    rcases List.mem_append.mp hw with h | h
    · simp only [List.mem_cons, List.not_mem_nil, or_false] at h
      rcases h with rfl | rfl | rfl
      · exact ⟨h1, TBL_good _ h1⟩
      · exact ⟨y1, TBL_good _ y1⟩
      · rw [ho] at y3; exact ⟨y3, TBL_good _ y3⟩
    · exact hG w h
  have hF := zS_call hX.2.2.2.1 hX.2.2.2.2.1 hS I J
  refine va_calll (va_runS (n := n) (As := As) (rest := st) hX.1 (hM H.size) (cwS n hts hT rfl rfl rfl ⟨ho, y5, y6, y7⟩ (by rw [hX.2.1]; exact hR)) ⟨zPc_blind, fun U hU hW => ⟨rfl, by rw [hU], by rw [hU]; exact hP, va_K.moved hW.alike hX.2.2.1, zInj_of (hX.2.2.2.1 I J), zNst_warm hW hX.2.2.2.2.2.1⟩⟩ rfl hn (hl.1) rfl (lv_room hst) hd (by rw [hX.2.1]; exact hf)) hS (fun q _ h => hF q h) hF (fun r u t H1 locs1 ht hvm hp hB hz hk hS1 => ?_)
  subst hp
  exact k ls H1 locs1 hl (ht ▸ hB) hS1
theorem Z_cNl {As : List Value} {host : String} {v : Int64} (hX : zOk X G cc nL own d) (hd : decode cc pc = .ok (.invokestatic index, 3)) (hM : zCl X.2.1 G y (Cond.code y cc2 nL2 ret :: TBL) rm2 As I J v I1 J1) (hy : zMS y cc2 nL2 ret n) (hn : As.length = n) (h1 : Cond.methodLinkNest own index y host ∈ NEST) (hR : rm2.frames + 1 ≤ d.frames ∧ 8 + (nL2 + 11) + rm2.locals ≤ d.locals) (hf : a + rm2.cells ≤ d.cells ∧ b + rm2.slots ≤ d.slots) (hst : (st.map fun v => v.category).sum ≤ 8) (k : Z X G nL (a + rm2.cells) (b + rm2.slots) (pc + 3) l (.long v :: st) I1 J1) : Z X G nL a b pc l (As.reverse ++ st) I J := by
  obtain ⟨p, la, e, R, s, m, args, below, meth, c, Q, A⟩ := X
  intro ls H locs hl hP hS
  obtain ⟨y1, y3, y4, y5, y6, y7⟩ := hy
  have hts := hX.1.2.2.2.2
  have hF := zS_call hX.2.2.2.1 hX.2.2.2.2.1 hS I J
  refine va_calll (va_runSN (n := n) (As := As) (rest := st) hX.1 (hM H.size) ⟨va_cnB n hts (zGood y4) rfl rfl rfl (hX.2.2.2.2.2.1 _ h1) (hts _ y3) ⟨y5, y6, y7⟩ (by rw [hX.2.1]; exact hR), hts _ y1, trivial⟩ ⟨zPc_blind, fun U hU hW => ⟨rfl, by rw [hU], by rw [hU]; exact hP, va_K.moved hW.alike hX.2.2.1, zInj_of (hX.2.2.2.1 I J), zNst_warm hW hX.2.2.2.2.2.1⟩⟩ rfl hn (hl.1) rfl (lv_room hst) hd (by rw [hX.2.1]; exact hf)) hS (fun q _ h => hF q h) hF (fun r u t H1 locs1 ht hvm hp hB hz hk hS1 => ?_)
  subst hp
  exact k ls H1 locs1 hl (ht ▸ hB) hS1
theorem Z_cVl0 {c0 ci N : Nat} {T : u_T} {ds : List (Option (Option Nat))} {v : Int64} (hX : zOk X G cc nL own d) (hd : decode cc pc = .ok (.invokevirtual index, 3)) (hM : zCl X.2.1 G y (Cond.code y cc2 nL2 ret :: TBL) rm2 (.ref (zad G c0) :: []) I J v I1 J1) (hy : zMV y cc2 nL2 ret 0) (hL : lay0[c0]? = some (.inr (.inr (ci, ds)))) (hc : vwCl[ci]? = some (y.cls, T, N)) (h1 : Cond.methodLink own index y ∈ TBL) (hR : rm2.frames + 1 ≤ d.frames ∧ 8 + (nL2 + 11) + rm2.locals ≤ d.locals) (hf : a + rm2.cells ≤ d.cells ∧ b + rm2.slots ≤ d.slots) (hst : (st.map fun v => v.category).sum ≤ 8) (k : Z X G nL (a + rm2.cells) (b + rm2.slots) (pc + 3) l (.long v :: st) I1 J1) : Z X G nL a b pc l (.ref (zad G c0) :: st) I J := Z_cVl (As := []) hX hd hM hy rfl hL hc h1 hR hf hst k
theorem Z_cVl1 {c0 ci N : Nat} {T : u_T} {ds : List (Option (Option Nat))} {v1 : Value} {v : Int64} (hX : zOk X G cc nL own d) (hd : decode cc pc = .ok (.invokevirtual index, 3)) (hM : zCl X.2.1 G y (Cond.code y cc2 nL2 ret :: TBL) rm2 (.ref (zad G c0) :: [v1]) I J v I1 J1) (hy : zMV y cc2 nL2 ret 1) (hL : lay0[c0]? = some (.inr (.inr (ci, ds)))) (hc : vwCl[ci]? = some (y.cls, T, N)) (h1 : Cond.methodLink own index y ∈ TBL) (hR : rm2.frames + 1 ≤ d.frames ∧ 8 + (nL2 + 11) + rm2.locals ≤ d.locals) (hf : a + rm2.cells ≤ d.cells ∧ b + rm2.slots ≤ d.slots) (hst : (st.map fun v => v.category).sum ≤ 8) (k : Z X G nL (a + rm2.cells) (b + rm2.slots) (pc + 3) l (.long v :: st) I1 J1) : Z X G nL a b pc l (v1 :: .ref (zad G c0) :: st) I J := Z_cVl (As := [v1]) hX hd hM hy rfl hL hc h1 hR hf hst k
theorem Z_cSl1 {v1 : Value} {v : Int64} (hX : zOk X G cc nL own d) (hd : decode cc pc = .ok (.invokestatic index, 3)) (hM : zCl X.2.1 G y (Cond.code y cc2 nL2 ret :: TBL) rm2 [v1] I J v I1 J1) (hy : zMS y cc2 nL2 ret 1) (ho : y.cls = own) (h1 : Cond.methodLink own index y ∈ TBL) (hR : rm2.frames + 1 ≤ d.frames ∧ 8 + (nL2 + 11) + rm2.locals ≤ d.locals) (hf : a + rm2.cells ≤ d.cells ∧ b + rm2.slots ≤ d.slots) (hst : (st.map fun v => v.category).sum ≤ 8) (k : Z X G nL (a + rm2.cells) (b + rm2.slots) (pc + 3) l (.long v :: st) I1 J1) : Z X G nL a b pc l (v1 :: st) I J := Z_cSl (As := [v1]) hX hd hM hy rfl ho h1 hR hf hst k
theorem Z_cNl1 {host : String} {v1 : Value} {v : Int64} (hX : zOk X G cc nL own d) (hd : decode cc pc = .ok (.invokestatic index, 3)) (hM : zCl X.2.1 G y (Cond.code y cc2 nL2 ret :: TBL) rm2 [v1] I J v I1 J1) (hy : zMS y cc2 nL2 ret 1) (h1 : Cond.methodLinkNest own index y host ∈ NEST) (hR : rm2.frames + 1 ≤ d.frames ∧ 8 + (nL2 + 11) + rm2.locals ≤ d.locals) (hf : a + rm2.cells ≤ d.cells ∧ b + rm2.slots ≤ d.slots) (hst : (st.map fun v => v.category).sum ≤ 8) (k : Z X G nL (a + rm2.cells) (b + rm2.slots) (pc + 3) l (.long v :: st) I1 J1) : Z X G nL a b pc l (v1 :: st) I J := Z_cNl (As := [v1]) hX hd hM hy rfl h1 hR hf hst k
theorem Z_cVl2 {c0 ci N : Nat} {T : u_T} {ds : List (Option (Option Nat))} {v1 v2 : Value} {v : Int64} (hX : zOk X G cc nL own d) (hd : decode cc pc = .ok (.invokevirtual index, 3)) (hM : zCl X.2.1 G y (Cond.code y cc2 nL2 ret :: TBL) rm2 (.ref (zad G c0) :: [v1, v2]) I J v I1 J1) (hy : zMV y cc2 nL2 ret 2) (hL : lay0[c0]? = some (.inr (.inr (ci, ds)))) (hc : vwCl[ci]? = some (y.cls, T, N)) (h1 : Cond.methodLink own index y ∈ TBL) (hR : rm2.frames + 1 ≤ d.frames ∧ 8 + (nL2 + 11) + rm2.locals ≤ d.locals) (hf : a + rm2.cells ≤ d.cells ∧ b + rm2.slots ≤ d.slots) (hst : (st.map fun v => v.category).sum ≤ 8) (k : Z X G nL (a + rm2.cells) (b + rm2.slots) (pc + 3) l (.long v :: st) I1 J1) : Z X G nL a b pc l (v2 :: v1 :: .ref (zad G c0) :: st) I J := Z_cVl (As := [v1, v2]) hX hd hM hy rfl hL hc h1 hR hf hst k
theorem Z_cSl2 {v1 v2 : Value} {v : Int64} (hX : zOk X G cc nL own d) (hd : decode cc pc = .ok (.invokestatic index, 3)) (hM : zCl X.2.1 G y (Cond.code y cc2 nL2 ret :: TBL) rm2 [v1, v2] I J v I1 J1) (hy : zMS y cc2 nL2 ret 2) (ho : y.cls = own) (h1 : Cond.methodLink own index y ∈ TBL) (hR : rm2.frames + 1 ≤ d.frames ∧ 8 + (nL2 + 11) + rm2.locals ≤ d.locals) (hf : a + rm2.cells ≤ d.cells ∧ b + rm2.slots ≤ d.slots) (hst : (st.map fun v => v.category).sum ≤ 8) (k : Z X G nL (a + rm2.cells) (b + rm2.slots) (pc + 3) l (.long v :: st) I1 J1) : Z X G nL a b pc l (v2 :: v1 :: st) I J := Z_cSl (As := [v1, v2]) hX hd hM hy rfl ho h1 hR hf hst k
theorem Z_cNl2 {host : String} {v1 v2 : Value} {v : Int64} (hX : zOk X G cc nL own d) (hd : decode cc pc = .ok (.invokestatic index, 3)) (hM : zCl X.2.1 G y (Cond.code y cc2 nL2 ret :: TBL) rm2 [v1, v2] I J v I1 J1) (hy : zMS y cc2 nL2 ret 2) (h1 : Cond.methodLinkNest own index y host ∈ NEST) (hR : rm2.frames + 1 ≤ d.frames ∧ 8 + (nL2 + 11) + rm2.locals ≤ d.locals) (hf : a + rm2.cells ≤ d.cells ∧ b + rm2.slots ≤ d.slots) (hst : (st.map fun v => v.category).sum ≤ 8) (k : Z X G nL (a + rm2.cells) (b + rm2.slots) (pc + 3) l (.long v :: st) I1 J1) : Z X G nL a b pc l (v2 :: v1 :: st) I J := Z_cNl (As := [v1, v2]) hX hd hM hy rfl h1 hR hf hst k
theorem Z_cVl3 {c0 ci N : Nat} {T : u_T} {ds : List (Option (Option Nat))} {v1 v2 v3 : Value} {v : Int64} (hX : zOk X G cc nL own d) (hd : decode cc pc = .ok (.invokevirtual index, 3)) (hM : zCl X.2.1 G y (Cond.code y cc2 nL2 ret :: TBL) rm2 (.ref (zad G c0) :: [v1, v2, v3]) I J v I1 J1) (hy : zMV y cc2 nL2 ret 3) (hL : lay0[c0]? = some (.inr (.inr (ci, ds)))) (hc : vwCl[ci]? = some (y.cls, T, N)) (h1 : Cond.methodLink own index y ∈ TBL) (hR : rm2.frames + 1 ≤ d.frames ∧ 8 + (nL2 + 11) + rm2.locals ≤ d.locals) (hf : a + rm2.cells ≤ d.cells ∧ b + rm2.slots ≤ d.slots) (hst : (st.map fun v => v.category).sum ≤ 8) (k : Z X G nL (a + rm2.cells) (b + rm2.slots) (pc + 3) l (.long v :: st) I1 J1) : Z X G nL a b pc l (v3 :: v2 :: v1 :: .ref (zad G c0) :: st) I J := Z_cVl (As := [v1, v2, v3]) hX hd hM hy rfl hL hc h1 hR hf hst k
theorem Z_cSl3 {v1 v2 v3 : Value} {v : Int64} (hX : zOk X G cc nL own d) (hd : decode cc pc = .ok (.invokestatic index, 3)) (hM : zCl X.2.1 G y (Cond.code y cc2 nL2 ret :: TBL) rm2 [v1, v2, v3] I J v I1 J1) (hy : zMS y cc2 nL2 ret 3) (ho : y.cls = own) (h1 : Cond.methodLink own index y ∈ TBL) (hR : rm2.frames + 1 ≤ d.frames ∧ 8 + (nL2 + 11) + rm2.locals ≤ d.locals) (hf : a + rm2.cells ≤ d.cells ∧ b + rm2.slots ≤ d.slots) (hst : (st.map fun v => v.category).sum ≤ 8) (k : Z X G nL (a + rm2.cells) (b + rm2.slots) (pc + 3) l (.long v :: st) I1 J1) : Z X G nL a b pc l (v3 :: v2 :: v1 :: st) I J := Z_cSl (As := [v1, v2, v3]) hX hd hM hy rfl ho h1 hR hf hst k
theorem Z_cNl3 {host : String} {v1 v2 v3 : Value} {v : Int64} (hX : zOk X G cc nL own d) (hd : decode cc pc = .ok (.invokestatic index, 3)) (hM : zCl X.2.1 G y (Cond.code y cc2 nL2 ret :: TBL) rm2 [v1, v2, v3] I J v I1 J1) (hy : zMS y cc2 nL2 ret 3) (h1 : Cond.methodLinkNest own index y host ∈ NEST) (hR : rm2.frames + 1 ≤ d.frames ∧ 8 + (nL2 + 11) + rm2.locals ≤ d.locals) (hf : a + rm2.cells ≤ d.cells ∧ b + rm2.slots ≤ d.slots) (hst : (st.map fun v => v.category).sum ≤ 8) (k : Z X G nL (a + rm2.cells) (b + rm2.slots) (pc + 3) l (.long v :: st) I1 J1) : Z X G nL a b pc l (v3 :: v2 :: v1 :: st) I J := Z_cNl (As := [v1, v2, v3]) hX hd hM hy rfl h1 hR hf hst k
theorem Z_cVl4 {c0 ci N : Nat} {T : u_T} {ds : List (Option (Option Nat))} {v1 v2 v3 v4 : Value} {v : Int64} (hX : zOk X G cc nL own d) (hd : decode cc pc = .ok (.invokevirtual index, 3)) (hM : zCl X.2.1 G y (Cond.code y cc2 nL2 ret :: TBL) rm2 (.ref (zad G c0) :: [v1, v2, v3, v4]) I J v I1 J1) (hy : zMV y cc2 nL2 ret 4) (hL : lay0[c0]? = some (.inr (.inr (ci, ds)))) (hc : vwCl[ci]? = some (y.cls, T, N)) (h1 : Cond.methodLink own index y ∈ TBL) (hR : rm2.frames + 1 ≤ d.frames ∧ 8 + (nL2 + 11) + rm2.locals ≤ d.locals) (hf : a + rm2.cells ≤ d.cells ∧ b + rm2.slots ≤ d.slots) (hst : (st.map fun v => v.category).sum ≤ 8) (k : Z X G nL (a + rm2.cells) (b + rm2.slots) (pc + 3) l (.long v :: st) I1 J1) : Z X G nL a b pc l (v4 :: v3 :: v2 :: v1 :: .ref (zad G c0) :: st) I J := Z_cVl (As := [v1, v2, v3, v4]) hX hd hM hy rfl hL hc h1 hR hf hst k
theorem Z_cSl4 {v1 v2 v3 v4 : Value} {v : Int64} (hX : zOk X G cc nL own d) (hd : decode cc pc = .ok (.invokestatic index, 3)) (hM : zCl X.2.1 G y (Cond.code y cc2 nL2 ret :: TBL) rm2 [v1, v2, v3, v4] I J v I1 J1) (hy : zMS y cc2 nL2 ret 4) (ho : y.cls = own) (h1 : Cond.methodLink own index y ∈ TBL) (hR : rm2.frames + 1 ≤ d.frames ∧ 8 + (nL2 + 11) + rm2.locals ≤ d.locals) (hf : a + rm2.cells ≤ d.cells ∧ b + rm2.slots ≤ d.slots) (hst : (st.map fun v => v.category).sum ≤ 8) (k : Z X G nL (a + rm2.cells) (b + rm2.slots) (pc + 3) l (.long v :: st) I1 J1) : Z X G nL a b pc l (v4 :: v3 :: v2 :: v1 :: st) I J := Z_cSl (As := [v1, v2, v3, v4]) hX hd hM hy rfl ho h1 hR hf hst k
theorem Z_cNl4 {host : String} {v1 v2 v3 v4 : Value} {v : Int64} (hX : zOk X G cc nL own d) (hd : decode cc pc = .ok (.invokestatic index, 3)) (hM : zCl X.2.1 G y (Cond.code y cc2 nL2 ret :: TBL) rm2 [v1, v2, v3, v4] I J v I1 J1) (hy : zMS y cc2 nL2 ret 4) (h1 : Cond.methodLinkNest own index y host ∈ NEST) (hR : rm2.frames + 1 ≤ d.frames ∧ 8 + (nL2 + 11) + rm2.locals ≤ d.locals) (hf : a + rm2.cells ≤ d.cells ∧ b + rm2.slots ≤ d.slots) (hst : (st.map fun v => v.category).sum ≤ 8) (k : Z X G nL (a + rm2.cells) (b + rm2.slots) (pc + 3) l (.long v :: st) I1 J1) : Z X G nL a b pc l (v4 :: v3 :: v2 :: v1 :: st) I J := Z_cNl (As := [v1, v2, v3, v4]) hX hd hM hy rfl h1 hR hf hst k
theorem Z_cVv {c0 ci N : Nat} {T : u_T} {ds : List (Option (Option Nat))} {As : List Value} (hX : zOk X G cc nL own d) (hd : decode cc pc = .ok (.invokevirtual index, 3)) (hM : zCv X.2.1 G y (Cond.code y cc2 nL2 ret :: TBL) rm2 (.ref (zad G c0) :: As) I J I1 J1) (hy : zMV y cc2 nL2 ret n) (hn : As.length = n) (hL : lay0[c0]? = some (.inr (.inr (ci, ds)))) (hc : vwCl[ci]? = some (y.cls, T, N)) (h1 : Cond.methodLink own index y ∈ TBL) (hR : rm2.frames + 1 ≤ d.frames ∧ 8 + (nL2 + 11) + rm2.locals ≤ d.locals) (hf : a + rm2.cells ≤ d.cells ∧ b + rm2.slots ≤ d.slots) (hst : (st.map fun v => v.category).sum ≤ 8) (k : Z X G nL (a + rm2.cells) (b + rm2.slots) (pc + 3) l st I1 J1) : Z X G nL a b pc l (As.reverse ++ .ref (zad G c0) :: st) I J := by
  obtain ⟨p, la, e, R, s, m, args, below, meth, c, Q, A⟩ := X
  intro ls H locs hl hP hS
  obtain ⟨y1, y2, y3, y4, y5, y6, y7⟩ := hy
  have hts := hX.1.2.2.2.2
  have hG := zGood y4
  have hT : GoodIn TBL (wsV own index y.cls y (Cond.code y cc2 nL2 ret :: TBL)) := by
    intro w hw
    unfold wsV at hw
    rcases List.mem_append.mp hw with h | h
    · simp only [List.mem_cons, List.not_mem_nil, or_false] at h
      rcases h with rfl | rfl | rfl | rfl
      · exact ⟨h1, TBL_good _ h1⟩
      · exact ⟨y1, TBL_good _ y1⟩
      · exact ⟨y2, TBL_good _ y2⟩
      · exact ⟨y3, TBL_good _ y3⟩
    · exact hG w h
  have hF := zS_call hX.2.2.2.1 hX.2.2.2.2.1 hS I J
  refine va_callv (va_runV (C := y.cls) (n := n) (As := As) (rest := st) hX.1 (hM H.size) (cwV n hts hT rfl rfl rfl ⟨rfl, y5, y6, y7⟩ (by rw [hX.2.1]; exact hR)) ⟨zPc_blind, va_recv hX.2.2.1 hP hc (zW_at hL), fun U hU hW => ⟨rfl, by rw [hU], by rw [hU]; exact hP, va_K.moved hW.alike hX.2.2.1, zInj_of (hX.2.2.2.1 I J), zNst_warm hW hX.2.2.2.2.2.1⟩⟩ rfl hn (hl.1) rfl (lv_room hst) hd (by rw [hX.2.1]; exact hf)) hS (fun q _ h => hF q h) hF (fun u t H1 locs1 ht hvm hp hB hz hk hS1 => ?_)
  exact k ls H1 locs1 hl (ht ▸ hB) hS1
theorem Z_cSv {As : List Value} (hX : zOk X G cc nL own d) (hd : decode cc pc = .ok (.invokestatic index, 3)) (hM : zCv X.2.1 G y (Cond.code y cc2 nL2 ret :: TBL) rm2 As I J I1 J1) (hy : zMS y cc2 nL2 ret n) (hn : As.length = n) (ho : y.cls = own) (h1 : Cond.methodLink own index y ∈ TBL) (hR : rm2.frames + 1 ≤ d.frames ∧ 8 + (nL2 + 11) + rm2.locals ≤ d.locals) (hf : a + rm2.cells ≤ d.cells ∧ b + rm2.slots ≤ d.slots) (hst : (st.map fun v => v.category).sum ≤ 8) (k : Z X G nL (a + rm2.cells) (b + rm2.slots) (pc + 3) l st I1 J1) : Z X G nL a b pc l (As.reverse ++ st) I J := by
  obtain ⟨p, la, e, R, s, m, args, below, meth, c, Q, A⟩ := X
  intro ls H locs hl hP hS
  obtain ⟨y1, y3, y4, y5, y6, y7⟩ := hy
  have hts := hX.1.2.2.2.2
  have hG := zGood y4
  have hT : GoodIn TBL (wsS own index y (Cond.code y cc2 nL2 ret :: TBL)) := by
    intro w hw
    unfold wsS at hw
    rcases List.mem_append.mp hw with h | h
    · simp only [List.mem_cons, List.not_mem_nil, or_false] at h
      rcases h with rfl | rfl | rfl
      · exact ⟨h1, TBL_good _ h1⟩
      · exact ⟨y1, TBL_good _ y1⟩
      · rw [ho] at y3; exact ⟨y3, TBL_good _ y3⟩
    · exact hG w h
  have hF := zS_call hX.2.2.2.1 hX.2.2.2.2.1 hS I J
  refine va_callv (va_runS (n := n) (As := As) (rest := st) hX.1 (hM H.size) (cwS n hts hT rfl rfl rfl ⟨ho, y5, y6, y7⟩ (by rw [hX.2.1]; exact hR)) ⟨zPc_blind, fun U hU hW => ⟨rfl, by rw [hU], by rw [hU]; exact hP, va_K.moved hW.alike hX.2.2.1, zInj_of (hX.2.2.2.1 I J), zNst_warm hW hX.2.2.2.2.2.1⟩⟩ rfl hn (hl.1) rfl (lv_room hst) hd (by rw [hX.2.1]; exact hf)) hS (fun q _ h => hF q h) hF (fun u t H1 locs1 ht hvm hp hB hz hk hS1 => ?_)
  exact k ls H1 locs1 hl (ht ▸ hB) hS1
theorem Z_cNv {As : List Value} {host : String} (hX : zOk X G cc nL own d) (hd : decode cc pc = .ok (.invokestatic index, 3)) (hM : zCv X.2.1 G y (Cond.code y cc2 nL2 ret :: TBL) rm2 As I J I1 J1) (hy : zMS y cc2 nL2 ret n) (hn : As.length = n) (h1 : Cond.methodLinkNest own index y host ∈ NEST) (hR : rm2.frames + 1 ≤ d.frames ∧ 8 + (nL2 + 11) + rm2.locals ≤ d.locals) (hf : a + rm2.cells ≤ d.cells ∧ b + rm2.slots ≤ d.slots) (hst : (st.map fun v => v.category).sum ≤ 8) (k : Z X G nL (a + rm2.cells) (b + rm2.slots) (pc + 3) l st I1 J1) : Z X G nL a b pc l (As.reverse ++ st) I J := by
  obtain ⟨p, la, e, R, s, m, args, below, meth, c, Q, A⟩ := X
  intro ls H locs hl hP hS
  obtain ⟨y1, y3, y4, y5, y6, y7⟩ := hy
  have hts := hX.1.2.2.2.2
  have hF := zS_call hX.2.2.2.1 hX.2.2.2.2.1 hS I J
  refine va_callv (va_runSN (n := n) (As := As) (rest := st) hX.1 (hM H.size) ⟨va_cnB n hts (zGood y4) rfl rfl rfl (hX.2.2.2.2.2.1 _ h1) (hts _ y3) ⟨y5, y6, y7⟩ (by rw [hX.2.1]; exact hR), hts _ y1, trivial⟩ ⟨zPc_blind, fun U hU hW => ⟨rfl, by rw [hU], by rw [hU]; exact hP, va_K.moved hW.alike hX.2.2.1, zInj_of (hX.2.2.2.1 I J), zNst_warm hW hX.2.2.2.2.2.1⟩⟩ rfl hn (hl.1) rfl (lv_room hst) hd (by rw [hX.2.1]; exact hf)) hS (fun q _ h => hF q h) hF (fun u t H1 locs1 ht hvm hp hB hz hk hS1 => ?_)
  exact k ls H1 locs1 hl (ht ▸ hB) hS1
theorem Z_cVv0 {c0 ci N : Nat} {T : u_T} {ds : List (Option (Option Nat))} (hX : zOk X G cc nL own d) (hd : decode cc pc = .ok (.invokevirtual index, 3)) (hM : zCv X.2.1 G y (Cond.code y cc2 nL2 ret :: TBL) rm2 (.ref (zad G c0) :: []) I J I1 J1) (hy : zMV y cc2 nL2 ret 0) (hL : lay0[c0]? = some (.inr (.inr (ci, ds)))) (hc : vwCl[ci]? = some (y.cls, T, N)) (h1 : Cond.methodLink own index y ∈ TBL) (hR : rm2.frames + 1 ≤ d.frames ∧ 8 + (nL2 + 11) + rm2.locals ≤ d.locals) (hf : a + rm2.cells ≤ d.cells ∧ b + rm2.slots ≤ d.slots) (hst : (st.map fun v => v.category).sum ≤ 8) (k : Z X G nL (a + rm2.cells) (b + rm2.slots) (pc + 3) l st I1 J1) : Z X G nL a b pc l (.ref (zad G c0) :: st) I J := Z_cVv (As := []) hX hd hM hy rfl hL hc h1 hR hf hst k
theorem Z_cVv1 {c0 ci N : Nat} {T : u_T} {ds : List (Option (Option Nat))} {v1 : Value} (hX : zOk X G cc nL own d) (hd : decode cc pc = .ok (.invokevirtual index, 3)) (hM : zCv X.2.1 G y (Cond.code y cc2 nL2 ret :: TBL) rm2 (.ref (zad G c0) :: [v1]) I J I1 J1) (hy : zMV y cc2 nL2 ret 1) (hL : lay0[c0]? = some (.inr (.inr (ci, ds)))) (hc : vwCl[ci]? = some (y.cls, T, N)) (h1 : Cond.methodLink own index y ∈ TBL) (hR : rm2.frames + 1 ≤ d.frames ∧ 8 + (nL2 + 11) + rm2.locals ≤ d.locals) (hf : a + rm2.cells ≤ d.cells ∧ b + rm2.slots ≤ d.slots) (hst : (st.map fun v => v.category).sum ≤ 8) (k : Z X G nL (a + rm2.cells) (b + rm2.slots) (pc + 3) l st I1 J1) : Z X G nL a b pc l (v1 :: .ref (zad G c0) :: st) I J := Z_cVv (As := [v1]) hX hd hM hy rfl hL hc h1 hR hf hst k
theorem Z_cSv1 {v1 : Value} (hX : zOk X G cc nL own d) (hd : decode cc pc = .ok (.invokestatic index, 3)) (hM : zCv X.2.1 G y (Cond.code y cc2 nL2 ret :: TBL) rm2 [v1] I J I1 J1) (hy : zMS y cc2 nL2 ret 1) (ho : y.cls = own) (h1 : Cond.methodLink own index y ∈ TBL) (hR : rm2.frames + 1 ≤ d.frames ∧ 8 + (nL2 + 11) + rm2.locals ≤ d.locals) (hf : a + rm2.cells ≤ d.cells ∧ b + rm2.slots ≤ d.slots) (hst : (st.map fun v => v.category).sum ≤ 8) (k : Z X G nL (a + rm2.cells) (b + rm2.slots) (pc + 3) l st I1 J1) : Z X G nL a b pc l (v1 :: st) I J := Z_cSv (As := [v1]) hX hd hM hy rfl ho h1 hR hf hst k
theorem Z_cNv1 {host : String} {v1 : Value} (hX : zOk X G cc nL own d) (hd : decode cc pc = .ok (.invokestatic index, 3)) (hM : zCv X.2.1 G y (Cond.code y cc2 nL2 ret :: TBL) rm2 [v1] I J I1 J1) (hy : zMS y cc2 nL2 ret 1) (h1 : Cond.methodLinkNest own index y host ∈ NEST) (hR : rm2.frames + 1 ≤ d.frames ∧ 8 + (nL2 + 11) + rm2.locals ≤ d.locals) (hf : a + rm2.cells ≤ d.cells ∧ b + rm2.slots ≤ d.slots) (hst : (st.map fun v => v.category).sum ≤ 8) (k : Z X G nL (a + rm2.cells) (b + rm2.slots) (pc + 3) l st I1 J1) : Z X G nL a b pc l (v1 :: st) I J := Z_cNv (As := [v1]) hX hd hM hy rfl h1 hR hf hst k
theorem Z_cVv2 {c0 ci N : Nat} {T : u_T} {ds : List (Option (Option Nat))} {v1 v2 : Value} (hX : zOk X G cc nL own d) (hd : decode cc pc = .ok (.invokevirtual index, 3)) (hM : zCv X.2.1 G y (Cond.code y cc2 nL2 ret :: TBL) rm2 (.ref (zad G c0) :: [v1, v2]) I J I1 J1) (hy : zMV y cc2 nL2 ret 2) (hL : lay0[c0]? = some (.inr (.inr (ci, ds)))) (hc : vwCl[ci]? = some (y.cls, T, N)) (h1 : Cond.methodLink own index y ∈ TBL) (hR : rm2.frames + 1 ≤ d.frames ∧ 8 + (nL2 + 11) + rm2.locals ≤ d.locals) (hf : a + rm2.cells ≤ d.cells ∧ b + rm2.slots ≤ d.slots) (hst : (st.map fun v => v.category).sum ≤ 8) (k : Z X G nL (a + rm2.cells) (b + rm2.slots) (pc + 3) l st I1 J1) : Z X G nL a b pc l (v2 :: v1 :: .ref (zad G c0) :: st) I J := Z_cVv (As := [v1, v2]) hX hd hM hy rfl hL hc h1 hR hf hst k
theorem Z_cSv2 {v1 v2 : Value} (hX : zOk X G cc nL own d) (hd : decode cc pc = .ok (.invokestatic index, 3)) (hM : zCv X.2.1 G y (Cond.code y cc2 nL2 ret :: TBL) rm2 [v1, v2] I J I1 J1) (hy : zMS y cc2 nL2 ret 2) (ho : y.cls = own) (h1 : Cond.methodLink own index y ∈ TBL) (hR : rm2.frames + 1 ≤ d.frames ∧ 8 + (nL2 + 11) + rm2.locals ≤ d.locals) (hf : a + rm2.cells ≤ d.cells ∧ b + rm2.slots ≤ d.slots) (hst : (st.map fun v => v.category).sum ≤ 8) (k : Z X G nL (a + rm2.cells) (b + rm2.slots) (pc + 3) l st I1 J1) : Z X G nL a b pc l (v2 :: v1 :: st) I J := Z_cSv (As := [v1, v2]) hX hd hM hy rfl ho h1 hR hf hst k
theorem Z_cNv2 {host : String} {v1 v2 : Value} (hX : zOk X G cc nL own d) (hd : decode cc pc = .ok (.invokestatic index, 3)) (hM : zCv X.2.1 G y (Cond.code y cc2 nL2 ret :: TBL) rm2 [v1, v2] I J I1 J1) (hy : zMS y cc2 nL2 ret 2) (h1 : Cond.methodLinkNest own index y host ∈ NEST) (hR : rm2.frames + 1 ≤ d.frames ∧ 8 + (nL2 + 11) + rm2.locals ≤ d.locals) (hf : a + rm2.cells ≤ d.cells ∧ b + rm2.slots ≤ d.slots) (hst : (st.map fun v => v.category).sum ≤ 8) (k : Z X G nL (a + rm2.cells) (b + rm2.slots) (pc + 3) l st I1 J1) : Z X G nL a b pc l (v2 :: v1 :: st) I J := Z_cNv (As := [v1, v2]) hX hd hM hy rfl h1 hR hf hst k
theorem Z_cVv3 {c0 ci N : Nat} {T : u_T} {ds : List (Option (Option Nat))} {v1 v2 v3 : Value} (hX : zOk X G cc nL own d) (hd : decode cc pc = .ok (.invokevirtual index, 3)) (hM : zCv X.2.1 G y (Cond.code y cc2 nL2 ret :: TBL) rm2 (.ref (zad G c0) :: [v1, v2, v3]) I J I1 J1) (hy : zMV y cc2 nL2 ret 3) (hL : lay0[c0]? = some (.inr (.inr (ci, ds)))) (hc : vwCl[ci]? = some (y.cls, T, N)) (h1 : Cond.methodLink own index y ∈ TBL) (hR : rm2.frames + 1 ≤ d.frames ∧ 8 + (nL2 + 11) + rm2.locals ≤ d.locals) (hf : a + rm2.cells ≤ d.cells ∧ b + rm2.slots ≤ d.slots) (hst : (st.map fun v => v.category).sum ≤ 8) (k : Z X G nL (a + rm2.cells) (b + rm2.slots) (pc + 3) l st I1 J1) : Z X G nL a b pc l (v3 :: v2 :: v1 :: .ref (zad G c0) :: st) I J := Z_cVv (As := [v1, v2, v3]) hX hd hM hy rfl hL hc h1 hR hf hst k
theorem Z_cSv3 {v1 v2 v3 : Value} (hX : zOk X G cc nL own d) (hd : decode cc pc = .ok (.invokestatic index, 3)) (hM : zCv X.2.1 G y (Cond.code y cc2 nL2 ret :: TBL) rm2 [v1, v2, v3] I J I1 J1) (hy : zMS y cc2 nL2 ret 3) (ho : y.cls = own) (h1 : Cond.methodLink own index y ∈ TBL) (hR : rm2.frames + 1 ≤ d.frames ∧ 8 + (nL2 + 11) + rm2.locals ≤ d.locals) (hf : a + rm2.cells ≤ d.cells ∧ b + rm2.slots ≤ d.slots) (hst : (st.map fun v => v.category).sum ≤ 8) (k : Z X G nL (a + rm2.cells) (b + rm2.slots) (pc + 3) l st I1 J1) : Z X G nL a b pc l (v3 :: v2 :: v1 :: st) I J := Z_cSv (As := [v1, v2, v3]) hX hd hM hy rfl ho h1 hR hf hst k
theorem Z_cNv3 {host : String} {v1 v2 v3 : Value} (hX : zOk X G cc nL own d) (hd : decode cc pc = .ok (.invokestatic index, 3)) (hM : zCv X.2.1 G y (Cond.code y cc2 nL2 ret :: TBL) rm2 [v1, v2, v3] I J I1 J1) (hy : zMS y cc2 nL2 ret 3) (h1 : Cond.methodLinkNest own index y host ∈ NEST) (hR : rm2.frames + 1 ≤ d.frames ∧ 8 + (nL2 + 11) + rm2.locals ≤ d.locals) (hf : a + rm2.cells ≤ d.cells ∧ b + rm2.slots ≤ d.slots) (hst : (st.map fun v => v.category).sum ≤ 8) (k : Z X G nL (a + rm2.cells) (b + rm2.slots) (pc + 3) l st I1 J1) : Z X G nL a b pc l (v3 :: v2 :: v1 :: st) I J := Z_cNv (As := [v1, v2, v3]) hX hd hM hy rfl h1 hR hf hst k
theorem Z_cVv4 {c0 ci N : Nat} {T : u_T} {ds : List (Option (Option Nat))} {v1 v2 v3 v4 : Value} (hX : zOk X G cc nL own d) (hd : decode cc pc = .ok (.invokevirtual index, 3)) (hM : zCv X.2.1 G y (Cond.code y cc2 nL2 ret :: TBL) rm2 (.ref (zad G c0) :: [v1, v2, v3, v4]) I J I1 J1) (hy : zMV y cc2 nL2 ret 4) (hL : lay0[c0]? = some (.inr (.inr (ci, ds)))) (hc : vwCl[ci]? = some (y.cls, T, N)) (h1 : Cond.methodLink own index y ∈ TBL) (hR : rm2.frames + 1 ≤ d.frames ∧ 8 + (nL2 + 11) + rm2.locals ≤ d.locals) (hf : a + rm2.cells ≤ d.cells ∧ b + rm2.slots ≤ d.slots) (hst : (st.map fun v => v.category).sum ≤ 8) (k : Z X G nL (a + rm2.cells) (b + rm2.slots) (pc + 3) l st I1 J1) : Z X G nL a b pc l (v4 :: v3 :: v2 :: v1 :: .ref (zad G c0) :: st) I J := Z_cVv (As := [v1, v2, v3, v4]) hX hd hM hy rfl hL hc h1 hR hf hst k
theorem Z_cSv4 {v1 v2 v3 v4 : Value} (hX : zOk X G cc nL own d) (hd : decode cc pc = .ok (.invokestatic index, 3)) (hM : zCv X.2.1 G y (Cond.code y cc2 nL2 ret :: TBL) rm2 [v1, v2, v3, v4] I J I1 J1) (hy : zMS y cc2 nL2 ret 4) (ho : y.cls = own) (h1 : Cond.methodLink own index y ∈ TBL) (hR : rm2.frames + 1 ≤ d.frames ∧ 8 + (nL2 + 11) + rm2.locals ≤ d.locals) (hf : a + rm2.cells ≤ d.cells ∧ b + rm2.slots ≤ d.slots) (hst : (st.map fun v => v.category).sum ≤ 8) (k : Z X G nL (a + rm2.cells) (b + rm2.slots) (pc + 3) l st I1 J1) : Z X G nL a b pc l (v4 :: v3 :: v2 :: v1 :: st) I J := Z_cSv (As := [v1, v2, v3, v4]) hX hd hM hy rfl ho h1 hR hf hst k
theorem Z_cNv4 {host : String} {v1 v2 v3 v4 : Value} (hX : zOk X G cc nL own d) (hd : decode cc pc = .ok (.invokestatic index, 3)) (hM : zCv X.2.1 G y (Cond.code y cc2 nL2 ret :: TBL) rm2 [v1, v2, v3, v4] I J I1 J1) (hy : zMS y cc2 nL2 ret 4) (h1 : Cond.methodLinkNest own index y host ∈ NEST) (hR : rm2.frames + 1 ≤ d.frames ∧ 8 + (nL2 + 11) + rm2.locals ≤ d.locals) (hf : a + rm2.cells ≤ d.cells ∧ b + rm2.slots ≤ d.slots) (hst : (st.map fun v => v.category).sum ≤ 8) (k : Z X G nL (a + rm2.cells) (b + rm2.slots) (pc + 3) l st I1 J1) : Z X G nL a b pc l (v4 :: v3 :: v2 :: v1 :: st) I J := Z_cNv (As := [v1, v2, v3, v4]) hX hd hM hy rfl h1 hR hf hst k
end ZC
