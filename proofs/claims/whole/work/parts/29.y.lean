/-! The making of the world: rows over a list of cells that grows. -/
abbrev yG : Type := va_G × (FieldType → ClassId)
def yT (T : FieldType → ClassId) : List (ClassId × FieldType) := [(T .int, .int), (T .boolean, .boolean), (T .long, .long)]
abbrev yO (q ci : Nat) (fs : List Value) : Nat × va_E := (q, .inr (ci, fs))
abbrev yI (D : yG) (q n : Nat) (f : Nat → Int32) : Nat × va_E := (q, .inl (D.2 .int, n, .inl f))
abbrev yZ (D : yG) (q n : Nat) (f : Nat → Int32) : Nat × va_E := (q, .inl (D.2 .boolean, n, .inl f))
abbrev yJ (D : yG) (q n : Nat) (f : Nat → Int64) : Nat × va_E := (q, .inl (D.2 .long, n, .inr (.inl f)))
def y0 : Nat → Int32 := fun _ => 0
def y0L : Nat → Int64 := fun _ => 0
def yF (n : Nat) (v : Int32) (f : Nat → Int32) : Nat → Int32 := fun k => if k < n then v else f k
def yU (l : List Nat) : Nat → Nat := fun k => l.getD k 0
theorem yF_0 {v : Int32} {f : Nat → Int32} : yF 0 v f = f := by
  funext k
  simp [yF]
theorem yF_s {n : Nat} {v : Int32} {f : Nat → Int32} : upd (yF n v f) n v = yF (n + 1) v f := by
  funext k
  unfold upd yF
  by_cases h : k = n
  · subst h; simp
  · by_cases h2 : k < n
    · rw [if_neg h, if_pos h2, if_pos (by omega)]
    · rw [if_neg h, if_neg h2, if_neg (by omega)]
def yN (U : State) : Prop := zNst U ∧ va_Nw (.methodLinkNest "ClockTree" 30 y_Ck_init "ClockTree") U
theorem yN_warm {s U : State} (hW : s.WarmedH U.vm) (h : yN s) : yN U := ⟨zNst_warm hW h.1, va_Nw.warmM hW h.2⟩
theorem yN_calling {U : State} {g : JFrame} {mk : MethodId} {a : Array Value} (h : yN U) : yN (U.calling g mk a) := ⟨zNst_calling h.1, va_Nw.same rfl rfl h.2⟩
def zRc (d k n : Nat) : Room := { frames := d, cells := k, slots := n, locals := 36 * d + 30 }
def Y (X : zX) (D : yG) (nL a b pc : Nat) (l : List (Nat × Value)) (st : List Value) (ws : va_W) : Prop := match X with
  | (p, la, e, R, s, m, args, below, meth, c, Q, A) => ∀ (ls : Array Slot) (H : Heap) (locs : List Loc), z_has ls nL l → va_P D.1 vwCl ws H → va_D A ws → va_S A s.heap H locs → W p la e R s m args below meth c H locs a b Q (F0 m pc ls st)
def yOk (X : zX) (D : yG) (cc : ByteArray) (nL : Nat) (own : String) (d : Room) : Prop := match X with
  | (p, _, _, R, s, m, args, _, meth, c, _, A) => (p.tables.exec = Jvm.exec ∧ c.code = cc ∧ c.maxLocals = nL ∧ s.vm.findClass own = some m.cls ∧ ∀ w ∈ TBL, w.before args s = true) ∧ R = d ∧ va_K D.1 vwCl (yT D.2) s ∧ (∀ q : Nat, s.heap.size ≤ q → A q) ∧ yN s ∧ meth.locks = false
def yNm (X : zX) (nm : String) : Prop := match X with
  | (_, _, _, _, _, _, _, _, meth, _, _, _) => meth.name = nm
theorem y_fm {α β : Type} {f : α → Option β} {is : List α} {w : List β} (h : is.map f = w.map some) : is.filterMap f = w := by
  have e1 : is.filterMap f = (is.map f).filterMap id := by rw [List.filterMap_map]; rfl
  rw [e1, h, List.filterMap_map]
  have e2 : (id ∘ some : β → Option β) = some := rfl
  rw [e2, List.filterMap_some]
section YR
variable {X : zX} {D : yG} {cc : ByteArray} {nL a b pc : Nat} {own : String} {d : Room} {l : List (Nat × Value)} {st : List Value} {ws ws' : va_W}
theorem Y_loc {l' : List (Nat × Value)} (hs : l'.map (fun q => l.lookup q.1) = l'.map (fun q => some q.2)) (k : Y X D nL a b pc l' st ws) : Y X D nL a b pc l st ws := by
  obtain ⟨p, la, e, R, s, m, args, below, meth, c, Q, A⟩ := X
  intro ls H locs hl hP hD hS
  exact k ls H locs (hl.sub hs) hP hD hS
theorem Y_wid {a' b' : Nat} (h1 : a ≤ a') (h2 : b ≤ b') (k : Y X D nL a' b' pc l st ws) : Y X D nL a b pc l st ws := by
  obtain ⟨p, la, e, R, s, m, args, below, meth, c, Q, A⟩ := X
  intro ls H locs hl hP hD hS
  exact W.widen h1 h2 (k ls H locs hl hP hD hS)
theorem Y_sub (is : List Nat) (hn : va_nd is = true) (h : is.map (fun i => ws[i]?) = ws'.map some) (k : Y X D nL a b pc l st ws') : Y X D nL a b pc l st ws := by
  obtain ⟨p, la, e, R, s, m, args, below, meth, c, Q, A⟩ := X
  intro ls H locs hl hP hD hS
  exact k ls H locs hl (hP.sub is (y_fm h)) (hD.sub is hn h) hS
theorem Y_aload_n {f : Fin 4} {i : Nat} {x : Nat} (hX : yOk X D cc nL own d) (hd : decode cc pc = .ok (.aload_n f, 1)) (hi : (f : Nat) = i) (hk : l.lookup i = some (.ref x)) (k : Y X D nL a b (pc + 1) l (.ref x :: st) ws) : Y X D nL a b pc l st ws := by
  obtain ⟨p, la, e, R, s, m, args, below, meth, c, Q, A⟩ := X
  intro ls H locs hl hP hD hS
  exact lv_aload_n hX.1.1 hX.1.2.1 hd hi (hl.2.2 _ _ hk) (k ls H locs hl hP hD hS)
theorem Y_iload_n {f : Fin 4} {i : Nat} {x : Int32} (hX : yOk X D cc nL own d) (hd : decode cc pc = .ok (.iload_n f, 1)) (hi : (f : Nat) = i) (hk : l.lookup i = some (.int x)) (k : Y X D nL a b (pc + 1) l (.int x :: st) ws) : Y X D nL a b pc l st ws := by
  obtain ⟨p, la, e, R, s, m, args, below, meth, c, Q, A⟩ := X
  intro ls H locs hl hP hD hS
  exact lv_iload_n hX.1.1 hX.1.2.1 hd hi (hl.2.2 _ _ hk) (k ls H locs hl hP hD hS)
theorem Y_istore_n {f : Fin 4} {i : Nat} {x : Int32} (hX : yOk X D cc nL own d) (hd : decode cc pc = .ok (.istore_n f, 1)) (hi : (f : Nat) = i) (hn : i < nL) (hc : (l.lookup (i - 1)).all (fun w => w.category == 1) = true) (k : Y X D nL a b (pc + 1) ((i, .int x) :: l) st ws) : Y X D nL a b pc l (.int x :: st) ws := by
  obtain ⟨p, la, e, R, s, m, args, below, meth, c, Q, A⟩ := X
  intro ls H locs hl hP hD hS
  exact lv_istore_n hX.1.1 hX.1.2.1 hd hi (z_lv_has hl) hn rfl (fun ls2 h2 => k ls2 H locs (z_st1 hc h2) hP hD hS)
theorem Y_istore {i : Nat} {x : Int32} (hX : yOk X D cc nL own d) (hd : decode cc pc = .ok (.istore i, 2)) (hn : i < nL) (hc : (l.lookup (i - 1)).all (fun w => w.category == 1) = true) (k : Y X D nL a b (pc + 2) ((i, .int x) :: l) st ws) : Y X D nL a b pc l (.int x :: st) ws := by
  obtain ⟨p, la, e, R, s, m, args, below, meth, c, Q, A⟩ := X
  intro ls H locs hl hP hD hS
  exact lv_istore hX.1.1 hX.1.2.1 hd (z_lv_has hl) hn rfl (fun ls2 h2 => k ls2 H locs (z_st1 hc h2) hP hD hS)
theorem Y_astore_n {f : Fin 4} {i : Nat} {x : Nat} (hX : yOk X D cc nL own d) (hd : decode cc pc = .ok (.astore_n f, 1)) (hi : (f : Nat) = i) (hn : i < nL) (hc : (l.lookup (i - 1)).all (fun w => w.category == 1) = true) (k : Y X D nL a b (pc + 1) ((i, .ref x) :: l) st ws) : Y X D nL a b pc l (.ref x :: st) ws := by
  obtain ⟨p, la, e, R, s, m, args, below, meth, c, Q, A⟩ := X
  intro ls H locs hl hP hD hS
  exact lv_astore_n hX.1.1 hX.1.2.1 hd hi (z_lv_has hl) hn rfl (fun ls2 h2 => k ls2 H locs (z_st1 hc h2) hP hD hS)
theorem Y_iconst {n : Int} {v : Int32} (hX : yOk X D cc nL own d) (hd : decode cc pc = .ok (.iconst n, 1)) (hv : Int32.ofInt n = v) (k : Y X D nL a b (pc + 1) l (.int v :: st) ws) : Y X D nL a b pc l st ws := by
  obtain ⟨p, la, e, R, s, m, args, below, meth, c, Q, A⟩ := X
  intro ls H locs hl hP hD hS
  exact lv_iconst hX.1.1 hX.1.2.1 hd hv (k ls H locs hl hP hD hS)
theorem Y_bipush {n : Int} {v : Int32} (hX : yOk X D cc nL own d) (hd : decode cc pc = .ok (.bipush n, 2)) (hv : (Int8.ofInt n).toInt32 = v) (k : Y X D nL a b (pc + 2) l (.int v :: st) ws) : Y X D nL a b pc l st ws := by
  obtain ⟨p, la, e, R, s, m, args, below, meth, c, Q, A⟩ := X
  intro ls H locs hl hP hD hS
  exact lv_bipush hX.1.1 hX.1.2.1 hd hv (k ls H locs hl hP hD hS)
theorem Y_sipush {n : Int} {v : Int32} (hX : yOk X D cc nL own d) (hd : decode cc pc = .ok (.sipush n, 3)) (hv : (Int16.ofInt n).toInt32 = v) (k : Y X D nL a b (pc + 3) l (.int v :: st) ws) : Y X D nL a b pc l st ws := by
  obtain ⟨p, la, e, R, s, m, args, below, meth, c, Q, A⟩ := X
  intro ls H locs hl hP hD hS
  exact lv_sipush hX.1.1 hX.1.2.1 hd hv (k ls H locs hl hP hD hS)
theorem Y_lconst {n : Fin 2} {v : Int64} (hX : yOk X D cc nL own d) (hd : decode cc pc = .ok (.lconst n, 1)) (hv : Int64.ofNat (n : Nat) = v) (k : Y X D nL a b (pc + 1) l (.long v :: st) ws) : Y X D nL a b pc l st ws := by
  obtain ⟨p, la, e, R, s, m, args, below, meth, c, Q, A⟩ := X
  intro ls H locs hl hP hD hS
  exact lv_lconst hX.1.1 hX.1.2.1 hd hv (k ls H locs hl hP hD hS)
theorem Y_dup {va : Value} (hX : yOk X D cc nL own d) (hd : decode cc pc = .ok (.dup, 1)) (hv : va.category = 1) (k : Y X D nL a b (pc + 1) l (va :: va :: st) ws) : Y X D nL a b pc l (va :: st) ws := by
  obtain ⟨p, la, e, R, s, m, args, below, meth, c, Q, A⟩ := X
  intro ls H locs hl hP hD hS
  exact lv_dup hX.1.1 hX.1.2.1 hd hv (k ls H locs hl hP hD hS)
theorem Y_iadd {x y : Int32} (hX : yOk X D cc nL own d) (hd : decode cc pc = .ok (.iadd, 1)) (k : Y X D nL a b (pc + 1) l (.int (x + y) :: st) ws) : Y X D nL a b pc l (.int y :: .int x :: st) ws := by
  obtain ⟨p, la, e, R, s, m, args, below, meth, c, Q, A⟩ := X
  intro ls H locs hl hP hD hS
  exact lv_iadd hX.1.1 hX.1.2.1 hd (k ls H locs hl hP hD hS)
theorem Y_top {x y : Int32} (h : x = y) (k : Y X D nL a b pc l (.int y :: st) ws) : Y X D nL a b pc l (.int x :: st) ws := by
  subst h; exact k
theorem Y_mem (h : ws = ws') (k : Y X D nL a b pc l st ws') : Y X D nL a b pc l st ws := by
  subst h; exact k
theorem Y_iinc {i : Nat} {n : Int} {x v : Int32} (hX : yOk X D cc nL own d) (hd : decode cc pc = .ok (.iinc i n, 3)) (hk : l.lookup i = some (.int x)) (hv : x + Int32.ofInt n = v) (hn : i < nL) (hc : (l.lookup (i - 1)).all (fun w => w.category == 1) = true) (k : Y X D nL a b (pc + 3) ((i, .int v) :: l) st ws) : Y X D nL a b pc l st ws := by
  obtain ⟨p, la, e, R, s, m, args, below, meth, c, Q, A⟩ := X
  intro ls H locs hl hP hD hS
  obtain ⟨k0, hk0⟩ := List.getElem?_of_mem (z_lv_in hk)
  exact lv_iinc hX.1.1 hX.1.2.1 hd (z_lv_has hl) hk0 hv hn rfl (fun ls2 h2 => k ls2 H locs (z_st1 hc h2) hP hD hS)
theorem Y_icge {x y : Int32} {off : Int} {tgt : Nat} (hX : yOk X D cc nL own d) (hd : decode cc pc = .ok (.if_icmp .ge off, 3)) (ht : (pc : Int) + off = (tgt : Int)) (kt : y ≤ x → Y X D nL a b tgt l st ws) (kf : ¬ y ≤ x → Y X D nL a b (pc + 3) l st ws) : Y X D nL a b pc l (.int y :: .int x :: st) ws := by
  obtain ⟨p, la, e, R, s, m, args, below, meth, c, Q, A⟩ := X
  intro ls H locs hl hP hD hS
  exact lv_icmp_ge hX.1.1 hX.1.2.1 hd ht (fun h => kt h ls H locs hl hP hD hS) (fun h => kf h ls H locs hl hP hD hS)
theorem Y_goto {off : Int} {tgt : Nat} (hX : yOk X D cc nL own d) (hd : decode cc pc = .ok (.goto off, 3)) (ht : (pc : Int) + off = (tgt : Int)) (k : Y X D nL a b tgt l st ws) : Y X D nL a b pc l st ws := by
  obtain ⟨p, la, e, R, s, m, args, below, meth, c, Q, A⟩ := X
  intro ls H locs hl hP hD hS
  exact lv_goto hX.1.1 hX.1.2.1 hd ht (k ls H locs hl hP hD hS)
theorem Y_oinit {idx q : Nat} (hX : yOk X D cc nL own d) (hd : decode cc pc = .ok (.invokespecial idx, 3)) (h1 : Cond.methodLink own idx Lib.objectInit ∈ TBL) (h2 : Cond.instanceMethod Lib.objectInit ∈ TBL) (h3 : Cond.code Lib.objectInit ⟨#[0xb1]⟩ 1 none ∈ TBL) (hf : 1 ≤ d.frames) (hlo : (st.map fun v => v.category).sum + 12 ≤ d.locals) (k : Y X D nL a b (pc + 3) l st ws) : Y X D nL a b pc l (.ref q :: st) ws := by
  obtain ⟨p, la, e, R, s, m, args, below, meth, c, Q, A⟩ := X
  intro ls H locs hl hP hD hS
  have hR := hX.2.1
  subst hR
  refine W.objInit hX.1.1 hX.1.2.1 hX.1.2.2.2.1 (hX.1.2.2.2.2 _ h1) (hX.1.2.2.2.2 _ h2) (hX.1.2.2.2.2 _ h3) rfl (hl.1.trans hX.1.2.2.1.symm) rfl hd hf ?_ ?_
  · show 2 * 0 + (st.map fun v => v.category).sum + 12 ≤ R.locals
    omega
  · exact k ls H locs hl hP hD hS
theorem Y_new {C : String} {T : u_T} {N ci index : Nat} {fs : List Value} (hX : yOk X D cc nL own d) (hd : decode cc pc = .ok (.new index, 3)) (hu : ∀ w ∈ u_ws C T N, w ∈ TBL) (ty : Nat → FieldType) (hty : ∀ k, k < N → parseFieldDescriptor (T k).2.2.1 = some (ty k)) (h1 : Cond.classLink own index C ∈ TBL) (h2 : Cond.instantiable C N ∈ TBL) (h3 : Cond.initialized C ∈ TBL) (hc : vwCl[ci]? = some (C, T, N)) (hfs : ∀ j, j < N → defaultValue (ty j) = vp_V fs j) (hce : a + 1 ≤ d.cells) (hsl : b + N ≤ d.slots) (k : ∀ q : Nat, Y X D nL (a + 1) (b + N) (pc + 3) l (.ref q :: st) (ws ++ [yO q ci fs])) : Y X D nL a b pc l st ws := by
  obtain ⟨p, la, e, R, s, m, args, below, meth, c, Q, A⟩ := X
  intro ls H locs hl hP hD hS
  have hR := hX.2.1
  subst hR
  exact va_new hX.1.1 hX.1.2.1 hX.1.2.2.2.2 hu ty hty hX.1.2.2.2.1 (hX.1.2.2.2.2 _ h1) (hX.1.2.2.2.2 _ h2) (hX.1.2.2.2.2 _ h3) hX.2.2.1 hP hD hS hX.2.2.2.1 hc hfs hce hsl hd (fun q H1 hP1 hD1 hS1 => k q ls H1 locs hl hP1 hD1 hS1)
theorem Y_newa {at0 : ArrayType} {ty : FieldType} {n : Int32} {N : Nat} {a0 : vp_A} {t0 : Nat} (hX : yOk X D cc nL own d) (hd : decode cc pc = .ok (.newarray at0, 2)) (h1 : Cond.arrayClass (newarray.typeOf at0) ∈ TBL) (hty : newarray.typeOf at0 = ty) (hpr : ∀ U c, va_RA U c ty → U.vm.findClass ("[" ++ ty.toString) = some c) (ht : (yT D.2)[t0]? = some (D.2 ty, ty)) (ha : ∀ cA : ClassId, vp_cell cA a0 = arrV cA N (fun _ => defaultValue ty)) (hn : ¬ n < 0) (hN : n.toNatClampNeg = N) (hby : N * componentBytes ty ≤ 536870912) (hce : a + 1 ≤ d.cells) (hsl : b + N ≤ d.slots) (k : ∀ q : Nat, Y X D nL (a + 1) (b + N) (pc + 2) l (.ref q :: st) (ws ++ [(q, .inl (D.2 ty, a0))])) : Y X D nL a b pc l (.int n :: st) ws := by
  obtain ⟨p, la, e, R, s, m, args, below, meth, c, Q, A⟩ := X
  intro ls H locs hl hP hD hS
  have hR := hX.2.1
  subst hR
  refine va_newa hX.1.1 hX.1.2.1 (hX.1.2.2.2.2 _ h1) hty hX.2.2.1 hP hD hS hX.2.2.2.1 ha hn hN hby hce hsl hd (fun q cA H1 hK1 hP1 hD1 hS1 => ?_)
  have e1 : cA = D.2 ty := by
    have q1 := hpr _ _ (hX.2.2.1.2 t0 _ ht).2
    have q2 := hpr _ _ (hK1.2 (yT D.2).length (cA, ty) (by rw [List.getElem?_append_right (Nat.le_refl _), Nat.sub_self]; rfl)).2
    exact Option.some.inj (q2.symm.trans q1)
  subst e1
  exact k q ls H1 locs hl hP1 hD1 hS1
theorem Y_newI {n : Int32} {N : Nat} (hX : yOk X D cc nL own d) (hd : decode cc pc = .ok (.newarray .int, 2)) (h1 : Cond.arrayClass .int ∈ TBL) (hn : ¬ n < 0) (hN : n.toNatClampNeg = N) (hby : N ≤ 1000) (hce : a + 1 ≤ d.cells) (hsl : b + N ≤ d.slots) (k : ∀ q : Nat, Y X D nL (a + 1) (b + N) (pc + 2) l (.ref q :: st) (ws ++ [yI D q N y0])) : Y X D nL a b pc l (.int n :: st) ws := Y_newa (t0 := 0) hX hd h1 rfl (fun _ _ h => h) rfl (fun _ => rfl) hn hN (by show N * 4 ≤ _; omega) hce hsl k
theorem Y_newZ {n : Int32} {N : Nat} (hX : yOk X D cc nL own d) (hd : decode cc pc = .ok (.newarray .boolean, 2)) (h1 : Cond.arrayClass .boolean ∈ TBL) (hn : ¬ n < 0) (hN : n.toNatClampNeg = N) (hby : N ≤ 1000) (hce : a + 1 ≤ d.cells) (hsl : b + N ≤ d.slots) (k : ∀ q : Nat, Y X D nL (a + 1) (b + N) (pc + 2) l (.ref q :: st) (ws ++ [yZ D q N y0])) : Y X D nL a b pc l (.int n :: st) ws := Y_newa (t0 := 1) hX hd h1 rfl (fun _ _ h => h) rfl (fun _ => rfl) hn hN (by show N * 1 ≤ _; omega) hce hsl k
theorem Y_newJ {n : Int32} {N : Nat} (hX : yOk X D cc nL own d) (hd : decode cc pc = .ok (.newarray .long, 2)) (h1 : Cond.arrayClass .long ∈ TBL) (hn : ¬ n < 0) (hN : n.toNatClampNeg = N) (hby : N ≤ 1000) (hce : a + 1 ≤ d.cells) (hsl : b + N ≤ d.slots) (k : ∀ q : Nat, Y X D nL (a + 1) (b + N) (pc + 2) l (.ref q :: st) (ws ++ [yJ D q N y0L])) : Y X D nL a b pc l (.int n :: st) ws := Y_newa (t0 := 2) hX hd h1 rfl (fun _ _ h => h) rfl (fun _ => rfl) hn hN (by show N * 8 ≤ _; omega) hce hsl k
theorem Y_putF {index q0 ci k0 N q : Nat} {C : String} {T : u_T} {fs : List Value} {v : Value} {ty : FieldType} (hX : yOk X D cc nL own d) (hM : yNm X "<init>") (hd : decode cc pc = .ok (.putfield index, 3)) (he : ws[q0]? = some (yO q ci fs)) (hc : vwCl[ci]? = some (C, T, N)) (hu : ∀ w ∈ u_ws C T N, w ∈ TBL) (hk : k0 < N) (hl0 : Cond.fieldLink own index (T k0).1 (T k0).2.1 (T k0).2.2.1 ∈ TBL) (ty0 : Nat → FieldType) (hty : ∀ k, k < N → parseFieldDescriptor (T k).2.2.1 = some (ty0 k)) (hnm : ∀ a, a < N → ∀ b, b < N → a ≠ b → (T a).2.1 ≠ (T b).2.1) (hfin : (T k0).2.2.2 = true) (hde0 : (T k0).1 = own) (hde : parseFieldDescriptor (T k0).2.2.1 = some ty) (hna : narrow ty v = v) (hfi : fits ty v = true) (hlen : k0 < fs.length) (hw : ws.set q0 (yO q ci (fs.set k0 v)) = ws') (k : Y X D nL a b (pc + 3) l st ws') : Y X D nL a b pc l (v :: .ref q :: st) ws := by
  obtain ⟨p, la, e, R, s, m, args, below, meth, c, Q, A⟩ := X
  intro ls H locs hl hP hD hS
  subst hw
  exact va_putF hX.1.1 hX.1.2.1 hX.1.2.2.2.2 hu ty0 hty hnm hX.1.2.2.2.1 hX.2.2.1 hP hD hS q0 he hc k0 hk (hX.1.2.2.2.2 _ hl0) (fun _ h => h) hfin hM hde0 hde hna hfi hlen hd (fun H1 locs1 hP1 hD1 hS1 => k ls H1 locs1 hl hP1 hD1 hS1)
theorem Y_put {index q0 ci k0 N q : Nat} {C : String} {T : u_T} {fs : List Value} {v : Value} {ty : FieldType} (hX : yOk X D cc nL own d) (hd : decode cc pc = .ok (.putfield index, 3)) (he : ws[q0]? = some (yO q ci fs)) (hc : vwCl[ci]? = some (C, T, N)) (hu : ∀ w ∈ u_ws C T N, w ∈ TBL) (hk : k0 < N) (hl0 : Cond.fieldLink own index (T k0).1 (T k0).2.1 (T k0).2.2.1 ∈ TBL) (ty0 : Nat → FieldType) (hty : ∀ k, k < N → parseFieldDescriptor (T k).2.2.1 = some (ty0 k)) (hnm : ∀ a, a < N → ∀ b, b < N → a ≠ b → (T a).2.1 ≠ (T b).2.1) (hfin : (T k0).2.2.2 = false) (hde : parseFieldDescriptor (T k0).2.2.1 = some ty) (hna : narrow ty v = v) (hfi : fits ty v = true) (hlen : k0 < fs.length) (hw : ws.set q0 (yO q ci (fs.set k0 v)) = ws') (k : Y X D nL a b (pc + 3) l st ws') : Y X D nL a b pc l (v :: .ref q :: st) ws := by
  obtain ⟨p, la, e, R, s, m, args, below, meth, c, Q, A⟩ := X
  intro ls H locs hl hP hD hS
  subst hw
  exact va_put hX.1.1 hX.1.2.1 hX.1.2.2.2.2 hu ty0 hty hnm hX.1.2.2.2.1 hX.2.2.1 hP hD hS q0 he hc k0 hk (hX.1.2.2.2.2 _ hl0) (fun _ h => h) hfin hde hna hfi hlen hd (fun H1 locs1 hP1 hD1 hS1 => k ls H1 locs1 hl hP1 hD1 hS1)
theorem Y_get {index q0 ci k0 N q : Nat} {C : String} {T : u_T} {fs : List Value} {v : Value} (hX : yOk X D cc nL own d) (hd : decode cc pc = .ok (.getfield index, 3)) (he : ws[q0]? = some (yO q ci fs)) (hc : vwCl[ci]? = some (C, T, N)) (hu : ∀ w ∈ u_ws C T N, w ∈ TBL) (hk : k0 < N) (hl0 : Cond.fieldLink own index (T k0).1 (T k0).2.1 (T k0).2.2.1 ∈ TBL) (hv : fs[k0]? = some v) (k : Y X D nL a b (pc + 3) l (v :: st) ws) : Y X D nL a b pc l (.ref q :: st) ws := by
  obtain ⟨p, la, e, R, s, m, args, below, meth, c, Q, A⟩ := X
  intro ls H locs hl hP hD hS
  exact va_get hX.1.1 hX.1.2.1 hX.1.2.2.2.2 hu hX.1.2.2.2.1 hX.2.2.1 hP q0 he hc k0 hk (hX.1.2.2.2.2 _ hl0) (fun _ h => h) hv hd (k ls H locs hl hP hD hS)
theorem Y_iast {q0 q n k0 : Nat} {f : Nat → Int32} {i x : Int32} (hX : yOk X D cc nL own d) (hd : decode cc pc = .ok (.iastore, 1)) (he : ws[q0]? = some (yI D q n f)) (hi : i = nI k0) (hk : k0 < n) (hn : n < 2 ^ 31) (hw : ws.set q0 (yI D q n (upd f k0 x)) = ws') (k : Y X D nL a b (pc + 1) l st ws') : Y X D nL a b pc l (.int x :: .int i :: .ref q :: st) ws := by
  obtain ⟨p, la, e, R, s, m, args, below, meth, c, Q, A⟩ := X
  intro ls H locs hl hP hD hS
  subst hi; subst hw
  refine va_iast hX.1.1 hX.1.2.1 hX.2.2.1 hP hD hS q0 0 he rfl (vp_in_nI hk hn) hd (fun H1 locs1 hP1 hD1 hS1 => ?_)
  rw [nI_clamp (Nat.lt_trans hk hn)] at hP1 hD1
  exact k ls H1 locs1 hl hP1 hD1 hS1
theorem Y_alen {q0 q n : Nat} {f : Nat → Int32} (hX : yOk X D cc nL own d) (hd : decode cc pc = .ok (.arraylength, 1)) (he : ws[q0]? = some (yI D q n f)) (k : Y X D nL a b (pc + 1) l (.int (nI n) :: st) ws) : Y X D nL a b pc l (.ref q :: st) ws := by
  obtain ⟨p, la, e, R, s, m, args, below, meth, c, Q, A⟩ := X
  intro ls H locs hl hP hD hS
  exact va_alen hX.1.1 hX.1.2.1 hX.2.2.1 hP q0 0 he rfl rfl hd (k ls H locs hl hP hD hS)
end YR
def yPc (D : yG) (avs : List Value) (sz : Nat) (w0 : va_W) : Array Value → State → Prop := va_Pc avs (fun U => U.heap.size = sz ∧ va_P D.1 vwCl w0 U.heap ∧ va_K D.1 vwCl (yT D.2) U ∧ va_D (fun _ => True) w0 ∧ yN U)
def yC (la : Launch) (D : yG) (y : MethodName) (ws : List Cond) (rm : Room) (avs : List Value) (w0 : va_W) (w1 : (Nat → Nat) → va_W) : Prop := ∀ sz : Nat, Met la y ws rm (yPc D avs sz w0) (va_Qv (fun (_ : Nat → Nat) => True) (fun u t => va_P D.1 vwCl (w1 u) t.heap ∧ va_D (va_A w0 sz) (w1 u)) (va_A w0 sz)) rm.cells rm.slots (va_A w0 sz)
theorem yPc_blind {D : yG} {avs : List Value} {sz : Nat} {w0 : va_W} : FrameBlind (yPc D avs sz w0) := by
  intro a U g mk q
  obtain ⟨q0, q1, qP, qK, qD, qN⟩ := q
  exact ⟨q0, q1, qP, va_K.moved (u := U) (U := U.calling g mk a) (Vm.Alike.refl U.vm) qK, qD, yN_calling qN⟩
theorem yC_of {la : Launch} {D : yG} {y : MethodName} {cc : ByteArray} {nL : Nat} {rm : Room} {avs : List Value} {w0 : va_W} {w1 : (Nat → Nat) → va_W} (hy : plainName y.cls = true) (hlen : (lg_sl avs).length ≤ nL)
    (body : ∀ X : zX, X.2.1 = la → yOk X D cc nL y.cls rm → yNm X y.name → (∀ (u : Nat → Nat) (pc : Nat) (l : List (Nat × Value)), decode cc pc = .ok (.return_, 1) → Y X D nL rm.cells rm.slots pc l [] (w1 u)) → Y X D nL 0 0 0 (lv_args 0 avs) [] w0) : yC la D y (Cond.code y cc nL none :: TBL) rm avs w0 w1 := by
  intro sz
  refine Met.ofW (cc := cc) (maxL := nL) (ret := none) hy rfl ?_
  intro p e s m args below meth c s₁ B hml hv
  obtain ⟨rfl, hsz, hP, hK, hD, hN⟩ := hv
  subst hsz
  have hts := atoms_spec (ws := Cond.code y cc nL none :: TBL) B.pre
  have hl := lv_entry avs hlen
  rw [lg_entry_eq]
  refine body (p, la, e, rm, s, m, avs.toArray, below, meth, c, _, va_A w0 s.heap.size) rfl ⟨⟨B.exec, B.bytes, hml, findClass_of_methodNamed B.named, fun w hw => hts w (List.mem_cons_of_mem _ hw)⟩, rfl, hK, fun q h => Or.inr h, hN, B.notSynchronized⟩ (name_of_methodNamed B.named B.method).1 (fun u pc l hd => ?_) _ s.heap [] (z_has.of hl) hP (hD.self (sz := s.heap.size)) va_S.rf
  intro ls H locs hl hP1 hD1 hS
  exact W.vret B.exec B.bytes B.returns (fun t ht hW => ⟨⟨u, rfl, trivial, by rw [ht]; exact hP1, hD1⟩, hS.F ht⟩) hS.2.2 hd B.notSynchronized
section YC
variable {X : zX} {D : yG} {cc cc2 : ByteArray} {nL nL2 a b pc index n : Nat} {own : String} {d rm2 : Room} {l : List (Nat × Value)} {st : List Value} {ws wc wr : va_W} {w1 : (Nat → Nat) → va_W} {y : MethodName}
def yMI (y : MethodName) (cc : ByteArray) (nL n : Nat) : Prop := Cond.instanceMethod y ∈ TBL ∧ Cond.initialized y.cls ∈ TBL ∧ Cond.code y cc nL none ∈ TBL ∧ y.cls ≠ "java/lang/invoke/MethodHandle" ∧ y.cls ≠ "java/lang/invoke/VarHandle" ∧ (parseMethodDescriptor y.desc).map (fun d => d.parameters.length) = some n ∧ y.name = "<init>"
theorem Y_cI {q : Nat} {As : List Value} (hX : yOk X D cc nL own d) (hd : decode cc pc = .ok (.invokespecial index, 3)) (hM : yC X.2.1 D y (Cond.code y cc2 nL2 none :: TBL) rm2 (.ref q :: As) wc w1) (hy : yMI y cc2 nL2 n) (hn : As.length = n) (h1 : Cond.methodLink own index y ∈ TBL) (hR : rm2.frames + 1 ≤ d.frames ∧ 8 + (nL2 + 11) + rm2.locals ≤ d.locals) (hf : a + rm2.cells ≤ d.cells ∧ b + rm2.slots ≤ d.slots) (hst : (st.map fun v => v.category).sum ≤ 8)
    (isC isR : List Nat) (hC : isC.map (fun i => ws[i]?) = wc.map some) (hRr : isR.map (fun i => ws[i]?) = wr.map some) (hnC : va_nd isC = true) (hnd : va_nd isR = true) (hdis : ∀ i ∈ isR, i ∉ isC) (k : ∀ u : Nat → Nat, Y X D nL (a + rm2.cells) (b + rm2.slots) (pc + 3) l st (wr ++ w1 u)) : Y X D nL a b pc l (As.reverse ++ .ref q :: st) ws := by
  obtain ⟨p, la, e, R, s, m, args, below, meth, c, Q, A⟩ := X
  intro ls H locs hl hP hD hS
  obtain ⟨y1, y3, y4, y5, y6, y7, y8⟩ := hy
  have hts := hX.1.2.2.2.2
  have hPc := hP.sub isC (y_fm hC)
  have hDc := hD.sub isC hnC hC
  have hFc := va_free (wc := wc) hD hS hX.2.2.2.1 isC hC
  have hRR := hX.2.1
  subst hRR
  refine va_callv (va_runI (n := n) (As := As) (rest := st) hX.1 (hM H.size) (cwI n hts (zGood y4) rfl rfl rfl (hts _ y3) (hts _ h1) (hts _ y1) y8 ⟨y5, y6, y7⟩ hR) ⟨yPc_blind, fun U hU hW => ⟨rfl, by rw [hU], by rw [hU]; exact hPc, va_K.moved hW.alike hX.2.2.1, hDc.weaken (fun _ _ _ _ => trivial), yN_warm hW hX.2.2.2.2.1⟩⟩ rfl hn (hl.1) rfl (lv_room hst) hd hf) hS (fun q _ h => hFc q h) hFc (fun u t H1 locs1 ht hvm hp hB hz hk hS1 => ?_)
  obtain ⟨hP1, hD1⟩ := hB
  rw [ht] at hP1
  obtain ⟨hP2, hD2⟩ := va_join (wr := wr) hP hD isC isR hC hRr hnd hdis hk hFc hP1 hD1
  exact k u ls H1 locs1 hl hP2 hD2 hS1
theorem Y_cIN {q : Nat} {As : List Value} {host : String} (hX : yOk X D cc nL own d) (hd : decode cc pc = .ok (.invokespecial index, 3)) (hM : yC X.2.1 D y (Cond.code y cc2 nL2 none :: TBL) rm2 (.ref q :: As) wc w1) (hy : yMI y cc2 nL2 n) (hn : As.length = n) (h1 : ∀ s9 : State, yN s9 → va_Nw (.methodLinkNest own index y host) s9) (hR : rm2.frames + 1 ≤ d.frames ∧ 8 + (nL2 + 11) + rm2.locals ≤ d.locals) (hf : a + rm2.cells ≤ d.cells ∧ b + rm2.slots ≤ d.slots) (hst : (st.map fun v => v.category).sum ≤ 8)
    (isC isR : List Nat) (hC : isC.map (fun i => ws[i]?) = wc.map some) (hRr : isR.map (fun i => ws[i]?) = wr.map some) (hnC : va_nd isC = true) (hnd : va_nd isR = true) (hdis : ∀ i ∈ isR, i ∉ isC) (k : ∀ u : Nat → Nat, Y X D nL (a + rm2.cells) (b + rm2.slots) (pc + 3) l st (wr ++ w1 u)) : Y X D nL a b pc l (As.reverse ++ .ref q :: st) ws := by
  obtain ⟨p, la, e, R, s, m, args, below, meth, c, Q, A⟩ := X
  intro ls H locs hl hP hD hS
  obtain ⟨y1, y3, y4, y5, y6, y7, y8⟩ := hy
  have hts := hX.1.2.2.2.2
  have hPc := hP.sub isC (y_fm hC)
  have hDc := hD.sub isC hnC hC
  have hFc := va_free (wc := wc) hD hS hX.2.2.2.1 isC hC
  have hRR := hX.2.1
  subst hRR
  refine va_callv (va_runIN (n := n) (As := As) (rest := st) hX.1 (hM H.size) ⟨va_cnB n hts (zGood y4) rfl rfl rfl (h1 _ hX.2.2.2.2.1) (hts _ y3) ⟨y5, y6, y7⟩ hR, y8, hts _ y1⟩ ⟨yPc_blind, fun U hU hW => ⟨rfl, by rw [hU], by rw [hU]; exact hPc, va_K.moved hW.alike hX.2.2.1, hDc.weaken (fun _ _ _ _ => trivial), yN_warm hW hX.2.2.2.2.1⟩⟩ rfl hn (hl.1) rfl (lv_room hst) hd hf) hS (fun q _ h => hFc q h) hFc (fun u t H1 locs1 ht hvm hp hB hz hk hS1 => ?_)
  obtain ⟨hP1, hD1⟩ := hB
  rw [ht] at hP1
  obtain ⟨hP2, hD2⟩ := va_join (wr := wr) hP hD isC isR hC hRr hnd hdis hk hFc hP1 hD1
  exact k u ls H1 locs1 hl hP2 hD2 hS1
end YC
