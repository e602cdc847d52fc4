/-! The calculus of one world: all cells that class and reference keep, by number; memory is I (ints) and J (longs). -/
abbrev zG : Type := va_G × (FieldType → ClassId) × (Nat → Nat)
abbrev zI : Type := Nat → Nat → Int32
abbrev zJ : Type := Nat → Nat → Int64
def zad (G : zG) (c : Nat) : Nat := G.2.2 c
def zty (b : Bool) : FieldType := match b with
  | true => .boolean
  | false => .int
def zF (G : zG) (i : Nat → Int32) (j : Nat → Int64) (k : Nat) (d : Option (Option Nat)) : Value := match d with
  | none => .int (i k)
  | some none => .long (j k)
  | some (some r) => .ref (zad G r)
def zE (G : zG) (i : Nat → Int32) (j : Nat → Int64) (L : zL) : va_E := match L with
  | .inl a => .inl (G.2.1 (zty a.1), a.2, .inl i)
  | .inr (.inl n) => .inl (G.2.1 .long, n, .inr (.inl j))
  | .inr (.inr q) => .inr (q.1, q.2.mapIdx (zF G i j))
def zW (G : zG) (I : zI) (J : zJ) : va_W := lay0.mapIdx (fun c L => (zad G c, zE G (I c) (J c) L))
def zup (I : zI) (c k : Nat) (v : Int32) : zI := fun a => if a = c then upd (I a) k v else I a
def zupL (J : zJ) (c k : Nat) (v : Int64) : zJ := fun a => if a = c then vp_updL (J a) k v else J a
def zcp (I : zI) (c0 c1 n : Nat) : zI := fun a => if a = c1 then va_cpy (I c0) (I c1) 0 0 n else I a
theorem zup_same {I : zI} {c k : Nat} {v : Int32} : zup I c k v c = upd (I c) k v := by simp [zup]
theorem zup_ne {I : zI} {c k a : Nat} {v : Int32} (h : a ≠ c) : zup I c k v a = I a := by simp [zup, h]
theorem zupL_same {J : zJ} {c k : Nat} {v : Int64} : zupL J c k v c = vp_updL (J c) k v := by simp [zupL]
theorem zupL_ne {J : zJ} {c k a : Nat} {v : Int64} (h : a ≠ c) : zupL J c k v a = J a := by simp [zupL, h]
theorem zcp_same {I : zI} {c0 c n : Nat} : zcp I c0 c n c = va_cpy (I c0) (I c) 0 0 n := by simp [zcp]
theorem zcp_ne {I : zI} {c0 c n a : Nat} (h : a ≠ c) : zcp I c0 c n a = I a := by simp [zcp, h]
theorem zW_at {G : zG} {I : zI} {J : zJ} {c : Nat} {L : zL} (h : lay0[c]? = some L) : (zW G I J)[c]? = some (zad G c, zE G (I c) (J c) L) := by
  simp only [zW, List.getElem?_mapIdx, h, Option.map_some]
theorem zW_set {G : zG} {I I' : zI} {J J' : zJ} {c : Nat} {L : zL} (hI : ∀ a, a ≠ c → I' a = I a) (hJ : ∀ a, a ≠ c → J' a = J a) (h : lay0[c]? = some L) : (zW G I J).set c (zad G c, zE G (I' c) (J' c) L) = zW G I' J' := by
  have hl : c < (zW G I J).length := by
    have h1 := (List.getElem?_eq_some_iff.mp h).1
    simp only [zW, List.length_mapIdx]
    exact h1
  apply List.ext_getElem?
  intro j
  by_cases hj : j = c
  · subst hj
    rw [List.getElem?_set_self hl, zW_at h]
  · rw [List.getElem?_set_ne (Ne.symm hj)]
    simp only [zW, List.getElem?_mapIdx]
    rw [hI j hj, hJ j hj]
theorem zF_set {G : zG} {i : Nat → Int32} {j : Nat → Int64} {k : Nat} {ds : List (Option (Option Nat))} {v : Int32} (h : ds[k]? = some none) : (ds.mapIdx (zF G i j)).set k (.int v) = ds.mapIdx (zF G (upd i k v) j) := by
  have hl : k < (ds.mapIdx (zF G i j)).length := by
    rw [List.length_mapIdx]
    exact (List.getElem?_eq_some_iff.mp h).1
  apply List.ext_getElem?
  intro q
  by_cases hq : q = k
  · subst hq
    rw [List.getElem?_set_self hl, List.getElem?_mapIdx, h]
    simp [zF, upd]
  · rw [List.getElem?_set_ne (Ne.symm hq), List.getElem?_mapIdx, List.getElem?_mapIdx]
    cases ds[q]? with
    | none => rfl
    | some d =>
      cases d with
      | none => simp [zF, upd, hq]
      | some d => cases d <;> rfl
theorem zF_setL {G : zG} {i : Nat → Int32} {j : Nat → Int64} {k : Nat} {ds : List (Option (Option Nat))} {v : Int64} (h : ds[k]? = some (some none)) : (ds.mapIdx (zF G i j)).set k (.long v) = ds.mapIdx (zF G i (vp_updL j k v)) := by
  have hl : k < (ds.mapIdx (zF G i j)).length := by
    rw [List.length_mapIdx]
    exact (List.getElem?_eq_some_iff.mp h).1
  apply List.ext_getElem?
  intro q
  by_cases hq : q = k
  · subst hq
    rw [List.getElem?_set_self hl, List.getElem?_mapIdx, h]
    simp [zF, vp_updL]
  · rw [List.getElem?_set_ne (Ne.symm hq), List.getElem?_mapIdx, List.getElem?_mapIdx]
    cases ds[q]? with
    | none => rfl
    | some d =>
      cases d with
      | none => rfl
      | some d =>
        cases d with
        | none => simp [zF, vp_updL, hq]
        | some d => rfl
/-- the locals, by look-up -/
def z_has (ls : Array Slot) (nL : Nat) (l : List (Nat × Value)) : Prop := ls.size = nL ∧ lv_wf ls ∧ ∀ (i : Nat) (v : Value), l.lookup i = some v → ls[i]? = some (.val v)
theorem z_lkm {l : List (Nat × Value)} {i : Nat} {v : Value} (h : l.lookup i = some v) : (i, v) ∈ l := by
  obtain ⟨l1, l2, h1, h2⟩ := List.lookup_eq_some_iff.mp h
  rw [h1]
  exact List.mem_append_right _ List.mem_cons_self
theorem z_has.of {ls : Array Slot} {nL : Nat} {l : List (Nat × Value)} (h : lv_has ls nL l) : z_has ls nL l := ⟨h.1, h.2.1, fun _ _ hi => h.2.2 _ (z_lkm hi)⟩
theorem z_has.sub {ls : Array Slot} {nL : Nat} {l l' : List (Nat × Value)} (h : z_has ls nL l) (hs : l'.map (fun q => l.lookup q.1) = l'.map (fun q => some q.2)) : z_has ls nL l' := by
  refine ⟨h.1, h.2.1, fun i v hi => h.2.2 i v ?_⟩
  have hm := z_lkm hi
  obtain ⟨k, hk⟩ := List.getElem?_of_mem hm
  have h1 : (l'.map (fun q => l.lookup q.1))[k]? = some (l.lookup i) := by rw [List.getElem?_map, hk]; rfl
  rw [hs, List.getElem?_map, hk] at h1
  exact (Option.some.inj h1).symm
/-- the listed locals that a look-up finds -/
noncomputable def z_lv (l : List (Nat × Value)) : List (Nat × Value) := l.filter (fun q => @decide (l.lookup q.1 = some q.2) (Classical.propDecidable _))
theorem z_lv_in {l : List (Nat × Value)} {i : Nat} {v : Value} (h : l.lookup i = some v) : (i, v) ∈ z_lv l := by
  unfold z_lv
  refine List.mem_filter.mpr ⟨z_lkm h, ?_⟩
  exact @decide_eq_true _ (Classical.propDecidable _) h
theorem z_lv_has {ls : Array Slot} {nL : Nat} {l : List (Nat × Value)} (h : z_has ls nL l) : lv_has ls nL (z_lv l) := by
  refine ⟨h.1, h.2.1, fun q hq => ?_⟩
  have h1 := (List.mem_filter.mp hq).2
  exact h.2.2 q.1 q.2 (@of_decide_eq_true _ (Classical.propDecidable _) h1)
theorem z_st1 {ls : Array Slot} {nL i : Nat} {v : Value} {l : List (Nat × Value)} (hc : (l.lookup (i - 1)).all (fun w => w.category == 1) = true) (h : lv_has ls nL ((i, v) :: (z_lv l).filter (fun q => !(q.1 == i) && !(q.1 + 1 == i && q.2.category == 2)))) : z_has ls nL ((i, v) :: l) := by
  refine ⟨h.1, h.2.1, fun j w hj => ?_⟩
  rw [List.lookup_cons] at hj
  by_cases e : j = i
  · subst e
    simp only [beq_self_eq_true] at hj
    cases hj
    exact h.2.2 _ List.mem_cons_self
  · have e1 : (j == i) = false := by simpa using e
    rw [e1] at hj
    have hj : l.lookup j = some w := hj
    refine h.2.2 (j, w) (List.mem_cons_of_mem _ (List.mem_filter.mpr ⟨z_lv_in hj, ?_⟩))
    simp only [e1, Bool.not_false, Bool.true_and, Bool.not_eq_true', Bool.and_eq_false_iff]
    by_cases e2 : j + 1 = i
    · right
      have e3 : i - 1 = j := by omega
      rw [e3, hj] at hc
      simp only [Option.all_some, beq_iff_eq] at hc
      simp [hc]
    · left
      simpa using e2
theorem z_st2 {ls : Array Slot} {nL i : Nat} {v : Value} {l : List (Nat × Value)} (hc : (l.lookup (i - 1)).all (fun w => w.category == 1) = true) (hn : l.lookup (i + 1) = none) (h : lv_has ls nL ((i, v) :: (z_lv l).filter (fun q => !(q.1 == i) && (!(q.1 == i + 1) && !(q.1 + 1 == i && q.2.category == 2))))) : z_has ls nL ((i, v) :: l) := by
  refine ⟨h.1, h.2.1, fun j w hj => ?_⟩
  rw [List.lookup_cons] at hj
  by_cases e : j = i
  · subst e
    simp only [beq_self_eq_true] at hj
    cases hj
    exact h.2.2 _ List.mem_cons_self
  · have e1 : (j == i) = false := by simpa using e
    rw [e1] at hj
    have hj : l.lookup j = some w := hj
    have e4 : (j == i + 1) = false := by
      by_cases e5 : j = i + 1
      · rw [e5, hn] at hj
        cases hj
      · simpa using e5
    refine h.2.2 (j, w) (List.mem_cons_of_mem _ (List.mem_filter.mpr ⟨z_lv_in hj, ?_⟩))
    simp only [e1, e4, Bool.not_false, Bool.true_and, Bool.not_eq_true', Bool.and_eq_false_iff]
    by_cases e2 : j + 1 = i
    · right
      have e3 : i - 1 = j := by omega
      rw [e3, hj] at hc
      simp only [Option.all_some, beq_iff_eq] at hc
      simp [hc]
    · left
      simpa using e2
/-- program, launch, frame, what is owed at the end, what may change -/
abbrev zX : Type := Program × Launch × Env × Room × State × MethodId × Array Value × List Frame × Method × Code × (State → Prop) × (Nat → Prop)
def Z (X : zX) (G : zG) (nL a b pc : Nat) (l : List (Nat × Value)) (st : List Value) (I : zI) (J : zJ) : Prop := match X with
  | (p, la, e, R, s, m, args, below, meth, c, Q, A) => ∀ (ls : Array Slot) (H : Heap) (locs : List Loc), z_has ls nL l → va_P G.1 vwCl (zW G I J) H → va_S A s.heap H locs → W p la e R s m args below meth c H locs a b Q (F0 m pc ls st)
def ztys (G : zG) : List (ClassId × FieldType) := [(G.2.1 .int, .int), (G.2.1 .boolean, .boolean), (G.2.1 .long, .long)]
def zNst (U : State) : Prop := ∀ w ∈ NEST, va_Nw w U
def zOk (X : zX) (G : zG) (cc : ByteArray) (nL : Nat) (own : String) (d : Room) : Prop := match X with
  | (p, _, _, R, s, m, args, _, meth, c, _, A) => (p.tables.exec = Jvm.exec ∧ c.code = cc ∧ c.maxLocals = nL ∧ s.vm.findClass own = some m.cls ∧ ∀ w ∈ TBL, w.before args s = true) ∧ R = d ∧ va_K G.1 vwCl (ztys G) s ∧ (∀ (I : zI) (J : zJ), va_D A (zW G I J)) ∧ (∀ q : Nat, s.heap.size ≤ q → A q) ∧ zNst s ∧ meth.locks = false
def zB (b : Bool) : Int32 := match b with
  | true => 1
  | false => 0
theorem zB_t : zB true = 1 := rfl
theorem zB_f : zB false = 0 := rfl
theorem zB_nar (b : Bool) : narrow .boolean (.int (zB b)) = .int (zB b) := by cases b <;> rfl
theorem zB_fit (b : Bool) : fits .boolean (.int (zB b)) = true := by cases b <;> rfl
theorem zB_np (b : Bool) : vp_nar .boolean (zB b) = zB b := by cases b <;> rfl
theorem zB_ne {b : Bool} (h : ¬ zB b = 0) : b = true := by
  cases b
  · exact absurd rfl h
  · rfl
theorem zB_eq {b : Bool} (h : zB b = 0) : b = false := by
  cases b
  · rfl
  · exact absurd h (by decide)
section ZR
variable {X : zX} {G : zG} {cc : ByteArray} {nL a b pc : Nat} {own : String} {d : Room} {l : List (Nat × Value)} {st : List Value} {I : zI} {J : zJ}
theorem Z_loc {l' : List (Nat × Value)} (hs : l'.map (fun q => l.lookup q.1) = l'.map (fun q => some q.2)) (k : Z X G nL a b pc l' st I J) : Z X G nL a b pc l st I J := by
  obtain ⟨p, la, e, R, s, m, args, below, meth, c, Q, A⟩ := X
  intro ls H locs hl hP hS
  exact k ls H locs (hl.sub hs) hP hS
theorem Z_wid {a' b' : Nat} (h1 : a ≤ a') (h2 : b ≤ b') (k : Z X G nL a' b' pc l st I J) : Z X G nL a b pc l st I J := by
  obtain ⟨p, la, e, R, s, m, args, below, meth, c, Q, A⟩ := X
  intro ls H locs hl hP hS
  exact W.widen h1 h2 (k ls H locs hl hP hS)

theorem Z_iconst {n : Int} {v : Int32} (hX : zOk X G cc nL own d) (hd : decode cc pc = .ok (.iconst n, 1)) (hv : Int32.ofInt n = v) (k : Z X G nL a b (pc + 1) l (.int v :: st) I J) : Z X G nL a b pc l st I J := by
  obtain ⟨p, la, e, R, s, m, args, below, meth, c, Q, A⟩ := X
  intro ls H locs hl hP hS
  exact lv_iconst hX.1.1 hX.1.2.1 hd hv (k ls H locs hl hP hS)
theorem Z_bipush {n : Int} {v : Int32} (hX : zOk X G cc nL own d) (hd : decode cc pc = .ok (.bipush n, 2)) (hv : (Int8.ofInt n).toInt32 = v) (k : Z X G nL a b (pc + 2) l (.int v :: st) I J) : Z X G nL a b pc l st I J := by
  obtain ⟨p, la, e, R, s, m, args, below, meth, c, Q, A⟩ := X
  intro ls H locs hl hP hS
  exact lv_bipush hX.1.1 hX.1.2.1 hd hv (k ls H locs hl hP hS)
theorem Z_sipush {n : Int} {v : Int32} (hX : zOk X G cc nL own d) (hd : decode cc pc = .ok (.sipush n, 3)) (hv : (Int16.ofInt n).toInt32 = v) (k : Z X G nL a b (pc + 3) l (.int v :: st) I J) : Z X G nL a b pc l st I J := by
  obtain ⟨p, la, e, R, s, m, args, below, meth, c, Q, A⟩ := X
  intro ls H locs hl hP hS
  exact lv_sipush hX.1.1 hX.1.2.1 hd hv (k ls H locs hl hP hS)
theorem Z_lconst {n : Fin 2} {v : Int64} (hX : zOk X G cc nL own d) (hd : decode cc pc = .ok (.lconst n, 1)) (hv : Int64.ofNat (n : Nat) = v) (k : Z X G nL a b (pc + 1) l (.long v :: st) I J) : Z X G nL a b pc l st I J := by
  obtain ⟨p, la, e, R, s, m, args, below, meth, c, Q, A⟩ := X
  intro ls H locs hl hP hS
  exact lv_lconst hX.1.1 hX.1.2.1 hd hv (k ls H locs hl hP hS)
theorem Z_iload_n {f : Fin 4} {i : Nat} {x : Int32} (hX : zOk X G cc nL own d) (hd : decode cc pc = .ok (.iload_n f, 1)) (hi : (f : Nat) = i) (hk : l.lookup i = some (.int x)) (k : Z X G nL a b (pc + 1) l (.int x :: st) I J) : Z X G nL a b pc l st I J := by
  obtain ⟨p, la, e, R, s, m, args, below, meth, c, Q, A⟩ := X
  intro ls H locs hl hP hS
  exact lv_iload_n hX.1.1 hX.1.2.1 hd hi (hl.2.2 _ _ hk) (k ls H locs hl hP hS)
theorem Z_iload {i : Nat} {x : Int32} (hX : zOk X G cc nL own d) (hd : decode cc pc = .ok (.iload i, 2)) (hk : l.lookup i = some (.int x)) (k : Z X G nL a b (pc + 2) l (.int x :: st) I J) : Z X G nL a b pc l st I J := by
  obtain ⟨p, la, e, R, s, m, args, below, meth, c, Q, A⟩ := X
  intro ls H locs hl hP hS
  exact lv_iload hX.1.1 hX.1.2.1 hd (hl.2.2 _ _ hk) (k ls H locs hl hP hS)
theorem Z_lload_n {f : Fin 4} {i : Nat} {x : Int64} (hX : zOk X G cc nL own d) (hd : decode cc pc = .ok (.lload_n f, 1)) (hi : (f : Nat) = i) (hk : l.lookup i = some (.long x)) (k : Z X G nL a b (pc + 1) l (.long x :: st) I J) : Z X G nL a b pc l st I J := by
  obtain ⟨p, la, e, R, s, m, args, below, meth, c, Q, A⟩ := X
  intro ls H locs hl hP hS
  exact lv_lload_n hX.1.1 hX.1.2.1 hd hi (hl.2.2 _ _ hk) (k ls H locs hl hP hS)
theorem Z_lload {i : Nat} {x : Int64} (hX : zOk X G cc nL own d) (hd : decode cc pc = .ok (.lload i, 2)) (hk : l.lookup i = some (.long x)) (k : Z X G nL a b (pc + 2) l (.long x :: st) I J) : Z X G nL a b pc l st I J := by
  obtain ⟨p, la, e, R, s, m, args, below, meth, c, Q, A⟩ := X
  intro ls H locs hl hP hS
  exact lv_lload hX.1.1 hX.1.2.1 hd (hl.2.2 _ _ hk) (k ls H locs hl hP hS)
theorem Z_aload_n {f : Fin 4} {i : Nat} {x : Nat} (hX : zOk X G cc nL own d) (hd : decode cc pc = .ok (.aload_n f, 1)) (hi : (f : Nat) = i) (hk : l.lookup i = some (.ref x)) (k : Z X G nL a b (pc + 1) l (.ref x :: st) I J) : Z X G nL a b pc l st I J := by
  obtain ⟨p, la, e, R, s, m, args, below, meth, c, Q, A⟩ := X
  intro ls H locs hl hP hS
  exact lv_aload_n hX.1.1 hX.1.2.1 hd hi (hl.2.2 _ _ hk) (k ls H locs hl hP hS)
theorem Z_aload {i : Nat} {x : Nat} (hX : zOk X G cc nL own d) (hd : decode cc pc = .ok (.aload i, 2)) (hk : l.lookup i = some (.ref x)) (k : Z X G nL a b (pc + 2) l (.ref x :: st) I J) : Z X G nL a b pc l st I J := by
  obtain ⟨p, la, e, R, s, m, args, below, meth, c, Q, A⟩ := X
  intro ls H locs hl hP hS
  exact lv_aload hX.1.1 hX.1.2.1 hd (hl.2.2 _ _ hk) (k ls H locs hl hP hS)
theorem Z_istore_n {f : Fin 4} {i : Nat} {x : Int32} (hX : zOk X G cc nL own d) (hd : decode cc pc = .ok (.istore_n f, 1)) (hi : (f : Nat) = i) (hn : i < nL) (hc : (l.lookup (i - 1)).all (fun w => w.category == 1) = true) (k : Z X G nL a b (pc + 1) ((i, .int x) :: l) st I J) : Z X G nL a b pc l (.int x :: st) I J := by
  obtain ⟨p, la, e, R, s, m, args, below, meth, c, Q, A⟩ := X
  intro ls H locs hl hP hS
  exact lv_istore_n hX.1.1 hX.1.2.1 hd hi (z_lv_has hl) hn rfl (fun ls2 h2 => k ls2 H locs (z_st1 hc h2) hP hS)
theorem Z_istore {i : Nat} {x : Int32} (hX : zOk X G cc nL own d) (hd : decode cc pc = .ok (.istore i, 2)) (hn : i < nL) (hc : (l.lookup (i - 1)).all (fun w => w.category == 1) = true) (k : Z X G nL a b (pc + 2) ((i, .int x) :: l) st I J) : Z X G nL a b pc l (.int x :: st) I J := by
  obtain ⟨p, la, e, R, s, m, args, below, meth, c, Q, A⟩ := X
  intro ls H locs hl hP hS
  exact lv_istore hX.1.1 hX.1.2.1 hd (z_lv_has hl) hn rfl (fun ls2 h2 => k ls2 H locs (z_st1 hc h2) hP hS)
theorem Z_astore_n {f : Fin 4} {i : Nat} {x : Nat} (hX : zOk X G cc nL own d) (hd : decode cc pc = .ok (.astore_n f, 1)) (hi : (f : Nat) = i) (hn : i < nL) (hc : (l.lookup (i - 1)).all (fun w => w.category == 1) = true) (k : Z X G nL a b (pc + 1) ((i, .ref x) :: l) st I J) : Z X G nL a b pc l (.ref x :: st) I J := by
  obtain ⟨p, la, e, R, s, m, args, below, meth, c, Q, A⟩ := X
  intro ls H locs hl hP hS
  exact lv_astore_n hX.1.1 hX.1.2.1 hd hi (z_lv_has hl) hn rfl (fun ls2 h2 => k ls2 H locs (z_st1 hc h2) hP hS)
theorem Z_astore {i : Nat} {x : Nat} (hX : zOk X G cc nL own d) (hd : decode cc pc = .ok (.astore i, 2)) (hn : i < nL) (hc : (l.lookup (i - 1)).all (fun w => w.category == 1) = true) (k : Z X G nL a b (pc + 2) ((i, .ref x) :: l) st I J) : Z X G nL a b pc l (.ref x :: st) I J := by
  obtain ⟨p, la, e, R, s, m, args, below, meth, c, Q, A⟩ := X
  intro ls H locs hl hP hS
  exact lv_astore hX.1.1 hX.1.2.1 hd (z_lv_has hl) hn rfl (fun ls2 h2 => k ls2 H locs (z_st1 hc h2) hP hS)
theorem Z_lstore {i : Nat} {x : Int64} (hX : zOk X G cc nL own d) (hd : decode cc pc = .ok (.lstore i, 2)) (hn : i + 1 < nL) (hc : (l.lookup (i - 1)).all (fun w => w.category == 1) = true) (hm : l.lookup (i + 1) = none) (k : Z X G nL a b (pc + 2) ((i, .long x) :: l) st I J) : Z X G nL a b pc l (.long x :: st) I J := by
  obtain ⟨p, la, e, R, s, m, args, below, meth, c, Q, A⟩ := X
  intro ls H locs hl hP hS
  exact lv_lstore hX.1.1 hX.1.2.1 hd (z_lv_has hl) hn rfl (fun ls2 h2 => k ls2 H locs (z_st2 hc hm h2) hP hS)
theorem Z_iinc {i : Nat} {n : Int} {x v : Int32} (hX : zOk X G cc nL own d) (hd : decode cc pc = .ok (.iinc i n, 3)) (hk : l.lookup i = some (.int x)) (hv : x + Int32.ofInt n = v) (hn : i < nL) (hc : (l.lookup (i - 1)).all (fun w => w.category == 1) = true) (k : Z X G nL a b (pc + 3) ((i, .int v) :: l) st I J) : Z X G nL a b pc l st I J := by
  obtain ⟨p, la, e, R, s, m, args, below, meth, c, Q, A⟩ := X
  intro ls H locs hl hP hS
  obtain ⟨k0, hk0⟩ := List.getElem?_of_mem (z_lv_in hk)
  exact lv_iinc hX.1.1 hX.1.2.1 hd (z_lv_has hl) hk0 hv hn rfl (fun ls2 h2 => k ls2 H locs (z_st1 hc h2) hP hS)
theorem Z_iadd {x y : Int32} (hX : zOk X G cc nL own d) (hd : decode cc pc = .ok (.iadd, 1)) (k : Z X G nL a b (pc + 1) l (.int (x + y) :: st) I J) : Z X G nL a b pc l (.int y :: .int x :: st) I J := by
  obtain ⟨p, la, e, R, s, m, args, below, meth, c, Q, A⟩ := X
  intro ls H locs hl hP hS
  exact lv_iadd hX.1.1 hX.1.2.1 hd (k ls H locs hl hP hS)
theorem Z_isub {x y : Int32} (hX : zOk X G cc nL own d) (hd : decode cc pc = .ok (.isub, 1)) (k : Z X G nL a b (pc + 1) l (.int (x - y) :: st) I J) : Z X G nL a b pc l (.int y :: .int x :: st) I J := by
  obtain ⟨p, la, e, R, s, m, args, below, meth, c, Q, A⟩ := X
  intro ls H locs hl hP hS
  exact lv_isub hX.1.1 hX.1.2.1 hd (k ls H locs hl hP hS)
theorem Z_imul {x y : Int32} (hX : zOk X G cc nL own d) (hd : decode cc pc = .ok (.imul, 1)) (k : Z X G nL a b (pc + 1) l (.int (x * y) :: st) I J) : Z X G nL a b pc l (.int y :: .int x :: st) I J := by
  obtain ⟨p, la, e, R, s, m, args, below, meth, c, Q, A⟩ := X
  intro ls H locs hl hP hS
  exact lv_imul hX.1.1 hX.1.2.1 hd (k ls H locs hl hP hS)
theorem Z_iand {x y : Int32} (hX : zOk X G cc nL own d) (hd : decode cc pc = .ok (.iand, 1)) (k : Z X G nL a b (pc + 1) l (.int (x &&& y) :: st) I J) : Z X G nL a b pc l (.int y :: .int x :: st) I J := by
  obtain ⟨p, la, e, R, s, m, args, below, meth, c, Q, A⟩ := X
  intro ls H locs hl hP hS
  exact lv_iand hX.1.1 hX.1.2.1 hd (k ls H locs hl hP hS)
theorem Z_ior {x y : Int32} (hX : zOk X G cc nL own d) (hd : decode cc pc = .ok (.ior, 1)) (k : Z X G nL a b (pc + 1) l (.int (x ||| y) :: st) I J) : Z X G nL a b pc l (.int y :: .int x :: st) I J := by
  obtain ⟨p, la, e, R, s, m, args, below, meth, c, Q, A⟩ := X
  intro ls H locs hl hP hS
  exact lv_ior hX.1.1 hX.1.2.1 hd (k ls H locs hl hP hS)
theorem Z_ixor {x y : Int32} (hX : zOk X G cc nL own d) (hd : decode cc pc = .ok (.ixor, 1)) (k : Z X G nL a b (pc + 1) l (.int (x ^^^ y) :: st) I J) : Z X G nL a b pc l (.int y :: .int x :: st) I J := by
  obtain ⟨p, la, e, R, s, m, args, below, meth, c, Q, A⟩ := X
  intro ls H locs hl hP hS
  exact lv_ixor hX.1.1 hX.1.2.1 hd (k ls H locs hl hP hS)
theorem Z_ishl {x y : Int32} (hX : zOk X G cc nL own d) (hd : decode cc pc = .ok (.ishl, 1)) (k : Z X G nL a b (pc + 1) l (.int (x <<< (y &&& 31)) :: st) I J) : Z X G nL a b pc l (.int y :: .int x :: st) I J := by
  obtain ⟨p, la, e, R, s, m, args, below, meth, c, Q, A⟩ := X
  intro ls H locs hl hP hS
  exact lv_ishl hX.1.1 hX.1.2.1 hd (k ls H locs hl hP hS)
theorem Z_ishr {x y : Int32} (hX : zOk X G cc nL own d) (hd : decode cc pc = .ok (.ishr, 1)) (k : Z X G nL a b (pc + 1) l (.int (x >>> (y &&& 31)) :: st) I J) : Z X G nL a b pc l (.int y :: .int x :: st) I J := by
  obtain ⟨p, la, e, R, s, m, args, below, meth, c, Q, A⟩ := X
  intro ls H locs hl hP hS
  exact lv_ishr hX.1.1 hX.1.2.1 hd (k ls H locs hl hP hS)
theorem Z_idiv {x y : Int32} (hX : zOk X G cc nL own d) (hd : decode cc pc = .ok (.idiv, 1)) (hn : ¬ y = 0) (k : Z X G nL a b (pc + 1) l (.int (x / y) :: st) I J) : Z X G nL a b pc l (.int y :: .int x :: st) I J := by
  obtain ⟨p, la, e, R, s, m, args, below, meth, c, Q, A⟩ := X
  intro ls H locs hl hP hS
  exact lv_idiv hX.1.1 hX.1.2.1 hd hn (k ls H locs hl hP hS)
theorem Z_irem {x y : Int32} (hX : zOk X G cc nL own d) (hd : decode cc pc = .ok (.irem, 1)) (hn : ¬ y = 0) (k : Z X G nL a b (pc + 1) l (.int (x - x / y * y) :: st) I J) : Z X G nL a b pc l (.int y :: .int x :: st) I J := by
  obtain ⟨p, la, e, R, s, m, args, below, meth, c, Q, A⟩ := X
  intro ls H locs hl hP hS
  exact lv_irem hX.1.1 hX.1.2.1 hd hn (k ls H locs hl hP hS)
theorem Z_ladd {x y : Int64} (hX : zOk X G cc nL own d) (hd : decode cc pc = .ok (.ladd, 1)) (k : Z X G nL a b (pc + 1) l (.long (x + y) :: st) I J) : Z X G nL a b pc l (.long y :: .long x :: st) I J := by
  obtain ⟨p, la, e, R, s, m, args, below, meth, c, Q, A⟩ := X
  intro ls H locs hl hP hS
  exact lv_ladd hX.1.1 hX.1.2.1 hd (k ls H locs hl hP hS)
theorem Z_land {x y : Int64} (hX : zOk X G cc nL own d) (hd : decode cc pc = .ok (.land, 1)) (k : Z X G nL a b (pc + 1) l (.long (x &&& y) :: st) I J) : Z X G nL a b pc l (.long y :: .long x :: st) I J := by
  obtain ⟨p, la, e, R, s, m, args, below, meth, c, Q, A⟩ := X
  intro ls H locs hl hP hS
  exact lv_land hX.1.1 hX.1.2.1 hd (k ls H locs hl hP hS)
theorem Z_lor {x y : Int64} (hX : zOk X G cc nL own d) (hd : decode cc pc = .ok (.lor, 1)) (k : Z X G nL a b (pc + 1) l (.long (x ||| y) :: st) I J) : Z X G nL a b pc l (.long y :: .long x :: st) I J := by
  obtain ⟨p, la, e, R, s, m, args, below, meth, c, Q, A⟩ := X
  intro ls H locs hl hP hS
  exact lv_lor hX.1.1 hX.1.2.1 hd (k ls H locs hl hP hS)
theorem Z_lshl {x : Int64} {y : Int32} (hX : zOk X G cc nL own d) (hd : decode cc pc = .ok (.lshl, 1)) (k : Z X G nL a b (pc + 1) l (.long (x <<< (y.toInt64 &&& 63)) :: st) I J) : Z X G nL a b pc l (.int y :: .long x :: st) I J := by
  obtain ⟨p, la, e, R, s, m, args, below, meth, c, Q, A⟩ := X
  intro ls H locs hl hP hS
  exact lv_lshl hX.1.1 hX.1.2.1 hd rfl (k ls H locs hl hP hS)
theorem Z_lshr {x : Int64} {y : Int32} (hX : zOk X G cc nL own d) (hd : decode cc pc = .ok (.lshr, 1)) (k : Z X G nL a b (pc + 1) l (.long (x >>> (y.toInt64 &&& 63)) :: st) I J) : Z X G nL a b pc l (.int y :: .long x :: st) I J := by
  obtain ⟨p, la, e, R, s, m, args, below, meth, c, Q, A⟩ := X
  intro ls H locs hl hP hS
  exact lv_lshr hX.1.1 hX.1.2.1 hd rfl (k ls H locs hl hP hS)
theorem Z_i2l {x : Int32} (hX : zOk X G cc nL own d) (hd : decode cc pc = .ok (.i2l, 1)) (k : Z X G nL a b (pc + 1) l (.long x.toInt64 :: st) I J) : Z X G nL a b pc l (.int x :: st) I J := by
  obtain ⟨p, la, e, R, s, m, args, below, meth, c, Q, A⟩ := X
  intro ls H locs hl hP hS
  exact lv_i2l hX.1.1 hX.1.2.1 hd rfl (k ls H locs hl hP hS)
theorem Z_lcmp {x y : Int64} (hX : zOk X G cc nL own d) (hd : decode cc pc = .ok (.lcmp, 1)) (k : Z X G nL a b (pc + 1) l (.int (lg_cmp x y) :: st) I J) : Z X G nL a b pc l (.long y :: .long x :: st) I J := by
  obtain ⟨p, la, e, R, s, m, args, below, meth, c, Q, A⟩ := X
  intro ls H locs hl hP hS
  exact W.lcmp hX.1.1 hX.1.2.1 hd (k ls H locs hl hP hS)
theorem Z_dup {va : Value} (hX : zOk X G cc nL own d) (hd : decode cc pc = .ok (.dup, 1)) (hv : va.category = 1) (k : Z X G nL a b (pc + 1) l (va :: va :: st) I J) : Z X G nL a b pc l (va :: st) I J := by
  obtain ⟨p, la, e, R, s, m, args, below, meth, c, Q, A⟩ := X
  intro ls H locs hl hP hS
  exact lv_dup hX.1.1 hX.1.2.1 hd hv (k ls H locs hl hP hS)
theorem Z_dup2 {va vb : Value} (hX : zOk X G cc nL own d) (hd : decode cc pc = .ok (.dup2, 1)) (hv : va.category = 1) (hw : vb.category = 1) (k : Z X G nL a b (pc + 1) l (va :: vb :: va :: vb :: st) I J) : Z X G nL a b pc l (va :: vb :: st) I J := by
  obtain ⟨p, la, e, R, s, m, args, below, meth, c, Q, A⟩ := X
  intro ls H locs hl hP hS
  exact lv_dup2_11 hX.1.1 hX.1.2.1 hd hv hw (k ls H locs hl hP hS)
theorem Z_pop {va : Value} (hX : zOk X G cc nL own d) (hd : decode cc pc = .ok (.pop, 1)) (hv : va.category = 1) (k : Z X G nL a b (pc + 1) l st I J) : Z X G nL a b pc l (va :: st) I J := by
  obtain ⟨p, la, e, R, s, m, args, below, meth, c, Q, A⟩ := X
  intro ls H locs hl hP hS
  exact lv_pop hX.1.1 hX.1.2.1 hd hv (k ls H locs hl hP hS)
theorem Z_ifeq {x : Int32} {off : Int} {tgt : Nat} (hX : zOk X G cc nL own d) (hd : decode cc pc = .ok (.ifCond .eq off, 3)) (ht : (pc : Int) + off = (tgt : Int)) (kt : x = 0 → Z X G nL a b tgt l st I J) (kf : ¬ x = 0 → Z X G nL a b (pc + 3) l st I J) : Z X G nL a b pc l (.int x :: st) I J := by
  obtain ⟨p, la, e, R, s, m, args, below, meth, c, Q, A⟩ := X
  intro ls H locs hl hP hS
  exact lv_if_eq hX.1.1 hX.1.2.1 hd ht (fun h => kt h ls H locs hl hP hS) (fun h => kf h ls H locs hl hP hS)
theorem Z_iceq {x y : Int32} {off : Int} {tgt : Nat} (hX : zOk X G cc nL own d) (hd : decode cc pc = .ok (.if_icmp .eq off, 3)) (ht : (pc : Int) + off = (tgt : Int)) (kt : x = y → Z X G nL a b tgt l st I J) (kf : ¬ x = y → Z X G nL a b (pc + 3) l st I J) : Z X G nL a b pc l (.int y :: .int x :: st) I J := by
  obtain ⟨p, la, e, R, s, m, args, below, meth, c, Q, A⟩ := X
  intro ls H locs hl hP hS
  exact lv_icmp_eq hX.1.1 hX.1.2.1 hd ht (fun h => kt h ls H locs hl hP hS) (fun h => kf h ls H locs hl hP hS)
theorem Z_ifne {x : Int32} {off : Int} {tgt : Nat} (hX : zOk X G cc nL own d) (hd : decode cc pc = .ok (.ifCond .ne off, 3)) (ht : (pc : Int) + off = (tgt : Int)) (kt : ¬ x = 0 → Z X G nL a b tgt l st I J) (kf : x = 0 → Z X G nL a b (pc + 3) l st I J) : Z X G nL a b pc l (.int x :: st) I J := by
  obtain ⟨p, la, e, R, s, m, args, below, meth, c, Q, A⟩ := X
  intro ls H locs hl hP hS
  exact lv_if_ne hX.1.1 hX.1.2.1 hd ht (fun h => kt h ls H locs hl hP hS) (fun h => kf h ls H locs hl hP hS)
theorem Z_icne {x y : Int32} {off : Int} {tgt : Nat} (hX : zOk X G cc nL own d) (hd : decode cc pc = .ok (.if_icmp .ne off, 3)) (ht : (pc : Int) + off = (tgt : Int)) (kt : ¬ x = y → Z X G nL a b tgt l st I J) (kf : x = y → Z X G nL a b (pc + 3) l st I J) : Z X G nL a b pc l (.int y :: .int x :: st) I J := by
  obtain ⟨p, la, e, R, s, m, args, below, meth, c, Q, A⟩ := X
  intro ls H locs hl hP hS
  exact lv_icmp_ne hX.1.1 hX.1.2.1 hd ht (fun h => kt h ls H locs hl hP hS) (fun h => kf h ls H locs hl hP hS)
theorem Z_iflt {x : Int32} {off : Int} {tgt : Nat} (hX : zOk X G cc nL own d) (hd : decode cc pc = .ok (.ifCond .lt off, 3)) (ht : (pc : Int) + off = (tgt : Int)) (kt : x < 0 → Z X G nL a b tgt l st I J) (kf : ¬ x < 0 → Z X G nL a b (pc + 3) l st I J) : Z X G nL a b pc l (.int x :: st) I J := by
  obtain ⟨p, la, e, R, s, m, args, below, meth, c, Q, A⟩ := X
  intro ls H locs hl hP hS
  exact lv_if_lt hX.1.1 hX.1.2.1 hd ht (fun h => kt h ls H locs hl hP hS) (fun h => kf h ls H locs hl hP hS)
theorem Z_iclt {x y : Int32} {off : Int} {tgt : Nat} (hX : zOk X G cc nL own d) (hd : decode cc pc = .ok (.if_icmp .lt off, 3)) (ht : (pc : Int) + off = (tgt : Int)) (kt : x < y → Z X G nL a b tgt l st I J) (kf : ¬ x < y → Z X G nL a b (pc + 3) l st I J) : Z X G nL a b pc l (.int y :: .int x :: st) I J := by
  obtain ⟨p, la, e, R, s, m, args, below, meth, c, Q, A⟩ := X
  intro ls H locs hl hP hS
  exact lv_icmp_lt hX.1.1 hX.1.2.1 hd ht (fun h => kt h ls H locs hl hP hS) (fun h => kf h ls H locs hl hP hS)
theorem Z_ifge {x : Int32} {off : Int} {tgt : Nat} (hX : zOk X G cc nL own d) (hd : decode cc pc = .ok (.ifCond .ge off, 3)) (ht : (pc : Int) + off = (tgt : Int)) (kt : 0 ≤ x → Z X G nL a b tgt l st I J) (kf : ¬ 0 ≤ x → Z X G nL a b (pc + 3) l st I J) : Z X G nL a b pc l (.int x :: st) I J := by
  obtain ⟨p, la, e, R, s, m, args, below, meth, c, Q, A⟩ := X
  intro ls H locs hl hP hS
  exact lv_if_ge hX.1.1 hX.1.2.1 hd ht (fun h => kt h ls H locs hl hP hS) (fun h => kf h ls H locs hl hP hS)
theorem Z_icge {x y : Int32} {off : Int} {tgt : Nat} (hX : zOk X G cc nL own d) (hd : decode cc pc = .ok (.if_icmp .ge off, 3)) (ht : (pc : Int) + off = (tgt : Int)) (kt : y ≤ x → Z X G nL a b tgt l st I J) (kf : ¬ y ≤ x → Z X G nL a b (pc + 3) l st I J) : Z X G nL a b pc l (.int y :: .int x :: st) I J := by
  obtain ⟨p, la, e, R, s, m, args, below, meth, c, Q, A⟩ := X
  intro ls H locs hl hP hS
  exact lv_icmp_ge hX.1.1 hX.1.2.1 hd ht (fun h => kt h ls H locs hl hP hS) (fun h => kf h ls H locs hl hP hS)
theorem Z_ifgt {x : Int32} {off : Int} {tgt : Nat} (hX : zOk X G cc nL own d) (hd : decode cc pc = .ok (.ifCond .gt off, 3)) (ht : (pc : Int) + off = (tgt : Int)) (kt : 0 < x → Z X G nL a b tgt l st I J) (kf : ¬ 0 < x → Z X G nL a b (pc + 3) l st I J) : Z X G nL a b pc l (.int x :: st) I J := by
  obtain ⟨p, la, e, R, s, m, args, below, meth, c, Q, A⟩ := X
  intro ls H locs hl hP hS
  exact lv_if_gt hX.1.1 hX.1.2.1 hd ht (fun h => kt h ls H locs hl hP hS) (fun h => kf h ls H locs hl hP hS)
theorem Z_icgt {x y : Int32} {off : Int} {tgt : Nat} (hX : zOk X G cc nL own d) (hd : decode cc pc = .ok (.if_icmp .gt off, 3)) (ht : (pc : Int) + off = (tgt : Int)) (kt : y < x → Z X G nL a b tgt l st I J) (kf : ¬ y < x → Z X G nL a b (pc + 3) l st I J) : Z X G nL a b pc l (.int y :: .int x :: st) I J := by
  obtain ⟨p, la, e, R, s, m, args, below, meth, c, Q, A⟩ := X
  intro ls H locs hl hP hS
  exact lv_icmp_gt hX.1.1 hX.1.2.1 hd ht (fun h => kt h ls H locs hl hP hS) (fun h => kf h ls H locs hl hP hS)
theorem Z_ifle {x : Int32} {off : Int} {tgt : Nat} (hX : zOk X G cc nL own d) (hd : decode cc pc = .ok (.ifCond .le off, 3)) (ht : (pc : Int) + off = (tgt : Int)) (kt : x ≤ 0 → Z X G nL a b tgt l st I J) (kf : ¬ x ≤ 0 → Z X G nL a b (pc + 3) l st I J) : Z X G nL a b pc l (.int x :: st) I J := by
  obtain ⟨p, la, e, R, s, m, args, below, meth, c, Q, A⟩ := X
  intro ls H locs hl hP hS
  exact lv_if_le hX.1.1 hX.1.2.1 hd ht (fun h => kt h ls H locs hl hP hS) (fun h => kf h ls H locs hl hP hS)
theorem Z_icle {x y : Int32} {off : Int} {tgt : Nat} (hX : zOk X G cc nL own d) (hd : decode cc pc = .ok (.if_icmp .le off, 3)) (ht : (pc : Int) + off = (tgt : Int)) (kt : x ≤ y → Z X G nL a b tgt l st I J) (kf : ¬ x ≤ y → Z X G nL a b (pc + 3) l st I J) : Z X G nL a b pc l (.int y :: .int x :: st) I J := by
  obtain ⟨p, la, e, R, s, m, args, below, meth, c, Q, A⟩ := X
  intro ls H locs hl hP hS
  exact lv_icmp_le hX.1.1 hX.1.2.1 hd ht (fun h => kt h ls H locs hl hP hS) (fun h => kf h ls H locs hl hP hS)
theorem Z_ifeqB {x : Bool} {off : Int} {tgt : Nat} (hX : zOk X G cc nL own d) (hd : decode cc pc = .ok (.ifCond .eq off, 3)) (ht : (pc : Int) + off = (tgt : Int)) (kt : x = false → Z X G nL a b tgt l st I J) (kf : x = true → Z X G nL a b (pc + 3) l st I J) : Z X G nL a b pc l (.int (zB x) :: st) I J := Z_ifeq hX hd ht (fun h => kt (zB_eq h)) (fun h => kf (zB_ne h))
theorem Z_ifneB {x : Bool} {off : Int} {tgt : Nat} (hX : zOk X G cc nL own d) (hd : decode cc pc = .ok (.ifCond .ne off, 3)) (ht : (pc : Int) + off = (tgt : Int)) (kt : x = true → Z X G nL a b tgt l st I J) (kf : x = false → Z X G nL a b (pc + 3) l st I J) : Z X G nL a b pc l (.int (zB x) :: st) I J := Z_ifne hX hd ht (fun h => kt (zB_ne h)) (fun h => kf (zB_eq h))
theorem Z_goto {off : Int} {tgt : Nat} (hX : zOk X G cc nL own d) (hd : decode cc pc = .ok (.goto off, 3)) (ht : (pc : Int) + off = (tgt : Int)) (k : Z X G nL a b tgt l st I J) : Z X G nL a b pc l st I J := by
  obtain ⟨p, la, e, R, s, m, args, below, meth, c, Q, A⟩ := X
  intro ls H locs hl hP hS
  exact lv_goto hX.1.1 hX.1.2.1 hd ht (k ls H locs hl hP hS)
theorem Z_getI {index c0 ci k0 N : Nat} {C : String} {T : u_T} {ds : List (Option (Option Nat))} (hX : zOk X G cc nL own d) (hd : decode cc pc = .ok (.getfield index, 3)) (hL : lay0[c0]? = some (.inr (.inr (ci, ds)))) (hc : vwCl[ci]? = some (C, T, N)) (hu : ∀ w ∈ u_ws C T N, w ∈ TBL) (hk : k0 < N) (hl0 : Cond.fieldLink own index (T k0).1 (T k0).2.1 (T k0).2.2.1 ∈ TBL) (hf : ds[k0]? = some none) (k : Z X G nL a b (pc + 3) l (.int (I c0 k0) :: st) I J) : Z X G nL a b pc l (.ref (zad G c0) :: st) I J := by
  obtain ⟨p, la, e, R, s, m, args, below, meth, c, Q, A⟩ := X
  intro ls H locs hl hP hS
  exact va_get hX.1.1 hX.1.2.1 hX.1.2.2.2.2 hu hX.1.2.2.2.1 hX.2.2.1 hP c0 (zW_at hL) hc k0 hk (hX.1.2.2.2.2 _ hl0) (fun _ h => h) (by rw [List.getElem?_mapIdx, hf]; rfl) hd (k ls H locs hl hP hS)
theorem Z_getL {index c0 ci k0 N : Nat} {C : String} {T : u_T} {ds : List (Option (Option Nat))} (hX : zOk X G cc nL own d) (hd : decode cc pc = .ok (.getfield index, 3)) (hL : lay0[c0]? = some (.inr (.inr (ci, ds)))) (hc : vwCl[ci]? = some (C, T, N)) (hu : ∀ w ∈ u_ws C T N, w ∈ TBL) (hk : k0 < N) (hl0 : Cond.fieldLink own index (T k0).1 (T k0).2.1 (T k0).2.2.1 ∈ TBL) (hf : ds[k0]? = some (some none)) (k : Z X G nL a b (pc + 3) l (.long (J c0 k0) :: st) I J) : Z X G nL a b pc l (.ref (zad G c0) :: st) I J := by
  obtain ⟨p, la, e, R, s, m, args, below, meth, c, Q, A⟩ := X
  intro ls H locs hl hP hS
  exact va_get hX.1.1 hX.1.2.1 hX.1.2.2.2.2 hu hX.1.2.2.2.1 hX.2.2.1 hP c0 (zW_at hL) hc k0 hk (hX.1.2.2.2.2 _ hl0) (fun _ h => h) (by rw [List.getElem?_mapIdx, hf]; rfl) hd (k ls H locs hl hP hS)
theorem Z_getR {index c0 ci k0 N : Nat} {C : String} {T : u_T} {ds : List (Option (Option Nat))} {r : Nat} (hX : zOk X G cc nL own d) (hd : decode cc pc = .ok (.getfield index, 3)) (hL : lay0[c0]? = some (.inr (.inr (ci, ds)))) (hc : vwCl[ci]? = some (C, T, N)) (hu : ∀ w ∈ u_ws C T N, w ∈ TBL) (hk : k0 < N) (hl0 : Cond.fieldLink own index (T k0).1 (T k0).2.1 (T k0).2.2.1 ∈ TBL) (hf : ds[k0]? = some (some (some r))) (k : Z X G nL a b (pc + 3) l (.ref (zad G r) :: st) I J) : Z X G nL a b pc l (.ref (zad G c0) :: st) I J := by
  obtain ⟨p, la, e, R, s, m, args, below, meth, c, Q, A⟩ := X
  intro ls H locs hl hP hS
  exact va_get hX.1.1 hX.1.2.1 hX.1.2.2.2.2 hu hX.1.2.2.2.1 hX.2.2.1 hP c0 (zW_at hL) hc k0 hk (hX.1.2.2.2.2 _ hl0) (fun _ h => h) (by rw [List.getElem?_mapIdx, hf]; rfl) hd (k ls H locs hl hP hS)
theorem Z_putI {index c0 ci k0 N : Nat} {C : String} {T : u_T} {ds : List (Option (Option Nat))} {v : Int32} {ty : FieldType} (hX : zOk X G cc nL own d) (hd : decode cc pc = .ok (.putfield index, 3)) (hL : lay0[c0]? = some (.inr (.inr (ci, ds)))) (hc : vwCl[ci]? = some (C, T, N)) (hu : ∀ w ∈ u_ws C T N, w ∈ TBL) (hk : k0 < N) (hl0 : Cond.fieldLink own index (T k0).1 (T k0).2.1 (T k0).2.2.1 ∈ TBL) (hf : ds[k0]? = some none) (ty0 : Nat → FieldType) (hty : ∀ k, k < N → parseFieldDescriptor (T k).2.2.1 = some (ty0 k)) (hnm : ∀ a, a < N → ∀ b, b < N → a ≠ b → (T a).2.1 ≠ (T b).2.1) (hfin : (T k0).2.2.2 = false) (hde : parseFieldDescriptor (T k0).2.2.1 = some ty) (hna : narrow ty (.int v) = .int v) (hfi : fits ty (.int v) = true) (k : Z X G nL a b (pc + 3) l st (zup I c0 k0 v) J) : Z X G nL a b pc l (.int v :: .ref (zad G c0) :: st) I J := by
  obtain ⟨p, la, e, R, s, m, args, below, meth, c, Q, A⟩ := X
  intro ls H locs hl hP hS
  have hlen : k0 < (ds.mapIdx (zF G (I c0) (J c0))).length := by
    rw [List.length_mapIdx]
    exact (List.getElem?_eq_some_iff.mp hf).1
  refine va_put hX.1.1 hX.1.2.1 hX.1.2.2.2.2 hu ty0 hty hnm hX.1.2.2.2.1 hX.2.2.1 hP (hX.2.2.2.1 I J) hS c0 (zW_at hL) hc k0 hk (hX.1.2.2.2.2 _ hl0) (fun _ h => h) hfin hde hna hfi hlen hd (fun H1 locs1 hP1 _ hS1 => ?_)
  rw [zF_set hf] at hP1
  have e1 : (zW G I J).set c0 (zad G c0, .inr (ci, ds.mapIdx (zF G (upd (I c0) k0 v) (J c0)))) = zW G (zup I c0 k0 v) J := by
    have h9 := zW_set (G := G) (I := I) (I' := zup I c0 k0 v) (J := J) (J' := J) (fun a h => zup_ne h) (fun _ _ => rfl) hL
    rw [zup_same] at h9
    exact h9
  rw [e1] at hP1
  exact k ls H1 locs1 hl hP1 hS1
theorem Z_putL {index c0 ci k0 N : Nat} {C : String} {T : u_T} {ds : List (Option (Option Nat))} {v : Int64} (hX : zOk X G cc nL own d) (hd : decode cc pc = .ok (.putfield index, 3)) (hL : lay0[c0]? = some (.inr (.inr (ci, ds)))) (hc : vwCl[ci]? = some (C, T, N)) (hu : ∀ w ∈ u_ws C T N, w ∈ TBL) (hk : k0 < N) (hl0 : Cond.fieldLink own index (T k0).1 (T k0).2.1 (T k0).2.2.1 ∈ TBL) (hf : ds[k0]? = some (some none)) (ty0 : Nat → FieldType) (hty : ∀ k, k < N → parseFieldDescriptor (T k).2.2.1 = some (ty0 k)) (hnm : ∀ a, a < N → ∀ b, b < N → a ≠ b → (T a).2.1 ≠ (T b).2.1) (hfin : (T k0).2.2.2 = false) (hde : parseFieldDescriptor (T k0).2.2.1 = some .long) (k : Z X G nL a b (pc + 3) l st I (zupL J c0 k0 v)) : Z X G nL a b pc l (.long v :: .ref (zad G c0) :: st) I J := by
  obtain ⟨p, la, e, R, s, m, args, below, meth, c, Q, A⟩ := X
  intro ls H locs hl hP hS
  have hlen : k0 < (ds.mapIdx (zF G (I c0) (J c0))).length := by
    rw [List.length_mapIdx]
    exact (List.getElem?_eq_some_iff.mp hf).1
  refine va_put hX.1.1 hX.1.2.1 hX.1.2.2.2.2 hu ty0 hty hnm hX.1.2.2.2.1 hX.2.2.1 hP (hX.2.2.2.1 I J) hS c0 (zW_at hL) hc k0 hk (hX.1.2.2.2.2 _ hl0) (fun _ h => h) hfin hde rfl rfl hlen hd (fun H1 locs1 hP1 _ hS1 => ?_)
  rw [zF_setL hf] at hP1
  have e1 : (zW G I J).set c0 (zad G c0, .inr (ci, ds.mapIdx (zF G (I c0) (vp_updL (J c0) k0 v)))) = zW G I (zupL J c0 k0 v) := by
    have h9 := zW_set (G := G) (I := I) (I' := I) (J := J) (J' := zupL J c0 k0 v) (fun _ _ => rfl) (fun a h => zupL_ne h) hL
    rw [zupL_same] at h9
    exact h9
  rw [e1] at hP1
  exact k ls H1 locs1 hl hP1 hS1
theorem Z_iald {c0 n k0 : Nat} {i : Int32} (hX : zOk X G cc nL own d) (hd : decode cc pc = .ok (.iaload, 1)) (hL : lay0[c0]? = some (.inl (false, n))) (hi : i = nI k0) (hk : k0 < n) (hn : n < 2 ^ 31) (k : Z X G nL a b (pc + 1) l (.int (I c0 k0) :: st) I J) : Z X G nL a b pc l (.int i :: .ref (zad G c0) :: st) I J := by
  obtain ⟨p, la, e, R, s, m, args, below, meth, c, Q, A⟩ := X
  intro ls H locs hl hP hS
  subst hi
  refine va_iald hX.1.1 hX.1.2.1 hX.2.2.1 hP c0 0 (zW_at hL) rfl (vp_in_nI hk hn) hd ?_
  rw [nI_clamp (Nat.lt_trans hk hn)]
  exact k ls H locs hl hP hS
theorem Z_zald {c0 n k0 : Nat} {i : Int32} (hX : zOk X G cc nL own d) (hd : decode cc pc = .ok (.baload, 1)) (hL : lay0[c0]? = some (.inl (true, n))) (hi : i = nI k0) (hk : k0 < n) (hn : n < 2 ^ 31) (k : Z X G nL a b (pc + 1) l (.int (I c0 k0) :: st) I J) : Z X G nL a b pc l (.int i :: .ref (zad G c0) :: st) I J := by
  obtain ⟨p, la, e, R, s, m, args, below, meth, c, Q, A⟩ := X
  intro ls H locs hl hP hS
  subst hi
  refine va_zald hX.1.1 hX.1.2.1 hX.2.2.1 hP c0 1 (zW_at hL) rfl (vp_in_nI hk hn) hd ?_
  rw [nI_clamp (Nat.lt_trans hk hn)]
  exact k ls H locs hl hP hS
theorem Z_lald {c0 n k0 : Nat} {i : Int32} (hX : zOk X G cc nL own d) (hd : decode cc pc = .ok (.laload, 1)) (hL : lay0[c0]? = some (.inr (.inl n))) (hi : i = nI k0) (hk : k0 < n) (hn : n < 2 ^ 31) (k : Z X G nL a b (pc + 1) l (.long (J c0 k0) :: st) I J) : Z X G nL a b pc l (.int i :: .ref (zad G c0) :: st) I J := by
  obtain ⟨p, la, e, R, s, m, args, below, meth, c, Q, A⟩ := X
  intro ls H locs hl hP hS
  subst hi
  refine va_lald hX.1.1 hX.1.2.1 hX.2.2.1 hP c0 2 (zW_at hL) rfl (vp_in_nI hk hn) hd ?_
  rw [nI_clamp (Nat.lt_trans hk hn)]
  exact k ls H locs hl hP hS
theorem Z_iast {c0 n k0 : Nat} {i x : Int32} (hX : zOk X G cc nL own d) (hd : decode cc pc = .ok (.iastore, 1)) (hL : lay0[c0]? = some (.inl (false, n))) (hi : i = nI k0) (hk : k0 < n) (hn : n < 2 ^ 31) (k : Z X G nL a b (pc + 1) l st (zup I c0 k0 x) J) : Z X G nL a b pc l (.int x :: .int i :: .ref (zad G c0) :: st) I J := by
  obtain ⟨p, la, e, R, s, m, args, below, meth, c, Q, A⟩ := X
  intro ls H locs hl hP hS
  subst hi
  refine va_iast hX.1.1 hX.1.2.1 hX.2.2.1 hP (hX.2.2.2.1 I J) hS c0 0 (zW_at hL) rfl (vp_in_nI hk hn) hd (fun H1 locs1 hP1 _ hS1 => ?_)
  rw [nI_clamp (Nat.lt_trans hk hn)] at hP1
  have e1 : (zW G I J).set c0 (zad G c0, .inl (G.2.1 (zty false), n, .inl (upd (I c0) k0 x))) = zW G (zup I c0 k0 x) J := by
    have h9 := zW_set (G := G) (I := I) (I' := zup I c0 k0 x) (J := J) (J' := J) (fun a h => zup_ne h) (fun _ _ => rfl) hL
    rw [zup_same] at h9
    exact h9
  exact k ls H1 locs1 hl (e1 ▸ hP1) hS1
theorem Z_zast {c0 n k0 : Nat} {i x : Int32} (hX : zOk X G cc nL own d) (hd : decode cc pc = .ok (.bastore, 1)) (hL : lay0[c0]? = some (.inl (true, n))) (hi : i = nI k0) (hk : k0 < n) (hn : n < 2 ^ 31) (k : Z X G nL a b (pc + 1) l st (zup I c0 k0 (vp_nar .boolean x)) J) : Z X G nL a b pc l (.int x :: .int i :: .ref (zad G c0) :: st) I J := by
  obtain ⟨p, la, e, R, s, m, args, below, meth, c, Q, A⟩ := X
  intro ls H locs hl hP hS
  subst hi
  refine va_zast hX.1.1 hX.1.2.1 hX.2.2.1 hP (hX.2.2.2.1 I J) hS c0 1 (zW_at hL) rfl (vp_in_nI hk hn) hd (fun H1 locs1 hP1 _ hS1 => ?_)
  rw [nI_clamp (Nat.lt_trans hk hn)] at hP1
  have e1 : (zW G I J).set c0 (zad G c0, .inl (G.2.1 (zty true), n, .inl (upd (I c0) k0 (vp_nar .boolean x)))) = zW G (zup I c0 k0 (vp_nar .boolean x)) J := by
    have h9 := zW_set (G := G) (I := I) (I' := zup I c0 k0 (vp_nar .boolean x)) (J := J) (J' := J) (fun a h => zup_ne h) (fun _ _ => rfl) hL
    rw [zup_same] at h9
    exact h9
  exact k ls H1 locs1 hl (e1 ▸ hP1) hS1
theorem Z_zast01 {c0 n k0 : Nat} {i x : Int32} (hX : zOk X G cc nL own d) (hd : decode cc pc = .ok (.bastore, 1)) (hL : lay0[c0]? = some (.inl (true, n))) (hi : i = nI k0) (hk : k0 < n) (hn : n < 2 ^ 31) (hx : vp_nar .boolean x = x) (k : Z X G nL a b (pc + 1) l st (zup I c0 k0 x) J) : Z X G nL a b pc l (.int x :: .int i :: .ref (zad G c0) :: st) I J := Z_zast hX hd hL hi hk hn (by rw [hx]; exact k)
theorem Z_last {c0 n k0 : Nat} {i : Int32} {x : Int64} (hX : zOk X G cc nL own d) (hd : decode cc pc = .ok (.lastore, 1)) (hL : lay0[c0]? = some (.inr (.inl n))) (hi : i = nI k0) (hk : k0 < n) (hn : n < 2 ^ 31) (k : Z X G nL a b (pc + 1) l st I (zupL J c0 k0 x)) : Z X G nL a b pc l (.long x :: .int i :: .ref (zad G c0) :: st) I J := by
  obtain ⟨p, la, e, R, s, m, args, below, meth, c, Q, A⟩ := X
  intro ls H locs hl hP hS
  subst hi
  refine va_last hX.1.1 hX.1.2.1 hX.2.2.1 hP (hX.2.2.2.1 I J) hS c0 2 (zW_at hL) rfl (vp_in_nI hk hn) hd (fun H1 locs1 hP1 _ hS1 => ?_)
  rw [nI_clamp (Nat.lt_trans hk hn)] at hP1
  have e1 : (zW G I J).set c0 (zad G c0, .inl (G.2.1 .long, n, .inr (.inl (vp_updL (J c0) k0 x)))) = zW G I (zupL J c0 k0 x) := by
    have h9 := zW_set (G := G) (I := I) (I' := I) (J := J) (J' := zupL J c0 k0 x) (fun _ _ => rfl) (fun a h => zupL_ne h) hL
    rw [zupL_same] at h9
    exact h9
  exact k ls H1 locs1 hl (e1 ▸ hP1) hS1
theorem Z_mem {I' : zI} {J' : zJ} (hI : I = I') (hJ : J = J') (k : Z X G nL a b pc l st I' J') : Z X G nL a b pc l st I J := by
  subst hI; subst hJ; exact k
theorem Z_ri {v v' : Int32} {I' : zI} {J' : zJ} (k : Z X G nL a b pc l [.int v] I' J') (hv : v' = v) (hI : I = I') (hJ : J = J') : Z X G nL a b pc l [.int v'] I J := by
  subst hv; subst hI; subst hJ; exact k
theorem Z_rl {v v' : Int64} {I' : zI} {J' : zJ} (k : Z X G nL a b pc l [.long v] I' J') (hv : v' = v) (hI : I = I') (hJ : J = J') : Z X G nL a b pc l [.long v'] I J := by
  subst hv; subst hI; subst hJ; exact k
theorem Z_cut {P : Int32 → Prop} {pc' : Nat} (h1 : ∀ v : Int32, P v → Z X G nL a b pc' l (.int v :: st) I J) (h2 : (∀ v : Int32, P v → Z X G nL a b pc' l (.int v :: st) I J) → Z X G nL a b pc l st I J) : Z X G nL a b pc l st I J := h2 h1
theorem Z_top {x y : Int32} (h : x = y) (k : Z X G nL a b pc l (.int y :: st) I J) : Z X G nL a b pc l (.int x :: st) I J := by
  subst h; exact k
theorem Z_topL {x y : Int64} (h : x = y) (k : Z X G nL a b pc l (.long y :: st) I J) : Z X G nL a b pc l (.long x :: st) I J := by
  subst h; exact k
theorem Z_copy {c0 c1 n index : Nat} {w0 w1 w2 : Int32} (hX : zOk X G cc nL own d) (hd : decode cc pc = .ok (.invokestatic index, 3)) (hw0 : w0 = 0) (hw1 : w1 = 0) (hw2 : w2 = nI n) (hn : n < 2 ^ 31) (hL0 : lay0[c0]? = some (.inl (false, n))) (hL1 : lay0[c1]? = some (.inl (false, n))) (h1 : Cond.methodLink own index arraycopyName ∈ TBL) (h2 : Cond.native arraycopyName ∈ TBL) (h3 : Cond.static arraycopyName ∈ TBL) (h4 : Cond.initialized "java/lang/System" ∈ TBL) (hf : 1 ≤ d.frames) (hlo : (st.map fun v => v.category).sum + (nativeFrameWords "java/lang/System" "arraycopy" 5 + 11) ≤ d.locals) (k : Z X G nL a b (pc + 3) l st (zcp I c0 c1 n) J) : Z X G nL a b pc l (.int w2 :: .int w1 :: .ref (zad G c1) :: .int w0 :: .ref (zad G c0) :: st) I J := by
  obtain ⟨p, la, e, R, s, m, args, below, meth, c, Q, A⟩ := X
  intro ls H locs hl hP hS
  subst hw0; subst hw1; subst hw2
  have e0 : (0 : Int32).toNatClampNeg = 0 := rfl
  have e2 : (nI n).toNatClampNeg = n := nI_clamp hn
  refine va_copyi (ty := .int) hX.1.1 hX.1.2.1 (hX.1.2.2.1.trans hl.1.symm) hX.1.2.2.2.1 (hX.1.2.2.2.2 _ h1) (hX.1.2.2.2.2 _ h2) (hX.1.2.2.2.2 _ h3) (hX.1.2.2.2.2 _ h4) hX.2.2.1 hP (hX.2.2.2.1 I J) hS c0 c1 0 0 (zW_at hL0) (zW_at hL1) rfl rfl rfl (by decide) (by decide) (nI_pos hn) (by rw [e0, e2]; omega) (by rw [e0, e2]; omega) (fun i _ => rfl) (by rw [hX.2.1]; exact hf) (by rw [hX.2.1]; exact hlo) hd (fun H1 locs1 hP1 _ hS1 => ?_)
  rw [e0, e2] at hP1
  have e1 : (zW G I J).set c1 (zad G c1, .inl (G.2.1 (zty false), n, .inl (va_cpy (I c0) (I c1) 0 0 n))) = zW G (zcp I c0 c1 n) J := by
    have h9 := zW_set (G := G) (I := I) (I' := zcp I c0 c1 n) (J := J) (J' := J) (fun a h => zcp_ne h) (fun _ _ => rfl) hL1
    rw [zcp_same] at h9
    exact h9
  exact k ls H1 locs1 hl (e1 ▸ hP1) hS1
theorem Z_min {x y : Int32} {index : Nat} (hX : zOk X G cc nL own d) (hd : decode cc pc = .ok (.invokestatic index, 3)) (h1 : Cond.methodLink own index Lib.Math.min.name ∈ TBL) (h2 : Cond.static Lib.Math.min.name ∈ TBL) (h3 : Cond.initialized "java/lang/Math" ∈ TBL) (h4 : Cond.code Lib.Math.min.name Lib.Math.min.code 2 (some .int) ∈ TBL) (hf : 1 ≤ d.frames) (hlo : (st.map fun v => v.category).sum + 13 ≤ d.locals) (hca : a ≤ d.cells) (hsl : b ≤ d.slots) (k : Z X G nL a b (pc + 3) l (.int (if y < x then y else x) :: st) I J) : Z X G nL a b pc l (.int y :: .int x :: st) I J := by
  obtain ⟨p, la, e, R, s, m, args, below, meth, c, Q, A⟩ := X
  intro ls H locs hl hP hS
  exact va_mmin hX.1.1 hX.1.2.1 (hX.1.2.2.1.trans hl.1.symm) hX.1.2.2.2.1 (hX.1.2.2.2.2 _ h1) (hX.1.2.2.2.2 _ h2) (hX.1.2.2.2.2 _ h3) (hX.1.2.2.2.2 _ h4) (by rw [hX.2.1]; exact hf) (by rw [hX.2.1]; exact hlo) (by rw [hX.2.1]; exact hca) (by rw [hX.2.1]; exact hsl) hd (k ls H locs hl hP hS)
theorem Z_max {x y : Int32} {index : Nat} (hX : zOk X G cc nL own d) (hd : decode cc pc = .ok (.invokestatic index, 3)) (h1 : Cond.methodLink own index Lib.Math.max.name ∈ TBL) (h2 : Cond.static Lib.Math.max.name ∈ TBL) (h3 : Cond.initialized "java/lang/Math" ∈ TBL) (h4 : Cond.code Lib.Math.max.name Lib.Math.max.code 2 (some .int) ∈ TBL) (hf : 1 ≤ d.frames) (hlo : (st.map fun v => v.category).sum + 13 ≤ d.locals) (hca : a ≤ d.cells) (hsl : b ≤ d.slots) (k : Z X G nL a b (pc + 3) l (.int (if x < y then y else x) :: st) I J) : Z X G nL a b pc l (.int y :: .int x :: st) I J := by
  obtain ⟨p, la, e, R, s, m, args, below, meth, c, Q, A⟩ := X
  intro ls H locs hl hP hS
  exact va_mmax hX.1.1 hX.1.2.1 (hX.1.2.2.1.trans hl.1.symm) hX.1.2.2.2.1 (hX.1.2.2.2.2 _ h1) (hX.1.2.2.2.2 _ h2) (hX.1.2.2.2.2 _ h3) (hX.1.2.2.2.2 _ h4) (by rw [hX.2.1]; exact hf) (by rw [hX.2.1]; exact hlo) (by rw [hX.2.1]; exact hca) (by rw [hX.2.1]; exact hsl) hd (k ls H locs hl hP hS)
end ZR
