def zR (d : Nat) : Room := { frames := d, cells := 0, slots := 0, locals := 36 * d + 30 }
/-! pure words for the class's methods: memory I (ints), J (longs); cells by their numbers: Plan 1 and its arrays 2 .. 15, Flow at b (16 or 35) and what it holds up to b + 18, Clocks 54 .. 58, Calm 59 .. 61 -/
theorem nI_neg1 {n : Nat} (h : n < 2 ^ 31) : ¬ nI n = -1 := by
  intro e
  have h1 := congrArg Int32.toInt e
  rw [nI_toInt h] at h1
  have h2 : (-1 : Int32).toInt = -1 := by decide
  omega
theorem nI_ix {x : Int32} {n : Nat} (hn : n < 2 ^ 31) (h1 : ¬ x < 0) (h2 : ¬ nI n < x) : x = nI x.toNatClampNeg ∧ x.toNatClampNeg ≤ n := by
  obtain ⟨j, hj, e⟩ := nI_of h1
  subst e
  rw [nI_clamp hj]
  refine ⟨rfl, ?_⟩
  by_cases h : j ≤ n
  · exact h
  · exact absurd (nI_lt (by omega) hj) h2
def p_in (v lo hi : Int32) : Bool := decide (¬ v < lo) && decide (¬ hi < v)
theorem p_in_ix {x : Int32} {n : Nat} (hn : n < 2 ^ 31) (h : p_in x 0 (nI n) = true) : x = nI x.toNatClampNeg ∧ x.toNatClampNeg ≤ n := by
  simp only [p_in, Bool.and_eq_true, decide_eq_true_eq] at h
  exact nI_ix hn h.1 h.2
theorem p_slot (e p : Nat) : nI e * 4 + nI p = nI (4 * e + p) := by
  rw [show (4 : Int32) = nI 4 from rfl, pk_mul, nI_add, Nat.mul_comm]
theorem p_elem {s : Nat} (h : s < 2 ^ 31) : nI s / 4 = nI (s / 4) := by
  rw [show (4 : Int32) = nI 4 from rfl, pk_div h (by decide) (by decide)]
def p_th (I : zI) (e : Int32) : Bool := p_in e 0 15 && decide (¬ I 2 e.toNatClampNeg = 0)
def p_po (I : zI) (e p : Int32) : Bool := p_th I e && p_in p 0 3
def p_lk (I : zI) (k : Int32) : Bool := p_in k 0 (I 1 14 - 1)
def p_so (I : zI) (s : Nat) : Bool := decide (¬ I 11 s = -1)
def p_tk (I : zI) (s : Nat) : Bool := decide (¬ I 9 s = -1) || p_so I s
def w_wr (I : zI) (w s : Nat) (q h t : Int32) : zI := zup (zup (zup I (w + 1) s q) (w + 2) s h) (w + 3) s t
def w_eq (I : zI) (w s w' s' : Nat) : Bool := decide (I (w + 1) s = I (w' + 1) s') && decide (I (w + 2) s = I (w' + 2) s') && decide (I (w + 3) s = I (w' + 3) s')
def f_bit (x y : Int32) : Int32 := x >>> (y &&& 31) &&& 1
def f_wh (I : zI) (b e : Nat) : Bool := decide (¬ I 2 e = 0) && decide (f_bit (I b 11) (nI e) = 0)
def f_lw (I : zI) (b : Nat) (k : Int32) : Bool := decide (f_bit (I b 12) k = 0)
def f_lo (I : zI) (b e : Nat) : Bool := decide (I (b + 15) e = 1)
def f_sc (I : zI) (b e : Nat) : Int32 := if f_bit (I b 11) (nI e) = 1 then 3 else I (b + 15) e
def p_jo (I : zI) (k s t : Nat) : zI :=
  let I1 := zup I 1 14 (I 1 14 + 1)
  zup (zup (zup (zup (zup I1 15 k (nI s)) 9 s (nI k)) 9 t (nI k)) 10 s (nI t)) 10 t (nI s)
def p_lo (I : zI) : Nat → Int32
  | 0 => 0
  | e + 1 => if p_lo I e < I 6 e then I 6 e else p_lo I e
set_option maxRecDepth 100000 in
set_option maxHeartbeats 4000000 in
theorem c_CT_isWithin {la : Launch} {G : zG} {I : zI} {J : zJ} {x y z : Int32} : zCi la G y_CT_isWithin (Cond.code y_CT_isWithin prog_1_method_25_code 3 (some .boolean) :: TBL) (zR 1) [.int x, .int y, .int z] I J (zB (p_in x y z)) (I) (J) := by
  refine zCi_of (by decide) (by simp [lg_sl, Value.category]) (zB_nar _) (fun X hla hX hR => ?_)
  subst hla
  refine Z_loc (l' := [(0, .int x), (1, .int y), (2, .int z)]) (by simp [lv_args, Value.category, List.lookup]) ?_
  refine Z_iload_n (i := 1) hX d_CT_isWithin_0 rfl rfl ?_
  refine Z_iload_n (i := 0) hX d_CT_isWithin_1 rfl rfl ?_
  refine Z_icgt (tgt := 14) hX d_CT_isWithin_2 rfl (fun h2 => ?_) (fun h2 => ?_)
  · refine Z_iconst (v := 0) hX d_CT_isWithin_14 rfl ?_
    exact Z_ri (hR _ _ d_CT_isWithin_15) (by simp [p_in, zB, *]) rfl rfl
  · refine Z_iload_n (i := 0) hX d_CT_isWithin_5 rfl rfl ?_
    refine Z_iload_n (i := 2) hX d_CT_isWithin_6 rfl rfl ?_
    refine Z_icgt (tgt := 14) hX d_CT_isWithin_7 rfl (fun h7 => ?_) (fun h7 => ?_)
    · refine Z_iconst (v := 0) hX d_CT_isWithin_14 rfl ?_
      exact Z_ri (hR _ _ d_CT_isWithin_15) (by simp [p_in, zB, *]) rfl rfl
    · refine Z_iconst (v := 1) hX d_CT_isWithin_10 rfl ?_
      refine Z_goto (tgt := 15) hX d_CT_isWithin_11 rfl ?_
      exact Z_ri (hR _ _ d_CT_isWithin_15) (by simp [p_in, zB, *]) rfl rfl

set_option maxRecDepth 100000 in
set_option maxHeartbeats 4000000 in
theorem c_CT_slotOf {la : Launch} {G : zG} {I : zI} {J : zJ} {e p : Nat} : zCi la G y_CT_slotOf (Cond.code y_CT_slotOf prog_1_method_26_code 2 (some .int) :: TBL) (zR 1) [.int (nI e), .int (nI p)] I J (nI (4 * e + p)) (I) (J) := by
  refine zCi_of (by decide) (by simp [lg_sl, Value.category]) (rfl) (fun X hla hX hR => ?_)
  subst hla
  refine Z_loc (l' := [(0, .int (nI e)), (1, .int (nI p))]) (by simp [lv_args, Value.category, List.lookup]) ?_
  refine Z_iload_n (i := 0) hX d_CT_slotOf_0 rfl rfl ?_
  refine Z_iconst (v := 4) hX d_CT_slotOf_1 rfl ?_
  refine Z_imul hX d_CT_slotOf_2 ?_
  refine Z_iload_n (i := 1) hX d_CT_slotOf_3 rfl rfl ?_
  refine Z_iadd hX d_CT_slotOf_4 ?_
  exact Z_ri (hR _ _ d_CT_slotOf_5) (by exact p_slot e p) rfl rfl

set_option maxRecDepth 100000 in
set_option maxHeartbeats 4000000 in
theorem c_CT_elementOf {la : Launch} {G : zG} {I : zI} {J : zJ} {s : Nat} (hs : s < 2 ^ 31) : zCi la G y_CT_elementOf (Cond.code y_CT_elementOf prog_1_method_27_code 1 (some .int) :: TBL) (zR 1) [.int (nI s)] I J (nI (s / 4)) (I) (J) := by
  refine zCi_of (by decide) (by simp [lg_sl, Value.category]) (rfl) (fun X hla hX hR => ?_)
  subst hla
  refine Z_loc (l' := [(0, .int (nI s))]) (by simp [lv_args, Value.category, List.lookup]) ?_
  refine Z_iload_n (i := 0) hX d_CT_elementOf_0 rfl rfl ?_
  refine Z_iconst (v := 4) hX d_CT_elementOf_1 rfl ?_
  refine Z_idiv hX d_CT_elementOf_2 (by decide) ?_
  exact Z_ri (hR _ _ d_CT_elementOf_3) (by exact p_elem hs) rfl rfl

set_option maxRecDepth 100000 in
set_option maxHeartbeats 4000000 in
theorem c_Pl_isLink {la : Launch} {G : zG} {I : zI} {J : zJ} {k : Int32} : zCi la G y_Pl_isLink (Cond.code y_Pl_isLink prog_5_method_4_code 2 (some .boolean) :: TBL) (zR 2) [.ref (zad G 1), .int k] I J (zB (p_lk I k)) (I) (J) := by
  refine zCi_of (by decide) (by simp [lg_sl, Value.category]) (zB_nar _) (fun X hla hX hR => ?_)
  subst hla
  refine Z_loc (l' := [(0, .ref (zad G 1)), (1, .int k)]) (by simp [lv_args, Value.category, List.lookup]) ?_
  refine Z_iload_n (i := 1) hX d_Pl_isLink_0 rfl rfl ?_
  refine Z_iconst (v := 0) hX d_Pl_isLink_1 rfl ?_
  refine Z_aload_n (i := 0) hX d_Pl_isLink_2 rfl rfl ?_
  refine Z_getI (k0 := 14) hX d_Pl_isLink_3 rfl rfl u_Pl (by decide) lk_Pl_55 rfl ?_
  refine Z_iconst (v := 1) hX d_Pl_isLink_6 rfl ?_
  refine Z_isub hX d_Pl_isLink_7 ?_
  refine Z_cNi3 hX d_Pl_isLink_8 c_CT_isWithin m_CT_isWithin ne_Pl_69 ⟨by decide, by decide⟩ ⟨by decide, by decide⟩ (Nat.le_of_ble_eq_true rfl) ?_
  exact Z_ri (hR _ _ d_Pl_isLink_11) (by rfl) rfl rfl

set_option maxRecDepth 100000 in
set_option maxHeartbeats 4000000 in
theorem c_Pl_hasSource {la : Launch} {G : zG} {I : zI} {J : zJ} {s : Nat} (hs : s < 64) : zCi la G y_Pl_hasSource (Cond.code y_Pl_hasSource prog_5_method_6_code 2 (some .boolean) :: TBL) (zR 1) [.ref (zad G 1), .int (nI s)] I J (zB (p_so I s)) (I) (J) := by
  refine zCi_of (by decide) (by simp [lg_sl, Value.category]) (zB_nar _) (fun X hla hX hR => ?_)
  subst hla
  refine Z_loc (l' := [(0, .ref (zad G 1)), (1, .int (nI s))]) (by simp [lv_args, Value.category, List.lookup]) ?_
  refine Z_aload_n (i := 0) hX d_Pl_hasSource_0 rfl rfl ?_
  refine Z_getR (k0 := 9) hX d_Pl_hasSource_1 rfl rfl u_Pl (by decide) lk_Pl_40 rfl ?_
  refine Z_iload_n (i := 1) hX d_Pl_hasSource_4 rfl rfl ?_
  refine Z_iald hX d_Pl_hasSource_5 rfl rfl (by omega) (by decide) ?_
  refine Z_iconst (v := (-1)) hX d_Pl_hasSource_6 rfl ?_
  refine Z_iceq (tgt := 14) hX d_Pl_hasSource_7 rfl (fun h7 => ?_) (fun h7 => ?_)
  · refine Z_iconst (v := 0) hX d_Pl_hasSource_14 rfl ?_
    exact Z_ri (hR _ _ d_Pl_hasSource_15) (by simp [p_so, zB, *]) rfl rfl
  · refine Z_iconst (v := 1) hX d_Pl_hasSource_10 rfl ?_
    refine Z_goto (tgt := 15) hX d_Pl_hasSource_11 rfl ?_
    exact Z_ri (hR _ _ d_Pl_hasSource_15) (by simp [p_so, zB, *]) rfl rfl

set_option maxRecDepth 100000 in
set_option maxHeartbeats 4000000 in
theorem c_Pl_isTaken {la : Launch} {G : zG} {I : zI} {J : zJ} {s : Nat} (hs : s < 64) : zCi la G y_Pl_isTaken (Cond.code y_Pl_isTaken prog_5_method_5_code 2 (some .boolean) :: TBL) (zR 2) [.ref (zad G 1), .int (nI s)] I J (zB (p_tk I s)) (I) (J) := by
  refine zCi_of (by decide) (by simp [lg_sl, Value.category]) (zB_nar _) (fun X hla hX hR => ?_)
  subst hla
  refine Z_loc (l' := [(0, .ref (zad G 1)), (1, .int (nI s))]) (by simp [lv_args, Value.category, List.lookup]) ?_
  refine Z_aload_n (i := 0) hX d_Pl_isTaken_0 rfl rfl ?_
  refine Z_getR (k0 := 7) hX d_Pl_isTaken_1 rfl rfl u_Pl (by decide) lk_Pl_34 rfl ?_
  refine Z_iload_n (i := 1) hX d_Pl_isTaken_4 rfl rfl ?_
  refine Z_iald hX d_Pl_isTaken_5 rfl rfl (by omega) (by decide) ?_
  refine Z_iconst (v := (-1)) hX d_Pl_isTaken_6 rfl ?_
  refine Z_icne (tgt := 18) hX d_Pl_isTaken_7 rfl (fun h7 => ?_) (fun h7 => ?_)
  · refine Z_iconst (v := 1) hX d_Pl_isTaken_18 rfl ?_
    refine Z_goto (tgt := 23) hX d_Pl_isTaken_19 rfl ?_
    exact Z_ri (hR _ _ d_Pl_isTaken_23) (by simp [p_tk, zB, *]) rfl rfl
  · refine Z_aload_n (i := 0) hX d_Pl_isTaken_10 rfl rfl ?_
    refine Z_iload_n (i := 1) hX d_Pl_isTaken_11 rfl rfl ?_
    refine Z_cVi1 hX d_Pl_isTaken_12 (c_Pl_hasSource (by omega)) m_Pl_hasSource rfl rfl lk_Pl_77 ⟨by decide, by decide⟩ ⟨by decide, by decide⟩ (Nat.le_of_ble_eq_true rfl) ?_
    refine Z_ifeqB (tgt := 22) hX d_Pl_isTaken_15 rfl (fun h15 => ?_) (fun h15 => ?_)
    · refine Z_iconst (v := 0) hX d_Pl_isTaken_22 rfl ?_
      exact Z_ri (hR _ _ d_Pl_isTaken_23) (by simp [p_tk, zB, *]) rfl rfl
    · refine Z_iconst (v := 1) hX d_Pl_isTaken_18 rfl ?_
      refine Z_goto (tgt := 23) hX d_Pl_isTaken_19 rfl ?_
      exact Z_ri (hR _ _ d_Pl_isTaken_23) (by simp [p_tk, zB, *]) rfl rfl

set_option maxRecDepth 100000 in
set_option maxHeartbeats 4000000 in
theorem c_Pl_isThere {la : Launch} {G : zG} {I : zI} {J : zJ} {e : Int32} : zCi la G y_Pl_isThere (Cond.code y_Pl_isThere prog_5_method_2_code 2 (some .boolean) :: TBL) (zR 2) [.ref (zad G 1), .int e] I J (zB (p_th I e)) (I) (J) := by
  refine zCi_of (by decide) (by simp [lg_sl, Value.category]) (zB_nar _) (fun X hla hX hR => ?_)
  subst hla
  refine Z_loc (l' := [(0, .ref (zad G 1)), (1, .int e)]) (by simp [lv_args, Value.category, List.lookup]) ?_
  refine Z_iload_n (i := 1) hX d_Pl_isThere_0 rfl rfl ?_
  refine Z_iconst (v := 0) hX d_Pl_isThere_1 rfl ?_
  refine Z_bipush (v := 15) hX d_Pl_isThere_2 rfl ?_
  refine Z_cNi3 hX d_Pl_isThere_4 c_CT_isWithin m_CT_isWithin ne_Pl_69 ⟨by decide, by decide⟩ ⟨by decide, by decide⟩ (Nat.le_of_ble_eq_true rfl) ?_
  refine Z_ifeqB (tgt := 23) hX d_Pl_isThere_7 rfl (fun h7 => ?_) (fun h7 => ?_)
  · refine Z_iconst (v := 0) hX d_Pl_isThere_23 rfl ?_
    exact Z_ri (hR _ _ d_Pl_isThere_24) (by simp [p_th, zB, *]) rfl rfl
  · refine Z_aload_n (i := 0) hX d_Pl_isThere_10 rfl rfl ?_
    refine Z_getR (k0 := 0) hX d_Pl_isThere_11 rfl rfl u_Pl (by decide) lk_Pl_9 rfl ?_
    refine Z_iload_n (i := 1) hX d_Pl_isThere_14 rfl rfl ?_
    refine Z_zald hX d_Pl_isThere_15 rfl (p_in_ix (n := 15) (by decide) h7).1 (Nat.lt_succ_of_le (p_in_ix (n := 15) (by decide) h7).2) (by decide) ?_
    refine Z_ifeq (tgt := 23) hX d_Pl_isThere_16 rfl (fun h16 => ?_) (fun h16 => ?_)
    · refine Z_iconst (v := 0) hX d_Pl_isThere_23 rfl ?_
      exact Z_ri (hR _ _ d_Pl_isThere_24) (by simp [p_th, zB, *]) rfl rfl
    · refine Z_iconst (v := 1) hX d_Pl_isThere_19 rfl ?_
      refine Z_goto (tgt := 24) hX d_Pl_isThere_20 rfl ?_
      exact Z_ri (hR _ _ d_Pl_isThere_24) (by simp [p_th, zB, *]) rfl rfl

set_option maxRecDepth 100000 in
set_option maxHeartbeats 4000000 in
theorem c_Pl_isPort {la : Launch} {G : zG} {I : zI} {J : zJ} {e p : Int32} : zCi la G y_Pl_isPort (Cond.code y_Pl_isPort prog_5_method_3_code 3 (some .boolean) :: TBL) (zR 3) [.ref (zad G 1), .int e, .int p] I J (zB (p_po I e p)) (I) (J) := by
  refine zCi_of (by decide) (by simp [lg_sl, Value.category]) (zB_nar _) (fun X hla hX hR => ?_)
  subst hla
  refine Z_loc (l' := [(0, .ref (zad G 1)), (1, .int e), (2, .int p)]) (by simp [lv_args, Value.category, List.lookup]) ?_
  refine Z_aload_n (i := 0) hX d_Pl_isPort_0 rfl rfl ?_
  refine Z_iload_n (i := 1) hX d_Pl_isPort_1 rfl rfl ?_
  refine Z_cVi1 hX d_Pl_isPort_2 c_Pl_isThere m_Pl_isThere rfl rfl lk_Pl_73 ⟨by decide, by decide⟩ ⟨by decide, by decide⟩ (Nat.le_of_ble_eq_true rfl) ?_
  refine Z_ifeqB (tgt := 21) hX d_Pl_isPort_5 rfl (fun h5 => ?_) (fun h5 => ?_)
  · refine Z_iconst (v := 0) hX d_Pl_isPort_21 rfl ?_
    exact Z_ri (hR _ _ d_Pl_isPort_22) (by simp [p_po, zB, *]) rfl rfl
  · refine Z_iload_n (i := 2) hX d_Pl_isPort_8 rfl rfl ?_
    refine Z_iconst (v := 0) hX d_Pl_isPort_9 rfl ?_
    refine Z_iconst (v := 3) hX d_Pl_isPort_10 rfl ?_
    refine Z_cNi3 hX d_Pl_isPort_11 c_CT_isWithin m_CT_isWithin ne_Pl_69 ⟨by decide, by decide⟩ ⟨by decide, by decide⟩ (Nat.le_of_ble_eq_true rfl) ?_
    refine Z_ifeqB (tgt := 21) hX d_Pl_isPort_14 rfl (fun h14 => ?_) (fun h14 => ?_)
    · refine Z_iconst (v := 0) hX d_Pl_isPort_21 rfl ?_
      exact Z_ri (hR _ _ d_Pl_isPort_22) (by simp [p_po, zB, *]) rfl rfl
    · refine Z_iconst (v := 1) hX d_Pl_isPort_17 rfl ?_
      refine Z_goto (tgt := 22) hX d_Pl_isPort_18 rfl ?_
      exact Z_ri (hR _ _ d_Pl_isPort_22) (by simp [p_po, zB, *]) rfl rfl

set_option maxRecDepth 100000 in
set_option maxHeartbeats 4000000 in
theorem c_Pl_join {la : Launch} {G : zG} {I : zI} {J : zJ} {k s t : Nat} (hk : I 1 14 = nI k) (hk2 : k < 24) (hs : s < 64) (ht : t < 64) : zCi la G y_Pl_join (Cond.code y_Pl_join prog_5_method_7_code 4 (some .int) :: TBL) (zR 1) [.ref (zad G 1), .int (nI s), .int (nI t)] I J (nI k) (p_jo I k s t) (J) := by
  refine zCi_of (by decide) (by simp [lg_sl, Value.category]) (rfl) (fun X hla hX hR => ?_)
  subst hla
  refine Z_loc (l' := [(0, .ref (zad G 1)), (1, .int (nI s)), (2, .int (nI t))]) (by simp [lv_args, Value.category, List.lookup]) ?_
  refine Z_aload_n (i := 0) hX d_Pl_join_0 rfl rfl ?_
  refine Z_getI (k0 := 14) hX d_Pl_join_1 rfl rfl u_Pl (by decide) lk_Pl_55 rfl ?_
  refine Z_top hk ?_
  refine Z_istore_n (i := 3) hX d_Pl_join_4 rfl (by decide) rfl ?_
  refine Z_aload_n (i := 0) hX d_Pl_join_5 rfl rfl ?_
  refine Z_dup hX d_Pl_join_6 rfl ?_
  refine Z_getI (k0 := 14) hX d_Pl_join_7 rfl rfl u_Pl (by decide) lk_Pl_55 rfl ?_
  refine Z_iconst (v := 1) hX d_Pl_join_10 rfl ?_
  refine Z_iadd hX d_Pl_join_11 ?_
  refine Z_putI (k0 := 14) hX d_Pl_join_12 rfl rfl u_Pl (by decide) lk_Pl_55 rfl t_Pl to_Pl n_Pl rfl rfl rfl rfl ?_
  refine Z_aload_n (i := 0) hX d_Pl_join_15 rfl rfl ?_
  refine Z_getR (k0 := 13) hX d_Pl_join_16 rfl rfl u_Pl (by decide) lk_Pl_52 rfl ?_
  refine Z_iload_n (i := 3) hX d_Pl_join_19 rfl rfl ?_
  refine Z_iload_n (i := 1) hX d_Pl_join_20 rfl rfl ?_
  refine Z_iast hX d_Pl_join_21 rfl rfl (by omega) (by decide) ?_
  refine Z_aload_n (i := 0) hX d_Pl_join_22 rfl rfl ?_
  refine Z_getR (k0 := 7) hX d_Pl_join_23 rfl rfl u_Pl (by decide) lk_Pl_34 rfl ?_
  refine Z_iload_n (i := 1) hX d_Pl_join_26 rfl rfl ?_
  refine Z_iload_n (i := 3) hX d_Pl_join_27 rfl rfl ?_
  refine Z_iast hX d_Pl_join_28 rfl rfl (by omega) (by decide) ?_
  refine Z_aload_n (i := 0) hX d_Pl_join_29 rfl rfl ?_
  refine Z_getR (k0 := 7) hX d_Pl_join_30 rfl rfl u_Pl (by decide) lk_Pl_34 rfl ?_
  refine Z_iload_n (i := 2) hX d_Pl_join_33 rfl rfl ?_
  refine Z_iload_n (i := 3) hX d_Pl_join_34 rfl rfl ?_
  refine Z_iast hX d_Pl_join_35 rfl rfl (by omega) (by decide) ?_
  refine Z_aload_n (i := 0) hX d_Pl_join_36 rfl rfl ?_
  refine Z_getR (k0 := 8) hX d_Pl_join_37 rfl rfl u_Pl (by decide) lk_Pl_37 rfl ?_
  refine Z_iload_n (i := 1) hX d_Pl_join_40 rfl rfl ?_
  refine Z_iload_n (i := 2) hX d_Pl_join_41 rfl rfl ?_
  refine Z_iast hX d_Pl_join_42 rfl rfl (by omega) (by decide) ?_
  refine Z_aload_n (i := 0) hX d_Pl_join_43 rfl rfl ?_
  refine Z_getR (k0 := 8) hX d_Pl_join_44 rfl rfl u_Pl (by decide) lk_Pl_37 rfl ?_
  refine Z_iload_n (i := 2) hX d_Pl_join_47 rfl rfl ?_
  refine Z_iload_n (i := 1) hX d_Pl_join_48 rfl rfl ?_
  refine Z_iast hX d_Pl_join_49 rfl rfl (by omega) (by decide) ?_
  refine Z_iload_n (i := 3) hX d_Pl_join_50 rfl rfl ?_
  exact Z_ri (hR _ _ d_Pl_join_51) (by rfl) (by first | rfl | simp [p_jo, hk]) (by rfl)

set_option maxRecDepth 100000 in
set_option maxHeartbeats 4000000 in
theorem c_Pl_longestRestore {la : Launch} {G : zG} {I : zI} {J : zJ}  : zCi la G y_Pl_longestRestore (Cond.code y_Pl_longestRestore prog_5_method_8_code 3 (some .int) :: TBL) (zR 1) [.ref (zad G 1)] I J (p_lo I 16) (I) (J) := by
  refine zCi_of (by decide) (by simp [lg_sl, Value.category]) (rfl) (fun X hla hX hR => ?_)
  subst hla
  refine Z_loc (l' := [(0, .ref (zad G 1))]) (by simp [lv_args, Value.category, List.lookup]) ?_
  refine Z_iconst (v := 0) hX d_Pl_longestRestore_0 rfl ?_
  refine Z_istore_n (i := 1) hX d_Pl_longestRestore_1 rfl (by decide) rfl ?_
  refine Z_iconst (v := nI 0) hX d_Pl_longestRestore_2 rfl ?_
  refine Z_istore_n (i := 2) hX d_Pl_longestRestore_3 rfl (by decide) rfl ?_
  have hL4 : ∀ k i : Nat, k + i = 16 → Z X G 3 0 0 4 [(2, .int (nI i)), (1, .int (p_lo I i)), (0, .ref (zad G 1))] [] (I) (J) := by
    intro k
    induction k with
    | zero =>
      intro i hi
      obtain rfl : i = 16 := by omega
      refine Z_iload_n (i := 2) hX d_Pl_longestRestore_4 rfl rfl ?_
      refine Z_bipush (v := 16) hX d_Pl_longestRestore_5 rfl ?_
      refine Z_icge (tgt := 27) hX d_Pl_longestRestore_7 rfl (fun h7 => ?_) (fun h => absurd (by decide) h)
      refine Z_iload_n (i := 1) hX d_Pl_longestRestore_27 rfl rfl ?_
      exact Z_ri (hR _ _ d_Pl_longestRestore_28) (by rfl) rfl rfl
    | succ k ih =>
      intro i hi
      have hi2 : i < 16 := by omega
      refine Z_iload_n (i := 2) hX d_Pl_longestRestore_4 rfl rfl ?_
      refine Z_bipush (v := 16) hX d_Pl_longestRestore_5 rfl ?_
      refine Z_icge (tgt := 27) hX d_Pl_longestRestore_7 rfl (fun h => absurd h (nI_ge hi2 (by decide))) (fun h7 => ?_)
      refine Z_iload_n (i := 1) hX d_Pl_longestRestore_10 rfl rfl ?_
      refine Z_aload_n (i := 0) hX d_Pl_longestRestore_11 rfl rfl ?_
      refine Z_getR (k0 := 4) hX d_Pl_longestRestore_12 rfl rfl u_Pl (by decide) lk_Pl_25 rfl ?_
      refine Z_iload_n (i := 2) hX d_Pl_longestRestore_15 rfl rfl ?_
      refine Z_iald hX d_Pl_longestRestore_16 rfl rfl (by omega) (by decide) ?_
      refine Z_max hX d_Pl_longestRestore_17 lk_Pl_80 m_max.1 m_max.2.1 m_max.2.2 (by decide) (Nat.le_of_ble_eq_true rfl) (by decide) (by decide) ?_
      refine Z_istore_n (i := 1) hX d_Pl_longestRestore_20 rfl (by decide) rfl ?_
      refine Z_iinc (v := nI (i + 1)) hX d_Pl_longestRestore_21 rfl (by rw [nI_succ]; rfl) (by decide) rfl ?_
      refine Z_goto (tgt := 4) hX d_Pl_longestRestore_24 rfl ?_
      refine Z_loc ?_ (Z_mem ?_ ?_ (ih (i + 1) (by omega)))
      · rfl
      · rfl
      · rfl
  refine Z_loc ?_ (Z_mem ?_ ?_ (hL4 16 0 (by omega)))
  · rfl
  · rfl
  · rfl

set_option maxRecDepth 100000 in
set_option maxHeartbeats 4000000 in
theorem c_Wo_write {la : Launch} {G : zG} {I : zI} {J : zJ} {w : Nat} (hw : isW w) {s : Nat} {q h t : Int32} (hs : s < 64) : zCv la G y_Wo_write (Cond.code y_Wo_write prog_6_method_2_code 5 none :: TBL) (zR 1) [.ref (zad G w), .int (nI s), .int q, .int h, .int t] I J (w_wr I w s q h t) (J) := by
  refine zCv_of (by decide) (by simp [lg_sl, Value.category]) (fun X hla hX hR => ?_)
  subst hla
  refine Z_loc (l' := [(0, .ref (zad G w)), (1, .int (nI s)), (2, .int q), (3, .int h), (4, .int t)]) (by simp [lv_args, Value.category, List.lookup]) ?_
  refine Z_aload_n (i := 0) hX d_Wo_write_0 rfl rfl ?_
  refine Z_getR (k0 := 0) hX d_Wo_write_1 (lW hw) rfl u_Wo (by decide) lk_Wo_9 rfl ?_
  refine Z_iload_n (i := 1) hX d_Wo_write_4 rfl rfl ?_
  refine Z_iload_n (i := 2) hX d_Wo_write_5 rfl rfl ?_
  refine Z_iast hX d_Wo_write_6 (lW1 hw) rfl (by omega) (by decide) ?_
  refine Z_aload_n (i := 0) hX d_Wo_write_7 rfl rfl ?_
  refine Z_getR (k0 := 1) hX d_Wo_write_8 (lW hw) rfl u_Wo (by decide) lk_Wo_15 rfl ?_
  refine Z_iload_n (i := 1) hX d_Wo_write_11 rfl rfl ?_
  refine Z_iload_n (i := 3) hX d_Wo_write_12 rfl rfl ?_
  refine Z_iast hX d_Wo_write_13 (lW2 hw) rfl (by omega) (by decide) ?_
  refine Z_aload_n (i := 0) hX d_Wo_write_14 rfl rfl ?_
  refine Z_getR (k0 := 2) hX d_Wo_write_15 (lW hw) rfl u_Wo (by decide) lk_Wo_18 rfl ?_
  refine Z_iload_n (i := 1) hX d_Wo_write_18 rfl rfl ?_
  refine Z_iload hX d_Wo_write_19 rfl ?_
  refine Z_iast hX d_Wo_write_21 (lW3 hw) rfl (by omega) (by decide) ?_
  exact Z_mem (by rfl) (by rfl) (hR _ _ d_Wo_write_22)

set_option maxRecDepth 100000 in
set_option maxHeartbeats 4000000 in
theorem c_Wo_isSame {la : Launch} {G : zG} {I : zI} {J : zJ} {w : Nat} (hw : isW w) {w' s s' : Nat} (hw2 : isW w') (hs : s < 64) (hs2 : s' < 64) : zCi la G y_Wo_isSame (Cond.code y_Wo_isSame prog_6_method_3_code 4 (some .boolean) :: TBL) (zR 1) [.ref (zad G w), .int (nI s), .ref (zad G w'), .int (nI s')] I J (zB (w_eq I w s w' s')) (I) (J) := by
  refine zCi_of (by decide) (by simp [lg_sl, Value.category]) (zB_nar _) (fun X hla hX hR => ?_)
  subst hla
  refine Z_loc (l' := [(0, .ref (zad G w)), (1, .int (nI s)), (2, .ref (zad G w')), (3, .int (nI s'))]) (by simp [lv_args, Value.category, List.lookup]) ?_
  refine Z_aload_n (i := 0) hX d_Wo_isSame_0 rfl rfl ?_
  refine Z_getR (k0 := 0) hX d_Wo_isSame_1 (lW hw) rfl u_Wo (by decide) lk_Wo_9 rfl ?_
  refine Z_iload_n (i := 1) hX d_Wo_isSame_4 rfl rfl ?_
  refine Z_iald hX d_Wo_isSame_5 (lW1 hw) rfl (by omega) (by decide) ?_
  refine Z_aload_n (i := 2) hX d_Wo_isSame_6 rfl rfl ?_
  refine Z_getR (k0 := 0) hX d_Wo_isSame_7 (lW hw2) rfl u_Wo (by decide) lk_Wo_9 rfl ?_
  refine Z_iload_n (i := 3) hX d_Wo_isSame_10 rfl rfl ?_
  refine Z_iald hX d_Wo_isSame_11 (lW1 hw2) rfl (by omega) (by decide) ?_
  refine Z_icne (tgt := 49) hX d_Wo_isSame_12 rfl (fun h12 => ?_) (fun h12 => ?_)
  · refine Z_iconst (v := 0) hX d_Wo_isSame_49 rfl ?_
    exact Z_ri (hR _ _ d_Wo_isSame_50) (by simp [w_eq, zB, *]) rfl rfl
  · refine Z_aload_n (i := 0) hX d_Wo_isSame_15 rfl rfl ?_
    refine Z_getR (k0 := 1) hX d_Wo_isSame_16 (lW hw) rfl u_Wo (by decide) lk_Wo_15 rfl ?_
    refine Z_iload_n (i := 1) hX d_Wo_isSame_19 rfl rfl ?_
    refine Z_iald hX d_Wo_isSame_20 (lW2 hw) rfl (by omega) (by decide) ?_
    refine Z_aload_n (i := 2) hX d_Wo_isSame_21 rfl rfl ?_
    refine Z_getR (k0 := 1) hX d_Wo_isSame_22 (lW hw2) rfl u_Wo (by decide) lk_Wo_15 rfl ?_
    refine Z_iload_n (i := 3) hX d_Wo_isSame_25 rfl rfl ?_
    refine Z_iald hX d_Wo_isSame_26 (lW2 hw2) rfl (by omega) (by decide) ?_
    refine Z_icne (tgt := 49) hX d_Wo_isSame_27 rfl (fun h27 => ?_) (fun h27 => ?_)
    · refine Z_iconst (v := 0) hX d_Wo_isSame_49 rfl ?_
      exact Z_ri (hR _ _ d_Wo_isSame_50) (by simp [w_eq, zB, *]) rfl rfl
    · refine Z_aload_n (i := 0) hX d_Wo_isSame_30 rfl rfl ?_
      refine Z_getR (k0 := 2) hX d_Wo_isSame_31 (lW hw) rfl u_Wo (by decide) lk_Wo_18 rfl ?_
      refine Z_iload_n (i := 1) hX d_Wo_isSame_34 rfl rfl ?_
      refine Z_iald hX d_Wo_isSame_35 (lW3 hw) rfl (by omega) (by decide) ?_
      refine Z_aload_n (i := 2) hX d_Wo_isSame_36 rfl rfl ?_
      refine Z_getR (k0 := 2) hX d_Wo_isSame_37 (lW hw2) rfl u_Wo (by decide) lk_Wo_18 rfl ?_
      refine Z_iload_n (i := 3) hX d_Wo_isSame_40 rfl rfl ?_
      refine Z_iald hX d_Wo_isSame_41 (lW3 hw2) rfl (by omega) (by decide) ?_
      refine Z_icne (tgt := 49) hX d_Wo_isSame_42 rfl (fun h42 => ?_) (fun h42 => ?_)
      · refine Z_iconst (v := 0) hX d_Wo_isSame_49 rfl ?_
        exact Z_ri (hR _ _ d_Wo_isSame_50) (by simp [w_eq, zB, *]) rfl rfl
      · refine Z_iconst (v := 1) hX d_Wo_isSame_45 rfl ?_
        refine Z_goto (tgt := 50) hX d_Wo_isSame_46 rfl ?_
        exact Z_ri (hR _ _ d_Wo_isSame_50) (by simp [w_eq, zB, *]) rfl rfl
