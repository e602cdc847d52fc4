/-! Flow's methods -/
def f_ls (J : zJ) (b q : Nat) : Bool := decide (lg_cmp (J b 13 >>> ((nI q).toInt64 &&& 63) &&& 1) 0 = 0)
def f_co (I : zI) (J : zJ) (b s q : Nat) : Bool := f_lw I b (I 9 s) && f_wh I b (q / 4) && decide (¬ I (b + 6) q = -1) && f_ls J b q
def f_mo (I : zI) (b : Nat) (x : Bool) : zI := zup I b 14 (zB (decide (¬ I b 14 = 0) || x))
def f_h1 (I : zI) (b s q : Nat) : zI := f_mo I b (!w_eq I (b + 1) s (b + 5) q)
def f_h2 (I : zI) (b s q : Nat) : zI := w_wr I (b + 1) s (I (b + 6) q) (I (b + 7) q) (I (b + 8) q)
def f_h3 (I : zI) (b s : Nat) (a : Int32) : zI := zup (f_mo I b (decide (¬ a = I (b + 13) s))) (b + 13) s a
def f_he (I : zI) (J : zJ) (b s q : Nat) : zI := if f_co I J b s q = true then f_h3 (f_h2 (f_h1 I b s q) b s q) b s 0 else f_h3 I b s (if 3 < I (b + 13) s + 1 then 3 else I (b + 13) s + 1)
theorem f_he_t {I : zI} {J : zJ} {b s q : Nat} (h : f_co I J b s q = true) : f_he I J b s q = f_h3 (f_h2 (f_h1 I b s q) b s q) b s 0 := if_pos h
theorem f_he_f {I : zI} {J : zJ} {b s q : Nat} (h : f_co I J b s q = false) : f_he I J b s q = f_h3 I b s (if 3 < I (b + 13) s + 1 then 3 else I (b + 13) s + 1) := if_neg (by simp [h])
def f_we (I : zI) (b s : Nat) : zI := if p_so I s = true then w_wr I (b + 9) s (I 11 s) 0 0 else if 3 ≤ I (b + 13) s then w_wr I (b + 9) s (-1) 0 0 else w_wr I (b + 9) s (I (b + 2) s) (I (b + 3) s) (I (b + 4) s)
def f_us (I : zI) (b e s : Nat) : Bool := p_in (I (b + 10) s) 0 6 && decide (I 14 s = 0) && (decide (I 1 15 = 0) || decide (¬ f_bit (I (b + 12) s) (nI e) = 1))
def f_cn (I : zI) (b e s : Nat) : Int32 := if f_us I b e s = true then (if 11 < I (b + 14) s + 1 then 11 else I (b + 14) s + 1) else 0
def f_cu (I : zI) (b e s : Nat) : zI := zup (f_mo I b (decide (¬ f_cn I b e s = I (b + 14) s))) (b + 14) s (f_cn I b e s)
def pe (I : zI) (s : Nat) : Nat := (I 10 s).toNatClampNeg
def f_lp (I : zI) (J : zJ) (b e s : Nat) : zI := f_cu (f_we (if I 9 s = -1 then I else f_he I J b s (pe I s)) b s) b e s
def f_li (I : zI) (J : zJ) (b e : Nat) : Nat → zI
  | 0 => I
  | p + 1 => f_lp (f_li I J b e p) J b e (4 * e + p)
def f_bt (I : zI) (b s t : Nat) : Bool := if I (b + 10) s = I (b + 10) t then (if I (b + 11) s = I (b + 11) t then decide (¬ I 13 t ≤ I 13 s) else decide (¬ I (b + 11) t ≤ I (b + 11) s)) else decide (¬ I (b + 10) t ≤ I (b + 10) s)
def zO (r : Option Nat) : Int32 := match r with
  | none => -1
  | some k => nI k
def f_bp (I : zI) (b e : Nat) (m : Int32) : Nat → Option Nat
  | 0 => none
  | p + 1 => match f_bp I b e m p with
    | none => if I (b + 14) (4 * e + p) < m then none else some p
    | some k => if I (b + 14) (4 * e + p) < m then some k else if f_bt I b (4 * e + p) (4 * e + k) = true then some p else some k
def f_ch (I : zI) (b e : Nat) : Int32 := if I 7 e = -1 then (if I 8 e = -1 ∨ I (b + 14) (4 * e + (I 8 e).toNatClampNeg) ≤ 0 then (match f_bp I b e (I 6 e + 1) 4 with
    | none => zO (f_bp I b e 1 4)
    | some k => nI k) else I 8 e) else I 7 e
def f_de1 (I : zI) (b e k : Nat) : zI :=
  let I1 := zup I (b + 15) e 1
  let I2 := zup I1 b 10 (I1 b 10 ||| 1 <<< (nI e &&& 31))
  let I3 := zup I2 (b + 18) e (I2 (b + 10) (4 * e + k))
  zup I3 (b + 17) e (I3 (b + 11) (4 * e + k))
def f_de0 (I : zI) (b e : Nat) : zI := zup (zup (zup I (b + 15) e (if f_bit (I b 10) (nI e) = 1 then 2 else 0)) (b + 18) e (-1)) (b + 17) e (-1)
def f_de (I : zI) (b e : Nat) : zI :=
  let c := f_ch I b e
  let I1 := zup I (b + 16) e c
  if c = -1 ∨ I1 (b + 14) (4 * e + c.toNatClampNeg) ≤ 0 then f_de0 I1 b e else f_de1 I1 b e c.toNatClampNeg
def f_sp1 (I : zI) (b e p : Nat) : zI := if I 9 (4 * e + p) = -1 then I else
  if nI p = I (b + 16) e then w_wr I (b + 5) (4 * e + p) 7 0 0 else
  if f_lo I b e = true then w_wr I (b + 5) (4 * e + p) (I (b + 18) e) (I (b + 17) e + 1) (I (b + 12) (4 * e + (I (b + 16) e).toNatClampNeg) ||| 1 <<< (nI e &&& 31)) else
  w_wr I (b + 5) (4 * e + p) (8 + I 3 e) 0 0
def f_sp (I : zI) (b e : Nat) : Nat → zI
  | 0 => I
  | p + 1 => f_sp1 (f_sp I b e p) b e p
def f_r1 (I : zI) (J : zJ) (b : Nat) : Nat → zI
  | 0 => I
  | e + 1 => if f_wh (f_r1 I J b e) b e = true then f_li (f_r1 I J b e) J b e 4 else f_r1 I J b e
def f_r2 (I : zI) (b : Nat) : Nat → zI
  | 0 => I
  | e + 1 => if f_wh (f_r2 I b e) b e = true then f_sp (f_de (f_r2 I b e) b e) b e 4 else f_r2 I b e
def f_ro (I : zI) (J : zJ) (b : Nat) : zI := f_r2 (f_r1 (zup I b 14 0) J b 16) b 16
def f_fg0 (I : zI) (b e : Nat) : zI :=
  let I1 := zup (zup (zup (zup I (b + 15) e 0) (b + 16) e (-1)) (b + 17) e (-1)) (b + 18) e (-1)
  zup I1 b 10 (I1 b 10 &&& (1 <<< (nI e &&& 31) ^^^ (-1)))
def f_fp (I : zI) (b s : Nat) : zI := zup (zup (w_wr I (b + 5) s (-1) 0 0) (b + 13) s 3) (b + 14) s 0
def f_fl (I : zI) (b e : Nat) : Nat → zI
  | 0 => I
  | p + 1 => f_fp (f_fl I b e p) b (4 * e + p)
def f_fg (I : zI) (b e : Nat) : zI := f_fl (f_fg0 I b e) b e 4
def f_se (I : zI) (b e : Nat) (on : Int32) : zI := if on = 0 then zup I b 11 (I b 11 &&& (1 <<< (nI e &&& 31) ^^^ (-1))) else f_fg (zup I b 11 (I b 11 ||| 1 <<< (nI e &&& 31))) b e
def f_sl (I : zI) (b : Nat) (k on : Int32) : zI := zup I b 12 (if on = 0 then I b 12 &&& (1 <<< (k &&& 31) ^^^ (-1)) else I b 12 ||| 1 <<< (k &&& 31))
def f_lf (J : zJ) (b s : Nat) : zJ := zupL J b 13 (J b 13 ||| 1 <<< ((nI s).toInt64 &&& 63))
set_option maxRecDepth 100000 in
set_option maxHeartbeats 4000000 in
theorem c_Fl_isWhole {la : Launch} {G : zG} {I : zI} {J : zJ} {b : Nat} (hb : b = 16 ∨ b = 35) {e : Nat} (he : e < 16) : zCi la G y_Fl_isWhole (Cond.code y_Fl_isWhole prog_4_method_3_code 2 (some .boolean) :: TBL) (zR 1) [.ref (zad G b), .int (nI e)] I J (zB (f_wh I b e)) (I) (J) := by
  refine zCi_of (by decide) (by simp [lg_sl, Value.category]) (zB_nar _) (fun X hla hX hR => ?_)
  subst hla
  refine Z_loc (l' := [(0, .ref (zad G b)), (1, .int (nI e))]) (by simp [lv_args, Value.category, List.lookup]) ?_
  refine Z_aload_n (i := 0) hX d_Fl_isWhole_0 rfl rfl ?_
  refine Z_getR (k0 := 0) hX d_Fl_isWhole_1 (lF hb) rfl u_Fl (by decide) lk_Fl_61 rfl ?_
  refine Z_getR (k0 := 0) hX d_Fl_isWhole_4 rfl rfl u_Pl (by decide) lk_Fl_81 rfl ?_
  refine Z_iload_n (i := 1) hX d_Fl_isWhole_7 rfl rfl ?_
  refine Z_zald hX d_Fl_isWhole_8 rfl rfl (by omega) (by decide) ?_
  refine Z_ifeq (tgt := 27) hX d_Fl_isWhole_9 rfl (fun h9 => ?_) (fun h9 => ?_)
  · refine Z_iconst (v := 0) hX d_Fl_isWhole_27 rfl ?_
    exact Z_ri (hR _ _ d_Fl_isWhole_28) (by simp [f_wh, f_bit, zB, *]) rfl rfl
  · refine Z_aload_n (i := 0) hX d_Fl_isWhole_12 rfl rfl ?_
    refine Z_getI (k0 := 11) hX d_Fl_isWhole_13 (lF hb) rfl u_Fl (by decide) lk_Fl_47 rfl ?_
    refine Z_iload_n (i := 1) hX d_Fl_isWhole_16 rfl rfl ?_
    refine Z_ishr hX d_Fl_isWhole_17 ?_
    refine Z_iconst (v := 1) hX d_Fl_isWhole_18 rfl ?_
    refine Z_iand hX d_Fl_isWhole_19 ?_
    refine Z_ifne (tgt := 27) hX d_Fl_isWhole_20 rfl (fun h20 => ?_) (fun h20 => ?_)
    · refine Z_iconst (v := 0) hX d_Fl_isWhole_27 rfl ?_
      exact Z_ri (hR _ _ d_Fl_isWhole_28) (by simp [f_wh, f_bit, zB, *]) rfl rfl
    · refine Z_iconst (v := 1) hX d_Fl_isWhole_23 rfl ?_
      refine Z_goto (tgt := 28) hX d_Fl_isWhole_24 rfl ?_
      exact Z_ri (hR _ _ d_Fl_isWhole_28) (by simp [f_wh, f_bit, zB, *]) rfl rfl

set_option maxRecDepth 100000 in
set_option maxHeartbeats 4000000 in
theorem c_Fl_isLinkWhole {la : Launch} {G : zG} {I : zI} {J : zJ} {b : Nat} (hb : b = 16 ∨ b = 35) {k : Int32} : zCi la G y_Fl_isLinkWhole (Cond.code y_Fl_isLinkWhole prog_4_method_4_code 2 (some .boolean) :: TBL) (zR 1) [.ref (zad G b), .int k] I J (zB (f_lw I b k)) (I) (J) := by
  refine zCi_of (by decide) (by simp [lg_sl, Value.category]) (zB_nar _) (fun X hla hX hR => ?_)
  subst hla
  refine Z_loc (l' := [(0, .ref (zad G b)), (1, .int k)]) (by simp [lv_args, Value.category, List.lookup]) ?_
  refine Z_aload_n (i := 0) hX d_Fl_isLinkWhole_0 rfl rfl ?_
  refine Z_getI (k0 := 12) hX d_Fl_isLinkWhole_1 (lF hb) rfl u_Fl (by decide) lk_Fl_50 rfl ?_
  refine Z_iload_n (i := 1) hX d_Fl_isLinkWhole_4 rfl rfl ?_
  refine Z_ishr hX d_Fl_isLinkWhole_5 ?_
  refine Z_iconst (v := 1) hX d_Fl_isLinkWhole_6 rfl ?_
  refine Z_iand hX d_Fl_isLinkWhole_7 ?_
  refine Z_ifne (tgt := 15) hX d_Fl_isLinkWhole_8 rfl (fun h8 => ?_) (fun h8 => ?_)
  · refine Z_iconst (v := 0) hX d_Fl_isLinkWhole_15 rfl ?_
    exact Z_ri (hR _ _ d_Fl_isLinkWhole_16) (by simp [f_lw, f_bit, zB, *]) rfl rfl
  · refine Z_iconst (v := 1) hX d_Fl_isLinkWhole_11 rfl ?_
    refine Z_goto (tgt := 16) hX d_Fl_isLinkWhole_12 rfl ?_
    exact Z_ri (hR _ _ d_Fl_isLinkWhole_16) (by simp [f_lw, f_bit, zB, *]) rfl rfl

set_option maxRecDepth 100000 in
set_option maxHeartbeats 4000000 in
theorem c_Fl_isLocked {la : Launch} {G : zG} {I : zI} {J : zJ} {b : Nat} (hb : b = 16 ∨ b = 35) {e : Nat} (he : e < 16) : zCi la G y_Fl_isLocked (Cond.code y_Fl_isLocked prog_4_method_5_code 2 (some .boolean) :: TBL) (zR 1) [.ref (zad G b), .int (nI e)] I J (zB (f_lo I b e)) (I) (J) := by
  refine zCi_of (by decide) (by simp [lg_sl, Value.category]) (zB_nar _) (fun X hla hX hR => ?_)
  subst hla
  refine Z_loc (l' := [(0, .ref (zad G b)), (1, .int (nI e))]) (by simp [lv_args, Value.category, List.lookup]) ?_
  refine Z_aload_n (i := 0) hX d_Fl_isLocked_0 rfl rfl ?_
  refine Z_getR (k0 := 6) hX d_Fl_isLocked_1 (lF hb) rfl u_Fl (by decide) lk_Fl_31 rfl ?_
  refine Z_iload_n (i := 1) hX d_Fl_isLocked_4 rfl rfl ?_
  refine Z_iald hX d_Fl_isLocked_5 (lF15 hb) rfl (by omega) (by decide) ?_
  refine Z_iconst (v := 1) hX d_Fl_isLocked_6 rfl ?_
  refine Z_icne (tgt := 14) hX d_Fl_isLocked_7 rfl (fun h7 => ?_) (fun h7 => ?_)
  · refine Z_iconst (v := 0) hX d_Fl_isLocked_14 rfl ?_
    exact Z_ri (hR _ _ d_Fl_isLocked_15) (by simp [f_lo, zB, *]) rfl rfl
  · refine Z_iconst (v := 1) hX d_Fl_isLocked_10 rfl ?_
    refine Z_goto (tgt := 15) hX d_Fl_isLocked_11 rfl ?_
    exact Z_ri (hR _ _ d_Fl_isLocked_15) (by simp [f_lo, zB, *]) rfl rfl

set_option maxRecDepth 100000 in
set_option maxHeartbeats 4000000 in
theorem c_Fl_shownCondition {la : Launch} {G : zG} {I : zI} {J : zJ} {b : Nat} (hb : b = 16 ∨ b = 35) {e : Nat} (he : e < 16) : zCi la G y_Fl_shownCondition (Cond.code y_Fl_shownCondition prog_4_method_6_code 2 (some .int) :: TBL) (zR 1) [.ref (zad G b), .int (nI e)] I J (f_sc I b e) (I) (J) := by
  refine zCi_of (by decide) (by simp [lg_sl, Value.category]) (rfl) (fun X hla hX hR => ?_)
  subst hla
  refine Z_loc (l' := [(0, .ref (zad G b)), (1, .int (nI e))]) (by simp [lv_args, Value.category, List.lookup]) ?_
  refine Z_aload_n (i := 0) hX d_Fl_shownCondition_0 rfl rfl ?_
  refine Z_getI (k0 := 11) hX d_Fl_shownCondition_1 (lF hb) rfl u_Fl (by decide) lk_Fl_47 rfl ?_
  refine Z_iload_n (i := 1) hX d_Fl_shownCondition_4 rfl rfl ?_
  refine Z_ishr hX d_Fl_shownCondition_5 ?_
  refine Z_iconst (v := 1) hX d_Fl_shownCondition_6 rfl ?_
  refine Z_iand hX d_Fl_shownCondition_7 ?_
  refine Z_iconst (v := 1) hX d_Fl_shownCondition_8 rfl ?_
  refine Z_icne (tgt := 16) hX d_Fl_shownCondition_9 rfl (fun h9 => ?_) (fun h9 => ?_)
  · refine Z_aload_n (i := 0) hX d_Fl_shownCondition_16 rfl rfl ?_
    refine Z_getR (k0 := 6) hX d_Fl_shownCondition_17 (lF hb) rfl u_Fl (by decide) lk_Fl_31 rfl ?_
    refine Z_iload_n (i := 1) hX d_Fl_shownCondition_20 rfl rfl ?_
    refine Z_iald hX d_Fl_shownCondition_21 (lF15 hb) rfl (by omega) (by decide) ?_
    exact Z_ri (hR _ _ d_Fl_shownCondition_22) (by simp [f_sc, f_bit, *]) rfl rfl
  · refine Z_iconst (v := 3) hX d_Fl_shownCondition_12 rfl ?_
    refine Z_goto (tgt := 22) hX d_Fl_shownCondition_13 rfl ?_
    exact Z_ri (hR _ _ d_Fl_shownCondition_22) (by simp [f_sc, f_bit, *]) rfl rfl

set_option maxRecDepth 100000 in
set_option maxHeartbeats 4000000 in
theorem c_Fl_setLinkFailed {la : Launch} {G : zG} {I : zI} {J : zJ} {b : Nat} (hb : b = 16 ∨ b = 35) {k on : Int32} : zCv la G y_Fl_setLinkFailed (Cond.code y_Fl_setLinkFailed prog_4_method_7_code 3 none :: TBL) (zR 1) [.ref (zad G b), .int k, .int on] I J (f_sl I b k on) (J) := by
  refine zCv_of (by decide) (by simp [lg_sl, Value.category]) (fun X hla hX hR => ?_)
  subst hla
  refine Z_loc (l' := [(0, .ref (zad G b)), (1, .int k), (2, .int on)]) (by simp [lv_args, Value.category, List.lookup]) ?_
  refine Z_aload_n (i := 0) hX d_Fl_setLinkFailed_0 rfl rfl ?_
  refine Z_iload_n (i := 2) hX d_Fl_setLinkFailed_1 rfl rfl ?_
  refine Z_ifeq (tgt := 16) hX d_Fl_setLinkFailed_2 rfl (fun h2 => ?_) (fun h2 => ?_)
  · refine Z_aload_n (i := 0) hX d_Fl_setLinkFailed_16 rfl rfl ?_
    refine Z_getI (k0 := 12) hX d_Fl_setLinkFailed_17 (lF hb) rfl u_Fl (by decide) lk_Fl_50 rfl ?_
    refine Z_iconst (v := 1) hX d_Fl_setLinkFailed_20 rfl ?_
    refine Z_iload_n (i := 1) hX d_Fl_setLinkFailed_21 rfl rfl ?_
    refine Z_ishl hX d_Fl_setLinkFailed_22 ?_
    refine Z_iconst (v := (-1)) hX d_Fl_setLinkFailed_23 rfl ?_
    refine Z_ixor hX d_Fl_setLinkFailed_24 ?_
    refine Z_iand hX d_Fl_setLinkFailed_25 ?_
    refine Z_putI (k0 := 12) hX d_Fl_setLinkFailed_26 (lF hb) rfl u_Fl (by decide) lk_Fl_50 rfl t_Fl to_Fl n_Fl rfl rfl rfl rfl ?_
    exact Z_mem (by simp [f_sl, *]) (by rfl) (hR _ _ d_Fl_setLinkFailed_29)
  · refine Z_aload_n (i := 0) hX d_Fl_setLinkFailed_5 rfl rfl ?_
    refine Z_getI (k0 := 12) hX d_Fl_setLinkFailed_6 (lF hb) rfl u_Fl (by decide) lk_Fl_50 rfl ?_
    refine Z_iconst (v := 1) hX d_Fl_setLinkFailed_9 rfl ?_
    refine Z_iload_n (i := 1) hX d_Fl_setLinkFailed_10 rfl rfl ?_
    refine Z_ishl hX d_Fl_setLinkFailed_11 ?_
    refine Z_ior hX d_Fl_setLinkFailed_12 ?_
    refine Z_goto (tgt := 26) hX d_Fl_setLinkFailed_13 rfl ?_
    refine Z_putI (k0 := 12) hX d_Fl_setLinkFailed_26 (lF hb) rfl u_Fl (by decide) lk_Fl_50 rfl t_Fl to_Fl n_Fl rfl rfl rfl rfl ?_
    exact Z_mem (by simp [f_sl, *]) (by rfl) (hR _ _ d_Fl_setLinkFailed_29)

set_option maxRecDepth 100000 in
set_option maxHeartbeats 4000000 in
theorem c_Fl_loseFrom {la : Launch} {G : zG} {I : zI} {J : zJ} {b : Nat} (hb : b = 16 ∨ b = 35) {s : Nat} : zCv la G y_Fl_loseFrom (Cond.code y_Fl_loseFrom prog_4_method_9_code 2 none :: TBL) (zR 1) [.ref (zad G b), .int (nI s)] I J (I) (f_lf J b s) := by
  refine zCv_of (by decide) (by simp [lg_sl, Value.category]) (fun X hla hX hR => ?_)
  subst hla
  refine Z_loc (l' := [(0, .ref (zad G b)), (1, .int (nI s))]) (by simp [lv_args, Value.category, List.lookup]) ?_
  refine Z_aload_n (i := 0) hX d_Fl_loseFrom_0 rfl rfl ?_
  refine Z_dup hX d_Fl_loseFrom_1 rfl ?_
  refine Z_getL (k0 := 13) hX d_Fl_loseFrom_2 (lF hb) rfl u_Fl (by decide) lk_Fl_53 rfl ?_
  refine Z_lconst (v := 1) hX d_Fl_loseFrom_5 rfl ?_
  refine Z_iload_n (i := 1) hX d_Fl_loseFrom_6 rfl rfl ?_
  refine Z_lshl hX d_Fl_loseFrom_7 ?_
  refine Z_lor hX d_Fl_loseFrom_8 ?_
  refine Z_putL (k0 := 13) hX d_Fl_loseFrom_9 (lF hb) rfl u_Fl (by decide) lk_Fl_53 rfl t_Fl to_Fl n_Fl rfl rfl ?_
  exact Z_mem (by rfl) (by rfl) (hR _ _ d_Fl_loseFrom_12)

set_option maxRecDepth 100000 in
set_option maxHeartbeats 4000000 in
theorem c_Fl_forget {la : Launch} {G : zG} {I : zI} {J : zJ} {b : Nat} (hb : b = 16 ∨ b = 35) {e : Nat} (he : e < 16) : zCv la G y_Fl_forget (Cond.code y_Fl_forget prog_4_method_10_code 4 none :: TBL) (zR 2) [.ref (zad G b), .int (nI e)] I J (f_fg I b e) (J) := by
  refine zCv_of (by decide) (by simp [lg_sl, Value.category]) (fun X hla hX hR => ?_)
  subst hla
  refine Z_loc (l' := [(0, .ref (zad G b)), (1, .int (nI e))]) (by simp [lv_args, Value.category, List.lookup]) ?_
  refine Z_aload_n (i := 0) hX d_Fl_forget_0 rfl rfl ?_
  refine Z_getR (k0 := 6) hX d_Fl_forget_1 (lF hb) rfl u_Fl (by decide) lk_Fl_31 rfl ?_
  refine Z_iload_n (i := 1) hX d_Fl_forget_4 rfl rfl ?_
  refine Z_iconst (v := 0) hX d_Fl_forget_5 rfl ?_
  refine Z_iast hX d_Fl_forget_6 (lF15 hb) rfl (by omega) (by decide) ?_
  refine Z_aload_n (i := 0) hX d_Fl_forget_7 rfl rfl ?_
  refine Z_getR (k0 := 7) hX d_Fl_forget_8 (lF hb) rfl u_Fl (by decide) lk_Fl_34 rfl ?_
  refine Z_iload_n (i := 1) hX d_Fl_forget_11 rfl rfl ?_
  refine Z_iconst (v := (-1)) hX d_Fl_forget_12 rfl ?_
  refine Z_iast hX d_Fl_forget_13 (lF16 hb) rfl (by omega) (by decide) ?_
  refine Z_aload_n (i := 0) hX d_Fl_forget_14 rfl rfl ?_
  refine Z_getR (k0 := 8) hX d_Fl_forget_15 (lF hb) rfl u_Fl (by decide) lk_Fl_37 rfl ?_
  refine Z_iload_n (i := 1) hX d_Fl_forget_18 rfl rfl ?_
  refine Z_iconst (v := (-1)) hX d_Fl_forget_19 rfl ?_
  refine Z_iast hX d_Fl_forget_20 (lF17 hb) rfl (by omega) (by decide) ?_
  refine Z_aload_n (i := 0) hX d_Fl_forget_21 rfl rfl ?_
  refine Z_getR (k0 := 9) hX d_Fl_forget_22 (lF hb) rfl u_Fl (by decide) lk_Fl_40 rfl ?_
  refine Z_iload_n (i := 1) hX d_Fl_forget_25 rfl rfl ?_
  refine Z_iconst (v := (-1)) hX d_Fl_forget_26 rfl ?_
  refine Z_iast hX d_Fl_forget_27 (lF18 hb) rfl (by omega) (by decide) ?_
  refine Z_aload_n (i := 0) hX d_Fl_forget_28 rfl rfl ?_
  refine Z_dup hX d_Fl_forget_29 rfl ?_
  refine Z_getI (k0 := 10) hX d_Fl_forget_30 (lF hb) rfl u_Fl (by decide) lk_Fl_43 rfl ?_
  refine Z_iconst (v := 1) hX d_Fl_forget_33 rfl ?_
  refine Z_iload_n (i := 1) hX d_Fl_forget_34 rfl rfl ?_
  refine Z_ishl hX d_Fl_forget_35 ?_
  refine Z_iconst (v := (-1)) hX d_Fl_forget_36 rfl ?_
  refine Z_ixor hX d_Fl_forget_37 ?_
  refine Z_iand hX d_Fl_forget_38 ?_
  refine Z_putI (k0 := 10) hX d_Fl_forget_39 (lF hb) rfl u_Fl (by decide) lk_Fl_43 rfl t_Fl to_Fl n_Fl rfl rfl rfl rfl ?_
  refine Z_iconst (v := nI 0) hX d_Fl_forget_42 rfl ?_
  refine Z_istore_n (i := 2) hX d_Fl_forget_43 rfl (by decide) rfl ?_
  have hL44 : ∀ k i : Nat, k + i = 4 → Z X G 4 0 0 44 [(2, .int (nI i)), (1, .int (nI e)), (0, .ref (zad G b))] [] (f_fl (f_fg0 I b e) b e i) (J) := by
    intro k
    induction k with
    | zero =>
      intro i hi
      obtain rfl : i = 4 := by omega
      refine Z_iload_n (i := 2) hX d_Fl_forget_44 rfl rfl ?_
      refine Z_iconst (v := 4) hX d_Fl_forget_45 rfl ?_
      refine Z_icge (tgt := 86) hX d_Fl_forget_46 rfl (fun h46 => ?_) (fun h => absurd (by decide) h)
      exact Z_mem (by rfl) (by rfl) (hR _ _ d_Fl_forget_86)
    | succ k ih =>
      intro i hi
      have hi2 : i < 4 := by omega
      refine Z_iload_n (i := 2) hX d_Fl_forget_44 rfl rfl ?_
      refine Z_iconst (v := 4) hX d_Fl_forget_45 rfl ?_
      refine Z_icge (tgt := 86) hX d_Fl_forget_46 rfl (fun h => absurd h (nI_ge hi2 (by decide))) (fun h46 => ?_)
      refine Z_iload_n (i := 1) hX d_Fl_forget_49 rfl rfl ?_
      refine Z_iload_n (i := 2) hX d_Fl_forget_50 rfl rfl ?_
      refine Z_cNi2 hX d_Fl_forget_51 c_CT_slotOf m_CT_slotOf ne_Fl_91 ⟨by decide, by decide⟩ ⟨by decide, by decide⟩ (Nat.le_of_ble_eq_true rfl) ?_
      refine Z_istore_n (i := 3) hX d_Fl_forget_54 rfl (by decide) rfl ?_
      refine Z_aload_n (i := 0) hX d_Fl_forget_55 rfl rfl ?_
      refine Z_getR (k0 := 2) hX d_Fl_forget_56 (lF hb) rfl u_Fl (by decide) lk_Fl_18 rfl ?_
      refine Z_iload_n (i := 3) hX d_Fl_forget_59 rfl rfl ?_
      refine Z_iconst (v := (-1)) hX d_Fl_forget_60 rfl ?_
      refine Z_iconst (v := 0) hX d_Fl_forget_61 rfl ?_
      refine Z_iconst (v := 0) hX d_Fl_forget_62 rfl ?_
      refine Z_cVv4 hX d_Fl_forget_63 (c_Wo_write (wF5 hb) (by omega)) m_Wo_write (lF5 hb) rfl lk_Fl_95 ⟨by decide, by decide⟩ ⟨by decide, by decide⟩ (Nat.le_of_ble_eq_true rfl) ?_
      refine Z_aload_n (i := 0) hX d_Fl_forget_66 rfl rfl ?_
      refine Z_getR (k0 := 4) hX d_Fl_forget_67 (lF hb) rfl u_Fl (by decide) lk_Fl_24 rfl ?_
      refine Z_iload_n (i := 3) hX d_Fl_forget_70 rfl rfl ?_
      refine Z_iconst (v := 3) hX d_Fl_forget_71 rfl ?_
      refine Z_iast hX d_Fl_forget_72 (lF13 hb) rfl (by omega) (by decide) ?_
      refine Z_aload_n (i := 0) hX d_Fl_forget_73 rfl rfl ?_
      refine Z_getR (k0 := 5) hX d_Fl_forget_74 (lF hb) rfl u_Fl (by decide) lk_Fl_28 rfl ?_
      refine Z_iload_n (i := 3) hX d_Fl_forget_77 rfl rfl ?_
      refine Z_iconst (v := 0) hX d_Fl_forget_78 rfl ?_
      refine Z_iast hX d_Fl_forget_79 (lF14 hb) rfl (by omega) (by decide) ?_
      refine Z_iinc (v := nI (i + 1)) hX d_Fl_forget_80 rfl (by rw [nI_succ]; rfl) (by decide) rfl ?_
      refine Z_goto (tgt := 44) hX d_Fl_forget_83 rfl ?_
      refine Z_loc ?_ (Z_mem ?_ ?_ (ih (i + 1) (by omega)))
      · rfl
      · rfl
      · rfl
  refine Z_loc ?_ (Z_mem ?_ ?_ (hL44 4 0 (by omega)))
  · rfl
  · rfl
  · rfl

set_option maxRecDepth 100000 in
set_option maxHeartbeats 4000000 in
theorem c_Fl_setElementFailed {la : Launch} {G : zG} {I : zI} {J : zJ} {b : Nat} (hb : b = 16 ∨ b = 35) {e : Nat} (he : e < 16) {on : Int32} : zCv la G y_Fl_setElementFailed (Cond.code y_Fl_setElementFailed prog_4_method_8_code 3 none :: TBL) (zR 3) [.ref (zad G b), .int (nI e), .int on] I J (f_se I b e on) (J) := by
  refine zCv_of (by decide) (by simp [lg_sl, Value.category]) (fun X hla hX hR => ?_)
  subst hla
  refine Z_loc (l' := [(0, .ref (zad G b)), (1, .int (nI e)), (2, .int on)]) (by simp [lv_args, Value.category, List.lookup]) ?_
  refine Z_iload_n (i := 2) hX d_Fl_setElementFailed_0 rfl rfl ?_
  refine Z_ifeq (tgt := 24) hX d_Fl_setElementFailed_1 rfl (fun h1 => ?_) (fun h1 => ?_)
  · refine Z_aload_n (i := 0) hX d_Fl_setElementFailed_24 rfl rfl ?_
    refine Z_dup hX d_Fl_setElementFailed_25 rfl ?_
    refine Z_getI (k0 := 11) hX d_Fl_setElementFailed_26 (lF hb) rfl u_Fl (by decide) lk_Fl_47 rfl ?_
    refine Z_iconst (v := 1) hX d_Fl_setElementFailed_29 rfl ?_
    refine Z_iload_n (i := 1) hX d_Fl_setElementFailed_30 rfl rfl ?_
    refine Z_ishl hX d_Fl_setElementFailed_31 ?_
    refine Z_iconst (v := (-1)) hX d_Fl_setElementFailed_32 rfl ?_
    refine Z_ixor hX d_Fl_setElementFailed_33 ?_
    refine Z_iand hX d_Fl_setElementFailed_34 ?_
    refine Z_putI (k0 := 11) hX d_Fl_setElementFailed_35 (lF hb) rfl u_Fl (by decide) lk_Fl_47 rfl t_Fl to_Fl n_Fl rfl rfl rfl rfl ?_
    exact Z_mem (by simp [f_se, *]) (by rfl) (hR _ _ d_Fl_setElementFailed_38)
  · refine Z_aload_n (i := 0) hX d_Fl_setElementFailed_4 rfl rfl ?_
    refine Z_dup hX d_Fl_setElementFailed_5 rfl ?_
    refine Z_getI (k0 := 11) hX d_Fl_setElementFailed_6 (lF hb) rfl u_Fl (by decide) lk_Fl_47 rfl ?_
    refine Z_iconst (v := 1) hX d_Fl_setElementFailed_9 rfl ?_
    refine Z_iload_n (i := 1) hX d_Fl_setElementFailed_10 rfl rfl ?_
    refine Z_ishl hX d_Fl_setElementFailed_11 ?_
    refine Z_ior hX d_Fl_setElementFailed_12 ?_
    refine Z_putI (k0 := 11) hX d_Fl_setElementFailed_13 (lF hb) rfl u_Fl (by decide) lk_Fl_47 rfl t_Fl to_Fl n_Fl rfl rfl rfl rfl ?_
    refine Z_aload_n (i := 0) hX d_Fl_setElementFailed_16 rfl rfl ?_
    refine Z_iload_n (i := 1) hX d_Fl_setElementFailed_17 rfl rfl ?_
    refine Z_cVv1 hX d_Fl_setElementFailed_18 (c_Fl_forget hb (by omega)) m_Fl_forget (lF hb) rfl lk_Fl_87 ⟨by decide, by decide⟩ ⟨by decide, by decide⟩ (Nat.le_of_ble_eq_true rfl) ?_
    refine Z_goto (tgt := 38) hX d_Fl_setElementFailed_21 rfl ?_
    exact Z_mem (by simp [f_se, *]) (by rfl) (hR _ _ d_Fl_setElementFailed_38)

set_option maxRecDepth 100000 in
set_option maxHeartbeats 4000000 in
theorem c_Fl_comes {la : Launch} {G : zG} {I : zI} {J : zJ} {b : Nat} (hb : b = 16 ∨ b = 35) {s q : Nat} (hs : s < 64) (hq : q < 64) : zCi la G y_Fl_comes (Cond.code y_Fl_comes prog_4_method_15_code 3 (some .boolean) :: TBL) (zR 2) [.ref (zad G b), .int (nI s), .int (nI q)] I J (zB (f_co I J b s q)) (I) (J) := by
  refine zCi_of (by decide) (by simp [lg_sl, Value.category]) (zB_nar _) (fun X hla hX hR => ?_)
  subst hla
  refine Z_loc (l' := [(0, .ref (zad G b)), (1, .int (nI s)), (2, .int (nI q))]) (by simp [lv_args, Value.category, List.lookup]) ?_
  refine Z_aload_n (i := 0) hX d_Fl_comes_0 rfl rfl ?_
  refine Z_aload_n (i := 0) hX d_Fl_comes_1 rfl rfl ?_
  refine Z_getR (k0 := 0) hX d_Fl_comes_2 (lF hb) rfl u_Fl (by decide) lk_Fl_61 rfl ?_
  refine Z_getR (k0 := 7) hX d_Fl_comes_5 rfl rfl u_Pl (by decide) lk_Fl_115 rfl ?_
  refine Z_iload_n (i := 1) hX d_Fl_comes_8 rfl rfl ?_
  refine Z_iald hX d_Fl_comes_9 rfl rfl (by omega) (by decide) ?_
  refine Z_cVi1 hX d_Fl_comes_10 (c_Fl_isLinkWhole hb) m_Fl_isLinkWhole (lF hb) rfl lk_Fl_149 ⟨by decide, by decide⟩ ⟨by decide, by decide⟩ (Nat.le_of_ble_eq_true rfl) ?_
  refine Z_ifeqB (tgt := 57) hX d_Fl_comes_13 rfl (fun h13 => ?_) (fun h13 => ?_)
  · refine Z_iconst (v := 0) hX d_Fl_comes_57 rfl ?_
    exact Z_ri (hR _ _ d_Fl_comes_58) (by simp [f_co, f_ls, zB, *]) rfl rfl
  · refine Z_aload_n (i := 0) hX d_Fl_comes_16 rfl rfl ?_
    refine Z_iload_n (i := 2) hX d_Fl_comes_17 rfl rfl ?_
    refine Z_cNi1 hX d_Fl_comes_18 (c_CT_elementOf (by omega)) m_CT_elementOf ne_Fl_152 ⟨by decide, by decide⟩ ⟨by decide, by decide⟩ (Nat.le_of_ble_eq_true rfl) ?_
    refine Z_cVi1 hX d_Fl_comes_21 (c_Fl_isWhole hb (by omega)) m_Fl_isWhole (lF hb) rfl lk_Fl_102 ⟨by decide, by decide⟩ ⟨by decide, by decide⟩ (Nat.le_of_ble_eq_true rfl) ?_
    refine Z_ifeqB (tgt := 57) hX d_Fl_comes_24 rfl (fun h24 => ?_) (fun h24 => ?_)
    · refine Z_iconst (v := 0) hX d_Fl_comes_57 rfl ?_
      exact Z_ri (hR _ _ d_Fl_comes_58) (by simp [f_co, f_ls, zB, *]) rfl rfl
    · refine Z_aload_n (i := 0) hX d_Fl_comes_27 rfl rfl ?_
      refine Z_getR (k0 := 2) hX d_Fl_comes_28 (lF hb) rfl u_Fl (by decide) lk_Fl_18 rfl ?_
      refine Z_getR (k0 := 0) hX d_Fl_comes_31 (lF5 hb) rfl u_Wo (by decide) lk_Fl_144 rfl ?_
      refine Z_iload_n (i := 2) hX d_Fl_comes_34 rfl rfl ?_
      refine Z_iald hX d_Fl_comes_35 (lF6 hb) rfl (by omega) (by decide) ?_
      refine Z_iconst (v := (-1)) hX d_Fl_comes_36 rfl ?_
      refine Z_iceq (tgt := 57) hX d_Fl_comes_37 rfl (fun h37 => ?_) (fun h37 => ?_)
      · refine Z_iconst (v := 0) hX d_Fl_comes_57 rfl ?_
        exact Z_ri (hR _ _ d_Fl_comes_58) (by simp [f_co, f_ls, zB, *]) rfl rfl
      · refine Z_aload_n (i := 0) hX d_Fl_comes_40 rfl rfl ?_
        refine Z_getL (k0 := 13) hX d_Fl_comes_41 (lF hb) rfl u_Fl (by decide) lk_Fl_53 rfl ?_
        refine Z_iload_n (i := 2) hX d_Fl_comes_44 rfl rfl ?_
        refine Z_lshr hX d_Fl_comes_45 ?_
        refine Z_lconst (v := 1) hX d_Fl_comes_46 rfl ?_
        refine Z_land hX d_Fl_comes_47 ?_
        refine Z_lconst (v := 0) hX d_Fl_comes_48 rfl ?_
        refine Z_lcmp hX d_Fl_comes_49 ?_
        refine Z_ifne (tgt := 57) hX d_Fl_comes_50 rfl (fun h50 => ?_) (fun h50 => ?_)
        · refine Z_iconst (v := 0) hX d_Fl_comes_57 rfl ?_
          exact Z_ri (hR _ _ d_Fl_comes_58) (by simp [f_co, f_ls, zB, *]) rfl rfl
        · refine Z_iconst (v := 1) hX d_Fl_comes_53 rfl ?_
          refine Z_goto (tgt := 58) hX d_Fl_comes_54 rfl ?_
          exact Z_ri (hR _ _ d_Fl_comes_58) (by simp [f_co, f_ls, zB, *]) rfl rfl

set_option maxRecDepth 100000 in
set_option maxHeartbeats 4000000 in
theorem c_Fl_hear {la : Launch} {G : zG} {I : zI} {J : zJ} {b : Nat} (hb : b = 16 ∨ b = 35) {s q : Nat} (hs : s < 64) (hq : I 10 s = nI q) (hq2 : q < 64) : zCv la G y_Fl_hear (Cond.code y_Fl_hear prog_4_method_14_code 4 none :: TBL) (zR 3) [.ref (zad G b), .int (nI s)] I J (f_he I J b s q) (J) := by
  refine zCv_of (by decide) (by simp [lg_sl, Value.category]) (fun X hla hX hR => ?_)
  subst hla
  refine Z_loc (l' := [(0, .ref (zad G b)), (1, .int (nI s))]) (by simp [lv_args, Value.category, List.lookup]) ?_
  refine Z_aload_n (i := 0) hX d_Fl_hear_0 rfl rfl ?_
  refine Z_getR (k0 := 0) hX d_Fl_hear_1 (lF hb) rfl u_Fl (by decide) lk_Fl_61 rfl ?_
  refine Z_getR (k0 := 8) hX d_Fl_hear_4 rfl rfl u_Pl (by decide) lk_Fl_128 rfl ?_
  refine Z_iload_n (i := 1) hX d_Fl_hear_7 rfl rfl ?_
  refine Z_iald hX d_Fl_hear_8 rfl rfl (by omega) (by decide) ?_
  refine Z_top hq ?_
  refine Z_istore_n (i := 2) hX d_Fl_hear_9 rfl (by decide) rfl ?_
  refine Z_aload_n (i := 0) hX d_Fl_hear_10 rfl rfl ?_
  refine Z_getR (k0 := 4) hX d_Fl_hear_11 (lF hb) rfl u_Fl (by decide) lk_Fl_24 rfl ?_
  refine Z_iload_n (i := 1) hX d_Fl_hear_14 rfl rfl ?_
  refine Z_iald hX d_Fl_hear_15 (lF13 hb) rfl (by omega) (by decide) ?_
  refine Z_iconst (v := 1) hX d_Fl_hear_16 rfl ?_
  refine Z_iadd hX d_Fl_hear_17 ?_
  refine Z_iconst (v := 3) hX d_Fl_hear_18 rfl ?_
  refine Z_min hX d_Fl_hear_19 lk_Fl_131 m_min.1 m_min.2.1 m_min.2.2 (by decide) (Nat.le_of_ble_eq_true rfl) (by decide) (by decide) ?_
  refine Z_istore_n (i := 3) hX d_Fl_hear_22 rfl (by decide) rfl ?_
  refine Z_aload_n (i := 0) hX d_Fl_hear_23 rfl rfl ?_
  refine Z_iload_n (i := 1) hX d_Fl_hear_24 rfl rfl ?_
  refine Z_iload_n (i := 2) hX d_Fl_hear_25 rfl rfl ?_
  refine Z_cVi2 hX d_Fl_hear_26 (c_Fl_comes hb (by omega) (by omega)) m_Fl_comes (lF hb) rfl lk_Fl_136 ⟨by decide, by decide⟩ ⟨by decide, by decide⟩ (Nat.le_of_ble_eq_true rfl) ?_
  refine Z_ifeqB (tgt := 101) hX d_Fl_hear_29 rfl (fun h29 => ?_) (fun h29 => ?_)
  · refine Z_aload_n (i := 0) hX d_Fl_hear_101 rfl rfl ?_
    refine Z_cut (pc' := 124) (P := fun v => v = zB (decide (¬ I b 14 = 0) || decide (¬ (if 3 < I (b + 13) s + 1 then 3 else I (b + 13) s + 1) = I (b + 13) s))) ?_ (fun hJ124 => ?_)
    · intro v hv124
      subst hv124
      refine Z_putI (k0 := 14) hX d_Fl_hear_124 (lF hb) rfl u_Fl (by decide) lk_Fl_57 rfl t_Fl to_Fl n_Fl rfl rfl (zB_nar _) (zB_fit _) ?_
      refine Z_aload_n (i := 0) hX d_Fl_hear_127 rfl rfl ?_
      refine Z_getR (k0 := 4) hX d_Fl_hear_128 (lF hb) rfl u_Fl (by decide) lk_Fl_24 rfl ?_
      refine Z_iload_n (i := 1) hX d_Fl_hear_131 rfl rfl ?_
      refine Z_iload_n (i := 3) hX d_Fl_hear_132 rfl rfl ?_
      refine Z_iast hX d_Fl_hear_133 (lF13 hb) rfl (by omega) (by decide) ?_
      exact Z_mem (by first | exact (f_he_t h29).symm | exact (f_he_f h29).symm) (by rfl) (hR _ _ d_Fl_hear_134)
    · refine Z_aload_n (i := 0) hX d_Fl_hear_102 rfl rfl ?_
      refine Z_getI (k0 := 14) hX d_Fl_hear_103 (lF hb) rfl u_Fl (by decide) lk_Fl_57 rfl ?_
      refine Z_ifne (tgt := 119) hX d_Fl_hear_106 rfl (fun h106 => ?_) (fun h106 => ?_)
      · refine Z_iconst (v := 1) hX d_Fl_hear_119 rfl ?_
        refine Z_goto (tgt := 124) hX d_Fl_hear_120 rfl ?_
        exact hJ124 _ (by simp [zB, *])
      · refine Z_iload_n (i := 3) hX d_Fl_hear_109 rfl rfl ?_
        refine Z_aload_n (i := 0) hX d_Fl_hear_110 rfl rfl ?_
        refine Z_getR (k0 := 4) hX d_Fl_hear_111 (lF hb) rfl u_Fl (by decide) lk_Fl_24 rfl ?_
        refine Z_iload_n (i := 1) hX d_Fl_hear_114 rfl rfl ?_
        refine Z_iald hX d_Fl_hear_115 (lF13 hb) rfl (by omega) (by decide) ?_
        refine Z_iceq (tgt := 123) hX d_Fl_hear_116 rfl (fun h116 => ?_) (fun h116 => ?_)
        · refine Z_iconst (v := 0) hX d_Fl_hear_123 rfl ?_
          exact hJ124 _ (by simp [zB, *])
        · refine Z_iconst (v := 1) hX d_Fl_hear_119 rfl ?_
          refine Z_goto (tgt := 124) hX d_Fl_hear_120 rfl ?_
          exact hJ124 _ (by simp [zB, *])
  · refine Z_aload_n (i := 0) hX d_Fl_hear_32 rfl rfl ?_
    refine Z_cut (pc' := 61) (P := fun v => v = zB (decide (¬ I b 14 = 0) || !w_eq I (b + 1) s (b + 5) q)) ?_ (fun hJ61 => ?_)
    · intro v hv61
      subst hv61
      refine Z_putI (k0 := 14) hX d_Fl_hear_61 (lF hb) rfl u_Fl (by decide) lk_Fl_57 rfl t_Fl to_Fl n_Fl rfl rfl (zB_nar _) (zB_fit _) ?_
      refine Z_aload_n (i := 0) hX d_Fl_hear_64 rfl rfl ?_
      refine Z_getR (k0 := 1) hX d_Fl_hear_65 (lF hb) rfl u_Fl (by decide) lk_Fl_12 rfl ?_
      refine Z_iload_n (i := 1) hX d_Fl_hear_68 rfl rfl ?_
      refine Z_aload_n (i := 0) hX d_Fl_hear_69 rfl rfl ?_
      refine Z_getR (k0 := 2) hX d_Fl_hear_70 (lF hb) rfl u_Fl (by decide) lk_Fl_18 rfl ?_
      refine Z_getR (k0 := 0) hX d_Fl_hear_73 (lF5 hb) rfl u_Wo (by decide) lk_Fl_144 rfl ?_
      refine Z_iload_n (i := 2) hX d_Fl_hear_76 rfl rfl ?_
      refine Z_iald hX d_Fl_hear_77 (lF6 hb) rfl (by omega) (by decide) ?_
      refine Z_aload_n (i := 0) hX d_Fl_hear_78 rfl rfl ?_
      refine Z_getR (k0 := 2) hX d_Fl_hear_79 (lF hb) rfl u_Fl (by decide) lk_Fl_18 rfl ?_
      refine Z_getR (k0 := 1) hX d_Fl_hear_82 (lF5 hb) rfl u_Wo (by decide) lk_Fl_145 rfl ?_
      refine Z_iload_n (i := 2) hX d_Fl_hear_85 rfl rfl ?_
      refine Z_iald hX d_Fl_hear_86 (lF7 hb) rfl (by omega) (by decide) ?_
      refine Z_aload_n (i := 0) hX d_Fl_hear_87 rfl rfl ?_
      refine Z_getR (k0 := 2) hX d_Fl_hear_88 (lF hb) rfl u_Fl (by decide) lk_Fl_18 rfl ?_
      refine Z_getR (k0 := 2) hX d_Fl_hear_91 (lF5 hb) rfl u_Wo (by decide) lk_Fl_146 rfl ?_
      refine Z_iload_n (i := 2) hX d_Fl_hear_94 rfl rfl ?_
      refine Z_iald hX d_Fl_hear_95 (lF8 hb) rfl (by omega) (by decide) ?_
      refine Z_cVv4 hX d_Fl_hear_96 (c_Wo_write (wF1 hb) (by omega)) m_Wo_write (lF1 hb) rfl lk_Fl_95 ⟨by decide, by decide⟩ ⟨by decide, by decide⟩ (Nat.le_of_ble_eq_true rfl) ?_
      refine Z_iconst (v := 0) hX d_Fl_hear_99 rfl ?_
      refine Z_istore_n (i := 3) hX d_Fl_hear_100 rfl (by decide) rfl ?_
      refine Z_mem (I' := f_h2 (f_h1 I b s q) b s q) rfl rfl ?_
      refine Z_aload_n (i := 0) hX d_Fl_hear_101 rfl rfl ?_
      refine Z_cut (pc' := 124) (P := fun v => v = zB (decide (¬ (f_h2 (f_h1 I b s q) b s q) b 14 = 0) || decide (¬ 0 = (f_h2 (f_h1 I b s q) b s q) (b + 13) s))) ?_ (fun hJ124 => ?_)
      · intro v hv124
        subst hv124
        refine Z_putI (k0 := 14) hX d_Fl_hear_124 (lF hb) rfl u_Fl (by decide) lk_Fl_57 rfl t_Fl to_Fl n_Fl rfl rfl (zB_nar _) (zB_fit _) ?_
        refine Z_aload_n (i := 0) hX d_Fl_hear_127 rfl rfl ?_
        refine Z_getR (k0 := 4) hX d_Fl_hear_128 (lF hb) rfl u_Fl (by decide) lk_Fl_24 rfl ?_
        refine Z_iload_n (i := 1) hX d_Fl_hear_131 rfl rfl ?_
        refine Z_iload_n (i := 3) hX d_Fl_hear_132 rfl rfl ?_
        refine Z_iast hX d_Fl_hear_133 (lF13 hb) rfl (by omega) (by decide) ?_
        exact Z_mem (by first | exact (f_he_t h29).symm | exact (f_he_f h29).symm) (by rfl) (hR _ _ d_Fl_hear_134)
      · refine Z_aload_n (i := 0) hX d_Fl_hear_102 rfl rfl ?_
        refine Z_getI (k0 := 14) hX d_Fl_hear_103 (lF hb) rfl u_Fl (by decide) lk_Fl_57 rfl ?_
        refine Z_ifne (tgt := 119) hX d_Fl_hear_106 rfl (fun h106 => ?_) (fun h106 => ?_)
        · refine Z_iconst (v := 1) hX d_Fl_hear_119 rfl ?_
          refine Z_goto (tgt := 124) hX d_Fl_hear_120 rfl ?_
          exact hJ124 _ (by simp [zB, *])
        · refine Z_iload_n (i := 3) hX d_Fl_hear_109 rfl rfl ?_
          refine Z_aload_n (i := 0) hX d_Fl_hear_110 rfl rfl ?_
          refine Z_getR (k0 := 4) hX d_Fl_hear_111 (lF hb) rfl u_Fl (by decide) lk_Fl_24 rfl ?_
          refine Z_iload_n (i := 1) hX d_Fl_hear_114 rfl rfl ?_
          refine Z_iald hX d_Fl_hear_115 (lF13 hb) rfl (by omega) (by decide) ?_
          refine Z_iceq (tgt := 123) hX d_Fl_hear_116 rfl (fun h116 => ?_) (fun h116 => ?_)
          · refine Z_iconst (v := 0) hX d_Fl_hear_123 rfl ?_
            exact hJ124 _ (by simp [zB, *])
          · refine Z_iconst (v := 1) hX d_Fl_hear_119 rfl ?_
            refine Z_goto (tgt := 124) hX d_Fl_hear_120 rfl ?_
            exact hJ124 _ (by simp [zB, *])
    · refine Z_aload_n (i := 0) hX d_Fl_hear_33 rfl rfl ?_
      refine Z_getI (k0 := 14) hX d_Fl_hear_34 (lF hb) rfl u_Fl (by decide) lk_Fl_57 rfl ?_
      refine Z_ifne (tgt := 56) hX d_Fl_hear_37 rfl (fun h37 => ?_) (fun h37 => ?_)
      · refine Z_iconst (v := 1) hX d_Fl_hear_56 rfl ?_
        refine Z_goto (tgt := 61) hX d_Fl_hear_57 rfl ?_
        exact hJ61 _ (by simp [zB, *])
      · refine Z_aload_n (i := 0) hX d_Fl_hear_40 rfl rfl ?_
        refine Z_getR (k0 := 1) hX d_Fl_hear_41 (lF hb) rfl u_Fl (by decide) lk_Fl_12 rfl ?_
        refine Z_iload_n (i := 1) hX d_Fl_hear_44 rfl rfl ?_
        refine Z_aload_n (i := 0) hX d_Fl_hear_45 rfl rfl ?_
        refine Z_getR (k0 := 2) hX d_Fl_hear_46 (lF hb) rfl u_Fl (by decide) lk_Fl_18 rfl ?_
        refine Z_iload_n (i := 2) hX d_Fl_hear_49 rfl rfl ?_
        refine Z_cVi3 hX d_Fl_hear_50 (c_Wo_isSame (wF1 hb) (wF5 hb) (by omega) (by omega)) m_Wo_isSame (lF1 hb) rfl lk_Fl_140 ⟨by decide, by decide⟩ ⟨by decide, by decide⟩ (Nat.le_of_ble_eq_true rfl) ?_
        refine Z_ifneB (tgt := 60) hX d_Fl_hear_53 rfl (fun h53 => ?_) (fun h53 => ?_)
        · refine Z_iconst (v := 0) hX d_Fl_hear_60 rfl ?_
          exact hJ61 _ (by simp [zB, *])
        · refine Z_iconst (v := 1) hX d_Fl_hear_56 rfl ?_
          refine Z_goto (tgt := 61) hX d_Fl_hear_57 rfl ?_
          exact hJ61 _ (by simp [zB, *])

set_option maxRecDepth 100000 in
set_option maxHeartbeats 4000000 in
theorem c_Fl_weigh {la : Launch} {G : zG} {I : zI} {J : zJ} {b : Nat} (hb : b = 16 ∨ b = 35) {s : Nat} (hs : s < 64) : zCv la G y_Fl_weigh (Cond.code y_Fl_weigh prog_4_method_16_code 2 none :: TBL) (zR 2) [.ref (zad G b), .int (nI s)] I J (f_we I b s) (J) := by
  refine zCv_of (by decide) (by simp [lg_sl, Value.category]) (fun X hla hX hR => ?_)
  subst hla
  refine Z_loc (l' := [(0, .ref (zad G b)), (1, .int (nI s))]) (by simp [lv_args, Value.category, List.lookup]) ?_
  refine Z_aload_n (i := 0) hX d_Fl_weigh_0 rfl rfl ?_
  refine Z_getR (k0 := 0) hX d_Fl_weigh_1 (lF hb) rfl u_Fl (by decide) lk_Fl_61 rfl ?_
  refine Z_iload_n (i := 1) hX d_Fl_weigh_4 rfl rfl ?_
  refine Z_cVi1 hX d_Fl_weigh_5 (c_Pl_hasSource (by omega)) m_Pl_hasSource rfl rfl lk_Fl_156 ⟨by decide, by decide⟩ ⟨by decide, by decide⟩ (Nat.le_of_ble_eq_true rfl) ?_
  refine Z_ifeqB (tgt := 33) hX d_Fl_weigh_8 rfl (fun h8 => ?_) (fun h8 => ?_)
  · refine Z_aload_n (i := 0) hX d_Fl_weigh_33 rfl rfl ?_
    refine Z_getR (k0 := 4) hX d_Fl_weigh_34 (lF hb) rfl u_Fl (by decide) lk_Fl_24 rfl ?_
    refine Z_iload_n (i := 1) hX d_Fl_weigh_37 rfl rfl ?_
    refine Z_iald hX d_Fl_weigh_38 (lF13 hb) rfl (by omega) (by decide) ?_
    refine Z_iconst (v := 3) hX d_Fl_weigh_39 rfl ?_
    refine Z_icge (tgt := 81) hX d_Fl_weigh_40 rfl (fun h40 => ?_) (fun h40 => ?_)
    · refine Z_aload_n (i := 0) hX d_Fl_weigh_81 rfl rfl ?_
      refine Z_getR (k0 := 3) hX d_Fl_weigh_82 (lF hb) rfl u_Fl (by decide) lk_Fl_21 rfl ?_
      refine Z_iload_n (i := 1) hX d_Fl_weigh_85 rfl rfl ?_
      refine Z_iconst (v := (-1)) hX d_Fl_weigh_86 rfl ?_
      refine Z_iconst (v := 0) hX d_Fl_weigh_87 rfl ?_
      refine Z_iconst (v := 0) hX d_Fl_weigh_88 rfl ?_
      refine Z_cVv4 hX d_Fl_weigh_89 (c_Wo_write (wF9 hb) (by omega)) m_Wo_write (lF9 hb) rfl lk_Fl_95 ⟨by decide, by decide⟩ ⟨by decide, by decide⟩ (Nat.le_of_ble_eq_true rfl) ?_
      exact Z_mem (by simp [f_we, *]) (by rfl) (hR _ _ d_Fl_weigh_92)
    · refine Z_aload_n (i := 0) hX d_Fl_weigh_43 rfl rfl ?_
      refine Z_getR (k0 := 3) hX d_Fl_weigh_44 (lF hb) rfl u_Fl (by decide) lk_Fl_21 rfl ?_
      refine Z_iload_n (i := 1) hX d_Fl_weigh_47 rfl rfl ?_
      refine Z_aload_n (i := 0) hX d_Fl_weigh_48 rfl rfl ?_
      refine Z_getR (k0 := 1) hX d_Fl_weigh_49 (lF hb) rfl u_Fl (by decide) lk_Fl_12 rfl ?_
      refine Z_getR (k0 := 0) hX d_Fl_weigh_52 (lF1 hb) rfl u_Wo (by decide) lk_Fl_144 rfl ?_
      refine Z_iload_n (i := 1) hX d_Fl_weigh_55 rfl rfl ?_
      refine Z_iald hX d_Fl_weigh_56 (lF2 hb) rfl (by omega) (by decide) ?_
      refine Z_aload_n (i := 0) hX d_Fl_weigh_57 rfl rfl ?_
      refine Z_getR (k0 := 1) hX d_Fl_weigh_58 (lF hb) rfl u_Fl (by decide) lk_Fl_12 rfl ?_
      refine Z_getR (k0 := 1) hX d_Fl_weigh_61 (lF1 hb) rfl u_Wo (by decide) lk_Fl_145 rfl ?_
      refine Z_iload_n (i := 1) hX d_Fl_weigh_64 rfl rfl ?_
      refine Z_iald hX d_Fl_weigh_65 (lF3 hb) rfl (by omega) (by decide) ?_
      refine Z_aload_n (i := 0) hX d_Fl_weigh_66 rfl rfl ?_
      refine Z_getR (k0 := 1) hX d_Fl_weigh_67 (lF hb) rfl u_Fl (by decide) lk_Fl_12 rfl ?_
      refine Z_getR (k0 := 2) hX d_Fl_weigh_70 (lF1 hb) rfl u_Wo (by decide) lk_Fl_146 rfl ?_
      refine Z_iload_n (i := 1) hX d_Fl_weigh_73 rfl rfl ?_
      refine Z_iald hX d_Fl_weigh_74 (lF4 hb) rfl (by omega) (by decide) ?_
      refine Z_cVv4 hX d_Fl_weigh_75 (c_Wo_write (wF9 hb) (by omega)) m_Wo_write (lF9 hb) rfl lk_Fl_95 ⟨by decide, by decide⟩ ⟨by decide, by decide⟩ (Nat.le_of_ble_eq_true rfl) ?_
      refine Z_goto (tgt := 92) hX d_Fl_weigh_78 rfl ?_
      exact Z_mem (by simp [f_we, *]) (by rfl) (hR _ _ d_Fl_weigh_92)
  · refine Z_aload_n (i := 0) hX d_Fl_weigh_11 rfl rfl ?_
    refine Z_getR (k0 := 3) hX d_Fl_weigh_12 (lF hb) rfl u_Fl (by decide) lk_Fl_21 rfl ?_
    refine Z_iload_n (i := 1) hX d_Fl_weigh_15 rfl rfl ?_
    refine Z_aload_n (i := 0) hX d_Fl_weigh_16 rfl rfl ?_
    refine Z_getR (k0 := 0) hX d_Fl_weigh_17 (lF hb) rfl u_Fl (by decide) lk_Fl_61 rfl ?_
    refine Z_getR (k0 := 9) hX d_Fl_weigh_20 rfl rfl u_Pl (by decide) lk_Fl_159 rfl ?_
    refine Z_iload_n (i := 1) hX d_Fl_weigh_23 rfl rfl ?_
    refine Z_iald hX d_Fl_weigh_24 rfl rfl (by omega) (by decide) ?_
    refine Z_iconst (v := 0) hX d_Fl_weigh_25 rfl ?_
    refine Z_iconst (v := 0) hX d_Fl_weigh_26 rfl ?_
    refine Z_cVv4 hX d_Fl_weigh_27 (c_Wo_write (wF9 hb) (by omega)) m_Wo_write (lF9 hb) rfl lk_Fl_95 ⟨by decide, by decide⟩ ⟨by decide, by decide⟩ (Nat.le_of_ble_eq_true rfl) ?_
    refine Z_goto (tgt := 92) hX d_Fl_weigh_30 rfl ?_
    exact Z_mem (by simp [f_we, *]) (by rfl) (hR _ _ d_Fl_weigh_92)

set_option maxRecDepth 100000 in
set_option maxHeartbeats 4000000 in
theorem c_Fl_isUsable {la : Launch} {G : zG} {I : zI} {J : zJ} {b : Nat} (hb : b = 16 ∨ b = 35) {e s : Nat} (he : e < 16) (hs : s < 64) : zCi la G y_Fl_isUsable (Cond.code y_Fl_isUsable prog_4_method_18_code 5 (some .boolean) :: TBL) (zR 2) [.ref (zad G b), .int (nI e), .int (nI s)] I J (zB (f_us I b e s)) (I) (J) := by
  refine zCi_of (by decide) (by simp [lg_sl, Value.category]) (zB_nar _) (fun X hla hX hR => ?_)
  subst hla
  refine Z_loc (l' := [(0, .ref (zad G b)), (1, .int (nI e)), (2, .int (nI s))]) (by simp [lv_args, Value.category, List.lookup]) ?_
  refine Z_aload_n (i := 0) hX d_Fl_isUsable_0 rfl rfl ?_
  refine Z_getR (k0 := 3) hX d_Fl_isUsable_1 (lF hb) rfl u_Fl (by decide) lk_Fl_21 rfl ?_
  refine Z_getR (k0 := 0) hX d_Fl_isUsable_4 (lF9 hb) rfl u_Wo (by decide) lk_Fl_144 rfl ?_
  refine Z_iload_n (i := 2) hX d_Fl_isUsable_7 rfl rfl ?_
  refine Z_iald hX d_Fl_isUsable_8 (lF10 hb) rfl (by omega) (by decide) ?_
  refine Z_iconst (v := 0) hX d_Fl_isUsable_9 rfl ?_
  refine Z_bipush (v := 6) hX d_Fl_isUsable_10 rfl ?_
  refine Z_cNi3 hX d_Fl_isUsable_12 c_CT_isWithin m_CT_isWithin ne_Fl_165 ⟨by decide, by decide⟩ ⟨by decide, by decide⟩ (Nat.le_of_ble_eq_true rfl) ?_
  refine Z_istore_n (i := 3) hX d_Fl_isUsable_15 rfl (by decide) rfl ?_
  refine Z_aload_n (i := 0) hX d_Fl_isUsable_16 rfl rfl ?_
  refine Z_getR (k0 := 3) hX d_Fl_isUsable_17 (lF hb) rfl u_Fl (by decide) lk_Fl_21 rfl ?_
  refine Z_getR (k0 := 2) hX d_Fl_isUsable_20 (lF9 hb) rfl u_Wo (by decide) lk_Fl_146 rfl ?_
  refine Z_iload_n (i := 2) hX d_Fl_isUsable_23 rfl rfl ?_
  refine Z_iald hX d_Fl_isUsable_24 (lF12 hb) rfl (by omega) (by decide) ?_
  refine Z_iload_n (i := 1) hX d_Fl_isUsable_25 rfl rfl ?_
  refine Z_ishr hX d_Fl_isUsable_26 ?_
  refine Z_iconst (v := 1) hX d_Fl_isUsable_27 rfl ?_
  refine Z_iand hX d_Fl_isUsable_28 ?_
  refine Z_iconst (v := 1) hX d_Fl_isUsable_29 rfl ?_
  refine Z_icne (tgt := 37) hX d_Fl_isUsable_30 rfl (fun h30 => ?_) (fun h30 => ?_)
  · refine Z_iconst (v := 0) hX d_Fl_isUsable_37 rfl ?_
    refine Z_istore hX d_Fl_isUsable_38 (by decide) rfl ?_
    refine Z_iload_n (i := 3) hX d_Fl_isUsable_40 rfl rfl ?_
    refine Z_ifeqB (tgt := 75) hX d_Fl_isUsable_41 rfl (fun h41 => ?_) (fun h41 => ?_)
    · refine Z_iconst (v := 0) hX d_Fl_isUsable_75 rfl ?_
      exact Z_ri (hR _ _ d_Fl_isUsable_76) (by first | (simp [f_us, f_bit, zB, *]; done) | simp_all) rfl rfl
    · refine Z_aload_n (i := 0) hX d_Fl_isUsable_44 rfl rfl ?_
      refine Z_getR (k0 := 0) hX d_Fl_isUsable_45 (lF hb) rfl u_Fl (by decide) lk_Fl_61 rfl ?_
      refine Z_getR (k0 := 12) hX d_Fl_isUsable_48 rfl rfl u_Pl (by decide) lk_Fl_169 rfl ?_
      refine Z_iload_n (i := 2) hX d_Fl_isUsable_51 rfl rfl ?_
      refine Z_zald hX d_Fl_isUsable_52 rfl rfl (by omega) (by decide) ?_
      refine Z_ifne (tgt := 75) hX d_Fl_isUsable_53 rfl (fun h53 => ?_) (fun h53 => ?_)
      · refine Z_iconst (v := 0) hX d_Fl_isUsable_75 rfl ?_
        exact Z_ri (hR _ _ d_Fl_isUsable_76) (by first | (simp [f_us, f_bit, zB, *]; done) | simp_all) rfl rfl
      · refine Z_aload_n (i := 0) hX d_Fl_isUsable_56 rfl rfl ?_
        refine Z_getR (k0 := 0) hX d_Fl_isUsable_57 (lF hb) rfl u_Fl (by decide) lk_Fl_61 rfl ?_
        refine Z_getI (k0 := 15) hX d_Fl_isUsable_60 rfl rfl u_Pl (by decide) lk_Fl_172 rfl ?_
        refine Z_ifeq (tgt := 71) hX d_Fl_isUsable_63 rfl (fun h63 => ?_) (fun h63 => ?_)
        · refine Z_iconst (v := 1) hX d_Fl_isUsable_71 rfl ?_
          refine Z_goto (tgt := 76) hX d_Fl_isUsable_72 rfl ?_
          exact Z_ri (hR _ _ d_Fl_isUsable_76) (by first | (simp [f_us, f_bit, zB, *]; done) | simp_all) rfl rfl
        · refine Z_iload hX d_Fl_isUsable_66 rfl ?_
          refine Z_ifne (tgt := 75) hX d_Fl_isUsable_68 rfl (fun h68 => ?_) (fun h68 => ?_)
          · refine Z_iconst (v := 0) hX d_Fl_isUsable_75 rfl ?_
            exact Z_ri (hR _ _ d_Fl_isUsable_76) (by first | (simp [f_us, f_bit, zB, *]; done) | simp_all) rfl rfl
          · refine Z_iconst (v := 1) hX d_Fl_isUsable_71 rfl ?_
            refine Z_goto (tgt := 76) hX d_Fl_isUsable_72 rfl ?_
            exact Z_ri (hR _ _ d_Fl_isUsable_76) (by first | (simp [f_us, f_bit, zB, *]; done) | simp_all) rfl rfl
  · refine Z_iconst (v := 1) hX d_Fl_isUsable_33 rfl ?_
    refine Z_goto (tgt := 38) hX d_Fl_isUsable_34 rfl ?_
    refine Z_istore hX d_Fl_isUsable_38 (by decide) rfl ?_
    refine Z_iload_n (i := 3) hX d_Fl_isUsable_40 rfl rfl ?_
    refine Z_ifeqB (tgt := 75) hX d_Fl_isUsable_41 rfl (fun h41 => ?_) (fun h41 => ?_)
    · refine Z_iconst (v := 0) hX d_Fl_isUsable_75 rfl ?_
      exact Z_ri (hR _ _ d_Fl_isUsable_76) (by first | (simp [f_us, f_bit, zB, *]; done) | simp_all) rfl rfl
    · refine Z_aload_n (i := 0) hX d_Fl_isUsable_44 rfl rfl ?_
      refine Z_getR (k0 := 0) hX d_Fl_isUsable_45 (lF hb) rfl u_Fl (by decide) lk_Fl_61 rfl ?_
      refine Z_getR (k0 := 12) hX d_Fl_isUsable_48 rfl rfl u_Pl (by decide) lk_Fl_169 rfl ?_
      refine Z_iload_n (i := 2) hX d_Fl_isUsable_51 rfl rfl ?_
      refine Z_zald hX d_Fl_isUsable_52 rfl rfl (by omega) (by decide) ?_
      refine Z_ifne (tgt := 75) hX d_Fl_isUsable_53 rfl (fun h53 => ?_) (fun h53 => ?_)
      · refine Z_iconst (v := 0) hX d_Fl_isUsable_75 rfl ?_
        exact Z_ri (hR _ _ d_Fl_isUsable_76) (by first | (simp [f_us, f_bit, zB, *]; done) | simp_all) rfl rfl
      · refine Z_aload_n (i := 0) hX d_Fl_isUsable_56 rfl rfl ?_
        refine Z_getR (k0 := 0) hX d_Fl_isUsable_57 (lF hb) rfl u_Fl (by decide) lk_Fl_61 rfl ?_
        refine Z_getI (k0 := 15) hX d_Fl_isUsable_60 rfl rfl u_Pl (by decide) lk_Fl_172 rfl ?_
        refine Z_ifeq (tgt := 71) hX d_Fl_isUsable_63 rfl (fun h63 => ?_) (fun h63 => ?_)
        · refine Z_iconst (v := 1) hX d_Fl_isUsable_71 rfl ?_
          refine Z_goto (tgt := 76) hX d_Fl_isUsable_72 rfl ?_
          exact Z_ri (hR _ _ d_Fl_isUsable_76) (by first | (simp [f_us, f_bit, zB, *]; done) | simp_all) rfl rfl
        · refine Z_iload hX d_Fl_isUsable_66 rfl ?_
          refine Z_ifne (tgt := 75) hX d_Fl_isUsable_68 rfl (fun h68 => ?_) (fun h68 => ?_)
          · refine Z_iconst (v := 0) hX d_Fl_isUsable_75 rfl ?_
            exact Z_ri (hR _ _ d_Fl_isUsable_76) (by first | (simp [f_us, f_bit, zB, *]; done) | simp_all) rfl rfl
          · refine Z_iconst (v := 1) hX d_Fl_isUsable_71 rfl ?_
            refine Z_goto (tgt := 76) hX d_Fl_isUsable_72 rfl ?_
            exact Z_ri (hR _ _ d_Fl_isUsable_76) (by first | (simp [f_us, f_bit, zB, *]; done) | simp_all) rfl rfl

set_option maxRecDepth 100000 in
set_option maxHeartbeats 4000000 in
theorem c_Fl_countUsable {la : Launch} {G : zG} {I : zI} {J : zJ} {b : Nat} (hb : b = 16 ∨ b = 35) {e s : Nat} (he : e < 16) (hs : s < 64) : zCv la G y_Fl_countUsable (Cond.code y_Fl_countUsable prog_4_method_17_code 4 none :: TBL) (zR 3) [.ref (zad G b), .int (nI e), .int (nI s)] I J (f_cu I b e s) (J) := by
  refine zCv_of (by decide) (by simp [lg_sl, Value.category]) (fun X hla hX hR => ?_)
  subst hla
  refine Z_loc (l' := [(0, .ref (zad G b)), (1, .int (nI e)), (2, .int (nI s))]) (by simp [lv_args, Value.category, List.lookup]) ?_
  refine Z_cut (pc' := 26) (P := fun v => v = f_cn I b e s) ?_ (fun hJ26 => ?_)
  · intro v hv26
    subst hv26
    refine Z_istore_n (i := 3) hX d_Fl_countUsable_26 rfl (by decide) rfl ?_
    refine Z_aload_n (i := 0) hX d_Fl_countUsable_27 rfl rfl ?_
    refine Z_cut (pc' := 50) (P := fun v => v = zB (decide (¬ I b 14 = 0) || decide (¬ f_cn I b e s = I (b + 14) s))) ?_ (fun hJ50 => ?_)
    · intro v hv50
      subst hv50
      refine Z_putI (k0 := 14) hX d_Fl_countUsable_50 (lF hb) rfl u_Fl (by decide) lk_Fl_57 rfl t_Fl to_Fl n_Fl rfl rfl (zB_nar _) (zB_fit _) ?_
      refine Z_aload_n (i := 0) hX d_Fl_countUsable_53 rfl rfl ?_
      refine Z_getR (k0 := 5) hX d_Fl_countUsable_54 (lF hb) rfl u_Fl (by decide) lk_Fl_28 rfl ?_
      refine Z_iload_n (i := 2) hX d_Fl_countUsable_57 rfl rfl ?_
      refine Z_iload_n (i := 3) hX d_Fl_countUsable_58 rfl rfl ?_
      refine Z_iast hX d_Fl_countUsable_59 (lF14 hb) rfl (by omega) (by decide) ?_
      exact Z_mem (by rfl) (by rfl) (hR _ _ d_Fl_countUsable_60)
    · refine Z_aload_n (i := 0) hX d_Fl_countUsable_28 rfl rfl ?_
      refine Z_getI (k0 := 14) hX d_Fl_countUsable_29 (lF hb) rfl u_Fl (by decide) lk_Fl_57 rfl ?_
      refine Z_ifne (tgt := 45) hX d_Fl_countUsable_32 rfl (fun h32 => ?_) (fun h32 => ?_)
      · refine Z_iconst (v := 1) hX d_Fl_countUsable_45 rfl ?_
        refine Z_goto (tgt := 50) hX d_Fl_countUsable_46 rfl ?_
        exact hJ50 _ (by simp [zB, *])
      · refine Z_iload_n (i := 3) hX d_Fl_countUsable_35 rfl rfl ?_
        refine Z_aload_n (i := 0) hX d_Fl_countUsable_36 rfl rfl ?_
        refine Z_getR (k0 := 5) hX d_Fl_countUsable_37 (lF hb) rfl u_Fl (by decide) lk_Fl_28 rfl ?_
        refine Z_iload_n (i := 2) hX d_Fl_countUsable_40 rfl rfl ?_
        refine Z_iald hX d_Fl_countUsable_41 (lF14 hb) rfl (by omega) (by decide) ?_
        refine Z_iceq (tgt := 49) hX d_Fl_countUsable_42 rfl (fun h42 => ?_) (fun h42 => ?_)
        · refine Z_iconst (v := 0) hX d_Fl_countUsable_49 rfl ?_
          exact hJ50 _ (by simp [zB, *])
        · refine Z_iconst (v := 1) hX d_Fl_countUsable_45 rfl ?_
          refine Z_goto (tgt := 50) hX d_Fl_countUsable_46 rfl ?_
          exact hJ50 _ (by simp [zB, *])
  · refine Z_aload_n (i := 0) hX d_Fl_countUsable_0 rfl rfl ?_
    refine Z_iload_n (i := 1) hX d_Fl_countUsable_1 rfl rfl ?_
    refine Z_iload_n (i := 2) hX d_Fl_countUsable_2 rfl rfl ?_
    refine Z_cVi2 hX d_Fl_countUsable_3 (c_Fl_isUsable hb (by omega) (by omega)) m_Fl_isUsable (lF hb) rfl lk_Fl_162 ⟨by decide, by decide⟩ ⟨by decide, by decide⟩ (Nat.le_of_ble_eq_true rfl) ?_
    refine Z_ifeqB (tgt := 25) hX d_Fl_countUsable_6 rfl (fun h6 => ?_) (fun h6 => ?_)
    · refine Z_iconst (v := 0) hX d_Fl_countUsable_25 rfl ?_
      exact hJ26 _ (by simp [f_cn, zB, *])
    · refine Z_aload_n (i := 0) hX d_Fl_countUsable_9 rfl rfl ?_
      refine Z_getR (k0 := 5) hX d_Fl_countUsable_10 (lF hb) rfl u_Fl (by decide) lk_Fl_28 rfl ?_
      refine Z_iload_n (i := 2) hX d_Fl_countUsable_13 rfl rfl ?_
      refine Z_iald hX d_Fl_countUsable_14 (lF14 hb) rfl (by omega) (by decide) ?_
      refine Z_iconst (v := 1) hX d_Fl_countUsable_15 rfl ?_
      refine Z_iadd hX d_Fl_countUsable_16 ?_
      refine Z_bipush (v := 11) hX d_Fl_countUsable_17 rfl ?_
      refine Z_min hX d_Fl_countUsable_19 lk_Fl_131 m_min.1 m_min.2.1 m_min.2.2 (by decide) (Nat.le_of_ble_eq_true rfl) (by decide) (by decide) ?_
      refine Z_goto (tgt := 26) hX d_Fl_countUsable_22 rfl ?_
      exact hJ26 _ (by simp [f_cn, zB, *])
