/-! following, reaching, copying; the clocks and the calm -/
def f_fo (I : zI) (b : Nat) : Nat → Nat → Int32
  | 0, _ => -2
  | k + 1, e => if f_wh I b e = true then (if f_lo I b e = true then (if I 9 (4 * e + (I (b + 16) e).toNatClampNeg) = -1 then nI (4 * e + (I (b + 16) e).toNatClampNeg) else f_fo I b k (pe I (4 * e + (I (b + 16) e).toNatClampNeg) / 4)) else -1) else -1
theorem f_fo_w {I : zI} {b k e : Nat} (h : f_wh I b e = false) : f_fo I b (k + 1) e = -1 := if_neg (by rw [h]; decide)
theorem f_fo_l {I : zI} {b k e : Nat} (h : f_wh I b e = true) (h2 : f_lo I b e = false) : f_fo I b (k + 1) e = -1 := by
  unfold f_fo
  rw [if_pos h, if_neg (by rw [h2]; decide)]
theorem f_fo_s {I : zI} {b k e q : Nat} (h : f_wh I b e = true) (h2 : f_lo I b e = true) (hq : q < 4) (hq2 : I (b + 16) e = nI q) (h3 : I 9 (4 * e + q) = -1) : f_fo I b (k + 1) e = nI (4 * e + q) := by
  have e1 : (I (b + 16) e).toNatClampNeg = q := by rw [hq2, nI_clamp (by omega)]
  unfold f_fo
  rw [e1, if_pos h, if_pos h2, if_pos h3]
theorem f_fo_x {I : zI} {b k e q : Nat} (h : f_wh I b e = true) (h2 : f_lo I b e = true) (hq : q < 4) (hq2 : I (b + 16) e = nI q) (h3 : ¬ I 9 (4 * e + q) = -1) : f_fo I b (k + 1) e = f_fo I b k (pe I (4 * e + q) / 4) := by
  have e1 : (I (b + 16) e).toNatClampNeg = q := by rw [hq2, nI_clamp (by omega)]
  rw [f_fo, e1, if_pos h, if_pos h2, if_neg h3]
def fe (I : zI) (k : Nat) : Nat := (I 15 k).toNatClampNeg
/-- the links: how many, and their ends -/
def okE (I : zI) (m : Nat) : Prop := I 1 14 = nI m ∧ m ≤ 24 ∧ ∀ k, k < m → I 15 k = nI (fe I k) ∧ fe I k < 64 ∧ I 10 (fe I k) = nI (pe I (fe I k)) ∧ pe I (fe I k) < 64
def f_ends (I : zI) (k : Nat) : Int32 := 1 <<< (nI (fe I k / 4) &&& 31) ||| 1 <<< (nI (pe I (fe I k) / 4) &&& 31)
def f_on (I : zI) (b k : Nat) : Bool := f_lw I b (nI k) && f_wh I b (fe I k / 4) && f_wh I b (pe I (fe I k) / 4)
def f_ac (I : zI) (b k : Nat) (r : Int32) : Int32 := if f_on I b k = true then (if r &&& f_ends I k = 0 then 0 else f_ends I k) else 0
def f_wi (I : zI) (b : Nat) (r : Int32) : Nat → Int32
  | 0 => r
  | k + 1 => f_wi I b r k ||| f_ac I b k r
def f_rf (I : zI) (b m : Nat) : Nat → Int32 → Int32
  | 0, r => r
  | k + 1, r => if f_wi I b r m = r then r else f_rf I b m k (f_wi I b r m)
def f_bs (I : zI) (r : Int32) : Nat → Int32
  | 0 => 7
  | i + 1 => if f_bit r (nI (i / 4)) = 1 then (if p_so I i = true then (if I 11 i < f_bs I r i then I 11 i else f_bs I r i) else f_bs I r i) else f_bs I r i
def f_rch (I : zI) (b m e : Nat) : Int32 := f_rf I b m 16 (1 <<< (nI e &&& 31))
def f_br (I : zI) (b m e : Nat) : Int32 := if f_wh I b e = true then f_bs I (f_rch I b m e) 64 else 7
def f_st (I : zI) (b m e : Nat) : Bool := f_wh I b e && !f_lo I b e && decide (¬ 7 ≤ f_br I b m e)
def w_cp (I : zI) (w' w : Nat) : zI := zcp (zcp (zcp I (w' + 1) (w + 1) 64) (w' + 2) (w + 2) 64) (w' + 3) (w + 3) 64
def f_cpA (I : zI) (a b : Nat) : zI := zcp (zcp (zcp (zcp (zcp (zcp (w_cp (w_cp I (a + 1) (b + 1)) (a + 5) (b + 5)) (a + 13) (b + 13) 64) (a + 14) (b + 14) 64) (a + 15) (b + 15) 16) (a + 16) (b + 16) 16) (a + 17) (b + 17) 16) (a + 18) (b + 18) 16
def f_cpu (I : zI) (a b k : Nat) : zI := zup I b k (I a k)
def f_cp (I : zI) (a b : Nat) : zI := f_cpu (f_cpu (f_cpu (f_cpA I a b) a b 10) a b 11) a b 12
def f_cpJ (J : zJ) (a b : Nat) : zJ := zupL J b 13 (J a 13)
def k_off (I : zI) (e : Nat) : Int32 := if f_lo I 16 e = true then (if I 9 (4 * e + (I 32 e).toNatClampNeg) = -1 then I 12 (4 * e + (I 32 e).toNatClampNeg) else I 56 (pe I (4 * e + (I 32 e).toNatClampNeg) / 4)) else (if I 31 e = 2 then I 55 e + I 5 e else I 4 e)
theorem k_off_s {I : zI} {e q : Nat} (h2 : f_lo I 16 e = true) (hq : q < 4) (hq2 : I 32 e = nI q) (h3 : I 9 (4 * e + q) = -1) : k_off I e = I 12 (4 * e + q) := by
  have e1 : (I 32 e).toNatClampNeg = q := by rw [hq2, nI_clamp (by omega)]
  unfold k_off
  rw [e1, if_pos h2, if_pos h3]
theorem k_off_x {I : zI} {e q : Nat} (h2 : f_lo I 16 e = true) (hq : q < 4) (hq2 : I 32 e = nI q) (h3 : ¬ I 9 (4 * e + q) = -1) : k_off I e = I 56 (pe I (4 * e + q) / 4) := by
  have e1 : (I 32 e).toNatClampNeg = q := by rw [hq2, nI_clamp (by omega)]
  unfold k_off
  rw [e1, if_pos h2, if_neg h3]
theorem k_off_h {I : zI} {e : Nat} (h2 : f_lo I 16 e = false) (h3 : I 31 e = 2) : k_off I e = I 55 e + I 5 e := by
  unfold k_off
  rw [if_neg (by rw [h2]; decide), if_pos h3]
theorem k_off_f {I : zI} {e : Nat} (h2 : f_lo I 16 e = false) (h3 : ¬ I 31 e = 2) : k_off I e = I 4 e := by
  unfold k_off
  rw [if_neg (by rw [h2]; decide), if_neg h3]
def k_n (I : zI) : Nat → zI
  | 0 => I
  | e + 1 => zup (k_n I e) 57 e (if f_wh (k_n I e) 16 e = true then k_off (k_n I e) e else k_n I e 55 e)
theorem fr_kn {I : zI} {c : Nat} (hc : c ≠ 57) : ∀ e, k_n I e c = I c
  | 0 => rfl
  | e + 1 => by
    unfold k_n
    rw [zup_ne hc, fr_kn hc e]
def k_s1 (I : zI) (e : Nat) : zI := zup (zup I 56 e (I 55 e)) 55 e (zup I 56 e (I 55 e) 57 e)
def k_s (I : zI) : Nat → zI
  | 0 => I
  | e + 1 => k_s1 (k_s I e) e
def k_sJ (I : zI) (J : zJ) : Nat → zJ
  | 0 => J
  | e + 1 => if f_wh (k_s I (e + 1)) 16 e = true then zupL (k_sJ I J e) 58 e (k_sJ I J e 58 e + (k_s I (e + 1) 55 e).toInt64) else k_sJ I J e
def k_ro (I : zI) : zI := k_s (k_n I 16) 16
def k_roJ (I : zI) (J : zJ) : zJ := k_sJ (k_n I 16) J 16
def l_1 (I : zI) (e : Nat) : zI := zup (zup I 60 e (f_sc I 16 e)) 61 e (zup I 60 e (f_sc I 16 e) 32 e)
def l_m (I : zI) : Nat → zI
  | 0 => I
  | e + 1 => l_1 (l_m I e) e
def l_s (I : zI) : Nat → Bool
  | 0 => true
  | e + 1 => l_s I e && decide (l_m I e 60 e = f_sc (l_m I e) 16 e) && decide (l_m I e 61 e = l_m I e 32 e)
def l_ro (I : zI) : zI := zup (l_m I 16) 59 2 (if l_s I 16 = true then l_m I 16 59 2 + 1 else 0)
set_option maxRecDepth 100000 in
set_option maxHeartbeats 4000000 in
theorem c_Fl_follow {la : Launch} {G : zG} {I : zI} {J : zJ} {b : Nat} (hb : b = 16 ∨ b = 35) {e : Nat} (he : e < 16) (hL : okL I) (hK : ∀ e, e < 16 → okK I b e) : zCi la G y_Fl_follow (Cond.code y_Fl_follow prog_4_method_24_code 5 (some .int) :: TBL) (zR 2) [.ref (zad G b), .int (nI e)] I J (f_fo I b 16 e) (I) (J) := by
  refine zCi_of (by decide) (by simp [lg_sl, Value.category]) (rfl) (fun X hla hX hR => ?_)
  subst hla
  refine Z_loc (l' := [(0, .ref (zad G b)), (1, .int (nI e))]) (by simp [lv_args, Value.category, List.lookup]) ?_
  refine Z_iload_n (i := 1) hX d_Fl_follow_0 rfl rfl ?_
  refine Z_istore_n (i := 2) hX d_Fl_follow_1 rfl (by decide) rfl ?_
  refine Z_iconst (v := nI 0) hX d_Fl_follow_2 rfl ?_
  refine Z_istore_n (i := 3) hX d_Fl_follow_3 rfl (by decide) rfl ?_
  have hL4 : ∀ (k i e' : Nat), k + i = 16 → e' < 16 → f_fo I b k e' = f_fo I b 16 e → Z X G 5 0 0 4 [(3, .int (nI i)), (2, .int (nI e')), (1, .int (nI e)), (0, .ref (zad G b))] [] I J := by
    intro k
    induction k with
    | zero =>
      intro i e' hi he' hf
      obtain rfl : i = 16 := by omega
      refine Z_iload_n (i := 3) hX d_Fl_follow_4 rfl rfl ?_
      refine Z_bipush (v := 16) hX d_Fl_follow_5 rfl ?_
      refine Z_icge (tgt := 77) hX d_Fl_follow_7 rfl (fun h7 => ?_) (fun h => absurd (by decide) h)
      refine Z_bipush (v := (-2)) hX d_Fl_follow_77 rfl ?_
      exact Z_ri (hR _ _ d_Fl_follow_79) (by rw [← hf]; rfl) rfl rfl
    | succ k ih =>
      intro i e' hi he' hf
      have hi2 : i < 16 := by omega
      refine Z_iload_n (i := 3) hX d_Fl_follow_4 rfl rfl ?_
      refine Z_bipush (v := 16) hX d_Fl_follow_5 rfl ?_
      refine Z_icge (tgt := 77) hX d_Fl_follow_7 rfl (fun h => absurd h (nI_ge hi2 (by decide))) (fun h7 => ?_)
      refine Z_aload_n (i := 0) hX d_Fl_follow_10 rfl rfl ?_
      refine Z_iload_n (i := 2) hX d_Fl_follow_11 rfl rfl ?_
      refine Z_cVi1 hX d_Fl_follow_12 (c_Fl_isWhole hb (by omega)) m_Fl_isWhole (lF hb) rfl lk_Fl_102 ⟨by decide, by decide⟩ ⟨by decide, by decide⟩ (Nat.le_of_ble_eq_true rfl) ?_
      refine Z_ifeqB (tgt := 26) hX d_Fl_follow_15 rfl (fun h15 => ?_) (fun h15 => ?_)
      · refine Z_iconst (v := (-1)) hX d_Fl_follow_26 rfl ?_
        exact Z_ri (hR _ _ d_Fl_follow_27) (by rw [← hf]; exact (f_fo_w h15).symm) rfl rfl
      · refine Z_aload_n (i := 0) hX d_Fl_follow_18 rfl rfl ?_
        refine Z_iload_n (i := 2) hX d_Fl_follow_19 rfl rfl ?_
        refine Z_cVi1 hX d_Fl_follow_20 (c_Fl_isLocked hb (by omega)) m_Fl_isLocked (lF hb) rfl lk_Fl_196 ⟨by decide, by decide⟩ ⟨by decide, by decide⟩ (Nat.le_of_ble_eq_true rfl) ?_
        refine Z_ifneB (tgt := 28) hX d_Fl_follow_23 rfl (fun h23 => ?_) (fun h23 => ?_)
        · obtain ⟨q9, hk, hk2⟩ := hK e' he' h23
          refine Z_iload_n (i := 2) hX d_Fl_follow_28 rfl rfl ?_
          refine Z_aload_n (i := 0) hX d_Fl_follow_29 rfl rfl ?_
          refine Z_getR (k0 := 7) hX d_Fl_follow_30 (lF hb) rfl u_Fl (by decide) lk_Fl_34 rfl ?_
          refine Z_iload_n (i := 2) hX d_Fl_follow_33 rfl rfl ?_
          refine Z_iald hX d_Fl_follow_34 (lF16 hb) rfl (by omega) (by decide) ?_
          refine Z_top hk2 ?_
          refine Z_cNi2 hX d_Fl_follow_35 c_CT_slotOf m_CT_slotOf ne_Fl_91 ⟨by decide, by decide⟩ ⟨by decide, by decide⟩ (Nat.le_of_ble_eq_true rfl) ?_
          refine Z_istore hX d_Fl_follow_38 (by decide) rfl ?_
          refine Z_aload_n (i := 0) hX d_Fl_follow_40 rfl rfl ?_
          refine Z_getR (k0 := 0) hX d_Fl_follow_41 (lF hb) rfl u_Fl (by decide) lk_Fl_61 rfl ?_
          refine Z_getR (k0 := 7) hX d_Fl_follow_44 rfl rfl u_Pl (by decide) lk_Fl_115 rfl ?_
          refine Z_iload hX d_Fl_follow_47 rfl ?_
          refine Z_iald hX d_Fl_follow_49 rfl rfl (by omega) (by decide) ?_
          refine Z_iconst (v := (-1)) hX d_Fl_follow_50 rfl ?_
          refine Z_icne (tgt := 57) hX d_Fl_follow_51 rfl (fun h51 => ?_) (fun h51 => ?_)
          · have hq := okL_pe hL (by omega) h51
            refine Z_aload_n (i := 0) hX d_Fl_follow_57 rfl rfl ?_
            refine Z_getR (k0 := 0) hX d_Fl_follow_58 (lF hb) rfl u_Fl (by decide) lk_Fl_61 rfl ?_
            refine Z_getR (k0 := 8) hX d_Fl_follow_61 rfl rfl u_Pl (by decide) lk_Fl_128 rfl ?_
            refine Z_iload hX d_Fl_follow_64 rfl ?_
            refine Z_iald hX d_Fl_follow_66 rfl rfl (by omega) (by decide) ?_
            refine Z_top hq.1 ?_
            refine Z_cNi1 hX d_Fl_follow_67 (c_CT_elementOf (by omega)) m_CT_elementOf ne_Fl_152 ⟨by decide, by decide⟩ ⟨by decide, by decide⟩ (Nat.le_of_ble_eq_true rfl) ?_
            refine Z_istore_n (i := 2) hX d_Fl_follow_70 rfl (by decide) rfl ?_
            refine Z_iinc (v := nI (i + 1)) hX d_Fl_follow_71 rfl (by rw [nI_succ]; rfl) (by decide) rfl ?_
            refine Z_goto (tgt := 4) hX d_Fl_follow_74 rfl ?_
            refine Z_loc ?_ (ih (i + 1) (pe I (4 * e' + q9) / 4) (by omega) ?_ ?_)
            · rfl
            · omega
            · rw [← hf]; exact (f_fo_x h15 h23 hk hk2 h51).symm
          · refine Z_iload hX d_Fl_follow_54 rfl ?_
            exact Z_ri (hR _ _ d_Fl_follow_56) (by rw [← hf]; exact (f_fo_s h15 h23 hk hk2 h51).symm) rfl rfl
        · refine Z_iconst (v := (-1)) hX d_Fl_follow_26 rfl ?_
          exact Z_ri (hR _ _ d_Fl_follow_27) (by rw [← hf]; exact (f_fo_l h15 h23).symm) rfl rfl
  refine Z_loc ?_ (hL4 16 0 e (by omega) he rfl)
  rfl

set_option maxRecDepth 100000 in
set_option maxHeartbeats 4000000 in
theorem c_Fl_across {la : Launch} {G : zG} {I : zI} {J : zJ} {b : Nat} (hb : b = 16 ∨ b = 35) {k m : Nat} {r : Int32} (hE : okE I m) (hk : k < m) : zCi la G y_Fl_across (Cond.code y_Fl_across prog_4_method_27_code 7 (some .int) :: TBL) (zR 2) [.ref (zad G b), .int (nI k), .int r] I J (f_ac I b k r) (I) (J) := by
  refine zCi_of (by decide) (by simp [lg_sl, Value.category]) (rfl) (fun X hla hX hR => ?_)
  subst hla
  refine Z_loc (l' := [(0, .ref (zad G b)), (1, .int (nI k)), (2, .int r)]) (by simp [lv_args, Value.category, List.lookup]) ?_
  have hm := hE.2.1
  obtain ⟨h15, h15b, h10, h10b⟩ := hE.2.2 k hk
  refine Z_aload_n (i := 0) hX d_Fl_across_0 rfl rfl ?_
  refine Z_getR (k0 := 0) hX d_Fl_across_1 (lF hb) rfl u_Fl (by decide) lk_Fl_61 rfl ?_
  refine Z_getR (k0 := 13) hX d_Fl_across_4 rfl rfl u_Pl (by decide) lk_Fl_209 rfl ?_
  refine Z_iload_n (i := 1) hX d_Fl_across_7 rfl rfl ?_
  refine Z_iald hX d_Fl_across_8 rfl rfl (by omega) (by decide) ?_
  refine Z_top h15 ?_
  refine Z_cNi1 hX d_Fl_across_9 (c_CT_elementOf (by omega)) m_CT_elementOf ne_Fl_152 ⟨by decide, by decide⟩ ⟨by decide, by decide⟩ (Nat.le_of_ble_eq_true rfl) ?_
  refine Z_istore_n (i := 3) hX d_Fl_across_12 rfl (by decide) rfl ?_
  refine Z_aload_n (i := 0) hX d_Fl_across_13 rfl rfl ?_
  refine Z_getR (k0 := 0) hX d_Fl_across_14 (lF hb) rfl u_Fl (by decide) lk_Fl_61 rfl ?_
  refine Z_getR (k0 := 8) hX d_Fl_across_17 rfl rfl u_Pl (by decide) lk_Fl_128 rfl ?_
  refine Z_aload_n (i := 0) hX d_Fl_across_20 rfl rfl ?_
  refine Z_getR (k0 := 0) hX d_Fl_across_21 (lF hb) rfl u_Fl (by decide) lk_Fl_61 rfl ?_
  refine Z_getR (k0 := 13) hX d_Fl_across_24 rfl rfl u_Pl (by decide) lk_Fl_209 rfl ?_
  refine Z_iload_n (i := 1) hX d_Fl_across_27 rfl rfl ?_
  refine Z_iald hX d_Fl_across_28 rfl rfl (by omega) (by decide) ?_
  refine Z_top h15 ?_
  refine Z_iald hX d_Fl_across_29 rfl rfl (by omega) (by decide) ?_
  refine Z_top h10 ?_
  refine Z_cNi1 hX d_Fl_across_30 (c_CT_elementOf (by omega)) m_CT_elementOf ne_Fl_152 ⟨by decide, by decide⟩ ⟨by decide, by decide⟩ (Nat.le_of_ble_eq_true rfl) ?_
  refine Z_istore hX d_Fl_across_33 (by decide) rfl ?_
  refine Z_cut (pc' := 65) (P := fun v => v = zB (f_on I b k)) ?_ (fun hJ65 => ?_)
  · intro v hv65
    subst hv65
    refine Z_istore hX d_Fl_across_65 (by decide) rfl ?_
    refine Z_iconst (v := 1) hX d_Fl_across_67 rfl ?_
    refine Z_iload_n (i := 3) hX d_Fl_across_68 rfl rfl ?_
    refine Z_ishl hX d_Fl_across_69 ?_
    refine Z_iconst (v := 1) hX d_Fl_across_70 rfl ?_
    refine Z_iload hX d_Fl_across_71 rfl ?_
    refine Z_ishl hX d_Fl_across_73 ?_
    refine Z_ior hX d_Fl_across_74 ?_
    refine Z_istore hX d_Fl_across_75 (by decide) rfl ?_
    refine Z_iload hX d_Fl_across_77 rfl ?_
    refine Z_ifeqB (tgt := 94) hX d_Fl_across_79 rfl (fun h79 => ?_) (fun h79 => ?_)
    · refine Z_iconst (v := 0) hX d_Fl_across_94 rfl ?_
      exact Z_ri (hR _ _ d_Fl_across_95) (by exact (if_neg (by rw [h79]; decide)).symm) rfl rfl
    · refine Z_iload_n (i := 2) hX d_Fl_across_82 rfl rfl ?_
      refine Z_iload hX d_Fl_across_83 rfl ?_
      refine Z_iand hX d_Fl_across_85 ?_
      refine Z_ifeq (tgt := 94) hX d_Fl_across_86 rfl (fun h86 => ?_) (fun h86 => ?_)
      · refine Z_iconst (v := 0) hX d_Fl_across_94 rfl ?_
        exact Z_ri (hR _ _ d_Fl_across_95) (by exact ((if_pos h79).trans (if_pos h86)).symm) rfl rfl
      · refine Z_iload hX d_Fl_across_89 rfl ?_
        refine Z_goto (tgt := 95) hX d_Fl_across_91 rfl ?_
        exact Z_ri (hR _ _ d_Fl_across_95) (by exact ((if_pos h79).trans (if_neg h86)).symm) rfl rfl
  · refine Z_aload_n (i := 0) hX d_Fl_across_35 rfl rfl ?_
    refine Z_iload_n (i := 1) hX d_Fl_across_36 rfl rfl ?_
    refine Z_cVi1 hX d_Fl_across_37 (c_Fl_isLinkWhole hb) m_Fl_isLinkWhole (lF hb) rfl lk_Fl_149 ⟨by decide, by decide⟩ ⟨by decide, by decide⟩ (Nat.le_of_ble_eq_true rfl) ?_
    refine Z_ifeqB (tgt := 64) hX d_Fl_across_40 rfl (fun h40 => ?_) (fun h40 => ?_)
    · refine Z_iconst (v := 0) hX d_Fl_across_64 rfl ?_
      exact hJ65 _ (by simp [f_on, zB, *])
    · refine Z_aload_n (i := 0) hX d_Fl_across_43 rfl rfl ?_
      refine Z_iload_n (i := 3) hX d_Fl_across_44 rfl rfl ?_
      refine Z_cVi1 hX d_Fl_across_45 (c_Fl_isWhole hb (by omega)) m_Fl_isWhole (lF hb) rfl lk_Fl_102 ⟨by decide, by decide⟩ ⟨by decide, by decide⟩ (Nat.le_of_ble_eq_true rfl) ?_
      refine Z_ifeqB (tgt := 64) hX d_Fl_across_48 rfl (fun h48 => ?_) (fun h48 => ?_)
      · refine Z_iconst (v := 0) hX d_Fl_across_64 rfl ?_
        exact hJ65 _ (by simp [f_on, zB, *])
      · refine Z_aload_n (i := 0) hX d_Fl_across_51 rfl rfl ?_
        refine Z_iload hX d_Fl_across_52 rfl ?_
        refine Z_cVi1 hX d_Fl_across_54 (c_Fl_isWhole hb (by omega)) m_Fl_isWhole (lF hb) rfl lk_Fl_102 ⟨by decide, by decide⟩ ⟨by decide, by decide⟩ (Nat.le_of_ble_eq_true rfl) ?_
        refine Z_ifeqB (tgt := 64) hX d_Fl_across_57 rfl (fun h57 => ?_) (fun h57 => ?_)
        · refine Z_iconst (v := 0) hX d_Fl_across_64 rfl ?_
          exact hJ65 _ (by simp [f_on, zB, *])
        · refine Z_iconst (v := 1) hX d_Fl_across_60 rfl ?_
          refine Z_goto (tgt := 65) hX d_Fl_across_61 rfl ?_
          exact hJ65 _ (by simp [f_on, zB, *])

set_option maxRecDepth 100000 in
set_option maxHeartbeats 4000000 in
theorem c_Fl_reachedFrom {la : Launch} {G : zG} {I : zI} {J : zJ} {b : Nat} (hb : b = 16 ∨ b = 35) {e m : Nat} (he : e < 16) (hE : okE I m) : zCi la G y_Fl_reachedFrom (Cond.code y_Fl_reachedFrom prog_4_method_26_code 6 (some .int) :: TBL) (zR 3) [.ref (zad G b), .int (nI e)] I J (f_rch I b m e) (I) (J) := by
  refine zCi_of (by decide) (by simp [lg_sl, Value.category]) (rfl) (fun X hla hX hR => ?_)
  subst hla
  refine Z_loc (l' := [(0, .ref (zad G b)), (1, .int (nI e))]) (by simp [lv_args, Value.category, List.lookup]) ?_
  refine Z_iconst (v := 1) hX d_Fl_reachedFrom_0 rfl ?_
  refine Z_iload_n (i := 1) hX d_Fl_reachedFrom_1 rfl rfl ?_
  refine Z_ishl hX d_Fl_reachedFrom_2 ?_
  refine Z_istore_n (i := 2) hX d_Fl_reachedFrom_3 rfl (by decide) rfl ?_
  refine Z_iconst (v := nI 0) hX d_Fl_reachedFrom_4 rfl ?_
  refine Z_istore_n (i := 3) hX d_Fl_reachedFrom_5 rfl (by decide) rfl ?_
  have hL6 : ∀ (k i : Nat) (r : Int32), k + i = 16 → f_rf I b m k r = f_rch I b m e → Z X G 6 0 0 6 [(3, .int (nI i)), (2, .int r), (1, .int (nI e)), (0, .ref (zad G b))] [] I J := by
    intro k
    induction k with
    | zero =>
      intro i r hi hf
      obtain rfl : i = 16 := by omega
      refine Z_iload_n (i := 3) hX d_Fl_reachedFrom_6 rfl rfl ?_
      refine Z_bipush (v := 16) hX d_Fl_reachedFrom_7 rfl ?_
      refine Z_icge (tgt := 66) hX d_Fl_reachedFrom_9 rfl (fun h9 => ?_) (fun h => absurd (by decide) h)
      refine Z_iload_n (i := 2) hX d_Fl_reachedFrom_66 rfl rfl ?_
      exact Z_ri (hR _ _ d_Fl_reachedFrom_67) (by exact hf) rfl rfl
    | succ k ih =>
      intro i r hi hf
      have hi3 : i < 16 := by omega
      refine Z_iload_n (i := 3) hX d_Fl_reachedFrom_6 rfl rfl ?_
      refine Z_bipush (v := 16) hX d_Fl_reachedFrom_7 rfl ?_
      refine Z_icge (tgt := 66) hX d_Fl_reachedFrom_9 rfl (fun h => absurd h (nI_ge hi3 (by decide))) (fun h9 => ?_)
      refine Z_iload_n (i := 2) hX d_Fl_reachedFrom_12 rfl rfl ?_
      refine Z_istore hX d_Fl_reachedFrom_13 (by decide) rfl ?_
      refine Z_iconst (v := nI 0) hX d_Fl_reachedFrom_15 rfl ?_
      refine Z_istore hX d_Fl_reachedFrom_16 (by decide) rfl ?_
      have hL18 : ∀ (k2 j : Nat), k2 + j = m → Z X G 6 0 0 18 [(5, .int (nI j)), (4, .int (f_wi I b r j)), (3, .int (nI i)), (2, .int r), (1, .int (nI e)), (0, .ref (zad G b))] [] I J := by
        intro k2
        induction k2 with
        | zero =>
          intro j hj
          obtain rfl : m = j := by omega
          have hm := hE.2.1
          refine Z_iload hX d_Fl_reachedFrom_18 rfl ?_
          refine Z_aload_n (i := 0) hX d_Fl_reachedFrom_20 rfl rfl ?_
          refine Z_getR (k0 := 0) hX d_Fl_reachedFrom_21 (lF hb) rfl u_Fl (by decide) lk_Fl_61 rfl ?_
          refine Z_getI (k0 := 14) hX d_Fl_reachedFrom_24 rfl rfl u_Pl (by decide) lk_Fl_203 rfl ?_
          refine Z_top hE.1 ?_
          refine Z_icge (tgt := 48) hX d_Fl_reachedFrom_27 rfl (fun h27 => ?_) (fun h => absurd (nI_le (Nat.le_refl _) (by omega)) h)
          refine Z_iload hX d_Fl_reachedFrom_48 rfl ?_
          refine Z_iload_n (i := 2) hX d_Fl_reachedFrom_50 rfl rfl ?_
          refine Z_icne (tgt := 57) hX d_Fl_reachedFrom_51 rfl (fun h51 => ?_) (fun h51 => ?_)
          · refine Z_iload hX d_Fl_reachedFrom_57 rfl ?_
            refine Z_istore_n (i := 2) hX d_Fl_reachedFrom_59 rfl (by decide) rfl ?_
            refine Z_iinc (v := nI (i + 1)) hX d_Fl_reachedFrom_60 rfl (by rw [nI_succ]; rfl) (by decide) rfl ?_
            refine Z_goto (tgt := 6) hX d_Fl_reachedFrom_63 rfl ?_
            refine Z_loc ?_ (ih (i + 1) (f_wi I b r m) (by omega) ?_)
            · rfl
            · rw [← hf]; exact (if_neg h51).symm
          · refine Z_goto (tgt := 66) hX d_Fl_reachedFrom_54 rfl ?_
            refine Z_iload_n (i := 2) hX d_Fl_reachedFrom_66 rfl rfl ?_
            exact Z_ri (hR _ _ d_Fl_reachedFrom_67) (by rw [← hf]; exact (if_pos h51).symm) rfl rfl
        | succ k2 ih2 =>
          intro j hj
          have hm := hE.2.1
          have hi2 : j < m := by omega
          refine Z_iload hX d_Fl_reachedFrom_18 rfl ?_
          refine Z_aload_n (i := 0) hX d_Fl_reachedFrom_20 rfl rfl ?_
          refine Z_getR (k0 := 0) hX d_Fl_reachedFrom_21 (lF hb) rfl u_Fl (by decide) lk_Fl_61 rfl ?_
          refine Z_getI (k0 := 14) hX d_Fl_reachedFrom_24 rfl rfl u_Pl (by decide) lk_Fl_203 rfl ?_
          refine Z_top hE.1 ?_
          refine Z_icge (tgt := 48) hX d_Fl_reachedFrom_27 rfl (fun h => absurd h (nI_ge hi2 (by omega))) (fun h27 => ?_)
          refine Z_iload hX d_Fl_reachedFrom_30 rfl ?_
          refine Z_aload_n (i := 0) hX d_Fl_reachedFrom_32 rfl rfl ?_
          refine Z_iload hX d_Fl_reachedFrom_33 rfl ?_
          refine Z_iload_n (i := 2) hX d_Fl_reachedFrom_35 rfl rfl ?_
          refine Z_cVi2 hX d_Fl_reachedFrom_36 (c_Fl_across hb hE hi2) m_Fl_across (lF hb) rfl lk_Fl_206 ⟨by decide, by decide⟩ ⟨by decide, by decide⟩ (Nat.le_of_ble_eq_true rfl) ?_
          refine Z_ior hX d_Fl_reachedFrom_39 ?_
          refine Z_istore hX d_Fl_reachedFrom_40 (by decide) rfl ?_
          refine Z_iinc (v := nI (j + 1)) hX d_Fl_reachedFrom_42 rfl (by rw [nI_succ]; rfl) (by decide) rfl ?_
          refine Z_goto (tgt := 18) hX d_Fl_reachedFrom_45 rfl ?_
          refine Z_loc ?_ (ih2 (j + 1) (by omega))
          rfl
      refine Z_loc ?_ (hL18 m 0 (by omega))
      rfl
  refine Z_loc ?_ (hL6 16 0 _ (by omega) rfl)
  rfl

set_option maxRecDepth 100000 in
set_option maxHeartbeats 4000000 in
theorem c_Fl_bestReached {la : Launch} {G : zG} {I : zI} {J : zJ} {b : Nat} (hb : b = 16 ∨ b = 35) {e m : Nat} (he : e < 16) (hE : okE I m) : zCi la G y_Fl_bestReached (Cond.code y_Fl_bestReached prog_4_method_25_code 5 (some .int) :: TBL) (zR 4) [.ref (zad G b), .int (nI e)] I J (f_br I b m e) (I) (J) := by
  refine zCi_of (by decide) (by simp [lg_sl, Value.category]) (rfl) (fun X hla hX hR => ?_)
  subst hla
  refine Z_loc (l' := [(0, .ref (zad G b)), (1, .int (nI e))]) (by simp [lv_args, Value.category, List.lookup]) ?_
  refine Z_aload_n (i := 0) hX d_Fl_bestReached_0 rfl rfl ?_
  refine Z_iload_n (i := 1) hX d_Fl_bestReached_1 rfl rfl ?_
  refine Z_cVi1 hX d_Fl_bestReached_2 (c_Fl_isWhole hb (by omega)) m_Fl_isWhole (lF hb) rfl lk_Fl_102 ⟨by decide, by decide⟩ ⟨by decide, by decide⟩ (Nat.le_of_ble_eq_true rfl) ?_
  refine Z_ifneB (tgt := 11) hX d_Fl_bestReached_5 rfl (fun h5 => ?_) (fun h5 => ?_)
  · refine Z_aload_n (i := 0) hX d_Fl_bestReached_11 rfl rfl ?_
    refine Z_iload_n (i := 1) hX d_Fl_bestReached_12 rfl rfl ?_
    refine Z_cVi1 hX d_Fl_bestReached_13 (c_Fl_reachedFrom hb (by omega) hE) m_Fl_reachedFrom (lF hb) rfl lk_Fl_200 ⟨by decide, by decide⟩ ⟨by decide, by decide⟩ (Nat.le_of_ble_eq_true rfl) ?_
    refine Z_istore_n (i := 2) hX d_Fl_bestReached_16 rfl (by decide) rfl ?_
    refine Z_bipush (v := 7) hX d_Fl_bestReached_17 rfl ?_
    refine Z_istore_n (i := 3) hX d_Fl_bestReached_19 rfl (by decide) rfl ?_
    refine Z_iconst (v := nI 0) hX d_Fl_bestReached_20 rfl ?_
    refine Z_istore hX d_Fl_bestReached_21 (by decide) rfl ?_
    have hL23 : ∀ k i : Nat, k + i = 64 → Z X G 5 0 0 23 [(4, .int (nI i)), (3, .int (f_bs I (f_rch I b m e) i)), (2, .int (f_rch I b m e)), (1, .int (nI e)), (0, .ref (zad G b))] [] (I) (J) := by
      intro k
      induction k with
      | zero =>
        intro i hi
        obtain rfl : i = 64 := by omega
        refine Z_iload hX d_Fl_bestReached_23 rfl ?_
        refine Z_bipush (v := 64) hX d_Fl_bestReached_25 rfl ?_
        refine Z_icge (tgt := 76) hX d_Fl_bestReached_27 rfl (fun h27 => ?_) (fun h => absurd (by decide) h)
        refine Z_iload_n (i := 3) hX d_Fl_bestReached_76 rfl rfl ?_
        exact Z_ri (hR _ _ d_Fl_bestReached_77) (by exact (if_pos h5).symm) rfl rfl
      | succ k ih =>
        intro i hi
        have hi2 : i < 64 := by omega
        refine Z_iload hX d_Fl_bestReached_23 rfl ?_
        refine Z_bipush (v := 64) hX d_Fl_bestReached_25 rfl ?_
        refine Z_icge (tgt := 76) hX d_Fl_bestReached_27 rfl (fun h => absurd h (nI_ge hi2 (by decide))) (fun h27 => ?_)
        refine Z_iload_n (i := 2) hX d_Fl_bestReached_30 rfl rfl ?_
        refine Z_iload hX d_Fl_bestReached_31 rfl ?_
        refine Z_cNi1 hX d_Fl_bestReached_33 (c_CT_elementOf (by omega)) m_CT_elementOf ne_Fl_152 ⟨by decide, by decide⟩ ⟨by decide, by decide⟩ (Nat.le_of_ble_eq_true rfl) ?_
        refine Z_ishr hX d_Fl_bestReached_36 ?_
        refine Z_iconst (v := 1) hX d_Fl_bestReached_37 rfl ?_
        refine Z_iand hX d_Fl_bestReached_38 ?_
        refine Z_iconst (v := 1) hX d_Fl_bestReached_39 rfl ?_
        refine Z_icne (tgt := 70) hX d_Fl_bestReached_40 rfl (fun h40 => ?_) (fun h40 => ?_)
        · refine Z_iinc (v := nI (i + 1)) hX d_Fl_bestReached_70 rfl (by rw [nI_succ]; rfl) (by decide) rfl ?_
          refine Z_goto (tgt := 23) hX d_Fl_bestReached_73 rfl ?_
          refine Z_loc ?_ (Z_mem ?_ ?_ (ih (i + 1) (by omega)))
          · (rw [show f_bs I (f_rch I b m e) (i + 1) = f_bs I (f_rch I b m e) i from if_neg h40]; rfl)
          · rfl
          · rfl
        · refine Z_aload_n (i := 0) hX d_Fl_bestReached_43 rfl rfl ?_
          refine Z_getR (k0 := 0) hX d_Fl_bestReached_44 (lF hb) rfl u_Fl (by decide) lk_Fl_61 rfl ?_
          refine Z_iload hX d_Fl_bestReached_47 rfl ?_
          refine Z_cVi1 hX d_Fl_bestReached_49 (c_Pl_hasSource (by omega)) m_Pl_hasSource rfl rfl lk_Fl_156 ⟨by decide, by decide⟩ ⟨by decide, by decide⟩ (Nat.le_of_ble_eq_true rfl) ?_
          refine Z_ifeqB (tgt := 70) hX d_Fl_bestReached_52 rfl (fun h52 => ?_) (fun h52 => ?_)
          · refine Z_iinc (v := nI (i + 1)) hX d_Fl_bestReached_70 rfl (by rw [nI_succ]; rfl) (by decide) rfl ?_
            refine Z_goto (tgt := 23) hX d_Fl_bestReached_73 rfl ?_
            refine Z_loc ?_ (Z_mem ?_ ?_ (ih (i + 1) (by omega)))
            · (rw [show f_bs I (f_rch I b m e) (i + 1) = f_bs I (f_rch I b m e) i from (if_pos h40).trans (if_neg (by rw [h52]; decide))]; rfl)
            · rfl
            · rfl
          · refine Z_iload_n (i := 3) hX d_Fl_bestReached_55 rfl rfl ?_
            refine Z_aload_n (i := 0) hX d_Fl_bestReached_56 rfl rfl ?_
            refine Z_getR (k0 := 0) hX d_Fl_bestReached_57 (lF hb) rfl u_Fl (by decide) lk_Fl_61 rfl ?_
            refine Z_getR (k0 := 9) hX d_Fl_bestReached_60 rfl rfl u_Pl (by decide) lk_Fl_159 rfl ?_
            refine Z_iload hX d_Fl_bestReached_63 rfl ?_
            refine Z_iald hX d_Fl_bestReached_65 rfl rfl (by omega) (by decide) ?_
            refine Z_min hX d_Fl_bestReached_66 lk_Fl_131 m_min.1 m_min.2.1 m_min.2.2 (by decide) (Nat.le_of_ble_eq_true rfl) (by decide) (by decide) ?_
            refine Z_istore_n (i := 3) hX d_Fl_bestReached_69 rfl (by decide) rfl ?_
            refine Z_iinc (v := nI (i + 1)) hX d_Fl_bestReached_70 rfl (by rw [nI_succ]; rfl) (by decide) rfl ?_
            refine Z_goto (tgt := 23) hX d_Fl_bestReached_73 rfl ?_
            refine Z_loc ?_ (Z_mem ?_ ?_ (ih (i + 1) (by omega)))
            · (rw [show f_bs I (f_rch I b m e) (i + 1) = _ from (if_pos h40).trans (if_pos h52)]; rfl)
            · rfl
            · rfl
    refine Z_loc ?_ (Z_mem ?_ ?_ (hL23 64 0 (by omega)))
    · rfl
    · rfl
    · rfl
  · refine Z_bipush (v := 7) hX d_Fl_bestReached_8 rfl ?_
    exact Z_ri (hR _ _ d_Fl_bestReached_10) (by exact (if_neg (by rw [h5]; decide)).symm) rfl rfl

set_option maxRecDepth 100000 in
set_option maxHeartbeats 4000000 in
theorem c_Fl_isStarved {la : Launch} {G : zG} {I : zI} {J : zJ} {b : Nat} (hb : b = 16 ∨ b = 35) {e m : Nat} (he : e < 16) (hE : okE I m) : zCi la G y_Fl_isStarved (Cond.code y_Fl_isStarved prog_4_method_28_code 2 (some .boolean) :: TBL) (zR 5) [.ref (zad G b), .int (nI e)] I J (zB (f_st I b m e)) (I) (J) := by
  refine zCi_of (by decide) (by simp [lg_sl, Value.category]) (zB_nar _) (fun X hla hX hR => ?_)
  subst hla
  refine Z_loc (l' := [(0, .ref (zad G b)), (1, .int (nI e))]) (by simp [lv_args, Value.category, List.lookup]) ?_
  refine Z_aload_n (i := 0) hX d_Fl_isStarved_0 rfl rfl ?_
  refine Z_iload_n (i := 1) hX d_Fl_isStarved_1 rfl rfl ?_
  refine Z_cVi1 hX d_Fl_isStarved_2 (c_Fl_isWhole hb (by omega)) m_Fl_isWhole (lF hb) rfl lk_Fl_102 ⟨by decide, by decide⟩ ⟨by decide, by decide⟩ (Nat.le_of_ble_eq_true rfl) ?_
  refine Z_ifeqB (tgt := 30) hX d_Fl_isStarved_5 rfl (fun h5 => ?_) (fun h5 => ?_)
  · refine Z_iconst (v := 0) hX d_Fl_isStarved_30 rfl ?_
    exact Z_ri (hR _ _ d_Fl_isStarved_31) (by simp [f_st, zB, *]) rfl rfl
  · refine Z_aload_n (i := 0) hX d_Fl_isStarved_8 rfl rfl ?_
    refine Z_iload_n (i := 1) hX d_Fl_isStarved_9 rfl rfl ?_
    refine Z_cVi1 hX d_Fl_isStarved_10 (c_Fl_isLocked hb (by omega)) m_Fl_isLocked (lF hb) rfl lk_Fl_196 ⟨by decide, by decide⟩ ⟨by decide, by decide⟩ (Nat.le_of_ble_eq_true rfl) ?_
    refine Z_ifneB (tgt := 30) hX d_Fl_isStarved_13 rfl (fun h13 => ?_) (fun h13 => ?_)
    · refine Z_iconst (v := 0) hX d_Fl_isStarved_30 rfl ?_
      exact Z_ri (hR _ _ d_Fl_isStarved_31) (by simp [f_st, zB, *]) rfl rfl
    · refine Z_aload_n (i := 0) hX d_Fl_isStarved_16 rfl rfl ?_
      refine Z_iload_n (i := 1) hX d_Fl_isStarved_17 rfl rfl ?_
      refine Z_cVi1 hX d_Fl_isStarved_18 (c_Fl_bestReached hb (by omega) hE) m_Fl_bestReached (lF hb) rfl lk_Fl_212 ⟨by decide, by decide⟩ ⟨by decide, by decide⟩ (Nat.le_of_ble_eq_true rfl) ?_
      refine Z_bipush (v := 7) hX d_Fl_isStarved_21 rfl ?_
      refine Z_icge (tgt := 30) hX d_Fl_isStarved_23 rfl (fun h23 => ?_) (fun h23 => ?_)
      · refine Z_iconst (v := 0) hX d_Fl_isStarved_30 rfl ?_
        exact Z_ri (hR _ _ d_Fl_isStarved_31) (by simp [f_st, zB, *]) rfl rfl
      · refine Z_iconst (v := 1) hX d_Fl_isStarved_26 rfl ?_
        refine Z_goto (tgt := 31) hX d_Fl_isStarved_27 rfl ?_
        exact Z_ri (hR _ _ d_Fl_isStarved_31) (by simp [f_st, zB, *]) rfl rfl

set_option maxRecDepth 100000 in
set_option maxHeartbeats 4000000 in
theorem c_Wo_copy {la : Launch} {G : zG} {I : zI} {J : zJ} {w : Nat} (hw : isW w) {w' : Nat} (hw2 : isW w') : zCv la G y_Wo_copy (Cond.code y_Wo_copy prog_6_method_4_code 2 none :: TBL) (zR 1) [.ref (zad G w), .ref (zad G w')] I J (w_cp I w' w) (J) := by
  refine zCv_of (by decide) (by simp [lg_sl, Value.category]) (fun X hla hX hR => ?_)
  subst hla
  refine Z_loc (l' := [(0, .ref (zad G w)), (1, .ref (zad G w'))]) (by simp [lv_args, Value.category, List.lookup]) ?_
  refine Z_aload_n (i := 1) hX d_Wo_copy_0 rfl rfl ?_
  refine Z_getR (k0 := 0) hX d_Wo_copy_1 (lW hw2) rfl u_Wo (by decide) lk_Wo_9 rfl ?_
  refine Z_iconst (v := 0) hX d_Wo_copy_4 rfl ?_
  refine Z_aload_n (i := 0) hX d_Wo_copy_5 rfl rfl ?_
  refine Z_getR (k0 := 0) hX d_Wo_copy_6 (lW hw) rfl u_Wo (by decide) lk_Wo_9 rfl ?_
  refine Z_iconst (v := 0) hX d_Wo_copy_9 rfl ?_
  refine Z_bipush (v := 64) hX d_Wo_copy_10 rfl ?_
  refine Z_copy (n := 64) hX d_Wo_copy_12 rfl rfl rfl (by decide) (lW1 hw2) (lW1 hw) lk_Wo_27 m_copy.1 m_copy.2.1 m_copy.2.2 (by decide) (Nat.le_of_ble_eq_true rfl) ?_
  refine Z_aload_n (i := 1) hX d_Wo_copy_15 rfl rfl ?_
  refine Z_getR (k0 := 1) hX d_Wo_copy_16 (lW hw2) rfl u_Wo (by decide) lk_Wo_15 rfl ?_
  refine Z_iconst (v := 0) hX d_Wo_copy_19 rfl ?_
  refine Z_aload_n (i := 0) hX d_Wo_copy_20 rfl rfl ?_
  refine Z_getR (k0 := 1) hX d_Wo_copy_21 (lW hw) rfl u_Wo (by decide) lk_Wo_15 rfl ?_
  refine Z_iconst (v := 0) hX d_Wo_copy_24 rfl ?_
  refine Z_bipush (v := 64) hX d_Wo_copy_25 rfl ?_
  refine Z_copy (n := 64) hX d_Wo_copy_27 rfl rfl rfl (by decide) (lW2 hw2) (lW2 hw) lk_Wo_27 m_copy.1 m_copy.2.1 m_copy.2.2 (by decide) (Nat.le_of_ble_eq_true rfl) ?_
  refine Z_aload_n (i := 1) hX d_Wo_copy_30 rfl rfl ?_
  refine Z_getR (k0 := 2) hX d_Wo_copy_31 (lW hw2) rfl u_Wo (by decide) lk_Wo_18 rfl ?_
  refine Z_iconst (v := 0) hX d_Wo_copy_34 rfl ?_
  refine Z_aload_n (i := 0) hX d_Wo_copy_35 rfl rfl ?_
  refine Z_getR (k0 := 2) hX d_Wo_copy_36 (lW hw) rfl u_Wo (by decide) lk_Wo_18 rfl ?_
  refine Z_iconst (v := 0) hX d_Wo_copy_39 rfl ?_
  refine Z_bipush (v := 64) hX d_Wo_copy_40 rfl ?_
  refine Z_copy (n := 64) hX d_Wo_copy_42 rfl rfl rfl (by decide) (lW3 hw2) (lW3 hw) lk_Wo_27 m_copy.1 m_copy.2.1 m_copy.2.2 (by decide) (Nat.le_of_ble_eq_true rfl) ?_
  exact Z_mem (by rfl) (by rfl) (hR _ _ d_Wo_copy_45)

set_option maxRecDepth 100000 in
set_option maxHeartbeats 4000000 in
theorem c_Fl_copy {la : Launch} {G : zG} {I : zI} {J : zJ} {b : Nat} (hb : b = 16 ∨ b = 35) {a : Nat} (hb2 : a = 16 ∨ a = 35) : zCv la G y_Fl_copy (Cond.code y_Fl_copy prog_4_method_2_code 2 none :: TBL) (zR 2) [.ref (zad G b), .ref (zad G a)] I J (f_cp I a b) (f_cpJ J a b) := by
  refine zCv_of (by decide) (by simp [lg_sl, Value.category]) (fun X hla hX hR => ?_)
  subst hla
  refine Z_loc (l' := [(0, .ref (zad G b)), (1, .ref (zad G a))]) (by simp [lv_args, Value.category, List.lookup]) ?_
  refine Z_aload_n (i := 0) hX d_Fl_copy_0 rfl rfl ?_
  refine Z_getR (k0 := 1) hX d_Fl_copy_1 (lF hb) rfl u_Fl (by decide) lk_Fl_12 rfl ?_
  refine Z_aload_n (i := 1) hX d_Fl_copy_4 rfl rfl ?_
  refine Z_getR (k0 := 1) hX d_Fl_copy_5 (lF hb2) rfl u_Fl (by decide) lk_Fl_12 rfl ?_
  refine Z_cVv1 hX d_Fl_copy_8 (c_Wo_copy (wF1 hb) (wF1 hb2)) m_Wo_copy (lF1 hb) rfl lk_Fl_71 ⟨by decide, by decide⟩ ⟨by decide, by decide⟩ (Nat.le_of_ble_eq_true rfl) ?_
  refine Z_aload_n (i := 0) hX d_Fl_copy_11 rfl rfl ?_
  refine Z_getR (k0 := 2) hX d_Fl_copy_12 (lF hb) rfl u_Fl (by decide) lk_Fl_18 rfl ?_
  refine Z_aload_n (i := 1) hX d_Fl_copy_15 rfl rfl ?_
  refine Z_getR (k0 := 2) hX d_Fl_copy_16 (lF hb2) rfl u_Fl (by decide) lk_Fl_18 rfl ?_
  refine Z_cVv1 hX d_Fl_copy_19 (c_Wo_copy (wF5 hb) (wF5 hb2)) m_Wo_copy (lF5 hb) rfl lk_Fl_71 ⟨by decide, by decide⟩ ⟨by decide, by decide⟩ (Nat.le_of_ble_eq_true rfl) ?_
  refine Z_aload_n (i := 1) hX d_Fl_copy_22 rfl rfl ?_
  refine Z_getR (k0 := 4) hX d_Fl_copy_23 (lF hb2) rfl u_Fl (by decide) lk_Fl_24 rfl ?_
  refine Z_iconst (v := 0) hX d_Fl_copy_26 rfl ?_
  refine Z_aload_n (i := 0) hX d_Fl_copy_27 rfl rfl ?_
  refine Z_getR (k0 := 4) hX d_Fl_copy_28 (lF hb) rfl u_Fl (by decide) lk_Fl_24 rfl ?_
  refine Z_iconst (v := 0) hX d_Fl_copy_31 rfl ?_
  refine Z_bipush (v := 64) hX d_Fl_copy_32 rfl ?_
  refine Z_copy (n := 64) hX d_Fl_copy_34 rfl rfl rfl (by decide) (lF13 hb2) (lF13 hb) lk_Fl_75 m_copy.1 m_copy.2.1 m_copy.2.2 (by decide) (Nat.le_of_ble_eq_true rfl) ?_
  refine Z_aload_n (i := 1) hX d_Fl_copy_37 rfl rfl ?_
  refine Z_getR (k0 := 5) hX d_Fl_copy_38 (lF hb2) rfl u_Fl (by decide) lk_Fl_28 rfl ?_
  refine Z_iconst (v := 0) hX d_Fl_copy_41 rfl ?_
  refine Z_aload_n (i := 0) hX d_Fl_copy_42 rfl rfl ?_
  refine Z_getR (k0 := 5) hX d_Fl_copy_43 (lF hb) rfl u_Fl (by decide) lk_Fl_28 rfl ?_
  refine Z_iconst (v := 0) hX d_Fl_copy_46 rfl ?_
  refine Z_bipush (v := 64) hX d_Fl_copy_47 rfl ?_
  refine Z_copy (n := 64) hX d_Fl_copy_49 rfl rfl rfl (by decide) (lF14 hb2) (lF14 hb) lk_Fl_75 m_copy.1 m_copy.2.1 m_copy.2.2 (by decide) (Nat.le_of_ble_eq_true rfl) ?_
  refine Z_aload_n (i := 1) hX d_Fl_copy_52 rfl rfl ?_
  refine Z_getR (k0 := 6) hX d_Fl_copy_53 (lF hb2) rfl u_Fl (by decide) lk_Fl_31 rfl ?_
  refine Z_iconst (v := 0) hX d_Fl_copy_56 rfl ?_
  refine Z_aload_n (i := 0) hX d_Fl_copy_57 rfl rfl ?_
  refine Z_getR (k0 := 6) hX d_Fl_copy_58 (lF hb) rfl u_Fl (by decide) lk_Fl_31 rfl ?_
  refine Z_iconst (v := 0) hX d_Fl_copy_61 rfl ?_
  refine Z_bipush (v := 16) hX d_Fl_copy_62 rfl ?_
  refine Z_copy (n := 16) hX d_Fl_copy_64 rfl rfl rfl (by decide) (lF15 hb2) (lF15 hb) lk_Fl_75 m_copy.1 m_copy.2.1 m_copy.2.2 (by decide) (Nat.le_of_ble_eq_true rfl) ?_
  refine Z_aload_n (i := 1) hX d_Fl_copy_67 rfl rfl ?_
  refine Z_getR (k0 := 7) hX d_Fl_copy_68 (lF hb2) rfl u_Fl (by decide) lk_Fl_34 rfl ?_
  refine Z_iconst (v := 0) hX d_Fl_copy_71 rfl ?_
  refine Z_aload_n (i := 0) hX d_Fl_copy_72 rfl rfl ?_
  refine Z_getR (k0 := 7) hX d_Fl_copy_73 (lF hb) rfl u_Fl (by decide) lk_Fl_34 rfl ?_
  refine Z_iconst (v := 0) hX d_Fl_copy_76 rfl ?_
  refine Z_bipush (v := 16) hX d_Fl_copy_77 rfl ?_
  refine Z_copy (n := 16) hX d_Fl_copy_79 rfl rfl rfl (by decide) (lF16 hb2) (lF16 hb) lk_Fl_75 m_copy.1 m_copy.2.1 m_copy.2.2 (by decide) (Nat.le_of_ble_eq_true rfl) ?_
  refine Z_aload_n (i := 1) hX d_Fl_copy_82 rfl rfl ?_
  refine Z_getR (k0 := 8) hX d_Fl_copy_83 (lF hb2) rfl u_Fl (by decide) lk_Fl_37 rfl ?_
  refine Z_iconst (v := 0) hX d_Fl_copy_86 rfl ?_
  refine Z_aload_n (i := 0) hX d_Fl_copy_87 rfl rfl ?_
  refine Z_getR (k0 := 8) hX d_Fl_copy_88 (lF hb) rfl u_Fl (by decide) lk_Fl_37 rfl ?_
  refine Z_iconst (v := 0) hX d_Fl_copy_91 rfl ?_
  refine Z_bipush (v := 16) hX d_Fl_copy_92 rfl ?_
  refine Z_copy (n := 16) hX d_Fl_copy_94 rfl rfl rfl (by decide) (lF17 hb2) (lF17 hb) lk_Fl_75 m_copy.1 m_copy.2.1 m_copy.2.2 (by decide) (Nat.le_of_ble_eq_true rfl) ?_
  refine Z_aload_n (i := 1) hX d_Fl_copy_97 rfl rfl ?_
  refine Z_getR (k0 := 9) hX d_Fl_copy_98 (lF hb2) rfl u_Fl (by decide) lk_Fl_40 rfl ?_
  refine Z_iconst (v := 0) hX d_Fl_copy_101 rfl ?_
  refine Z_aload_n (i := 0) hX d_Fl_copy_102 rfl rfl ?_
  refine Z_getR (k0 := 9) hX d_Fl_copy_103 (lF hb) rfl u_Fl (by decide) lk_Fl_40 rfl ?_
  refine Z_iconst (v := 0) hX d_Fl_copy_106 rfl ?_
  refine Z_bipush (v := 16) hX d_Fl_copy_107 rfl ?_
  refine Z_copy (n := 16) hX d_Fl_copy_109 rfl rfl rfl (by decide) (lF18 hb2) (lF18 hb) lk_Fl_75 m_copy.1 m_copy.2.1 m_copy.2.2 (by decide) (Nat.le_of_ble_eq_true rfl) ?_
  refine Z_aload_n (i := 0) hX d_Fl_copy_112 rfl rfl ?_
  refine Z_aload_n (i := 1) hX d_Fl_copy_113 rfl rfl ?_
  refine Z_getI (k0 := 10) hX d_Fl_copy_114 (lF hb2) rfl u_Fl (by decide) lk_Fl_43 rfl ?_
  refine Z_putI (k0 := 10) hX d_Fl_copy_117 (lF hb) rfl u_Fl (by decide) lk_Fl_43 rfl t_Fl to_Fl n_Fl rfl rfl rfl rfl ?_
  refine Z_aload_n (i := 0) hX d_Fl_copy_120 rfl rfl ?_
  refine Z_aload_n (i := 1) hX d_Fl_copy_121 rfl rfl ?_
  refine Z_getI (k0 := 11) hX d_Fl_copy_122 (lF hb2) rfl u_Fl (by decide) lk_Fl_47 rfl ?_
  refine Z_putI (k0 := 11) hX d_Fl_copy_125 (lF hb) rfl u_Fl (by decide) lk_Fl_47 rfl t_Fl to_Fl n_Fl rfl rfl rfl rfl ?_
  refine Z_aload_n (i := 0) hX d_Fl_copy_128 rfl rfl ?_
  refine Z_aload_n (i := 1) hX d_Fl_copy_129 rfl rfl ?_
  refine Z_getI (k0 := 12) hX d_Fl_copy_130 (lF hb2) rfl u_Fl (by decide) lk_Fl_50 rfl ?_
  refine Z_putI (k0 := 12) hX d_Fl_copy_133 (lF hb) rfl u_Fl (by decide) lk_Fl_50 rfl t_Fl to_Fl n_Fl rfl rfl rfl rfl ?_
  refine Z_aload_n (i := 0) hX d_Fl_copy_136 rfl rfl ?_
  refine Z_aload_n (i := 1) hX d_Fl_copy_137 rfl rfl ?_
  refine Z_getL (k0 := 13) hX d_Fl_copy_138 (lF hb2) rfl u_Fl (by decide) lk_Fl_53 rfl ?_
  refine Z_putL (k0 := 13) hX d_Fl_copy_141 (lF hb) rfl u_Fl (by decide) lk_Fl_53 rfl t_Fl to_Fl n_Fl rfl rfl ?_
  exact Z_mem (by rfl) (by rfl) (hR _ _ d_Fl_copy_144)
