theorem fr_wcp {I : zI} {a w c : Nat} (hc : c < w + 1 ∨ w + 4 ≤ c) : w_cp I a w c = I c := by
  unfold w_cp
  rw [zcp_ne (by omega), zcp_ne (by omega), zcp_ne (by omega)]
theorem fr_cp {I : zI} {a b c : Nat} (hc : c < b ∨ b + 19 ≤ c) : f_cp I a b c = I c := by
  unfold f_cp f_cpu f_cpA
  rw [zup_ne (by omega), zup_ne (by omega), zup_ne (by omega), zcp_ne (by omega), zcp_ne (by omega), zcp_ne (by omega), zcp_ne (by omega), zcp_ne (by omega), zcp_ne (by omega), fr_wcp (by omega), fr_wcp (by omega)]
theorem fr_sl {I : zI} {b c : Nat} {k on : Int32} (hc : c ≠ b) : f_sl I b k on c = I c := zup_ne hc
theorem fr_fp {I : zI} {b s c : Nat} (hc : c < b ∨ b + 19 ≤ c) : f_fp I b s c = I c := by
  unfold f_fp
  rw [zup_ne (by omega), zup_ne (by omega), fr_wr (by omega)]
theorem fr_fl {I : zI} {b e c : Nat} (hc : c < b ∨ b + 19 ≤ c) : ∀ p, f_fl I b e p c = I c
  | 0 => rfl
  | p + 1 => by
    unfold f_fl
    rw [fr_fp hc, fr_fl hc p]
theorem fr_fg {I : zI} {b e c : Nat} (hc : c < b ∨ b + 19 ≤ c) : f_fg I b e c = I c := by
  unfold f_fg
  rw [fr_fl hc]
  unfold f_fg0
  rw [zup_ne (by omega), zup_ne (by omega), zup_ne (by omega), zup_ne (by omega), zup_ne (by omega)]
theorem fr_se {I : zI} {b e c : Nat} {on : Int32} (hc : c < b ∨ b + 19 ≤ c) : f_se I b e on c = I c := by
  unfold f_se
  split
  · exact zup_ne (by omega)
  · rw [fr_fg hc, zup_ne (by omega)]
theorem fr_rs {b c : Nat} (hc : c < b ∨ b + 19 ≤ c) : ∀ (k i : Nat) (I : zI) (J : zJ), (f_rs b k i I J).1 c = I c
  | 0, _, _, _ => rfl
  | k + 1, i, I, J => by
    unfold f_rs
    split
    · rw [fr_rs hc k, fr_ro hc]
    · rfl
/-- cells that a check leaves alone -/
def ckc (c : Nat) : Prop := c ≠ 0 ∧ c ≠ 62 ∧ c ≠ 63 ∧ (c < 35 ∨ 54 ≤ c)
theorem c_try_1 {m rn : Nat} {f : Int32} {I : zI} {J : zJ} : (c_try m rn f I J).1 = s_f m f (f_rs 35 rn 0 I J).1 16 := by simp only [c_try]
theorem c_try_2 {m rn : Nat} {f : Int32} {I : zI} {J : zJ} : (c_try m rn f I J).2 = (f_rs 35 rn 0 I J).2 := by simp only [c_try]
theorem fr_try {m rn : Nat} {f : Int32} {I : zI} {J : zJ} {c : Nat} (h : ckc c) : (c_try m rn f I J).1 c = I c := by
  rw [c_try_1, fr_sf ⟨h.1, h.2.1, h.2.2.1⟩, fr_rs h.2.2.2]
theorem fr_cl {m rn : Nat} {I : zI} {J : zJ} {c : Nat} (h : ckc c) : ∀ j, (c_l m rn I J j).1 c = I c
  | 0 => rfl
  | j + 1 => by
    unfold c_l
    have h1 := fr_cl (m := m) (rn := rn) (I := I) (J := J) h j
    have h2 := h.2.2.2
    split
    · exact h1
    · split
      · rw [fr_try h, fr_sl (by omega), fr_cp (by omega), h1]
      · exact h1
theorem fr_ce {m rn : Nat} {I : zI} {J : zJ} {c : Nat} (h : ckc c) : ∀ j, (c_e m rn I J j).1 c = I c
  | 0 => rfl
  | j + 1 => by
    unfold c_e
    have h1 := fr_ce (m := m) (rn := rn) (I := I) (J := J) h j
    have h2 := h.2.2.2
    split
    · exact h1
    · split
      · rw [fr_try h, fr_se (by omega), fr_cp (by omega), h1]
      · exact h1
theorem okN_of {I I' : zI} (h : I' 0 = I 0) (hN : okN I) : okN I' := by
  unfold okN
  rw [h]
  exact hN
theorem okN_try {m rn : Nat} {f : Int32} {I : zI} {J : zJ} (h : okN I) : okN (c_try m rn f I J).1 := by
  rw [c_try_1]
  exact okN_sf (okN_of (fr_rs (by omega) _ _ _ _) h) 16
theorem okN_cl {m rn : Nat} {I : zI} {J : zJ} (h : okN I) : ∀ j, okN (c_l m rn I J j).1
  | 0 => h
  | j + 1 => by
    have h1 := okN_cl (m := m) (rn := rn) (J := J) h j
    unfold c_l
    split
    · exact h1
    · split
      · exact okN_try (okN_of ((fr_sl (by decide)).trans (fr_cp (by decide))) h1)
      · exact h1
theorem okN_ce {m rn : Nat} {I : zI} {J : zJ} (h : okN I) : ∀ j, okN (c_e m rn I J j).1
  | 0 => h
  | j + 1 => by
    have h1 := okN_ce (m := m) (rn := rn) (J := J) h j
    unfold c_e
    split
    · exact h1
    · split
      · exact okN_try (okN_of ((fr_se (by decide)).trans (fr_cp (by decide))) h1)
      · exact h1
theorem c_l_stop {m rn : Nat} {I : zI} {J : zJ} {j : Nat} (h : 100 ≤ (c_l m rn I J j).1 0 7) : ∀ n, c_l m rn I J (j + n) = c_l m rn I J j
  | 0 => rfl
  | n + 1 => by
    have e := c_l_stop h n
    show c_l m rn I J ((j + n) + 1) = _
    rw [c_l, e, if_pos h]
theorem c_e_stop {m rn : Nat} {I : zI} {J : zJ} {j : Nat} (h : 100 ≤ (c_e m rn I J j).1 0 7) : ∀ n, c_e m rn I J (j + n) = c_e m rn I J j
  | 0 => rfl
  | n + 1 => by
    have e := c_e_stop h n
    show c_e m rn I J ((j + n) + 1) = _
    rw [c_e, e, if_pos h]
def c_A (m rn : Nat) (I : zI) (J : zJ) : zI × zJ := c_l m rn (zup I 0 7 0) J m
def c_ck (m rn : Nat) (I : zI) (J : zJ) : zI × zJ := c_e m rn (c_A m rn I J).1 (c_A m rn I J).2 16
theorem fr_cA {m rn : Nat} {I : zI} {J : zJ} {c : Nat} (h : ckc c) : (c_A m rn I J).1 c = I c := by
  unfold c_A
  rw [fr_cl h, zup_ne h.1]
theorem fr_ck {m rn : Nat} {I : zI} {J : zJ} {c : Nat} (h : ckc c) : (c_ck m rn I J).1 c = I c := by
  unfold c_ck
  rw [fr_ce h, fr_cA h]
theorem ckc_lt {c : Nat} (h : c < 16) (h0 : c ≠ 0) : ckc c := ⟨h0, by omega, by omega, by omega⟩
theorem okP_ck {I I' : zI} (h : ∀ c, ckc c → I' c = I c) (hP : okP I) : okP I' := by
  refine ⟨okL_of (h 9 (ckc_lt (by decide) (by decide))) (h 10 (ckc_lt (by decide) (by decide))) hP.1, fun e he => ?_⟩
  rw [h 7 (ckc_lt (by decide) (by decide)), h 8 (ckc_lt (by decide) (by decide))]
  exact hP.2 e he
theorem okE_ck {I I' : zI} {m : Nat} (h : ∀ c, ckc c → I' c = I c) (hE : okE I m) : okE I' m := okE_of (h 1 (ckc_lt (by decide) (by decide))) (h 10 (ckc_lt (by decide) (by decide))) (h 15 (ckc_lt (by decide) (by decide))) hE
theorem p_lo_of {I I' : zI} (h : I' 6 = I 6) : ∀ n, p_lo I' n = p_lo I n
  | 0 => rfl
  | n + 1 => by
    unfold p_lo
    rw [p_lo_of h n, h]
theorem c_ent1 {m rn : Nat} {I : zI} {J : zJ} : (c_l m rn (zup I 0 7 0) J m).1 = (c_e m rn (c_A m rn I J).1 (c_A m rn I J).2 0).1 := by rw [c_e, c_A]
theorem c_ent2 {m rn : Nat} {I : zI} {J : zJ} : (c_l m rn (zup I 0 7 0) J m).2 = (c_e m rn (c_A m rn I J).1 (c_A m rn I J).2 0).2 := by rw [c_e, c_A]
theorem c_l_n {m rn : Nat} {I : zI} {J : zJ} {j : Nat} (h : ¬ 100 ≤ (c_l m rn I J j).1 0 7) (h2 : f_lw (c_l m rn I J j).1 16 (nI j) = false) : c_l m rn I J (j + 1) = c_l m rn I J j := by
  rw [c_l, if_neg h, if_neg (by rw [h2]; decide)]
theorem c_l_y1 {m rn : Nat} {I : zI} {J : zJ} {j : Nat} (h : ¬ 100 ≤ (c_l m rn I J j).1 0 7) (h2 : f_lw (c_l m rn I J j).1 16 (nI j) = true) : s_f m (nI j) (f_rs 35 rn 0 (f_sl (f_cp (c_l m rn I J j).1 16 35) 35 (nI j) 1) (f_cpJ (c_l m rn I J j).2 16 35)).1 16 = (c_l m rn I J (j + 1)).1 := by
  rw [c_l, if_neg h, if_pos h2, c_try_1]
theorem c_l_y2 {m rn : Nat} {I : zI} {J : zJ} {j : Nat} (h : ¬ 100 ≤ (c_l m rn I J j).1 0 7) (h2 : f_lw (c_l m rn I J j).1 16 (nI j) = true) : (f_rs 35 rn 0 (f_sl (f_cp (c_l m rn I J j).1 16 35) 35 (nI j) 1) (f_cpJ (c_l m rn I J j).2 16 35)).2 = (c_l m rn I J (j + 1)).2 := by
  rw [c_l, if_neg h, if_pos h2, c_try_2]
theorem c_e_n {m rn : Nat} {I : zI} {J : zJ} {j : Nat} (h : ¬ 100 ≤ (c_e m rn I J j).1 0 7) (h2 : f_wh (c_e m rn I J j).1 16 j = false) : c_e m rn I J (j + 1) = c_e m rn I J j := by
  rw [c_e, if_neg h, if_neg (by rw [h2]; decide)]
theorem c_e_y1 {m rn : Nat} {I : zI} {J : zJ} {j : Nat} (h : ¬ 100 ≤ (c_e m rn I J j).1 0 7) (h2 : f_wh (c_e m rn I J j).1 16 j = true) : s_f m (100 + nI j) (f_rs 35 rn 0 (f_se (f_cp (c_e m rn I J j).1 16 35) 35 j 1) (f_cpJ (c_e m rn I J j).2 16 35)).1 16 = (c_e m rn I J (j + 1)).1 := by
  rw [c_e, if_neg h, if_pos h2, c_try_1]
theorem c_e_y2 {m rn : Nat} {I : zI} {J : zJ} {j : Nat} (h : ¬ 100 ≤ (c_e m rn I J j).1 0 7) (h2 : f_wh (c_e m rn I J j).1 16 j = true) : (f_rs 35 rn 0 (f_se (f_cp (c_e m rn I J j).1 16 35) 35 j 1) (f_cpJ (c_e m rn I J j).2 16 35)).2 = (c_e m rn I J (j + 1)).2 := by
  rw [c_e, if_neg h, if_pos h2, c_try_2]
theorem c_ck_1 {m rn : Nat} {I : zI} {J : zJ} : c_e m rn (c_A m rn I J).1 (c_A m rn I J).2 16 = c_ck m rn I J := by simp only [c_ck]
set_option maxRecDepth 100000 in
set_option maxHeartbeats 4000000 in
theorem c_CT_check {la : Launch} {G : zG} {I : zI} {J : zJ} {m rn : Nat} (hE : okE I m) (hP : okP I) (hrn : 4 * (24 + p_lo I 16) = nI rn) (hrn2 : rn < 1000) : zCi la G y_CT_check (Cond.code y_CT_check prog_1_method_21_code 3 (some .int) :: TBL) (zR 7) [.ref (zad G 0)] I J ((c_ck m rn I J).1 0 7) ((c_ck m rn I J).1) ((c_ck m rn I J).2) := by
  refine zCi_of (by decide) (by simp [lg_sl, Value.category]) (rfl) (fun X hla hX hR => ?_)
  subst hla
  refine Z_loc (l' := [(0, .ref (zad G 0))]) (by simp [lv_args, Value.category, List.lookup]) ?_
  have hm := hE.2.1
  refine Z_aload_n (i := 0) hX d_CT_check_0 rfl rfl ?_
  refine Z_iconst (v := 0) hX d_CT_check_1 rfl ?_
  refine Z_putI (k0 := 7) hX d_CT_check_2 rfl rfl u_CT (by decide) lk_CT_49 rfl t_CT to_CT n_CT rfl rfl rfl rfl ?_
  refine Z_iconst (v := 4) hX d_CT_check_5 rfl ?_
  refine Z_bipush (v := 24) hX d_CT_check_6 rfl ?_
  refine Z_aload_n (i := 0) hX d_CT_check_8 rfl rfl ?_
  refine Z_getR (k0 := 0) hX d_CT_check_9 rfl rfl u_CT (by decide) lk_CT_12 rfl ?_
  refine Z_cVi0 hX d_CT_check_12 c_Pl_longestRestore m_Pl_longestRestore rfl rfl lk_CT_212 ⟨by decide, by decide⟩ ⟨by decide, by decide⟩ (Nat.le_of_ble_eq_true rfl) ?_
  refine Z_iadd hX d_CT_check_15 ?_
  refine Z_imul hX d_CT_check_16 ?_
  refine Z_top (y := nI rn) (by rw [p_lo_of (I := I) (zup_ne (by decide))]; exact hrn) ?_
  refine Z_istore_n (i := 1) hX d_CT_check_17 rfl (by decide) rfl ?_
  refine Z_iconst (v := nI 0) hX d_CT_check_18 rfl ?_
  refine Z_istore_n (i := 2) hX d_CT_check_19 rfl (by decide) rfl ?_
  have hL20 : ∀ k i : Nat, k + i = m → Z X G 3 0 0 20 [(2, .int (nI i)), (1, .int (nI rn)), (0, .ref (zad G 0))] [] ((c_l m rn (zup I 0 7 0) J i).1) ((c_l m rn (zup I 0 7 0) J i).2) := by
    intro k
    induction k with
    | zero =>
      intro i hi
      obtain rfl : m = i := by omega
      refine Z_iload_n (i := 2) hX d_CT_check_20 rfl rfl ?_
      refine Z_aload_n (i := 0) hX d_CT_check_21 rfl rfl ?_
      refine Z_getR (k0 := 0) hX d_CT_check_22 rfl rfl u_CT (by decide) lk_CT_12 rfl ?_
      refine Z_getI (k0 := 14) hX d_CT_check_25 rfl rfl u_Pl (by decide) lk_CT_97 rfl ?_
      refine Z_top (y := nI m) (by first | exact hEi.1 | (rw [fr_cl (ckc_lt (by decide) (by decide)), zup_ne (by decide)]; exact hE.1)) ?_
      refine Z_icge (tgt := 90) hX d_CT_check_28 rfl (fun h28 => ?_) (fun h => absurd (nI_le (Nat.le_refl _) (by omega)) h)
      refine Z_iconst (v := nI 0) hX d_CT_check_90 rfl ?_
      refine Z_istore_n (i := 2) hX d_CT_check_91 rfl (by decide) rfl ?_
      have hL92 : ∀ k2 j : Nat, k2 + j = 16 → Z X G 3 0 0 92 [(2, .int (nI j)), (1, .int (nI rn)), (0, .ref (zad G 0))] [] ((c_e m rn (c_A m rn I J).1 (c_A m rn I J).2 j).1) ((c_e m rn (c_A m rn I J).1 (c_A m rn I J).2 j).2) := by
        intro k2
        induction k2 with
        | zero =>
          intro j hj
          obtain rfl : j = 16 := by omega
          refine Z_iload_n (i := 2) hX d_CT_check_92 rfl rfl ?_
          refine Z_bipush (v := 16) hX d_CT_check_93 rfl ?_
          refine Z_icge (tgt := 160) hX d_CT_check_95 rfl (fun h95 => ?_) (fun h => absurd (by decide) h)
          refine Z_aload_n (i := 0) hX d_CT_check_160 rfl rfl ?_
          refine Z_getI (k0 := 7) hX d_CT_check_161 rfl rfl u_CT (by decide) lk_CT_49 rfl ?_
          exact Z_ri (hR _ _ d_CT_check_164) (by rw [c_ck_1]) (by rw [c_ck_1]) (by rw [c_ck_1])
        | succ k2 ih2 =>
          intro j hj
          have hj2 : j < 16 := by omega
          have hPi : okP (c_e m rn (c_A m rn I J).1 (c_A m rn I J).2 j).1 := okP_ck (fun c hc => (fr_ce hc j).trans (fr_cA hc)) hP
          have hEi : okE (c_e m rn (c_A m rn I J).1 (c_A m rn I J).2 j).1 m := okE_ck (fun c hc => (fr_ce hc j).trans (fr_cA hc)) hE
          have hNi : okN (c_e m rn (c_A m rn I J).1 (c_A m rn I J).2 j).1 := okN_ce (okN_cl ⟨0, by decide, by rw [zup_same, pk_us]; rfl⟩ m) j
          refine Z_iload_n (i := 2) hX d_CT_check_92 rfl rfl ?_
          refine Z_bipush (v := 16) hX d_CT_check_93 rfl ?_
          refine Z_icge (tgt := 160) hX d_CT_check_95 rfl (fun h => absurd h (nI_ge hj2 (by decide))) (fun h95 => ?_)
          refine Z_aload_n (i := 0) hX d_CT_check_98 rfl rfl ?_
          refine Z_getI (k0 := 7) hX d_CT_check_99 rfl rfl u_CT (by decide) lk_CT_49 rfl ?_
          refine Z_bipush (v := 100) hX d_CT_check_102 rfl ?_
          refine Z_icge (tgt := 160) hX d_CT_check_104 rfl (fun h104 => ?_) (fun h104 => ?_)
          · have hm8 : (c_e m rn (c_A m rn I J).1 (c_A m rn I J).2 16) = (c_e m rn (c_A m rn I J).1 (c_A m rn I J).2 j) := by rw [show (c_e m rn (c_A m rn I J).1 (c_A m rn I J).2 16) = (c_e m rn (c_A m rn I J).1 (c_A m rn I J).2 (j + (k2 + 1))) from congrArg _ (by omega)]; exact c_e_stop h104 (k2 + 1)
            refine Z_mem (I' := (c_e m rn (c_A m rn I J).1 (c_A m rn I J).2 16).1) (J' := (c_e m rn (c_A m rn I J).1 (c_A m rn I J).2 16).2) (by rw [hm8]) (by rw [hm8]) ?_
            refine Z_aload_n (i := 0) hX d_CT_check_160 rfl rfl ?_
            refine Z_getI (k0 := 7) hX d_CT_check_161 rfl rfl u_CT (by decide) lk_CT_49 rfl ?_
            exact Z_ri (hR _ _ d_CT_check_164) (by rw [c_ck_1]) (by rw [c_ck_1]) (by rw [c_ck_1])
          · refine Z_aload_n (i := 0) hX d_CT_check_107 rfl rfl ?_
            refine Z_getR (k0 := 1) hX d_CT_check_108 rfl rfl u_CT (by decide) lk_CT_21 rfl ?_
            refine Z_iload_n (i := 2) hX d_CT_check_111 rfl rfl ?_
            refine Z_cVi1 hX d_CT_check_112 (c_Fl_isWhole (Or.inl rfl) (by omega)) m_Fl_isWhole rfl rfl lk_CT_148 ⟨by decide, by decide⟩ ⟨by decide, by decide⟩ (Nat.le_of_ble_eq_true rfl) ?_
            refine Z_ifeqB (tgt := 154) hX d_CT_check_115 rfl (fun h115 => ?_) (fun h115 => ?_)
            · refine Z_iinc (v := nI (j + 1)) hX d_CT_check_154 rfl (by rw [nI_succ]; rfl) (by decide) rfl ?_
              refine Z_goto (tgt := 92) hX d_CT_check_157 rfl ?_
              refine Z_loc ?_ (Z_mem ?_ ?_ (ih2 (j + 1) (by omega)))
              · rfl
              · rw [c_e_n h104 h115]
              · rw [c_e_n h104 h115]
            · refine Z_aload_n (i := 0) hX d_CT_check_118 rfl rfl ?_
              refine Z_getR (k0 := 2) hX d_CT_check_119 rfl rfl u_CT (by decide) lk_CT_25 rfl ?_
              refine Z_aload_n (i := 0) hX d_CT_check_122 rfl rfl ?_
              refine Z_getR (k0 := 1) hX d_CT_check_123 rfl rfl u_CT (by decide) lk_CT_21 rfl ?_
              refine Z_cVv1 hX d_CT_check_126 (c_Fl_copy (Or.inr rfl) (Or.inl rfl)) m_Fl_copy rfl rfl lk_CT_216 ⟨by decide, by decide⟩ ⟨by decide, by decide⟩ (Nat.le_of_ble_eq_true rfl) ?_
              refine Z_aload_n (i := 0) hX d_CT_check_129 rfl rfl ?_
              refine Z_getR (k0 := 2) hX d_CT_check_130 rfl rfl u_CT (by decide) lk_CT_25 rfl ?_
              refine Z_iload_n (i := 2) hX d_CT_check_133 rfl rfl ?_
              refine Z_iconst (v := 1) hX d_CT_check_134 rfl ?_
              refine Z_cVv2 hX d_CT_check_135 (c_Fl_setElementFailed (Or.inr rfl) (by omega)) m_Fl_setElementFailed rfl rfl lk_CT_151 ⟨by decide, by decide⟩ ⟨by decide, by decide⟩ (Nat.le_of_ble_eq_true rfl) ?_
              refine Z_aload_n (i := 0) hX d_CT_check_138 rfl rfl ?_
              refine Z_getR (k0 := 2) hX d_CT_check_139 rfl rfl u_CT (by decide) lk_CT_25 rfl ?_
              refine Z_iload_n (i := 1) hX d_CT_check_142 rfl rfl ?_
              refine Z_cVv1 hX d_CT_check_143 (c_Fl_passRounds (Or.inr rfl) hrn2 (okP_of (fun c hc => (fr_se (by omega)).trans (fr_cp (by omega))) hPi)) m_Fl_passRounds rfl rfl lk_CT_219 ⟨by decide, by decide⟩ ⟨by decide, by decide⟩ (Nat.le_of_ble_eq_true rfl) ?_
              refine Z_aload_n (i := 0) hX d_CT_check_146 rfl rfl ?_
              refine Z_bipush (v := 100) hX d_CT_check_147 rfl ?_
              refine Z_iload_n (i := 2) hX d_CT_check_149 rfl rfl ?_
              refine Z_iadd hX d_CT_check_150 ?_
              refine Z_cVv1 hX d_CT_check_151 (c_CT_findStarved (m := m) (okE_of ((fr_rs (by omega) _ _ _ _).trans ((fr_se (by omega)).trans (fr_cp (by omega)))) ((fr_rs (by omega) _ _ _ _).trans ((fr_se (by omega)).trans (fr_cp (by omega)))) ((fr_rs (by omega) _ _ _ _).trans ((fr_se (by omega)).trans (fr_cp (by omega)))) hEi) (okN_of ((fr_rs (by omega) _ _ _ _).trans ((fr_se (by omega)).trans (fr_cp (by omega)))) hNi)) m_CT_findStarved rfl rfl lk_CT_222 ⟨by decide, by decide⟩ ⟨by decide, by decide⟩ (Nat.le_of_ble_eq_true rfl) ?_
              refine Z_iinc (v := nI (j + 1)) hX d_CT_check_154 rfl (by rw [nI_succ]; rfl) (by decide) rfl ?_
              refine Z_goto (tgt := 92) hX d_CT_check_157 rfl ?_
              refine Z_loc ?_ (Z_mem ?_ ?_ (ih2 (j + 1) (by omega)))
              · rfl
              · exact c_e_y1 h104 h115
              · exact c_e_y2 h104 h115
      refine Z_loc ?_ (Z_mem ?_ ?_ (hL92 16 0 (by omega)))
      · rfl
      · exact c_ent1
      · exact c_ent2
    | succ k ih =>
      intro i hi
      have hi2 : i < m := by omega
      have hPi : okP (c_l m rn (zup I 0 7 0) J i).1 := okP_ck (fun c hc => (fr_cl hc i).trans (zup_ne hc.1)) hP
      have hEi : okE (c_l m rn (zup I 0 7 0) J i).1 m := okE_ck (fun c hc => (fr_cl hc i).trans (zup_ne hc.1)) hE
      have hNi : okN (c_l m rn (zup I 0 7 0) J i).1 := okN_cl ⟨0, by decide, by rw [zup_same, pk_us]; rfl⟩ i
      refine Z_iload_n (i := 2) hX d_CT_check_20 rfl rfl ?_
      refine Z_aload_n (i := 0) hX d_CT_check_21 rfl rfl ?_
      refine Z_getR (k0 := 0) hX d_CT_check_22 rfl rfl u_CT (by decide) lk_CT_12 rfl ?_
      refine Z_getI (k0 := 14) hX d_CT_check_25 rfl rfl u_Pl (by decide) lk_CT_97 rfl ?_
      refine Z_top (y := nI m) (by first | exact hEi.1 | (rw [fr_cl (ckc_lt (by decide) (by decide)), zup_ne (by decide)]; exact hE.1)) ?_
      refine Z_icge (tgt := 90) hX d_CT_check_28 rfl (fun h => absurd h (nI_ge hi2 (by omega))) (fun h28 => ?_)
      refine Z_aload_n (i := 0) hX d_CT_check_31 rfl rfl ?_
      refine Z_getI (k0 := 7) hX d_CT_check_32 rfl rfl u_CT (by decide) lk_CT_49 rfl ?_
      refine Z_bipush (v := 100) hX d_CT_check_35 rfl ?_
      refine Z_icge (tgt := 90) hX d_CT_check_37 rfl (fun h37 => ?_) (fun h37 => ?_)
      · have hm9 : (c_l m rn (zup I 0 7 0) J m) = (c_l m rn (zup I 0 7 0) J i) := by rw [show (c_l m rn (zup I 0 7 0) J m) = (c_l m rn (zup I 0 7 0) J (i + (k + 1))) from congrArg _ (by omega)]; exact c_l_stop h37 (k + 1)
        refine Z_mem (I' := (c_l m rn (zup I 0 7 0) J m).1) (J' := (c_l m rn (zup I 0 7 0) J m).2) (by rw [hm9]) (by rw [hm9]) ?_
        refine Z_iconst (v := nI 0) hX d_CT_check_90 rfl ?_
        refine Z_istore_n (i := 2) hX d_CT_check_91 rfl (by decide) rfl ?_
        have hL92 : ∀ k2 j : Nat, k2 + j = 16 → Z X G 3 0 0 92 [(2, .int (nI j)), (1, .int (nI rn)), (0, .ref (zad G 0))] [] ((c_e m rn (c_A m rn I J).1 (c_A m rn I J).2 j).1) ((c_e m rn (c_A m rn I J).1 (c_A m rn I J).2 j).2) := by
          intro k2
          induction k2 with
          | zero =>
            intro j hj
            obtain rfl : j = 16 := by omega
            refine Z_iload_n (i := 2) hX d_CT_check_92 rfl rfl ?_
            refine Z_bipush (v := 16) hX d_CT_check_93 rfl ?_
            refine Z_icge (tgt := 160) hX d_CT_check_95 rfl (fun h95 => ?_) (fun h => absurd (by decide) h)
            refine Z_aload_n (i := 0) hX d_CT_check_160 rfl rfl ?_
            refine Z_getI (k0 := 7) hX d_CT_check_161 rfl rfl u_CT (by decide) lk_CT_49 rfl ?_
            exact Z_ri (hR _ _ d_CT_check_164) (by rw [c_ck_1]) (by rw [c_ck_1]) (by rw [c_ck_1])
          | succ k2 ih2 =>
            intro j hj
            have hj2 : j < 16 := by omega
            have hPi : okP (c_e m rn (c_A m rn I J).1 (c_A m rn I J).2 j).1 := okP_ck (fun c hc => (fr_ce hc j).trans (fr_cA hc)) hP
            have hEi : okE (c_e m rn (c_A m rn I J).1 (c_A m rn I J).2 j).1 m := okE_ck (fun c hc => (fr_ce hc j).trans (fr_cA hc)) hE
            have hNi : okN (c_e m rn (c_A m rn I J).1 (c_A m rn I J).2 j).1 := okN_ce (okN_cl ⟨0, by decide, by rw [zup_same, pk_us]; rfl⟩ m) j
            refine Z_iload_n (i := 2) hX d_CT_check_92 rfl rfl ?_
            refine Z_bipush (v := 16) hX d_CT_check_93 rfl ?_
            refine Z_icge (tgt := 160) hX d_CT_check_95 rfl (fun h => absurd h (nI_ge hj2 (by decide))) (fun h95 => ?_)
            refine Z_aload_n (i := 0) hX d_CT_check_98 rfl rfl ?_
            refine Z_getI (k0 := 7) hX d_CT_check_99 rfl rfl u_CT (by decide) lk_CT_49 rfl ?_
            refine Z_bipush (v := 100) hX d_CT_check_102 rfl ?_
            refine Z_icge (tgt := 160) hX d_CT_check_104 rfl (fun h104 => ?_) (fun h104 => ?_)
            · have hm8 : (c_e m rn (c_A m rn I J).1 (c_A m rn I J).2 16) = (c_e m rn (c_A m rn I J).1 (c_A m rn I J).2 j) := by rw [show (c_e m rn (c_A m rn I J).1 (c_A m rn I J).2 16) = (c_e m rn (c_A m rn I J).1 (c_A m rn I J).2 (j + (k2 + 1))) from congrArg _ (by omega)]; exact c_e_stop h104 (k2 + 1)
              refine Z_mem (I' := (c_e m rn (c_A m rn I J).1 (c_A m rn I J).2 16).1) (J' := (c_e m rn (c_A m rn I J).1 (c_A m rn I J).2 16).2) (by rw [hm8]) (by rw [hm8]) ?_
              refine Z_aload_n (i := 0) hX d_CT_check_160 rfl rfl ?_
              refine Z_getI (k0 := 7) hX d_CT_check_161 rfl rfl u_CT (by decide) lk_CT_49 rfl ?_
              exact Z_ri (hR _ _ d_CT_check_164) (by rw [c_ck_1]) (by rw [c_ck_1]) (by rw [c_ck_1])
            · refine Z_aload_n (i := 0) hX d_CT_check_107 rfl rfl ?_
              refine Z_getR (k0 := 1) hX d_CT_check_108 rfl rfl u_CT (by decide) lk_CT_21 rfl ?_
              refine Z_iload_n (i := 2) hX d_CT_check_111 rfl rfl ?_
              refine Z_cVi1 hX d_CT_check_112 (c_Fl_isWhole (Or.inl rfl) (by omega)) m_Fl_isWhole rfl rfl lk_CT_148 ⟨by decide, by decide⟩ ⟨by decide, by decide⟩ (Nat.le_of_ble_eq_true rfl) ?_
              refine Z_ifeqB (tgt := 154) hX d_CT_check_115 rfl (fun h115 => ?_) (fun h115 => ?_)
              · refine Z_iinc (v := nI (j + 1)) hX d_CT_check_154 rfl (by rw [nI_succ]; rfl) (by decide) rfl ?_
                refine Z_goto (tgt := 92) hX d_CT_check_157 rfl ?_
                refine Z_loc ?_ (Z_mem ?_ ?_ (ih2 (j + 1) (by omega)))
                · rfl
                · rw [c_e_n h104 h115]
                · rw [c_e_n h104 h115]
              · refine Z_aload_n (i := 0) hX d_CT_check_118 rfl rfl ?_
                refine Z_getR (k0 := 2) hX d_CT_check_119 rfl rfl u_CT (by decide) lk_CT_25 rfl ?_
                refine Z_aload_n (i := 0) hX d_CT_check_122 rfl rfl ?_
                refine Z_getR (k0 := 1) hX d_CT_check_123 rfl rfl u_CT (by decide) lk_CT_21 rfl ?_
                refine Z_cVv1 hX d_CT_check_126 (c_Fl_copy (Or.inr rfl) (Or.inl rfl)) m_Fl_copy rfl rfl lk_CT_216 ⟨by decide, by decide⟩ ⟨by decide, by decide⟩ (Nat.le_of_ble_eq_true rfl) ?_
                refine Z_aload_n (i := 0) hX d_CT_check_129 rfl rfl ?_
                refine Z_getR (k0 := 2) hX d_CT_check_130 rfl rfl u_CT (by decide) lk_CT_25 rfl ?_
                refine Z_iload_n (i := 2) hX d_CT_check_133 rfl rfl ?_
                refine Z_iconst (v := 1) hX d_CT_check_134 rfl ?_
                refine Z_cVv2 hX d_CT_check_135 (c_Fl_setElementFailed (Or.inr rfl) (by omega)) m_Fl_setElementFailed rfl rfl lk_CT_151 ⟨by decide, by decide⟩ ⟨by decide, by decide⟩ (Nat.le_of_ble_eq_true rfl) ?_
                refine Z_aload_n (i := 0) hX d_CT_check_138 rfl rfl ?_
                refine Z_getR (k0 := 2) hX d_CT_check_139 rfl rfl u_CT (by decide) lk_CT_25 rfl ?_
                refine Z_iload_n (i := 1) hX d_CT_check_142 rfl rfl ?_
                refine Z_cVv1 hX d_CT_check_143 (c_Fl_passRounds (Or.inr rfl) hrn2 (okP_of (fun c hc => (fr_se (by omega)).trans (fr_cp (by omega))) hPi)) m_Fl_passRounds rfl rfl lk_CT_219 ⟨by decide, by decide⟩ ⟨by decide, by decide⟩ (Nat.le_of_ble_eq_true rfl) ?_
                refine Z_aload_n (i := 0) hX d_CT_check_146 rfl rfl ?_
                refine Z_bipush (v := 100) hX d_CT_check_147 rfl ?_
                refine Z_iload_n (i := 2) hX d_CT_check_149 rfl rfl ?_
                refine Z_iadd hX d_CT_check_150 ?_
                refine Z_cVv1 hX d_CT_check_151 (c_CT_findStarved (m := m) (okE_of ((fr_rs (by omega) _ _ _ _).trans ((fr_se (by omega)).trans (fr_cp (by omega)))) ((fr_rs (by omega) _ _ _ _).trans ((fr_se (by omega)).trans (fr_cp (by omega)))) ((fr_rs (by omega) _ _ _ _).trans ((fr_se (by omega)).trans (fr_cp (by omega)))) hEi) (okN_of ((fr_rs (by omega) _ _ _ _).trans ((fr_se (by omega)).trans (fr_cp (by omega)))) hNi)) m_CT_findStarved rfl rfl lk_CT_222 ⟨by decide, by decide⟩ ⟨by decide, by decide⟩ (Nat.le_of_ble_eq_true rfl) ?_
                refine Z_iinc (v := nI (j + 1)) hX d_CT_check_154 rfl (by rw [nI_succ]; rfl) (by decide) rfl ?_
                refine Z_goto (tgt := 92) hX d_CT_check_157 rfl ?_
                refine Z_loc ?_ (Z_mem ?_ ?_ (ih2 (j + 1) (by omega)))
                · rfl
                · exact c_e_y1 h104 h115
                · exact c_e_y2 h104 h115
        refine Z_loc ?_ (Z_mem ?_ ?_ (hL92 16 0 (by omega)))
        · rfl
        · exact c_ent1
        · exact c_ent2
      · refine Z_aload_n (i := 0) hX d_CT_check_40 rfl rfl ?_
        refine Z_getR (k0 := 1) hX d_CT_check_41 rfl rfl u_CT (by decide) lk_CT_21 rfl ?_
        refine Z_iload_n (i := 2) hX d_CT_check_44 rfl rfl ?_
        refine Z_cVi1 hX d_CT_check_45 (c_Fl_isLinkWhole (Or.inl rfl)) m_Fl_isLinkWhole rfl rfl lk_CT_141 ⟨by decide, by decide⟩ ⟨by decide, by decide⟩ (Nat.le_of_ble_eq_true rfl) ?_
        refine Z_ifeqB (tgt := 84) hX d_CT_check_48 rfl (fun h48 => ?_) (fun h48 => ?_)
        · refine Z_iinc (v := nI (i + 1)) hX d_CT_check_84 rfl (by rw [nI_succ]; rfl) (by decide) rfl ?_
          refine Z_goto (tgt := 20) hX d_CT_check_87 rfl ?_
          refine Z_loc ?_ (Z_mem ?_ ?_ (ih (i + 1) (by omega)))
          · rfl
          · rw [c_l_n h37 h48]
          · rw [c_l_n h37 h48]
        · refine Z_aload_n (i := 0) hX d_CT_check_51 rfl rfl ?_
          refine Z_getR (k0 := 2) hX d_CT_check_52 rfl rfl u_CT (by decide) lk_CT_25 rfl ?_
          refine Z_aload_n (i := 0) hX d_CT_check_55 rfl rfl ?_
          refine Z_getR (k0 := 1) hX d_CT_check_56 rfl rfl u_CT (by decide) lk_CT_21 rfl ?_
          refine Z_cVv1 hX d_CT_check_59 (c_Fl_copy (Or.inr rfl) (Or.inl rfl)) m_Fl_copy rfl rfl lk_CT_216 ⟨by decide, by decide⟩ ⟨by decide, by decide⟩ (Nat.le_of_ble_eq_true rfl) ?_
          refine Z_aload_n (i := 0) hX d_CT_check_62 rfl rfl ?_
          refine Z_getR (k0 := 2) hX d_CT_check_63 rfl rfl u_CT (by decide) lk_CT_25 rfl ?_
          refine Z_iload_n (i := 2) hX d_CT_check_66 rfl rfl ?_
          refine Z_iconst (v := 1) hX d_CT_check_67 rfl ?_
          refine Z_cVv2 hX d_CT_check_68 (c_Fl_setLinkFailed (Or.inr rfl)) m_Fl_setLinkFailed rfl rfl lk_CT_144 ⟨by decide, by decide⟩ ⟨by decide, by decide⟩ (Nat.le_of_ble_eq_true rfl) ?_
          refine Z_aload_n (i := 0) hX d_CT_check_71 rfl rfl ?_
          refine Z_getR (k0 := 2) hX d_CT_check_72 rfl rfl u_CT (by decide) lk_CT_25 rfl ?_
          refine Z_iload_n (i := 1) hX d_CT_check_75 rfl rfl ?_
          refine Z_cVv1 hX d_CT_check_76 (c_Fl_passRounds (Or.inr rfl) hrn2 (okP_of (fun c hc => (fr_sl (by omega)).trans (fr_cp (by omega))) hPi)) m_Fl_passRounds rfl rfl lk_CT_219 ⟨by decide, by decide⟩ ⟨by decide, by decide⟩ (Nat.le_of_ble_eq_true rfl) ?_
          refine Z_aload_n (i := 0) hX d_CT_check_79 rfl rfl ?_
          refine Z_iload_n (i := 2) hX d_CT_check_80 rfl rfl ?_
          refine Z_cVv1 hX d_CT_check_81 (c_CT_findStarved (m := m) (okE_of ((fr_rs (by omega) _ _ _ _).trans ((fr_sl (by omega)).trans (fr_cp (by omega)))) ((fr_rs (by omega) _ _ _ _).trans ((fr_sl (by omega)).trans (fr_cp (by omega)))) ((fr_rs (by omega) _ _ _ _).trans ((fr_sl (by omega)).trans (fr_cp (by omega)))) hEi) (okN_of ((fr_rs (by omega) _ _ _ _).trans ((fr_sl (by omega)).trans (fr_cp (by omega)))) hNi)) m_CT_findStarved rfl rfl lk_CT_222 ⟨by decide, by decide⟩ ⟨by decide, by decide⟩ (Nat.le_of_ble_eq_true rfl) ?_
          refine Z_iinc (v := nI (i + 1)) hX d_CT_check_84 rfl (by rw [nI_succ]; rfl) (by decide) rfl ?_
          refine Z_goto (tgt := 20) hX d_CT_check_87 rfl ?_
          refine Z_loc ?_ (Z_mem ?_ ?_ (ih (i + 1) (by omega)))
          · rfl
          · exact c_l_y1 h37 h48
          · exact c_l_y2 h37 h48
  refine Z_loc ?_ (Z_mem ?_ ?_ (hL20 m 0 (by omega)))
  · rfl
  · rfl
  · rfl
