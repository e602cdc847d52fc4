/-! the object itself: loop, check -/
def c_lo (I : zI) : Nat → Bool
  | 0 => false
  | i + 1 => c_lo I i || decide (f_fo I 16 16 i = -2)
theorem c_lo_le {I : zI} {j : Nat} (h : c_lo I j = true) : ∀ n, c_lo I (j + n) = true
  | 0 => h
  | n + 1 => by
    show (c_lo I (j + n) || _) = true
    rw [c_lo_le h n]
    rfl
def s_1 (I : zI) (f : Int32) (i : Nat) : zI :=
  let I1 := zup I 62 (I 0 7).toNatClampNeg f
  let I2 := zup I1 63 (I1 0 7).toNatClampNeg (nI i)
  zup I2 0 7 (I2 0 7 + 1)
def s_f (m : Nat) (f : Int32) (I : zI) : Nat → zI
  | 0 => I
  | i + 1 => if 100 ≤ s_f m f I i 0 7 then s_f m f I i else if f_st (s_f m f I i) 35 m i = true then s_1 (s_f m f I i) f i else s_f m f I i
theorem fr_s1 {I : zI} {f : Int32} {i c : Nat} (h : c ≠ 0 ∧ c ≠ 62 ∧ c ≠ 63) : s_1 I f i c = I c := by
  unfold s_1
  try dsimp only
  rw [zup_ne h.1, zup_ne h.2.2, zup_ne h.2.1]
theorem fr_sf {m : Nat} {f : Int32} {I : zI} {c : Nat} (h : c ≠ 0 ∧ c ≠ 62 ∧ c ≠ 63) : ∀ i, s_f m f I i c = I c
  | 0 => rfl
  | i + 1 => by
    unfold s_f
    split
    · exact fr_sf h i
    · split
      · rw [fr_s1 h, fr_sf h i]
      · exact fr_sf h i
theorem s_f_stop {m : Nat} {f : Int32} {I : zI} {i : Nat} (h : 100 ≤ s_f m f I i 0 7) : ∀ n, s_f m f I (i + n) = s_f m f I i
  | 0 => rfl
  | n + 1 => by
    have e := s_f_stop h n
    show s_f m f I ((i + n) + 1) = _
    rw [s_f, e, if_pos h]
/-- how many findings there are -/
def okN (I : zI) : Prop := ∃ c, c ≤ 100 ∧ I 0 7 = nI c
theorem okN_lt {I : zI} (h : okN I) (h2 : ¬ 100 ≤ I 0 7) : ∃ c, c < 100 ∧ I 0 7 = nI c := by
  obtain ⟨c, hc, e⟩ := h
  refine ⟨c, ?_, e⟩
  by_cases h3 : c < 100
  · exact h3
  · exfalso
    apply h2
    rw [e]
    exact nI_le (a := 100) (by omega) (by omega)
theorem okN_s1 {I : zI} {f : Int32} {i c : Nat} (hc : c < 100) (e : I 0 7 = nI c) : s_1 I f i = zup (zup (zup I 62 c f) 63 c (nI i)) 0 7 (nI (c + 1)) := by
  unfold s_1
  try dsimp only
  have e2 : zup I 62 (I 0 7).toNatClampNeg f 0 7 = nI c := by rw [zup_ne (by decide)]; exact e
  have e1 : (I 0 7).toNatClampNeg = c := by rw [e, nI_clamp (by omega)]
  have e3 : zup (zup I 62 c f) 63 c (nI i) 0 7 = nI c := by rw [zup_ne (by decide), zup_ne (by decide)]; exact e
  rw [e2, e1, nI_clamp (by omega), e3, nI_1]
theorem okN_sf {m : Nat} {f : Int32} {I : zI} (h : okN I) : ∀ i, okN (s_f m f I i)
  | 0 => h
  | i + 1 => by
    have h1 := okN_sf (m := m) (f := f) h i
    unfold s_f
    split
    · exact h1
    · rename_i h2
      obtain ⟨c, hc, e⟩ := okN_lt h1 h2
      split
      · rw [okN_s1 hc e]
        exact ⟨c + 1, by omega, by rw [zup_same, pk_us]⟩
      · exact h1
theorem okE_of {I I' : zI} {m : Nat} (h1 : I' 1 = I 1) (h10 : I' 10 = I 10) (h15 : I' 15 = I 15) (h : okE I m) : okE I' m := by
  unfold okE fe pe at *
  rw [h1, h10, h15]
  exact h
def c_try (m rn : Nat) (f : Int32) (I : zI) (J : zJ) : zI × zJ := (s_f m f (f_rs 35 rn 0 I J).1 16, (f_rs 35 rn 0 I J).2)
def c_l (m rn : Nat) (I : zI) (J : zJ) : Nat → zI × zJ
  | 0 => (I, J)
  | j + 1 => if 100 ≤ (c_l m rn I J j).1 0 7 then c_l m rn I J j else if f_lw (c_l m rn I J j).1 16 (nI j) = true then c_try m rn (nI j) (f_sl (f_cp (c_l m rn I J j).1 16 35) 35 (nI j) 1) (f_cpJ (c_l m rn I J j).2 16 35) else c_l m rn I J j
def c_e (m rn : Nat) (I : zI) (J : zJ) : Nat → zI × zJ
  | 0 => (I, J)
  | j + 1 => if 100 ≤ (c_e m rn I J j).1 0 7 then c_e m rn I J j else if f_wh (c_e m rn I J j).1 16 j = true then c_try m rn (100 + nI j) (f_se (f_cp (c_e m rn I J j).1 16 35) 35 j 1) (f_cpJ (c_e m rn I J j).2 16 35) else c_e m rn I J j
set_option maxRecDepth 100000 in
set_option maxHeartbeats 4000000 in
theorem c_Ck_start {la : Launch} {G : zG} {I : zI} {J : zJ} {e : Nat} (he : e < 16) {off : Int32} : zCv la G y_Ck_start (Cond.code y_Ck_start prog_3_method_2_code 3 none :: TBL) (zR 1) [.ref (zad G 54), .int (nI e), .int off] I J (zup (zup I 55 e off) 56 e off) (J) := by
  refine zCv_of (by decide) (by simp [lg_sl, Value.category]) (fun X hla hX hR => ?_)
  subst hla
  refine Z_loc (l' := [(0, .ref (zad G 54)), (1, .int (nI e)), (2, .int off)]) (by simp [lv_args, Value.category, List.lookup]) ?_
  refine Z_aload_n (i := 0) hX d_Ck_start_0 rfl rfl ?_
  refine Z_getR (k0 := 0) hX d_Ck_start_1 rfl rfl u_Ck (by decide) lk_Ck_9 rfl ?_
  refine Z_iload_n (i := 1) hX d_Ck_start_4 rfl rfl ?_
  refine Z_iload_n (i := 2) hX d_Ck_start_5 rfl rfl ?_
  refine Z_iast hX d_Ck_start_6 rfl rfl (by omega) (by decide) ?_
  refine Z_aload_n (i := 0) hX d_Ck_start_7 rfl rfl ?_
  refine Z_getR (k0 := 1) hX d_Ck_start_8 rfl rfl u_Ck (by decide) lk_Ck_15 rfl ?_
  refine Z_iload_n (i := 1) hX d_Ck_start_11 rfl rfl ?_
  refine Z_iload_n (i := 2) hX d_Ck_start_12 rfl rfl ?_
  refine Z_iast hX d_Ck_start_13 rfl rfl (by omega) (by decide) ?_
  exact Z_mem (by rfl) (by rfl) (hR _ _ d_Ck_start_14)

set_option maxRecDepth 100000 in
set_option maxHeartbeats 4000000 in
theorem c_Ck_offsetAfter {la : Launch} {G : zG} {I : zI} {J : zJ} {e : Nat} (he : e < 16) (hL : okL I) (hK : okK I 16 e) : zCi la G y_Ck_offsetAfter (Cond.code y_Ck_offsetAfter prog_3_method_4_code 6 (some .int) :: TBL) (zR 2) [.ref (zad G 54), .int (nI e), .ref (zad G 1), .ref (zad G 16)] I J (k_off I e) (I) (J) := by
  refine zCi_of (by decide) (by simp [lg_sl, Value.category]) (rfl) (fun X hla hX hR => ?_)
  subst hla
  refine Z_loc (l' := [(0, .ref (zad G 54)), (1, .int (nI e)), (2, .ref (zad G 1)), (3, .ref (zad G 16))]) (by simp [lv_args, Value.category, List.lookup]) ?_
  refine Z_aload_n (i := 3) hX d_Ck_offsetAfter_0 rfl rfl ?_
  refine Z_iload_n (i := 1) hX d_Ck_offsetAfter_1 rfl rfl ?_
  refine Z_cVi1 hX d_Ck_offsetAfter_2 (c_Fl_isLocked (Or.inl rfl) (by omega)) m_Fl_isLocked rfl rfl lk_Ck_35 ⟨by decide, by decide⟩ ⟨by decide, by decide⟩ (Nat.le_of_ble_eq_true rfl) ?_
  refine Z_ifeqB (tgt := 69) hX d_Ck_offsetAfter_5 rfl (fun h5 => ?_) (fun h5 => ?_)
  · refine Z_aload_n (i := 3) hX d_Ck_offsetAfter_69 rfl rfl ?_
    refine Z_getR (k0 := 6) hX d_Ck_offsetAfter_70 rfl rfl u_Fl (by decide) lk_Ck_60 rfl ?_
    refine Z_iload_n (i := 1) hX d_Ck_offsetAfter_73 rfl rfl ?_
    refine Z_iald hX d_Ck_offsetAfter_74 rfl rfl (by omega) (by decide) ?_
    refine Z_iconst (v := 2) hX d_Ck_offsetAfter_75 rfl ?_
    refine Z_icne (tgt := 95) hX d_Ck_offsetAfter_76 rfl (fun h76 => ?_) (fun h76 => ?_)
    · refine Z_aload_n (i := 2) hX d_Ck_offsetAfter_95 rfl rfl ?_
      refine Z_getR (k0 := 2) hX d_Ck_offsetAfter_96 rfl rfl u_Pl (by decide) lk_Ck_66 rfl ?_
      refine Z_iload_n (i := 1) hX d_Ck_offsetAfter_99 rfl rfl ?_
      refine Z_iald hX d_Ck_offsetAfter_100 rfl rfl (by omega) (by decide) ?_
      exact Z_ri (hR _ _ d_Ck_offsetAfter_101) (by exact (k_off_f h5 h76).symm) rfl rfl
    · refine Z_aload_n (i := 0) hX d_Ck_offsetAfter_79 rfl rfl ?_
      refine Z_getR (k0 := 0) hX d_Ck_offsetAfter_80 rfl rfl u_Ck (by decide) lk_Ck_9 rfl ?_
      refine Z_iload_n (i := 1) hX d_Ck_offsetAfter_83 rfl rfl ?_
      refine Z_iald hX d_Ck_offsetAfter_84 rfl rfl (by omega) (by decide) ?_
      refine Z_aload_n (i := 2) hX d_Ck_offsetAfter_85 rfl rfl ?_
      refine Z_getR (k0 := 3) hX d_Ck_offsetAfter_86 rfl rfl u_Pl (by decide) lk_Ck_63 rfl ?_
      refine Z_iload_n (i := 1) hX d_Ck_offsetAfter_89 rfl rfl ?_
      refine Z_iald hX d_Ck_offsetAfter_90 rfl rfl (by omega) (by decide) ?_
      refine Z_iadd hX d_Ck_offsetAfter_91 ?_
      refine Z_goto (tgt := 101) hX d_Ck_offsetAfter_92 rfl ?_
      exact Z_ri (hR _ _ d_Ck_offsetAfter_101) (by exact (k_off_h h5 h76).symm) rfl rfl
  · obtain ⟨q, hk, hk2⟩ := hK h5
    refine Z_iload_n (i := 1) hX d_Ck_offsetAfter_8 rfl rfl ?_
    refine Z_aload_n (i := 3) hX d_Ck_offsetAfter_9 rfl rfl ?_
    refine Z_getR (k0 := 7) hX d_Ck_offsetAfter_10 rfl rfl u_Fl (by decide) lk_Ck_38 rfl ?_
    refine Z_iload_n (i := 1) hX d_Ck_offsetAfter_13 rfl rfl ?_
    refine Z_iald hX d_Ck_offsetAfter_14 rfl rfl (by omega) (by decide) ?_
    refine Z_top hk2 ?_
    refine Z_cNi2 hX d_Ck_offsetAfter_15 c_CT_slotOf m_CT_slotOf ne_Ck_41 ⟨by decide, by decide⟩ ⟨by decide, by decide⟩ (Nat.le_of_ble_eq_true rfl) ?_
    refine Z_istore hX d_Ck_offsetAfter_18 (by decide) rfl ?_
    refine Z_cut (pc' := 36) (P := fun v => v = zB (decide (¬ I 9 (4 * e + q) = -1))) ?_ (fun hJ36 => ?_)
    · intro v hv36
      subst hv36
      refine Z_istore hX d_Ck_offsetAfter_36 (by decide) rfl ?_
      refine Z_iload hX d_Ck_offsetAfter_38 rfl ?_
      refine Z_ifeqB (tgt := 61) hX d_Ck_offsetAfter_40 rfl (fun h40 => ?_) (fun h40 => ?_)
      · have h28 : I 9 (4 * e + q) = -1 := by simpa using h40
        refine Z_aload_n (i := 2) hX d_Ck_offsetAfter_61 rfl rfl ?_
        refine Z_getR (k0 := 10) hX d_Ck_offsetAfter_62 rfl rfl u_Pl (by decide) lk_Ck_57 rfl ?_
        refine Z_iload hX d_Ck_offsetAfter_65 rfl ?_
        refine Z_iald hX d_Ck_offsetAfter_67 rfl rfl (by omega) (by decide) ?_
        exact Z_ri (hR _ _ d_Ck_offsetAfter_68) (by exact (k_off_s h5 hk hk2 h28).symm) rfl rfl
      · have h28 : ¬ I 9 (4 * e + q) = -1 := by simpa using h40
        have hq := okL_pe hL (by omega) h28
        refine Z_aload_n (i := 0) hX d_Ck_offsetAfter_43 rfl rfl ?_
        refine Z_getR (k0 := 1) hX d_Ck_offsetAfter_44 rfl rfl u_Ck (by decide) lk_Ck_15 rfl ?_
        refine Z_aload_n (i := 2) hX d_Ck_offsetAfter_47 rfl rfl ?_
        refine Z_getR (k0 := 8) hX d_Ck_offsetAfter_48 rfl rfl u_Pl (by decide) lk_Ck_50 rfl ?_
        refine Z_iload hX d_Ck_offsetAfter_51 rfl ?_
        refine Z_iald hX d_Ck_offsetAfter_53 rfl rfl (by omega) (by decide) ?_
        refine Z_top hq.1 ?_
        refine Z_cNi1 hX d_Ck_offsetAfter_54 (c_CT_elementOf (by omega)) m_CT_elementOf ne_Ck_53 ⟨by decide, by decide⟩ ⟨by decide, by decide⟩ (Nat.le_of_ble_eq_true rfl) ?_
        refine Z_iald hX d_Ck_offsetAfter_57 rfl rfl (by omega) (by decide) ?_
        refine Z_goto (tgt := 68) hX d_Ck_offsetAfter_58 rfl ?_
        exact Z_ri (hR _ _ d_Ck_offsetAfter_68) (by exact (k_off_x h5 hk hk2 h28).symm) rfl rfl
    · refine Z_aload_n (i := 2) hX d_Ck_offsetAfter_20 rfl rfl ?_
      refine Z_getR (k0 := 7) hX d_Ck_offsetAfter_21 rfl rfl u_Pl (by decide) lk_Ck_45 rfl ?_
      refine Z_iload hX d_Ck_offsetAfter_24 rfl ?_
      refine Z_iald hX d_Ck_offsetAfter_26 rfl rfl (by omega) (by decide) ?_
      refine Z_iconst (v := (-1)) hX d_Ck_offsetAfter_27 rfl ?_
      refine Z_iceq (tgt := 35) hX d_Ck_offsetAfter_28 rfl (fun h28 => ?_) (fun h28 => ?_)
      · refine Z_iconst (v := 0) hX d_Ck_offsetAfter_35 rfl ?_
        exact hJ36 _ (by simp [zB, *])
      · refine Z_iconst (v := 1) hX d_Ck_offsetAfter_31 rfl ?_
        refine Z_goto (tgt := 36) hX d_Ck_offsetAfter_32 rfl ?_
        exact hJ36 _ (by simp [zB, *])

set_option maxRecDepth 100000 in
set_option maxHeartbeats 4000000 in
theorem c_Ck_passRound {la : Launch} {G : zG} {I : zI} {J : zJ} (hL : okL I) (hK : ∀ e, e < 16 → okK I 16 e) : zCv la G y_Ck_passRound (Cond.code y_Ck_passRound prog_3_method_3_code 4 none :: TBL) (zR 3) [.ref (zad G 54), .ref (zad G 1), .ref (zad G 16)] I J (k_ro I) (k_roJ I J) := by
  refine zCv_of (by decide) (by simp [lg_sl, Value.category]) (fun X hla hX hR => ?_)
  subst hla
  refine Z_loc (l' := [(0, .ref (zad G 54)), (1, .ref (zad G 1)), (2, .ref (zad G 16))]) (by simp [lv_args, Value.category, List.lookup]) ?_
  refine Z_iconst (v := nI 0) hX d_Ck_passRound_0 rfl ?_
  refine Z_istore_n (i := 3) hX d_Ck_passRound_1 rfl (by decide) rfl ?_
  have hL2 : ∀ k i : Nat, k + i = 16 → Z X G 4 0 0 2 [(3, .int (nI i)), (2, .ref (zad G 16)), (1, .ref (zad G 1)), (0, .ref (zad G 54))] [] (k_n I i) (J) := by
    intro k
    induction k with
    | zero =>
      intro i hi
      obtain rfl : i = 16 := by omega
      refine Z_iload_n (i := 3) hX d_Ck_passRound_2 rfl rfl ?_
      refine Z_bipush (v := 16) hX d_Ck_passRound_3 rfl ?_
      refine Z_icge (tgt := 44) hX d_Ck_passRound_5 rfl (fun h5 => ?_) (fun h => absurd (by decide) h)
      refine Z_iconst (v := nI 0) hX d_Ck_passRound_44 rfl ?_
      refine Z_istore_n (i := 3) hX d_Ck_passRound_45 rfl (by decide) rfl ?_
      have hL46 : ∀ k i : Nat, k + i = 16 → Z X G 4 0 0 46 [(3, .int (nI i)), (2, .ref (zad G 16)), (1, .ref (zad G 1)), (0, .ref (zad G 54))] [] (k_s (k_n I 16) i) (k_sJ (k_n I 16) J i) := by
        intro k
        induction k with
        | zero =>
          intro i hi
          obtain rfl : i = 16 := by omega
          refine Z_iload_n (i := 3) hX d_Ck_passRound_46 rfl rfl ?_
          refine Z_bipush (v := 16) hX d_Ck_passRound_47 rfl ?_
          refine Z_icge (tgt := 106) hX d_Ck_passRound_49 rfl (fun h49 => ?_) (fun h => absurd (by decide) h)
          exact Z_mem (by rfl) (by rfl) (hR _ _ d_Ck_passRound_106)
        | succ k ih =>
          intro i hi
          have hi2 : i < 16 := by omega
          refine Z_iload_n (i := 3) hX d_Ck_passRound_46 rfl rfl ?_
          refine Z_bipush (v := 16) hX d_Ck_passRound_47 rfl ?_
          refine Z_icge (tgt := 106) hX d_Ck_passRound_49 rfl (fun h => absurd h (nI_ge hi2 (by decide))) (fun h49 => ?_)
          refine Z_aload_n (i := 0) hX d_Ck_passRound_52 rfl rfl ?_
          refine Z_getR (k0 := 1) hX d_Ck_passRound_53 rfl rfl u_Ck (by decide) lk_Ck_15 rfl ?_
          refine Z_iload_n (i := 3) hX d_Ck_passRound_56 rfl rfl ?_
          refine Z_aload_n (i := 0) hX d_Ck_passRound_57 rfl rfl ?_
          refine Z_getR (k0 := 0) hX d_Ck_passRound_58 rfl rfl u_Ck (by decide) lk_Ck_9 rfl ?_
          refine Z_iload_n (i := 3) hX d_Ck_passRound_61 rfl rfl ?_
          refine Z_iald hX d_Ck_passRound_62 rfl rfl (by omega) (by decide) ?_
          refine Z_iast hX d_Ck_passRound_63 rfl rfl (by omega) (by decide) ?_
          refine Z_aload_n (i := 0) hX d_Ck_passRound_64 rfl rfl ?_
          refine Z_getR (k0 := 0) hX d_Ck_passRound_65 rfl rfl u_Ck (by decide) lk_Ck_9 rfl ?_
          refine Z_iload_n (i := 3) hX d_Ck_passRound_68 rfl rfl ?_
          refine Z_aload_n (i := 0) hX d_Ck_passRound_69 rfl rfl ?_
          refine Z_getR (k0 := 2) hX d_Ck_passRound_70 rfl rfl u_Ck (by decide) lk_Ck_18 rfl ?_
          refine Z_iload_n (i := 3) hX d_Ck_passRound_73 rfl rfl ?_
          refine Z_iald hX d_Ck_passRound_74 rfl rfl (by omega) (by decide) ?_
          refine Z_iast hX d_Ck_passRound_75 rfl rfl (by omega) (by decide) ?_
          refine Z_aload_n (i := 2) hX d_Ck_passRound_76 rfl rfl ?_
          refine Z_iload_n (i := 3) hX d_Ck_passRound_77 rfl rfl ?_
          refine Z_cVi1 hX d_Ck_passRound_78 (c_Fl_isWhole (Or.inl rfl) (by omega)) m_Fl_isWhole rfl rfl lk_Ck_25 ⟨by decide, by decide⟩ ⟨by decide, by decide⟩ (Nat.le_of_ble_eq_true rfl) ?_
          refine Z_ifeqB (tgt := 100) hX d_Ck_passRound_81 rfl (fun h81 => ?_) (fun h81 => ?_)
          · refine Z_iinc (v := nI (i + 1)) hX d_Ck_passRound_100 rfl (by rw [nI_succ]; rfl) (by decide) rfl ?_
            refine Z_goto (tgt := 46) hX d_Ck_passRound_103 rfl ?_
            refine Z_loc ?_ (Z_mem ?_ ?_ (ih (i + 1) (by omega)))
            · rfl
            · rfl
            · exact (if_neg (fun q => absurd (h81.symm.trans q) (by decide))).symm
          · refine Z_aload_n (i := 0) hX d_Ck_passRound_84 rfl rfl ?_
            refine Z_getR (k0 := 3) hX d_Ck_passRound_85 rfl rfl u_Ck (by decide) lk_Ck_21 rfl ?_
            refine Z_iload_n (i := 3) hX d_Ck_passRound_88 rfl rfl ?_
            refine Z_dup2 hX d_Ck_passRound_89 rfl rfl ?_
            refine Z_lald hX d_Ck_passRound_90 rfl rfl (by omega) (by decide) ?_
            refine Z_aload_n (i := 0) hX d_Ck_passRound_91 rfl rfl ?_
            refine Z_getR (k0 := 0) hX d_Ck_passRound_92 rfl rfl u_Ck (by decide) lk_Ck_9 rfl ?_
            refine Z_iload_n (i := 3) hX d_Ck_passRound_95 rfl rfl ?_
            refine Z_iald hX d_Ck_passRound_96 rfl rfl (by omega) (by decide) ?_
            refine Z_i2l hX d_Ck_passRound_97 ?_
            refine Z_ladd hX d_Ck_passRound_98 ?_
            refine Z_last hX d_Ck_passRound_99 rfl rfl (by omega) (by decide) ?_
            refine Z_iinc (v := nI (i + 1)) hX d_Ck_passRound_100 rfl (by rw [nI_succ]; rfl) (by decide) rfl ?_
            refine Z_goto (tgt := 46) hX d_Ck_passRound_103 rfl ?_
            refine Z_loc ?_ (Z_mem ?_ ?_ (ih (i + 1) (by omega)))
            · rfl
            · rfl
            · exact (if_pos h81).symm
      refine Z_loc ?_ (Z_mem ?_ ?_ (hL46 16 0 (by omega)))
      · rfl
      · rfl
      · rfl
    | succ k ih =>
      intro i hi
      have hi2 : i < 16 := by omega
      refine Z_iload_n (i := 3) hX d_Ck_passRound_2 rfl rfl ?_
      refine Z_bipush (v := 16) hX d_Ck_passRound_3 rfl ?_
      refine Z_icge (tgt := 44) hX d_Ck_passRound_5 rfl (fun h => absurd h (nI_ge hi2 (by decide))) (fun h5 => ?_)
      refine Z_aload_n (i := 0) hX d_Ck_passRound_8 rfl rfl ?_
      refine Z_getR (k0 := 2) hX d_Ck_passRound_9 rfl rfl u_Ck (by decide) lk_Ck_18 rfl ?_
      refine Z_iload_n (i := 3) hX d_Ck_passRound_12 rfl rfl ?_
      refine Z_cut (pc' := 37) (P := fun v => v = (if f_wh (k_n I i) 16 i = true then k_off (k_n I i) i else k_n I i 55 i)) ?_ (fun hJ37 => ?_)
      · intro v hv37
        subst hv37
        refine Z_iast hX d_Ck_passRound_37 rfl rfl (by omega) (by decide) ?_
        refine Z_iinc (v := nI (i + 1)) hX d_Ck_passRound_38 rfl (by rw [nI_succ]; rfl) (by decide) rfl ?_
        refine Z_goto (tgt := 2) hX d_Ck_passRound_41 rfl ?_
        refine Z_loc ?_ (Z_mem ?_ ?_ (ih (i + 1) (by omega)))
        · rfl
        · rfl
        · rfl
      · refine Z_aload_n (i := 2) hX d_Ck_passRound_13 rfl rfl ?_
        refine Z_iload_n (i := 3) hX d_Ck_passRound_14 rfl rfl ?_
        refine Z_cVi1 hX d_Ck_passRound_15 (c_Fl_isWhole (Or.inl rfl) (by omega)) m_Fl_isWhole rfl rfl lk_Ck_25 ⟨by decide, by decide⟩ ⟨by decide, by decide⟩ (Nat.le_of_ble_eq_true rfl) ?_
        refine Z_ifeqB (tgt := 31) hX d_Ck_passRound_18 rfl (fun h18 => ?_) (fun h18 => ?_)
        · refine Z_aload_n (i := 0) hX d_Ck_passRound_31 rfl rfl ?_
          refine Z_getR (k0 := 0) hX d_Ck_passRound_32 rfl rfl u_Ck (by decide) lk_Ck_9 rfl ?_
          refine Z_iload_n (i := 3) hX d_Ck_passRound_35 rfl rfl ?_
          refine Z_iald hX d_Ck_passRound_36 rfl rfl (by omega) (by decide) ?_
          exact hJ37 _ (by first | exact (if_pos h18).symm | exact (if_neg (by rw [h18]; decide)).symm)
        · refine Z_aload_n (i := 0) hX d_Ck_passRound_21 rfl rfl ?_
          refine Z_iload_n (i := 3) hX d_Ck_passRound_22 rfl rfl ?_
          refine Z_aload_n (i := 1) hX d_Ck_passRound_23 rfl rfl ?_
          refine Z_aload_n (i := 2) hX d_Ck_passRound_24 rfl rfl ?_
          refine Z_cVi3 hX d_Ck_passRound_25 (c_Ck_offsetAfter (by omega) (okL_of (fr_kn (by decide) i) (fr_kn (by decide) i) hL) (okK_of (fr_kn (by decide) i) (fr_kn (by decide) i) (hK i hi2))) m_Ck_offsetAfter rfl rfl lk_Ck_31 ⟨by decide, by decide⟩ ⟨by decide, by decide⟩ (Nat.le_of_ble_eq_true rfl) ?_
          refine Z_goto (tgt := 37) hX d_Ck_passRound_28 rfl ?_
          exact hJ37 _ (by first | exact (if_pos h18).symm | exact (if_neg (by rw [h18]; decide)).symm)
  refine Z_loc ?_ (Z_mem ?_ ?_ (hL2 16 0 (by omega)))
  · rfl
  · rfl
  · rfl

set_option maxRecDepth 100000 in
set_option maxHeartbeats 4000000 in
theorem c_Ca_passRound {la : Launch} {G : zG} {I : zI} {J : zJ}  : zCv la G y_Ca_passRound (Cond.code y_Ca_passRound prog_2_method_2_code 4 none :: TBL) (zR 2) [.ref (zad G 59), .ref (zad G 16)] I J (l_ro I) (J) := by
  refine zCv_of (by decide) (by simp [lg_sl, Value.category]) (fun X hla hX hR => ?_)
  subst hla
  refine Z_loc (l' := [(0, .ref (zad G 59)), (1, .ref (zad G 16))]) (by simp [lv_args, Value.category, List.lookup]) ?_
  refine Z_iconst (v := 1) hX d_Ca_passRound_0 rfl ?_
  refine Z_istore_n (i := 2) hX d_Ca_passRound_1 rfl (by decide) rfl ?_
  refine Z_iconst (v := nI 0) hX d_Ca_passRound_2 rfl ?_
  refine Z_istore_n (i := 3) hX d_Ca_passRound_3 rfl (by decide) rfl ?_
  have hL4 : ∀ k i : Nat, k + i = 16 → Z X G 4 0 0 4 [(3, .int (nI i)), (2, .int (zB (l_s I i))), (1, .ref (zad G 16)), (0, .ref (zad G 59))] [] (l_m I i) (J) := by
    intro k
    induction k with
    | zero =>
      intro i hi
      obtain rfl : i = 16 := by omega
      refine Z_iload_n (i := 3) hX d_Ca_passRound_4 rfl rfl ?_
      refine Z_bipush (v := 16) hX d_Ca_passRound_5 rfl ?_
      refine Z_icge (tgt := 70) hX d_Ca_passRound_7 rfl (fun h7 => ?_) (fun h => absurd (by decide) h)
      refine Z_aload_n (i := 0) hX d_Ca_passRound_70 rfl rfl ?_
      refine Z_cut (pc' := 85) (P := fun v => v = (if l_s I 16 = true then l_m I 16 59 2 + 1 else 0)) ?_ (fun hJ85 => ?_)
      · intro v hv85
        subst hv85
        refine Z_putI (k0 := 2) hX d_Ca_passRound_85 rfl rfl u_Ca (by decide) lk_Ca_18 rfl t_Ca to_Ca n_Ca rfl rfl rfl rfl ?_
        exact Z_mem (by rfl) (by rfl) (hR _ _ d_Ca_passRound_88)
      · refine Z_iload_n (i := 2) hX d_Ca_passRound_71 rfl rfl ?_
        refine Z_ifeq (tgt := 84) hX d_Ca_passRound_72 rfl (fun h72 => ?_) (fun h72 => ?_)
        · refine Z_iconst (v := 0) hX d_Ca_passRound_84 rfl ?_
          exact hJ85 _ (by first | exact (if_pos (zB_ne h72)).symm | exact (if_neg (by rw [zB_eq h72]; decide)).symm)
        · refine Z_aload_n (i := 0) hX d_Ca_passRound_75 rfl rfl ?_
          refine Z_getI (k0 := 2) hX d_Ca_passRound_76 rfl rfl u_Ca (by decide) lk_Ca_18 rfl ?_
          refine Z_iconst (v := 1) hX d_Ca_passRound_79 rfl ?_
          refine Z_iadd hX d_Ca_passRound_80 ?_
          refine Z_goto (tgt := 85) hX d_Ca_passRound_81 rfl ?_
          exact hJ85 _ (by first | exact (if_pos (zB_ne h72)).symm | exact (if_neg (by rw [zB_eq h72]; decide)).symm)
    | succ k ih =>
      intro i hi
      have hi2 : i < 16 := by omega
      refine Z_iload_n (i := 3) hX d_Ca_passRound_4 rfl rfl ?_
      refine Z_bipush (v := 16) hX d_Ca_passRound_5 rfl ?_
      refine Z_icge (tgt := 70) hX d_Ca_passRound_7 rfl (fun h => absurd h (nI_ge hi2 (by decide))) (fun h7 => ?_)
      refine Z_aload_n (i := 0) hX d_Ca_passRound_10 rfl rfl ?_
      refine Z_getR (k0 := 0) hX d_Ca_passRound_11 rfl rfl u_Ca (by decide) lk_Ca_9 rfl ?_
      refine Z_iload_n (i := 3) hX d_Ca_passRound_14 rfl rfl ?_
      refine Z_iald hX d_Ca_passRound_15 rfl rfl (by omega) (by decide) ?_
      refine Z_aload_n (i := 1) hX d_Ca_passRound_16 rfl rfl ?_
      refine Z_iload_n (i := 3) hX d_Ca_passRound_17 rfl rfl ?_
      refine Z_cVi1 hX d_Ca_passRound_18 (c_Fl_shownCondition (Or.inl rfl) (by omega)) m_Fl_shownCondition rfl rfl lk_Ca_28 ⟨by decide, by decide⟩ ⟨by decide, by decide⟩ (Nat.le_of_ble_eq_true rfl) ?_
      refine Z_icne (tgt := 39) hX d_Ca_passRound_21 rfl (fun h21 => ?_) (fun h21 => ?_)
      · refine Z_iconst (v := 0) hX d_Ca_passRound_39 rfl ?_
        refine Z_istore_n (i := 2) hX d_Ca_passRound_40 rfl (by decide) rfl ?_
        refine Z_aload_n (i := 0) hX d_Ca_passRound_41 rfl rfl ?_
        refine Z_getR (k0 := 0) hX d_Ca_passRound_42 rfl rfl u_Ca (by decide) lk_Ca_9 rfl ?_
        refine Z_iload_n (i := 3) hX d_Ca_passRound_45 rfl rfl ?_
        refine Z_aload_n (i := 1) hX d_Ca_passRound_46 rfl rfl ?_
        refine Z_iload_n (i := 3) hX d_Ca_passRound_47 rfl rfl ?_
        refine Z_cVi1 hX d_Ca_passRound_48 (c_Fl_shownCondition (Or.inl rfl) (by omega)) m_Fl_shownCondition rfl rfl lk_Ca_28 ⟨by decide, by decide⟩ ⟨by decide, by decide⟩ (Nat.le_of_ble_eq_true rfl) ?_
        refine Z_iast hX d_Ca_passRound_51 rfl rfl (by omega) (by decide) ?_
        refine Z_aload_n (i := 0) hX d_Ca_passRound_52 rfl rfl ?_
        refine Z_getR (k0 := 1) hX d_Ca_passRound_53 rfl rfl u_Ca (by decide) lk_Ca_15 rfl ?_
        refine Z_iload_n (i := 3) hX d_Ca_passRound_56 rfl rfl ?_
        refine Z_aload_n (i := 1) hX d_Ca_passRound_57 rfl rfl ?_
        refine Z_getR (k0 := 7) hX d_Ca_passRound_58 rfl rfl u_Fl (by decide) lk_Ca_34 rfl ?_
        refine Z_iload_n (i := 3) hX d_Ca_passRound_61 rfl rfl ?_
        refine Z_iald hX d_Ca_passRound_62 rfl rfl (by omega) (by decide) ?_
        refine Z_iast hX d_Ca_passRound_63 rfl rfl (by omega) (by decide) ?_
        refine Z_iinc (v := nI (i + 1)) hX d_Ca_passRound_64 rfl (by rw [nI_succ]; rfl) (by decide) rfl ?_
        refine Z_goto (tgt := 4) hX d_Ca_passRound_67 rfl ?_
        refine Z_loc ?_ (Z_mem ?_ ?_ (ih (i + 1) (by omega)))
        · (rw [show zB (l_s I (i + 1)) = 0 from by simp [l_s, h21, zB]]; rfl)
        · rfl
        · rfl
      · refine Z_aload_n (i := 0) hX d_Ca_passRound_24 rfl rfl ?_
        refine Z_getR (k0 := 1) hX d_Ca_passRound_25 rfl rfl u_Ca (by decide) lk_Ca_15 rfl ?_
        refine Z_iload_n (i := 3) hX d_Ca_passRound_28 rfl rfl ?_
        refine Z_iald hX d_Ca_passRound_29 rfl rfl (by omega) (by decide) ?_
        refine Z_aload_n (i := 1) hX d_Ca_passRound_30 rfl rfl ?_
        refine Z_getR (k0 := 7) hX d_Ca_passRound_31 rfl rfl u_Fl (by decide) lk_Ca_34 rfl ?_
        refine Z_iload_n (i := 3) hX d_Ca_passRound_34 rfl rfl ?_
        refine Z_iald hX d_Ca_passRound_35 rfl rfl (by omega) (by decide) ?_
        refine Z_iceq (tgt := 41) hX d_Ca_passRound_36 rfl (fun h36 => ?_) (fun h36 => ?_)
        · refine Z_aload_n (i := 0) hX d_Ca_passRound_41 rfl rfl ?_
          refine Z_getR (k0 := 0) hX d_Ca_passRound_42 rfl rfl u_Ca (by decide) lk_Ca_9 rfl ?_
          refine Z_iload_n (i := 3) hX d_Ca_passRound_45 rfl rfl ?_
          refine Z_aload_n (i := 1) hX d_Ca_passRound_46 rfl rfl ?_
          refine Z_iload_n (i := 3) hX d_Ca_passRound_47 rfl rfl ?_
          refine Z_cVi1 hX d_Ca_passRound_48 (c_Fl_shownCondition (Or.inl rfl) (by omega)) m_Fl_shownCondition rfl rfl lk_Ca_28 ⟨by decide, by decide⟩ ⟨by decide, by decide⟩ (Nat.le_of_ble_eq_true rfl) ?_
          refine Z_iast hX d_Ca_passRound_51 rfl rfl (by omega) (by decide) ?_
          refine Z_aload_n (i := 0) hX d_Ca_passRound_52 rfl rfl ?_
          refine Z_getR (k0 := 1) hX d_Ca_passRound_53 rfl rfl u_Ca (by decide) lk_Ca_15 rfl ?_
          refine Z_iload_n (i := 3) hX d_Ca_passRound_56 rfl rfl ?_
          refine Z_aload_n (i := 1) hX d_Ca_passRound_57 rfl rfl ?_
          refine Z_getR (k0 := 7) hX d_Ca_passRound_58 rfl rfl u_Fl (by decide) lk_Ca_34 rfl ?_
          refine Z_iload_n (i := 3) hX d_Ca_passRound_61 rfl rfl ?_
          refine Z_iald hX d_Ca_passRound_62 rfl rfl (by omega) (by decide) ?_
          refine Z_iast hX d_Ca_passRound_63 rfl rfl (by omega) (by decide) ?_
          refine Z_iinc (v := nI (i + 1)) hX d_Ca_passRound_64 rfl (by rw [nI_succ]; rfl) (by decide) rfl ?_
          refine Z_goto (tgt := 4) hX d_Ca_passRound_67 rfl ?_
          refine Z_loc ?_ (Z_mem ?_ ?_ (ih (i + 1) (by omega)))
          · (rw [show l_s I (i + 1) = l_s I i from by simp [l_s, h21, h36]]; rfl)
          · rfl
          · rfl
        · refine Z_iconst (v := 0) hX d_Ca_passRound_39 rfl ?_
          refine Z_istore_n (i := 2) hX d_Ca_passRound_40 rfl (by decide) rfl ?_
          refine Z_aload_n (i := 0) hX d_Ca_passRound_41 rfl rfl ?_
          refine Z_getR (k0 := 0) hX d_Ca_passRound_42 rfl rfl u_Ca (by decide) lk_Ca_9 rfl ?_
          refine Z_iload_n (i := 3) hX d_Ca_passRound_45 rfl rfl ?_
          refine Z_aload_n (i := 1) hX d_Ca_passRound_46 rfl rfl ?_
          refine Z_iload_n (i := 3) hX d_Ca_passRound_47 rfl rfl ?_
          refine Z_cVi1 hX d_Ca_passRound_48 (c_Fl_shownCondition (Or.inl rfl) (by omega)) m_Fl_shownCondition rfl rfl lk_Ca_28 ⟨by decide, by decide⟩ ⟨by decide, by decide⟩ (Nat.le_of_ble_eq_true rfl) ?_
          refine Z_iast hX d_Ca_passRound_51 rfl rfl (by omega) (by decide) ?_
          refine Z_aload_n (i := 0) hX d_Ca_passRound_52 rfl rfl ?_
          refine Z_getR (k0 := 1) hX d_Ca_passRound_53 rfl rfl u_Ca (by decide) lk_Ca_15 rfl ?_
          refine Z_iload_n (i := 3) hX d_Ca_passRound_56 rfl rfl ?_
          refine Z_aload_n (i := 1) hX d_Ca_passRound_57 rfl rfl ?_
          refine Z_getR (k0 := 7) hX d_Ca_passRound_58 rfl rfl u_Fl (by decide) lk_Ca_34 rfl ?_
          refine Z_iload_n (i := 3) hX d_Ca_passRound_61 rfl rfl ?_
          refine Z_iald hX d_Ca_passRound_62 rfl rfl (by omega) (by decide) ?_
          refine Z_iast hX d_Ca_passRound_63 rfl rfl (by omega) (by decide) ?_
          refine Z_iinc (v := nI (i + 1)) hX d_Ca_passRound_64 rfl (by rw [nI_succ]; rfl) (by decide) rfl ?_
          refine Z_goto (tgt := 4) hX d_Ca_passRound_67 rfl ?_
          refine Z_loc ?_ (Z_mem ?_ ?_ (ih (i + 1) (by omega)))
          · (rw [show zB (l_s I (i + 1)) = 0 from by simp [l_s, h21, h36, zB]]; rfl)
          · rfl
          · rfl
  refine Z_loc ?_ (Z_mem ?_ ?_ (hL4 16 0 (by omega)))
  · rfl
  · rfl
  · rfl

set_option maxRecDepth 100000 in
set_option maxHeartbeats 4000000 in
theorem c_CT_settled {la : Launch} {G : zG} {I : zI} {J : zJ}  : zCi la G y_CT_settled (Cond.code y_CT_settled prog_1_method_14_code 1 (some .int) :: TBL) (zR 1) [.ref (zad G 0)] I J (I 59 2) (I) (J) := by
  refine zCi_of (by decide) (by simp [lg_sl, Value.category]) (rfl) (fun X hla hX hR => ?_)
  subst hla
  refine Z_loc (l' := [(0, .ref (zad G 0))]) (by simp [lv_args, Value.category, List.lookup]) ?_
  refine Z_aload_n (i := 0) hX d_CT_settled_0 rfl rfl ?_
  refine Z_getR (k0 := 4) hX d_CT_settled_1 rfl rfl u_CT (by decide) lk_CT_38 rfl ?_
  refine Z_getI (k0 := 2) hX d_CT_settled_4 rfl rfl u_Ca (by decide) lk_CT_173 rfl ?_
  exact Z_ri (hR _ _ d_CT_settled_7) (by rfl) rfl rfl

set_option maxRecDepth 100000 in
set_option maxHeartbeats 4000000 in
theorem c_CT_tracing {la : Launch} {G : zG} {I : zI} {J : zJ} {o t : Bool} (ht : I 1 15 = zB t) : zCi la G y_CT_tracing (Cond.code y_CT_tracing prog_1_method_7_code 3 (some .boolean) :: TBL) (zR 1) [.ref (zad G 0), .int (zB o)] I J (zB t) (zup I 1 15 (zB o)) (J) := by
  refine zCi_of (by decide) (by simp [lg_sl, Value.category]) (zB_nar _) (fun X hla hX hR => ?_)
  subst hla
  refine Z_loc (l' := [(0, .ref (zad G 0)), (1, .int (zB o))]) (by simp [lv_args, Value.category, List.lookup]) ?_
  refine Z_aload_n (i := 0) hX d_CT_tracing_0 rfl rfl ?_
  refine Z_getR (k0 := 0) hX d_CT_tracing_1 rfl rfl u_CT (by decide) lk_CT_12 rfl ?_
  refine Z_getI (k0 := 15) hX d_CT_tracing_4 rfl rfl u_Pl (by decide) lk_CT_125 rfl ?_
  refine Z_istore_n (i := 2) hX d_CT_tracing_7 rfl (by decide) rfl ?_
  refine Z_aload_n (i := 0) hX d_CT_tracing_8 rfl rfl ?_
  refine Z_getR (k0 := 0) hX d_CT_tracing_9 rfl rfl u_CT (by decide) lk_CT_12 rfl ?_
  refine Z_iload_n (i := 1) hX d_CT_tracing_12 rfl rfl ?_
  refine Z_putI (k0 := 15) hX d_CT_tracing_13 rfl rfl u_Pl (by decide) lk_CT_125 rfl t_Pl to_Pl n_Pl rfl rfl (zB_nar _) (zB_fit _) ?_
  refine Z_iload_n (i := 2) hX d_CT_tracing_16 rfl rfl ?_
  exact Z_ri (hR _ _ d_CT_tracing_17) (by exact ht) (by rfl) (by rfl)

set_option maxRecDepth 100000 in
set_option maxHeartbeats 4000000 in
theorem c_CT_loop {la : Launch} {G : zG} {I : zI} {J : zJ} (hL : okL I) (hK : ∀ e, e < 16 → okK I 16 e) : zCi la G y_CT_loop (Cond.code y_CT_loop prog_1_method_19_code 2 (some .boolean) :: TBL) (zR 3) [.ref (zad G 0)] I J (zB (c_lo I 16)) (I) (J) := by
  refine zCi_of (by decide) (by simp [lg_sl, Value.category]) (zB_nar _) (fun X hla hX hR => ?_)
  subst hla
  refine Z_loc (l' := [(0, .ref (zad G 0))]) (by simp [lv_args, Value.category, List.lookup]) ?_
  refine Z_iconst (v := nI 0) hX d_CT_loop_0 rfl ?_
  refine Z_istore_n (i := 1) hX d_CT_loop_1 rfl (by decide) rfl ?_
  have hL2 : ∀ k i : Nat, k + i = 16 → c_lo I i = false → Z X G 2 0 0 2 [(1, .int (nI i)), (0, .ref (zad G 0))] [] I J := by
    intro k
    induction k with
    | zero =>
      intro i hi hf
      obtain rfl : i = 16 := by omega
      refine Z_iload_n (i := 1) hX d_CT_loop_2 rfl rfl ?_
      refine Z_bipush (v := 16) hX d_CT_loop_3 rfl ?_
      refine Z_icge (tgt := 29) hX d_CT_loop_5 rfl (fun h5 => ?_) (fun h => absurd (by decide) h)
      refine Z_iconst (v := 0) hX d_CT_loop_29 rfl ?_
      exact Z_ri (hR _ _ d_CT_loop_30) (by rw [hf]; rfl) rfl rfl
    | succ k ih =>
      intro i hi hf
      have hi2 : i < 16 := by omega
      refine Z_iload_n (i := 1) hX d_CT_loop_2 rfl rfl ?_
      refine Z_bipush (v := 16) hX d_CT_loop_3 rfl ?_
      refine Z_icge (tgt := 29) hX d_CT_loop_5 rfl (fun h => absurd h (nI_ge hi2 (by decide))) (fun h5 => ?_)
      refine Z_aload_n (i := 0) hX d_CT_loop_8 rfl rfl ?_
      refine Z_getR (k0 := 1) hX d_CT_loop_9 rfl rfl u_CT (by decide) lk_CT_21 rfl ?_
      refine Z_iload_n (i := 1) hX d_CT_loop_12 rfl rfl ?_
      refine Z_cVi1 hX d_CT_loop_13 (c_Fl_follow (Or.inl rfl) (by omega) hL hK) m_Fl_follow rfl rfl lk_CT_206 ⟨by decide, by decide⟩ ⟨by decide, by decide⟩ (Nat.le_of_ble_eq_true rfl) ?_
      refine Z_bipush (v := (-2)) hX d_CT_loop_16 rfl ?_
      refine Z_icne (tgt := 23) hX d_CT_loop_18 rfl (fun h18 => ?_) (fun h18 => ?_)
      · refine Z_iinc (v := nI (i + 1)) hX d_CT_loop_23 rfl (by rw [nI_succ]; rfl) (by decide) rfl ?_
        refine Z_goto (tgt := 2) hX d_CT_loop_26 rfl ?_
        refine Z_loc ?_ (ih (i + 1) (by omega) ?_)
        · rfl
        · simp [c_lo, hf, h18]
      · refine Z_iconst (v := 1) hX d_CT_loop_21 rfl ?_
        exact Z_ri (hR _ _ d_CT_loop_22) (by rw [show (16 : Nat) = (i + 1) + k by omega, c_lo_le (by simp [c_lo, h18]) k]; rfl) rfl rfl
  refine Z_loc ?_ (hL2 16 0 (by omega) rfl)
  rfl

set_option maxRecDepth 100000 in
set_option maxHeartbeats 4000000 in
theorem c_CT_findStarved {la : Launch} {G : zG} {I : zI} {J : zJ} {m : Nat} {f : Int32} (hE : okE I m) (hN : okN I) : zCv la G y_CT_findStarved (Cond.code y_CT_findStarved prog_1_method_23_code 3 none :: TBL) (zR 6) [.ref (zad G 0), .int f] I J (s_f m f I 16) (J) := by
  refine zCv_of (by decide) (by simp [lg_sl, Value.category]) (fun X hla hX hR => ?_)
  subst hla
  refine Z_loc (l' := [(0, .ref (zad G 0)), (1, .int f)]) (by simp [lv_args, Value.category, List.lookup]) ?_
  refine Z_iconst (v := nI 0) hX d_CT_findStarved_0 rfl ?_
  refine Z_istore_n (i := 2) hX d_CT_findStarved_1 rfl (by decide) rfl ?_
  have hL2 : ∀ k i : Nat, k + i = 16 → Z X G 3 0 0 2 [(2, .int (nI i)), (1, .int f), (0, .ref (zad G 0))] [] (s_f m f I i) (J) := by
    intro k
    induction k with
    | zero =>
      intro i hi
      obtain rfl : i = 16 := by omega
      refine Z_iload_n (i := 2) hX d_CT_findStarved_2 rfl rfl ?_
      refine Z_bipush (v := 16) hX d_CT_findStarved_3 rfl ?_
      refine Z_icge (tgt := 64) hX d_CT_findStarved_5 rfl (fun h5 => ?_) (fun h => absurd (by decide) h)
      exact Z_mem (by rfl) (by rfl) (hR _ _ d_CT_findStarved_64)
    | succ k ih =>
      intro i hi
      have hi2 : i < 16 := by omega
      refine Z_iload_n (i := 2) hX d_CT_findStarved_2 rfl rfl ?_
      refine Z_bipush (v := 16) hX d_CT_findStarved_3 rfl ?_
      refine Z_icge (tgt := 64) hX d_CT_findStarved_5 rfl (fun h => absurd h (nI_ge hi2 (by decide))) (fun h5 => ?_)
      refine Z_aload_n (i := 0) hX d_CT_findStarved_8 rfl rfl ?_
      refine Z_getI (k0 := 7) hX d_CT_findStarved_9 rfl rfl u_CT (by decide) lk_CT_49 rfl ?_
      refine Z_bipush (v := 100) hX d_CT_findStarved_12 rfl ?_
      refine Z_icge (tgt := 64) hX d_CT_findStarved_14 rfl (fun h14 => ?_) (fun h14 => ?_)
      · exact Z_mem (by (rw [show (16 : Nat) = i + (k + 1) by omega]; exact (s_f_stop h14 (k + 1)).symm)) (by rfl) (hR _ _ d_CT_findStarved_64)
      · refine Z_aload_n (i := 0) hX d_CT_findStarved_17 rfl rfl ?_
        refine Z_getR (k0 := 2) hX d_CT_findStarved_18 rfl rfl u_CT (by decide) lk_CT_25 rfl ?_
        refine Z_iload_n (i := 2) hX d_CT_findStarved_21 rfl rfl ?_
        refine Z_cVi1 hX d_CT_findStarved_22 (c_Fl_isStarved (Or.inr rfl) (by omega) (okE_of (fr_sf (by decide) i) (fr_sf (by decide) i) (fr_sf (by decide) i) hE)) m_Fl_isStarved rfl rfl lk_CT_225 ⟨by decide, by decide⟩ ⟨by decide, by decide⟩ (Nat.le_of_ble_eq_true rfl) ?_
        refine Z_ifeqB (tgt := 58) hX d_CT_findStarved_25 rfl (fun h25 => ?_) (fun h25 => ?_)
        · refine Z_iinc (v := nI (i + 1)) hX d_CT_findStarved_58 rfl (by rw [nI_succ]; rfl) (by decide) rfl ?_
          refine Z_goto (tgt := 2) hX d_CT_findStarved_61 rfl ?_
          refine Z_loc ?_ (Z_mem ?_ ?_ (ih (i + 1) (by omega)))
          · rfl
          · exact ((if_neg h14).trans (if_neg (by rw [h25]; decide))).symm
          · rfl
        · obtain ⟨c, hc, hc2⟩ := okN_lt (okN_sf hN i) h14
          refine Z_aload_n (i := 0) hX d_CT_findStarved_28 rfl rfl ?_
          refine Z_getR (k0 := 5) hX d_CT_findStarved_29 rfl rfl u_CT (by decide) lk_CT_42 rfl ?_
          refine Z_aload_n (i := 0) hX d_CT_findStarved_32 rfl rfl ?_
          refine Z_getI (k0 := 7) hX d_CT_findStarved_33 rfl rfl u_CT (by decide) lk_CT_49 rfl ?_
          refine Z_top hc2 ?_
          refine Z_iload_n (i := 1) hX d_CT_findStarved_36 rfl rfl ?_
          refine Z_iast hX d_CT_findStarved_37 rfl rfl (by omega) (by decide) ?_
          refine Z_aload_n (i := 0) hX d_CT_findStarved_38 rfl rfl ?_
          refine Z_getR (k0 := 6) hX d_CT_findStarved_39 rfl rfl u_CT (by decide) lk_CT_46 rfl ?_
          refine Z_aload_n (i := 0) hX d_CT_findStarved_42 rfl rfl ?_
          refine Z_getI (k0 := 7) hX d_CT_findStarved_43 rfl rfl u_CT (by decide) lk_CT_49 rfl ?_
          refine Z_top (y := nI c) (by rw [zup_ne (by decide)]; exact hc2) ?_
          refine Z_iload_n (i := 2) hX d_CT_findStarved_46 rfl rfl ?_
          refine Z_iast hX d_CT_findStarved_47 rfl rfl (by omega) (by decide) ?_
          refine Z_aload_n (i := 0) hX d_CT_findStarved_48 rfl rfl ?_
          refine Z_dup hX d_CT_findStarved_49 rfl ?_
          refine Z_getI (k0 := 7) hX d_CT_findStarved_50 rfl rfl u_CT (by decide) lk_CT_49 rfl ?_
          refine Z_iconst (v := 1) hX d_CT_findStarved_53 rfl ?_
          refine Z_iadd hX d_CT_findStarved_54 ?_
          refine Z_putI (k0 := 7) hX d_CT_findStarved_55 rfl rfl u_CT (by decide) lk_CT_49 rfl t_CT to_CT n_CT rfl rfl rfl rfl ?_
          refine Z_iinc (v := nI (i + 1)) hX d_CT_findStarved_58 rfl (by rw [nI_succ]; rfl) (by decide) rfl ?_
          refine Z_goto (tgt := 2) hX d_CT_findStarved_61 rfl ?_
          refine Z_loc ?_ (Z_mem ?_ ?_ (ih (i + 1) (by omega)))
          · rfl
          · (rw [s_f, if_neg h14, if_pos h25, okN_s1 hc hc2]; try rw [show zup (zup (s_f m f I i) 62 c f) 63 c (nI i) 0 7 = nI c from by rw [zup_ne (by decide), zup_ne (by decide)]; exact hc2]; try rw [← nI_1]; try rfl)
          · rfl
  refine Z_loc ?_ (Z_mem ?_ ?_ (hL2 16 0 (by omega)))
  · rfl
  · rfl
  · rfl
