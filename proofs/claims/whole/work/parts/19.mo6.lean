def m_fe (I : zI) (e : Nat) (o : Bool) : zI := if o = true then (if decide (I 79 (672 + e) = 1) = true then I else m_bd I e) else (if decide (I 79 (672 + e) = 1) = true then m_cb I e else I)
def m_st (I : zI) (e : Nat) (w : Int32) : Int32 := if w = 0 then m_so I e else if w = 1 then m_po I e else if w = 4 then I 79 (560 + e) else if m_so I e = 1 then (if w = 2 then I 79 (608 + e) else I 79 (624 + e)) else -1
def m_tr (I : zI) : Nat → Int32 → Int32
  | 0, y => y
  | k + 1, y => if y < 0 then y else if 16 ≤ y then y else m_tr I k (m_fw I y.toNatClampNeg)
theorem m_tr_n {I : zI} {k : Nat} {y : Int32} (h : y < 0) : m_tr I (k + 1) y = y := if_pos h
theorem m_tr_g {I : zI} {k : Nat} {y : Int32} (h : ¬ y < 0) (h2 : 16 ≤ y) : m_tr I (k + 1) y = y := by
  unfold m_tr
  rw [if_neg h, if_pos h2]
theorem m_tr_s {I : zI} {k j : Nat} {y : Int32} (h : ¬ y < 0) (h2 : ¬ 16 ≤ y) (hj : j < 16) (hj2 : y = nI j) : m_tr I (k + 1) y = m_tr I k (m_fw I j) := by
  rw [m_tr, if_neg h, if_neg h2, hj2, nI_clamp (by omega)]
theorem at_ix {y : Int32} (h : ¬ y < 0) (h2 : ¬ 16 ≤ y) : ∃ j, j < 16 ∧ y = nI j := by
  obtain ⟨j, hj, e⟩ := nI_of h
  refine ⟨j, ?_, e⟩
  by_cases h3 : j < 16
  · exact h3
  · exfalso
    apply h2
    rw [e]
    exact nI_le (a := 16) (by omega) hj
def m_lf (I : zI) : Nat → Bool
  | 0 => false
  | i + 1 => m_lf I i || (decide (¬ m_tr I 17 (nI i) < 0) && decide (¬ 16 ≤ m_tr I 17 (nI i)))
noncomputable def m_rx (I : zI) (m e : Nat) : Nat := Classical.epsilon (fun x => m_rP I m e x)
theorem m_rP_ex {I : zI} {m e : Nat} (hE : okME I m) (he : e < 16) : ∃ x, m_rP I m e x := by
  have key : ∀ (n z : Nat), 65536 - z < n → z < 2 ^ 16 → z.testBit e = true → (∀ y, y.testBit e = true → m_cl I m y → m_sub z y) → ∃ x, m_rP I m e x := by
    intro n
    induction n with
    | zero => intro z h; exact absurd h (Nat.not_lt_zero _)
    | succ n ih =>
      intro z hn hz hze hzm
      by_cases h : m_ps I z m = z
      · exact ⟨z, hz, hze, m_ps_cl h, hzm⟩
      · have h1 := m_ps_le I z m
        exact ih (m_ps I z m) (by omega) (m_ps_lt hE hz m (Nat.le_refl _)) (m_ps_up hze m) (fun y h2 h3 => m_ps_sub (hzm y h2 h3) h3 m (Nat.le_refl _))
  refine key 65537 (2 ^ e) (Nat.lt_succ_of_le (Nat.sub_le _ _)) (Nat.pow_lt_pow_right (by decide) he) Nat.testBit_two_pow_self ?_
  intro y h1 _ i hi
  rw [Nat.testBit_two_pow] at hi
  have h2 : e = i := by simpa using hi
  rw [← h2]
  exact h1
theorem m_rx_ok {I : zI} {m e : Nat} (hE : okME I m) (he : e < 16) : m_rP I m e (m_rx I m e) := Classical.epsilon_spec (m_rP_ex hE he)
theorem okME_of {I I' : zI} {m : Nat} (h1 : I' 64 14 = I 64 14) (h7 : I' 77 = I 77) (h8 : I' 78 = I 78) (h : okME I m) : okME I' m := by
  unfold okME
  rw [h1, h7, h8]
  exact h
def m_g1 (I : zI) (f : Int32) (i : Nat) : zI :=
  let A1 := zup I 84 (I 64 22).toNatClampNeg f
  let A2 := zup A1 85 (A1 64 22).toNatClampNeg (nI i)
  zup A2 64 22 (A2 64 22 + 1)
noncomputable def m_gc (I : zI) (m i : Nat) : Bool := m_wh I i && (!decide (I 79 (512 + i) = 1) && (!decide (7 ≤ m_bf I i (m_rx I m i)) && !decide (100 ≤ I 64 22)))
noncomputable def m_gs (m : Nat) (f : Int32) (I : zI) : Nat → zI
  | 0 => I
  | i + 1 => if m_gc (m_gs m f I i) m i = true then m_g1 (m_gs m f I i) f i else m_gs m f I i
theorem fr_g1 {I : zI} {f : Int32} {i c : Nat} (h : c ≠ 64 ∧ c ≠ 84 ∧ c ≠ 85) : m_g1 I f i c = I c := by
  unfold m_g1
  rw [zup_ne h.1, zup_ne h.2.2, zup_ne h.2.1]
theorem fr_gs {m : Nat} {f : Int32} {I : zI} {c : Nat} (h : c ≠ 64 ∧ c ≠ 84 ∧ c ≠ 85) : ∀ i, m_gs m f I i c = I c
  | 0 => rfl
  | i + 1 => by
    unfold m_gs
    split
    · rw [fr_g1 h, fr_gs h i]
    · exact fr_gs h i
theorem fr_g1n {I : zI} {f : Int32} {i j : Nat} (h : j ≠ 22) : m_g1 I f i 64 j = I 64 j := by
  unfold m_g1
  rw [zup_same, pk_un h, zup_ne (by decide), zup_ne (by decide)]
theorem fr_gsn {m : Nat} {f : Int32} {I : zI} {j : Nat} (h : j ≠ 22) : ∀ i, m_gs m f I i 64 j = I 64 j
  | 0 => rfl
  | i + 1 => by
    unfold m_gs
    split
    · rw [fr_g1n h, fr_gsn h i]
    · exact fr_gsn h i
/-- how many findings the reference has -/
def okMN (I : zI) : Prop := ∃ c, c ≤ 100 ∧ I 64 22 = nI c
theorem okMN_lt {I : zI} (h : okMN I) (h2 : ¬ 100 ≤ I 64 22) : ∃ c, c < 100 ∧ I 64 22 = nI c := by
  obtain ⟨c, hc, e⟩ := h
  refine ⟨c, ?_, e⟩
  by_cases h3 : c < 100
  · exact h3
  · exfalso
    apply h2
    rw [e]
    exact nI_le (a := 100) (by omega) (by omega)
theorem m_g1_c {I : zI} {f : Int32} {i c : Nat} (hc : c < 100) (e : I 64 22 = nI c) : m_g1 I f i = zup (zup (zup I 84 c f) 85 c (nI i)) 64 22 (nI (c + 1)) := by
  unfold m_g1
  try dsimp only
  have e2 : zup I 84 (I 64 22).toNatClampNeg f 64 22 = nI c := by rw [zup_ne (by decide)]; exact e
  have e1 : (I 64 22).toNatClampNeg = c := by rw [e, nI_clamp (by omega)]
  have e3 : zup (zup I 84 c f) 85 c (nI i) 64 22 = nI c := by rw [zup_ne (by decide), zup_ne (by decide)]; exact e
  rw [e2, e1, nI_clamp (by omega), e3, nI_1]
theorem okMN_gs {m : Nat} {f : Int32} {I : zI} (h : okMN I) : ∀ i, okMN (m_gs m f I i)
  | 0 => h
  | i + 1 => by
    have h1 := okMN_gs (m := m) (f := f) h i
    unfold m_gs
    split
    · rename_i hg
      have h2 : ¬ 100 ≤ m_gs m f I i 64 22 := by
        simp only [m_gc, Bool.and_eq_true, Bool.not_eq_true', decide_eq_false_iff_not] at hg
        exact hg.2.2.2
      obtain ⟨c, hc, e⟩ := okMN_lt h1 h2
      rw [m_g1_c hc e]
      exact ⟨c + 1, by omega, by rw [zup_same, pk_us]⟩
    · exact h1
noncomputable def m_gn (m rn : Nat) (f : Int32) (I : zI) : zI := m_kI (m_gs m f (m_itI I rn) 16) true 762
def m_gnJ (rn : Nat) (I : zI) (J : zJ) : zJ := m_kJ (m_itJ I J rn) true 16
theorem m_gn_1 {m rn : Nat} {f : Int32} {I : zI} : m_kI (m_gs m f (m_itI I rn) 16) true 762 = m_gn m rn f I := by simp only [m_gn]
theorem m_gnJ_1 {rn : Nat} {I : zI} {J : zJ} : m_kJ (m_itJ I J rn) true 16 = m_gnJ rn I J := by simp only [m_gnJ]
set_option maxRecDepth 100000 in
set_option maxHeartbeats 4000000 in
theorem c_Mo_element_x {la : Launch} {G : zG} {I : zI} {J : zJ} {e q o s : Int32} (hw : m_elw e q o s = true) : zCv la G y_Mo_element (Cond.code y_Mo_element prog_8_method_28_code 6 none :: TBL) (zR 1) [.ref (zad G 64), .int e, .int q, .int o, .int s] I J (m_t I 1) (J) := by
  refine zCv_of (by decide) (by simp [lg_sl, Value.category]) (fun X hla hX hR => ?_)
  subst hla
  refine Z_loc (l' := [(0, .ref (zad G 64)), (1, .int e), (2, .int q), (3, .int o), (4, .int s)]) (by simp [lv_args, Value.category, List.lookup]) ?_
  refine Z_cutw (pc' := 53) (w := zB (m_elw e q o s)) ?_ (fun hJ53 => ?_)
  · refine Z_id ?_
    refine Z_top (y := 1) (by rw [hw]; rfl) ?_
    refine Z_istore hX d_Mo_element_53 (by decide) rfl ?_
    refine Z_aload_n (i := 0) hX d_Mo_element_55 rfl rfl ?_
    refine Z_iload hX d_Mo_element_56 rfl ?_
    refine Z_ifeq (tgt := 65) hX d_Mo_element_58 rfl (fun h => absurd h (by decide)) (fun h58 => ?_)
    refine Z_iconst (v := 1) hX d_Mo_element_61 rfl ?_
    refine Z_goto (tgt := 79) hX d_Mo_element_62 rfl ?_
    refine Z_putI (k0 := 0) hX d_Mo_element_79 rfl rfl u_Mo (by decide) lk_Mo_7 rfl t_Mo to_Mo n_Mo rfl rfl rfl rfl ?_
    refine Z_aload_n (i := 0) hX d_Mo_element_82 rfl rfl ?_
    refine Z_getI (k0 := 0) hX d_Mo_element_83 rfl rfl u_Mo (by decide) lk_Mo_7 rfl ?_
    refine Z_top (y := 1) m_t_0 ?_
    refine Z_ifeq (tgt := 90) hX d_Mo_element_86 rfl (fun h => absurd h (by decide)) (fun h86 => ?_)
    exact Z_mem (by rfl) (by rfl) (hR _ _ d_Mo_element_89)
  · refine Z_iload_n (i := 1) hX d_Mo_element_0 rfl rfl ?_
    refine Z_iflt (tgt := 48) hX d_Mo_element_1 rfl (fun h1 => ?_) (fun h1 => ?_)
    · refine Z_iconst (v := 1) hX d_Mo_element_48 rfl ?_
      refine Z_goto (tgt := 53) hX d_Mo_element_49 rfl ?_
      exact hJ53 _ (by simp [m_elw, zB, h1])
    · refine Z_iload_n (i := 1) hX d_Mo_element_4 rfl rfl ?_
      refine Z_bipush (v := 15) hX d_Mo_element_5 rfl ?_
      refine Z_icgt (tgt := 48) hX d_Mo_element_7 rfl (fun h7 => ?_) (fun h7 => ?_)
      · refine Z_iconst (v := 1) hX d_Mo_element_48 rfl ?_
        refine Z_goto (tgt := 53) hX d_Mo_element_49 rfl ?_
        exact hJ53 _ (by simp [m_elw, zB, h1, h7])
      · refine Z_iload_n (i := 2) hX d_Mo_element_10 rfl rfl ?_
        refine Z_iflt (tgt := 48) hX d_Mo_element_11 rfl (fun h11 => ?_) (fun h11 => ?_)
        · refine Z_iconst (v := 1) hX d_Mo_element_48 rfl ?_
          refine Z_goto (tgt := 53) hX d_Mo_element_49 rfl ?_
          exact hJ53 _ (by simp [m_elw, zB, h1, h7, h11])
        · refine Z_iload_n (i := 2) hX d_Mo_element_14 rfl rfl ?_
          refine Z_bipush (v := 6) hX d_Mo_element_15 rfl ?_
          refine Z_icgt (tgt := 48) hX d_Mo_element_17 rfl (fun h17 => ?_) (fun h17 => ?_)
          · refine Z_iconst (v := 1) hX d_Mo_element_48 rfl ?_
            refine Z_goto (tgt := 53) hX d_Mo_element_49 rfl ?_
            exact hJ53 _ (by simp [m_elw, zB, h1, h7, h11, h17])
          · refine Z_iload_n (i := 3) hX d_Mo_element_20 rfl rfl ?_
            refine Z_sipush (v := (-1000)) hX d_Mo_element_21 rfl ?_
            refine Z_iclt (tgt := 48) hX d_Mo_element_24 rfl (fun h24 => ?_) (fun h24 => ?_)
            · refine Z_iconst (v := 1) hX d_Mo_element_48 rfl ?_
              refine Z_goto (tgt := 53) hX d_Mo_element_49 rfl ?_
              exact hJ53 _ (by simp [m_elw, zB, h1, h7, h11, h17, h24])
            · refine Z_iload_n (i := 3) hX d_Mo_element_27 rfl rfl ?_
              refine Z_sipush (v := 1000) hX d_Mo_element_28 rfl ?_
              refine Z_icgt (tgt := 48) hX d_Mo_element_31 rfl (fun h31 => ?_) (fun h31 => ?_)
              · refine Z_iconst (v := 1) hX d_Mo_element_48 rfl ?_
                refine Z_goto (tgt := 53) hX d_Mo_element_49 rfl ?_
                exact hJ53 _ (by simp [m_elw, zB, h1, h7, h11, h17, h24, h31])
              · refine Z_iload hX d_Mo_element_34 rfl ?_
                refine Z_bipush (v := (-9)) hX d_Mo_element_36 rfl ?_
                refine Z_iclt (tgt := 48) hX d_Mo_element_38 rfl (fun h38 => ?_) (fun h38 => ?_)
                · refine Z_iconst (v := 1) hX d_Mo_element_48 rfl ?_
                  refine Z_goto (tgt := 53) hX d_Mo_element_49 rfl ?_
                  exact hJ53 _ (by simp [m_elw, zB, h1, h7, h11, h17, h24, h31, h38])
                · refine Z_iload hX d_Mo_element_41 rfl ?_
                  refine Z_bipush (v := 9) hX d_Mo_element_43 rfl ?_
                  refine Z_icle (tgt := 52) hX d_Mo_element_45 rfl (fun h45 => ?_) (fun h45 => ?_)
                  · refine Z_iconst (v := 0) hX d_Mo_element_52 rfl ?_
                    exact hJ53 _ (by simp [m_elw, zB, h1, h7, h11, h17, h24, h31, h38, h45])
                  · refine Z_iconst (v := 1) hX d_Mo_element_48 rfl ?_
                    refine Z_goto (tgt := 53) hX d_Mo_element_49 rfl ?_
                    exact hJ53 _ (by simp [m_elw, zB, h1, h7, h11, h17, h24, h31, h38, h45])

set_option maxRecDepth 100000 in
set_option maxHeartbeats 4000000 in
theorem c_Mo_element_y {la : Launch} {G : zG} {I : zI} {J : zJ} {e : Nat} (he : e < 16) {q o s : Int32} (hw : m_elw (nI e) q o s = false) (ht : ¬ I 65 e = 0) : zCv la G y_Mo_element (Cond.code y_Mo_element prog_8_method_28_code 6 none :: TBL) (zR 1) [.ref (zad G 64), .int (nI e), .int q, .int o, .int s] I J (m_t I 2) (J) := by
  refine zCv_of (by decide) (by simp [lg_sl, Value.category]) (fun X hla hX hR => ?_)
  subst hla
  refine Z_loc (l' := [(0, .ref (zad G 64)), (1, .int (nI e)), (2, .int q), (3, .int o), (4, .int s)]) (by simp [lv_args, Value.category, List.lookup]) ?_
  refine Z_cutw (pc' := 53) (w := zB (m_elw (nI e) q o s)) ?_ (fun hJ53 => ?_)
  · refine Z_id ?_
    refine Z_top (y := 0) (by rw [hw]; rfl) ?_
    refine Z_istore hX d_Mo_element_53 (by decide) rfl ?_
    refine Z_aload_n (i := 0) hX d_Mo_element_55 rfl rfl ?_
    refine Z_iload hX d_Mo_element_56 rfl ?_
    refine Z_ifeq (tgt := 65) hX d_Mo_element_58 rfl (fun h58 => ?_) (fun h => absurd rfl h)
    refine Z_aload_n (i := 0) hX d_Mo_element_65 rfl rfl ?_
    refine Z_getR (k0 := 2) hX d_Mo_element_66 rfl rfl u_Mo (by decide) lk_Mo_17 rfl ?_
    refine Z_iload_n (i := 1) hX d_Mo_element_69 rfl rfl ?_
    refine Z_zald hX d_Mo_element_70 rfl rfl (by omega) (by decide) ?_
    refine Z_ifeq (tgt := 78) hX d_Mo_element_71 rfl (fun h => absurd h ht) (fun h71 => ?_)
    refine Z_iconst (v := 2) hX d_Mo_element_74 rfl ?_
    refine Z_goto (tgt := 79) hX d_Mo_element_75 rfl ?_
    refine Z_putI (k0 := 0) hX d_Mo_element_79 rfl rfl u_Mo (by decide) lk_Mo_7 rfl t_Mo to_Mo n_Mo rfl rfl rfl rfl ?_
    refine Z_aload_n (i := 0) hX d_Mo_element_82 rfl rfl ?_
    refine Z_getI (k0 := 0) hX d_Mo_element_83 rfl rfl u_Mo (by decide) lk_Mo_7 rfl ?_
    refine Z_top (y := 2) m_t_0 ?_
    refine Z_ifeq (tgt := 90) hX d_Mo_element_86 rfl (fun h => absurd h (by decide)) (fun h86 => ?_)
    exact Z_mem (by rfl) (by rfl) (hR _ _ d_Mo_element_89)
  · refine Z_iload_n (i := 1) hX d_Mo_element_0 rfl rfl ?_
    refine Z_iflt (tgt := 48) hX d_Mo_element_1 rfl (fun h1 => ?_) (fun h1 => ?_)
    · refine Z_iconst (v := 1) hX d_Mo_element_48 rfl ?_
      refine Z_goto (tgt := 53) hX d_Mo_element_49 rfl ?_
      exact hJ53 _ (by simp [m_elw, zB, h1])
    · refine Z_iload_n (i := 1) hX d_Mo_element_4 rfl rfl ?_
      refine Z_bipush (v := 15) hX d_Mo_element_5 rfl ?_
      refine Z_icgt (tgt := 48) hX d_Mo_element_7 rfl (fun h7 => ?_) (fun h7 => ?_)
      · refine Z_iconst (v := 1) hX d_Mo_element_48 rfl ?_
        refine Z_goto (tgt := 53) hX d_Mo_element_49 rfl ?_
        exact hJ53 _ (by simp [m_elw, zB, h1, h7])
      · refine Z_iload_n (i := 2) hX d_Mo_element_10 rfl rfl ?_
        refine Z_iflt (tgt := 48) hX d_Mo_element_11 rfl (fun h11 => ?_) (fun h11 => ?_)
        · refine Z_iconst (v := 1) hX d_Mo_element_48 rfl ?_
          refine Z_goto (tgt := 53) hX d_Mo_element_49 rfl ?_
          exact hJ53 _ (by simp [m_elw, zB, h1, h7, h11])
        · refine Z_iload_n (i := 2) hX d_Mo_element_14 rfl rfl ?_
          refine Z_bipush (v := 6) hX d_Mo_element_15 rfl ?_
          refine Z_icgt (tgt := 48) hX d_Mo_element_17 rfl (fun h17 => ?_) (fun h17 => ?_)
          · refine Z_iconst (v := 1) hX d_Mo_element_48 rfl ?_
            refine Z_goto (tgt := 53) hX d_Mo_element_49 rfl ?_
            exact hJ53 _ (by simp [m_elw, zB, h1, h7, h11, h17])
          · refine Z_iload_n (i := 3) hX d_Mo_element_20 rfl rfl ?_
            refine Z_sipush (v := (-1000)) hX d_Mo_element_21 rfl ?_
            refine Z_iclt (tgt := 48) hX d_Mo_element_24 rfl (fun h24 => ?_) (fun h24 => ?_)
            · refine Z_iconst (v := 1) hX d_Mo_element_48 rfl ?_
              refine Z_goto (tgt := 53) hX d_Mo_element_49 rfl ?_
              exact hJ53 _ (by simp [m_elw, zB, h1, h7, h11, h17, h24])
            · refine Z_iload_n (i := 3) hX d_Mo_element_27 rfl rfl ?_
              refine Z_sipush (v := 1000) hX d_Mo_element_28 rfl ?_
              refine Z_icgt (tgt := 48) hX d_Mo_element_31 rfl (fun h31 => ?_) (fun h31 => ?_)
              · refine Z_iconst (v := 1) hX d_Mo_element_48 rfl ?_
                refine Z_goto (tgt := 53) hX d_Mo_element_49 rfl ?_
                exact hJ53 _ (by simp [m_elw, zB, h1, h7, h11, h17, h24, h31])
              · refine Z_iload hX d_Mo_element_34 rfl ?_
                refine Z_bipush (v := (-9)) hX d_Mo_element_36 rfl ?_
                refine Z_iclt (tgt := 48) hX d_Mo_element_38 rfl (fun h38 => ?_) (fun h38 => ?_)
                · refine Z_iconst (v := 1) hX d_Mo_element_48 rfl ?_
                  refine Z_goto (tgt := 53) hX d_Mo_element_49 rfl ?_
                  exact hJ53 _ (by simp [m_elw, zB, h1, h7, h11, h17, h24, h31, h38])
                · refine Z_iload hX d_Mo_element_41 rfl ?_
                  refine Z_bipush (v := 9) hX d_Mo_element_43 rfl ?_
                  refine Z_icle (tgt := 52) hX d_Mo_element_45 rfl (fun h45 => ?_) (fun h45 => ?_)
                  · refine Z_iconst (v := 0) hX d_Mo_element_52 rfl ?_
                    exact hJ53 _ (by simp [m_elw, zB, h1, h7, h11, h17, h24, h31, h38, h45])
                  · refine Z_iconst (v := 1) hX d_Mo_element_48 rfl ?_
                    refine Z_goto (tgt := 53) hX d_Mo_element_49 rfl ?_
                    exact hJ53 _ (by simp [m_elw, zB, h1, h7, h11, h17, h24, h31, h38, h45])

set_option maxRecDepth 100000 in
set_option maxHeartbeats 4000000 in
theorem c_Mo_element {la : Launch} {G : zG} {I : zI} {J : zJ} {e : Nat} (he : e < 16) {q o s : Int32} (hw : m_elw (nI e) q o s = false) (ht : I 65 e = 0) : zCv la G y_Mo_element (Cond.code y_Mo_element prog_8_method_28_code 6 none :: TBL) (zR 1) [.ref (zad G 64), .int (nI e), .int q, .int o, .int s] I J (m_el I e q o s) (J) := by
  refine zCv_of (by decide) (by simp [lg_sl, Value.category]) (fun X hla hX hR => ?_)
  subst hla
  refine Z_loc (l' := [(0, .ref (zad G 64)), (1, .int (nI e)), (2, .int q), (3, .int o), (4, .int s)]) (by simp [lv_args, Value.category, List.lookup]) ?_
  refine Z_cutw (pc' := 53) (w := zB (m_elw (nI e) q o s)) ?_ (fun hJ53 => ?_)
  · refine Z_id ?_
    refine Z_top (y := 0) (by rw [hw]; rfl) ?_
    refine Z_istore hX d_Mo_element_53 (by decide) rfl ?_
    refine Z_aload_n (i := 0) hX d_Mo_element_55 rfl rfl ?_
    refine Z_iload hX d_Mo_element_56 rfl ?_
    refine Z_ifeq (tgt := 65) hX d_Mo_element_58 rfl (fun h58 => ?_) (fun h => absurd rfl h)
    refine Z_aload_n (i := 0) hX d_Mo_element_65 rfl rfl ?_
    refine Z_getR (k0 := 2) hX d_Mo_element_66 rfl rfl u_Mo (by decide) lk_Mo_17 rfl ?_
    refine Z_iload_n (i := 1) hX d_Mo_element_69 rfl rfl ?_
    refine Z_zald hX d_Mo_element_70 rfl rfl (by omega) (by decide) ?_
    refine Z_ifeq (tgt := 78) hX d_Mo_element_71 rfl (fun h71 => ?_) (fun h => absurd ht h)
    refine Z_iconst (v := 0) hX d_Mo_element_78 rfl ?_
    refine Z_putI (k0 := 0) hX d_Mo_element_79 rfl rfl u_Mo (by decide) lk_Mo_7 rfl t_Mo to_Mo n_Mo rfl rfl rfl rfl ?_
    refine Z_aload_n (i := 0) hX d_Mo_element_82 rfl rfl ?_
    refine Z_getI (k0 := 0) hX d_Mo_element_83 rfl rfl u_Mo (by decide) lk_Mo_7 rfl ?_
    refine Z_top (y := 0) m_t_0 ?_
    refine Z_ifeq (tgt := 90) hX d_Mo_element_86 rfl (fun h86 => ?_) (fun h => absurd rfl h)
    refine Z_aload_n (i := 0) hX d_Mo_element_90 rfl rfl ?_
    refine Z_getR (k0 := 2) hX d_Mo_element_91 rfl rfl u_Mo (by decide) lk_Mo_17 rfl ?_
    refine Z_iload_n (i := 1) hX d_Mo_element_94 rfl rfl ?_
    refine Z_iconst (v := 1) hX d_Mo_element_95 rfl ?_
    refine Z_zast01 hX d_Mo_element_96 rfl rfl (by omega) (by decide) rfl ?_
    refine Z_aload_n (i := 0) hX d_Mo_element_97 rfl rfl ?_
    refine Z_getR (k0 := 3) hX d_Mo_element_98 rfl rfl u_Mo (by decide) lk_Mo_21 rfl ?_
    refine Z_iload_n (i := 1) hX d_Mo_element_101 rfl rfl ?_
    refine Z_iload_n (i := 2) hX d_Mo_element_102 rfl rfl ?_
    refine Z_iast hX d_Mo_element_103 rfl rfl (by omega) (by decide) ?_
    refine Z_aload_n (i := 0) hX d_Mo_element_104 rfl rfl ?_
    refine Z_getR (k0 := 4) hX d_Mo_element_105 rfl rfl u_Mo (by decide) lk_Mo_25 rfl ?_
    refine Z_iload_n (i := 1) hX d_Mo_element_108 rfl rfl ?_
    refine Z_iload_n (i := 3) hX d_Mo_element_109 rfl rfl ?_
    refine Z_iast hX d_Mo_element_110 rfl rfl (by omega) (by decide) ?_
    refine Z_aload_n (i := 0) hX d_Mo_element_111 rfl rfl ?_
    refine Z_getR (k0 := 5) hX d_Mo_element_112 rfl rfl u_Mo (by decide) lk_Mo_28 rfl ?_
    refine Z_iload_n (i := 1) hX d_Mo_element_115 rfl rfl ?_
    refine Z_iload hX d_Mo_element_116 rfl ?_
    refine Z_iast hX d_Mo_element_118 rfl rfl (by omega) (by decide) ?_
    refine Z_aload_n (i := 0) hX d_Mo_element_119 rfl rfl ?_
    refine Z_getR (k0 := 17) hX d_Mo_element_120 rfl rfl u_Mo (by decide) lk_Mo_64 rfl ?_
    refine Z_sipush (v := nI 560) hX d_Mo_element_123 rfl ?_
    refine Z_iload_n (i := 1) hX d_Mo_element_126 rfl rfl ?_
    refine Z_iaddN hX d_Mo_element_127 ?_
    refine Z_iload_n (i := 3) hX d_Mo_element_128 rfl rfl ?_
    refine Z_iast hX d_Mo_element_129 rfl rfl (by omega) (by decide) ?_
    refine Z_aload_n (i := 0) hX d_Mo_element_130 rfl rfl ?_
    refine Z_getR (k0 := 17) hX d_Mo_element_131 rfl rfl u_Mo (by decide) lk_Mo_64 rfl ?_
    refine Z_sipush (v := nI 576) hX d_Mo_element_134 rfl ?_
    refine Z_iload_n (i := 1) hX d_Mo_element_137 rfl rfl ?_
    refine Z_iaddN hX d_Mo_element_138 ?_
    refine Z_iload_n (i := 3) hX d_Mo_element_139 rfl rfl ?_
    refine Z_iast hX d_Mo_element_140 rfl rfl (by omega) (by decide) ?_
    refine Z_aload_n (i := 0) hX d_Mo_element_141 rfl rfl ?_
    refine Z_getR (k0 := 17) hX d_Mo_element_142 rfl rfl u_Mo (by decide) lk_Mo_64 rfl ?_
    refine Z_sipush (v := nI 592) hX d_Mo_element_145 rfl ?_
    refine Z_iload_n (i := 1) hX d_Mo_element_148 rfl rfl ?_
    refine Z_iaddN hX d_Mo_element_149 ?_
    refine Z_iload_n (i := 3) hX d_Mo_element_150 rfl rfl ?_
    refine Z_iast hX d_Mo_element_151 rfl rfl (by omega) (by decide) ?_
    refine Z_aload_n (i := 0) hX d_Mo_element_152 rfl rfl ?_
    refine Z_getR (k0 := 17) hX d_Mo_element_153 rfl rfl u_Mo (by decide) lk_Mo_64 rfl ?_
    refine Z_sipush (v := nI 608) hX d_Mo_element_156 rfl ?_
    refine Z_iload_n (i := 1) hX d_Mo_element_159 rfl rfl ?_
    refine Z_iaddN hX d_Mo_element_160 ?_
    refine Z_iconst (v := (-1)) hX d_Mo_element_161 rfl ?_
    refine Z_iast hX d_Mo_element_162 rfl rfl (by omega) (by decide) ?_
    refine Z_aload_n (i := 0) hX d_Mo_element_163 rfl rfl ?_
    refine Z_getR (k0 := 17) hX d_Mo_element_164 rfl rfl u_Mo (by decide) lk_Mo_64 rfl ?_
    refine Z_sipush (v := nI 624) hX d_Mo_element_167 rfl ?_
    refine Z_iload_n (i := 1) hX d_Mo_element_170 rfl rfl ?_
    refine Z_iaddN hX d_Mo_element_171 ?_
    refine Z_iconst (v := (-1)) hX d_Mo_element_172 rfl ?_
    refine Z_iast hX d_Mo_element_173 rfl rfl (by omega) (by decide) ?_
    exact Z_mem (by rfl) (by rfl) (hR _ _ d_Mo_element_174)
  · refine Z_iload_n (i := 1) hX d_Mo_element_0 rfl rfl ?_
    refine Z_iflt (tgt := 48) hX d_Mo_element_1 rfl (fun h1 => ?_) (fun h1 => ?_)
    · refine Z_iconst (v := 1) hX d_Mo_element_48 rfl ?_
      refine Z_goto (tgt := 53) hX d_Mo_element_49 rfl ?_
      exact hJ53 _ (by simp [m_elw, zB, h1])
    · refine Z_iload_n (i := 1) hX d_Mo_element_4 rfl rfl ?_
      refine Z_bipush (v := 15) hX d_Mo_element_5 rfl ?_
      refine Z_icgt (tgt := 48) hX d_Mo_element_7 rfl (fun h7 => ?_) (fun h7 => ?_)
      · refine Z_iconst (v := 1) hX d_Mo_element_48 rfl ?_
        refine Z_goto (tgt := 53) hX d_Mo_element_49 rfl ?_
        exact hJ53 _ (by simp [m_elw, zB, h1, h7])
      · refine Z_iload_n (i := 2) hX d_Mo_element_10 rfl rfl ?_
        refine Z_iflt (tgt := 48) hX d_Mo_element_11 rfl (fun h11 => ?_) (fun h11 => ?_)
        · refine Z_iconst (v := 1) hX d_Mo_element_48 rfl ?_
          refine Z_goto (tgt := 53) hX d_Mo_element_49 rfl ?_
          exact hJ53 _ (by simp [m_elw, zB, h1, h7, h11])
        · refine Z_iload_n (i := 2) hX d_Mo_element_14 rfl rfl ?_
          refine Z_bipush (v := 6) hX d_Mo_element_15 rfl ?_
          refine Z_icgt (tgt := 48) hX d_Mo_element_17 rfl (fun h17 => ?_) (fun h17 => ?_)
          · refine Z_iconst (v := 1) hX d_Mo_element_48 rfl ?_
            refine Z_goto (tgt := 53) hX d_Mo_element_49 rfl ?_
            exact hJ53 _ (by simp [m_elw, zB, h1, h7, h11, h17])
          · refine Z_iload_n (i := 3) hX d_Mo_element_20 rfl rfl ?_
            refine Z_sipush (v := (-1000)) hX d_Mo_element_21 rfl ?_
            refine Z_iclt (tgt := 48) hX d_Mo_element_24 rfl (fun h24 => ?_) (fun h24 => ?_)
            · refine Z_iconst (v := 1) hX d_Mo_element_48 rfl ?_
              refine Z_goto (tgt := 53) hX d_Mo_element_49 rfl ?_
              exact hJ53 _ (by simp [m_elw, zB, h1, h7, h11, h17, h24])
            · refine Z_iload_n (i := 3) hX d_Mo_element_27 rfl rfl ?_
              refine Z_sipush (v := 1000) hX d_Mo_element_28 rfl ?_
              refine Z_icgt (tgt := 48) hX d_Mo_element_31 rfl (fun h31 => ?_) (fun h31 => ?_)
              · refine Z_iconst (v := 1) hX d_Mo_element_48 rfl ?_
                refine Z_goto (tgt := 53) hX d_Mo_element_49 rfl ?_
                exact hJ53 _ (by simp [m_elw, zB, h1, h7, h11, h17, h24, h31])
              · refine Z_iload hX d_Mo_element_34 rfl ?_
                refine Z_bipush (v := (-9)) hX d_Mo_element_36 rfl ?_
                refine Z_iclt (tgt := 48) hX d_Mo_element_38 rfl (fun h38 => ?_) (fun h38 => ?_)
                · refine Z_iconst (v := 1) hX d_Mo_element_48 rfl ?_
                  refine Z_goto (tgt := 53) hX d_Mo_element_49 rfl ?_
                  exact hJ53 _ (by simp [m_elw, zB, h1, h7, h11, h17, h24, h31, h38])
                · refine Z_iload hX d_Mo_element_41 rfl ?_
                  refine Z_bipush (v := 9) hX d_Mo_element_43 rfl ?_
                  refine Z_icle (tgt := 52) hX d_Mo_element_45 rfl (fun h45 => ?_) (fun h45 => ?_)
                  · refine Z_iconst (v := 0) hX d_Mo_element_52 rfl ?_
                    exact hJ53 _ (by simp [m_elw, zB, h1, h7, h11, h17, h24, h31, h38, h45])
                  · refine Z_iconst (v := 1) hX d_Mo_element_48 rfl ?_
                    refine Z_goto (tgt := 53) hX d_Mo_element_49 rfl ?_
                    exact hJ53 _ (by simp [m_elw, zB, h1, h7, h11, h17, h24, h31, h38, h45])

set_option maxRecDepth 100000 in
set_option maxHeartbeats 4000000 in
theorem c_Mo_link_x {la : Launch} {G : zG} {I : zI} {J : zJ} {a p b q : Int32} (hw : m_lkw I a p b q = true) : zCi la G y_Mo_link (Cond.code y_Mo_link prog_8_method_29_code 7 (some .int) :: TBL) (zR 3) [.ref (zad G 64), .int a, .int p, .int b, .int q] I J (0) (m_t I 1) (J) := by
  refine zCi_of (by decide) (by simp [lg_sl, Value.category]) (rfl) (fun X hla hX hR => ?_)
  subst hla
  refine Z_loc (l' := [(0, .ref (zad G 64)), (1, .int a), (2, .int p), (3, .int b), (4, .int q)]) (by simp [lv_args, Value.category, List.lookup]) ?_
  refine Z_aload_n (i := 0) hX d_Mo_link_0 rfl rfl ?_
  refine Z_cutw (pc' := 30) (w := zB (m_lkw I a p b q)) ?_ (fun hJ30 => ?_)
  · refine Z_id ?_
    refine Z_top (y := 1) (by rw [hw]; rfl) ?_
    refine Z_putI (k0 := 0) hX d_Mo_link_30 rfl rfl u_Mo (by decide) lk_Mo_7 rfl t_Mo to_Mo n_Mo rfl rfl rfl rfl ?_
    refine Z_aload_n (i := 0) hX d_Mo_link_33 rfl rfl ?_
    refine Z_getI (k0 := 0) hX d_Mo_link_34 rfl rfl u_Mo (by decide) lk_Mo_7 rfl ?_
    refine Z_top (y := 1) m_t_0 ?_
    refine Z_ifeq (tgt := 42) hX d_Mo_link_37 rfl (fun h => absurd h (by decide)) (fun h37 => ?_)
    refine Z_iconst (v := 0) hX d_Mo_link_40 rfl ?_
    exact Z_ri (hR _ _ d_Mo_link_41) (by rfl) (by rfl) (by rfl)
  · refine Z_aload_n (i := 0) hX d_Mo_link_1 rfl rfl ?_
    refine Z_iload_n (i := 1) hX d_Mo_link_2 rfl rfl ?_
    refine Z_iload_n (i := 2) hX d_Mo_link_3 rfl rfl ?_
    refine Z_cVi2 hX d_Mo_link_4 c_Mo_noPort m_Mo_noPort rfl rfl lk_Mo_152 ⟨by decide, by decide⟩ ⟨by decide, by decide⟩ (Nat.le_of_ble_eq_true rfl) ?_
    refine Z_ifneB (tgt := 25) hX d_Mo_link_7 rfl (fun h7 => ?_) (fun h7 => ?_)
    · refine Z_iconst (v := 1) hX d_Mo_link_25 rfl ?_
      refine Z_goto (tgt := 30) hX d_Mo_link_26 rfl ?_
      exact hJ30 _ (by simp [m_lkw, zB, h7])
    · refine Z_aload_n (i := 0) hX d_Mo_link_10 rfl rfl ?_
      refine Z_iload_n (i := 3) hX d_Mo_link_11 rfl rfl ?_
      refine Z_iload hX d_Mo_link_12 rfl ?_
      refine Z_cVi2 hX d_Mo_link_14 c_Mo_noPort m_Mo_noPort rfl rfl lk_Mo_152 ⟨by decide, by decide⟩ ⟨by decide, by decide⟩ (Nat.le_of_ble_eq_true rfl) ?_
      refine Z_ifneB (tgt := 25) hX d_Mo_link_17 rfl (fun h17 => ?_) (fun h17 => ?_)
      · refine Z_iconst (v := 1) hX d_Mo_link_25 rfl ?_
        refine Z_goto (tgt := 30) hX d_Mo_link_26 rfl ?_
        exact hJ30 _ (by simp [m_lkw, zB, h7, h17])
      · refine Z_iload_n (i := 1) hX d_Mo_link_20 rfl rfl ?_
        refine Z_iload_n (i := 3) hX d_Mo_link_21 rfl rfl ?_
        refine Z_icne (tgt := 29) hX d_Mo_link_22 rfl (fun h22 => ?_) (fun h22 => ?_)
        · refine Z_iconst (v := 0) hX d_Mo_link_29 rfl ?_
          exact hJ30 _ (by simp [m_lkw, zB, h7, h17, h22])
        · refine Z_iconst (v := 1) hX d_Mo_link_25 rfl ?_
          refine Z_goto (tgt := 30) hX d_Mo_link_26 rfl ?_
          exact hJ30 _ (by simp [m_lkw, zB, h7, h17, h22])

set_option maxRecDepth 100000 in
set_option maxHeartbeats 4000000 in
theorem c_Mo_link_y {la : Launch} {G : zG} {I : zI} {J : zJ} {a p b q : Nat} (ha : a < 16) (hp : p < 4) (hb : b < 16) (hq : q < 4) (hw : m_lkw I (nI a) (nI p) (nI b) (nI q) = false) (ht : m_lkt (zup I 64 0 0) (4 * a + p) (4 * b + q) = true) : zCi la G y_Mo_link (Cond.code y_Mo_link prog_8_method_29_code 7 (some .int) :: TBL) (zR 3) [.ref (zad G 64), .int (nI a), .int (nI p), .int (nI b), .int (nI q)] I J (0) (zup (zup I 64 0 0) 64 0 2) (J) := by
  refine zCi_of (by decide) (by simp [lg_sl, Value.category]) (rfl) (fun X hla hX hR => ?_)
  subst hla
  refine Z_loc (l' := [(0, .ref (zad G 64)), (1, .int (nI a)), (2, .int (nI p)), (3, .int (nI b)), (4, .int (nI q))]) (by simp [lv_args, Value.category, List.lookup]) ?_
  refine Z_aload_n (i := 0) hX d_Mo_link_0 rfl rfl ?_
  refine Z_cutw (pc' := 30) (w := zB (m_lkw I (nI a) (nI p) (nI b) (nI q))) ?_ (fun hJ30 => ?_)
  · refine Z_id ?_
    refine Z_top (y := 0) (by rw [hw]; rfl) ?_
    refine Z_putI (k0 := 0) hX d_Mo_link_30 rfl rfl u_Mo (by decide) lk_Mo_7 rfl t_Mo to_Mo n_Mo rfl rfl rfl rfl ?_
    refine Z_aload_n (i := 0) hX d_Mo_link_33 rfl rfl ?_
    refine Z_getI (k0 := 0) hX d_Mo_link_34 rfl rfl u_Mo (by decide) lk_Mo_7 rfl ?_
    refine Z_top (y := 0) m_t_0 ?_
    refine Z_ifeq (tgt := 42) hX d_Mo_link_37 rfl (fun h37 => ?_) (fun h => absurd rfl h)
    refine Z_iconst (v := nI 4) hX d_Mo_link_42 rfl ?_
    refine Z_iload_n (i := 1) hX d_Mo_link_43 rfl rfl ?_
    refine Z_imulN hX d_Mo_link_44 ?_
    refine Z_iload_n (i := 2) hX d_Mo_link_45 rfl rfl ?_
    refine Z_iaddN hX d_Mo_link_46 ?_
    refine Z_istore hX d_Mo_link_47 (by decide) rfl ?_
    refine Z_iconst (v := nI 4) hX d_Mo_link_49 rfl ?_
    refine Z_iload_n (i := 3) hX d_Mo_link_50 rfl rfl ?_
    refine Z_imulN hX d_Mo_link_51 ?_
    refine Z_iload hX d_Mo_link_52 rfl ?_
    refine Z_iaddN hX d_Mo_link_54 ?_
    refine Z_istore hX d_Mo_link_55 (by decide) rfl ?_
    refine Z_aload_n (i := 0) hX d_Mo_link_57 rfl rfl ?_
    refine Z_getR (k0 := 9) hX d_Mo_link_58 rfl rfl u_Mo (by decide) lk_Mo_40 rfl ?_
    refine Z_iload hX d_Mo_link_61 rfl ?_
    refine Z_iald hX d_Mo_link_63 rfl rfl (by omega) (by decide) ?_
    refine Z_ifge (tgt := 106) hX d_Mo_link_64 rfl (fun h64 => ?_) (fun h64 => ?_)
    · refine Z_aload_n (i := 0) hX d_Mo_link_106 rfl rfl ?_
      refine Z_iconst (v := 2) hX d_Mo_link_107 rfl ?_
      refine Z_putI (k0 := 0) hX d_Mo_link_108 rfl rfl u_Mo (by decide) lk_Mo_7 rfl t_Mo to_Mo n_Mo rfl rfl rfl rfl ?_
      refine Z_iconst (v := 0) hX d_Mo_link_111 rfl ?_
      exact Z_ri (hR _ _ d_Mo_link_112) (by rfl) (by rfl) (by rfl)
    · refine Z_aload_n (i := 0) hX d_Mo_link_67 rfl rfl ?_
      refine Z_getR (k0 := 9) hX d_Mo_link_68 rfl rfl u_Mo (by decide) lk_Mo_40 rfl ?_
      refine Z_iload hX d_Mo_link_71 rfl ?_
      refine Z_iald hX d_Mo_link_73 rfl rfl (by omega) (by decide) ?_
      refine Z_ifge (tgt := 106) hX d_Mo_link_74 rfl (fun h74 => ?_) (fun h74 => ?_)
      · refine Z_aload_n (i := 0) hX d_Mo_link_106 rfl rfl ?_
        refine Z_iconst (v := 2) hX d_Mo_link_107 rfl ?_
        refine Z_putI (k0 := 0) hX d_Mo_link_108 rfl rfl u_Mo (by decide) lk_Mo_7 rfl t_Mo to_Mo n_Mo rfl rfl rfl rfl ?_
        refine Z_iconst (v := 0) hX d_Mo_link_111 rfl ?_
        exact Z_ri (hR _ _ d_Mo_link_112) (by rfl) (by rfl) (by rfl)
      · refine Z_aload_n (i := 0) hX d_Mo_link_77 rfl rfl ?_
        refine Z_getR (k0 := 11) hX d_Mo_link_78 rfl rfl u_Mo (by decide) lk_Mo_46 rfl ?_
        refine Z_iload hX d_Mo_link_81 rfl ?_
        refine Z_iald hX d_Mo_link_83 rfl rfl (by omega) (by decide) ?_
        refine Z_ifge (tgt := 106) hX d_Mo_link_84 rfl (fun h84 => ?_) (fun h84 => ?_)
        · refine Z_aload_n (i := 0) hX d_Mo_link_106 rfl rfl ?_
          refine Z_iconst (v := 2) hX d_Mo_link_107 rfl ?_
          refine Z_putI (k0 := 0) hX d_Mo_link_108 rfl rfl u_Mo (by decide) lk_Mo_7 rfl t_Mo to_Mo n_Mo rfl rfl rfl rfl ?_
          refine Z_iconst (v := 0) hX d_Mo_link_111 rfl ?_
          exact Z_ri (hR _ _ d_Mo_link_112) (by rfl) (by rfl) (by rfl)
        · refine Z_aload_n (i := 0) hX d_Mo_link_87 rfl rfl ?_
          refine Z_getR (k0 := 11) hX d_Mo_link_88 rfl rfl u_Mo (by decide) lk_Mo_46 rfl ?_
          refine Z_iload hX d_Mo_link_91 rfl ?_
          refine Z_iald hX d_Mo_link_93 rfl rfl (by omega) (by decide) ?_
          refine Z_ifge (tgt := 106) hX d_Mo_link_94 rfl (fun h94 => ?_) (fun h94 => ?_)
          · refine Z_aload_n (i := 0) hX d_Mo_link_106 rfl rfl ?_
            refine Z_iconst (v := 2) hX d_Mo_link_107 rfl ?_
            refine Z_putI (k0 := 0) hX d_Mo_link_108 rfl rfl u_Mo (by decide) lk_Mo_7 rfl t_Mo to_Mo n_Mo rfl rfl rfl rfl ?_
            refine Z_iconst (v := 0) hX d_Mo_link_111 rfl ?_
            exact Z_ri (hR _ _ d_Mo_link_112) (by rfl) (by rfl) (by rfl)
          · refine Z_aload_n (i := 0) hX d_Mo_link_97 rfl rfl ?_
            refine Z_getI (k0 := 14) hX d_Mo_link_98 rfl rfl u_Mo (by decide) lk_Mo_55 rfl ?_
            refine Z_bipush (v := 24) hX d_Mo_link_101 rfl ?_
            refine Z_icne (tgt := 113) hX d_Mo_link_103 rfl (fun h103 => ?_) (fun h103 => ?_)
            · exact absurd ht (by simp [m_lkt, h64, h74, h84, h94, h103])
            · refine Z_aload_n (i := 0) hX d_Mo_link_106 rfl rfl ?_
              refine Z_iconst (v := 2) hX d_Mo_link_107 rfl ?_
              refine Z_putI (k0 := 0) hX d_Mo_link_108 rfl rfl u_Mo (by decide) lk_Mo_7 rfl t_Mo to_Mo n_Mo rfl rfl rfl rfl ?_
              refine Z_iconst (v := 0) hX d_Mo_link_111 rfl ?_
              exact Z_ri (hR _ _ d_Mo_link_112) (by rfl) (by rfl) (by rfl)
  · refine Z_aload_n (i := 0) hX d_Mo_link_1 rfl rfl ?_
    refine Z_iload_n (i := 1) hX d_Mo_link_2 rfl rfl ?_
    refine Z_iload_n (i := 2) hX d_Mo_link_3 rfl rfl ?_
    refine Z_cVi2 hX d_Mo_link_4 c_Mo_noPort m_Mo_noPort rfl rfl lk_Mo_152 ⟨by decide, by decide⟩ ⟨by decide, by decide⟩ (Nat.le_of_ble_eq_true rfl) ?_
    refine Z_ifneB (tgt := 25) hX d_Mo_link_7 rfl (fun h7 => ?_) (fun h7 => ?_)
    · refine Z_iconst (v := 1) hX d_Mo_link_25 rfl ?_
      refine Z_goto (tgt := 30) hX d_Mo_link_26 rfl ?_
      exact hJ30 _ (by simp [m_lkw, zB, h7])
    · refine Z_aload_n (i := 0) hX d_Mo_link_10 rfl rfl ?_
      refine Z_iload_n (i := 3) hX d_Mo_link_11 rfl rfl ?_
      refine Z_iload hX d_Mo_link_12 rfl ?_
      refine Z_cVi2 hX d_Mo_link_14 c_Mo_noPort m_Mo_noPort rfl rfl lk_Mo_152 ⟨by decide, by decide⟩ ⟨by decide, by decide⟩ (Nat.le_of_ble_eq_true rfl) ?_
      refine Z_ifneB (tgt := 25) hX d_Mo_link_17 rfl (fun h17 => ?_) (fun h17 => ?_)
      · refine Z_iconst (v := 1) hX d_Mo_link_25 rfl ?_
        refine Z_goto (tgt := 30) hX d_Mo_link_26 rfl ?_
        exact hJ30 _ (by simp [m_lkw, zB, h7, h17])
      · refine Z_iload_n (i := 1) hX d_Mo_link_20 rfl rfl ?_
        refine Z_iload_n (i := 3) hX d_Mo_link_21 rfl rfl ?_
        refine Z_icne (tgt := 29) hX d_Mo_link_22 rfl (fun h22 => ?_) (fun h22 => ?_)
        · refine Z_iconst (v := 0) hX d_Mo_link_29 rfl ?_
          exact hJ30 _ (by simp [m_lkw, zB, h7, h17, h22])
        · refine Z_iconst (v := 1) hX d_Mo_link_25 rfl ?_
          refine Z_goto (tgt := 30) hX d_Mo_link_26 rfl ?_
          exact hJ30 _ (by simp [m_lkw, zB, h7, h17, h22])

set_option maxRecDepth 100000 in
set_option maxHeartbeats 4000000 in
theorem c_Mo_link {la : Launch} {G : zG} {I : zI} {J : zJ} {a p b q : Nat} (ha : a < 16) (hp : p < 4) (hb : b < 16) (hq : q < 4) (hw : m_lkw I (nI a) (nI p) (nI b) (nI q) = false) {k : Nat} (hk : I 64 14 = nI k) (hk2 : k < 24) (ht : m_lkt (zup I 64 0 0) (4 * a + p) (4 * b + q) = false) : zCi la G y_Mo_link (Cond.code y_Mo_link prog_8_method_29_code 7 (some .int) :: TBL) (zR 3) [.ref (zad G 64), .int (nI a), .int (nI p), .int (nI b), .int (nI q)] I J (nI k) (m_ln I k (4 * a + p) (4 * b + q)) (J) := by
  refine zCi_of (by decide) (by simp [lg_sl, Value.category]) (rfl) (fun X hla hX hR => ?_)
  subst hla
  refine Z_loc (l' := [(0, .ref (zad G 64)), (1, .int (nI a)), (2, .int (nI p)), (3, .int (nI b)), (4, .int (nI q))]) (by simp [lv_args, Value.category, List.lookup]) ?_
  refine Z_aload_n (i := 0) hX d_Mo_link_0 rfl rfl ?_
  refine Z_cutw (pc' := 30) (w := zB (m_lkw I (nI a) (nI p) (nI b) (nI q))) ?_ (fun hJ30 => ?_)
  · refine Z_id ?_
    refine Z_top (y := 0) (by rw [hw]; rfl) ?_
    refine Z_putI (k0 := 0) hX d_Mo_link_30 rfl rfl u_Mo (by decide) lk_Mo_7 rfl t_Mo to_Mo n_Mo rfl rfl rfl rfl ?_
    refine Z_aload_n (i := 0) hX d_Mo_link_33 rfl rfl ?_
    refine Z_getI (k0 := 0) hX d_Mo_link_34 rfl rfl u_Mo (by decide) lk_Mo_7 rfl ?_
    refine Z_top (y := 0) m_t_0 ?_
    refine Z_ifeq (tgt := 42) hX d_Mo_link_37 rfl (fun h37 => ?_) (fun h => absurd rfl h)
    refine Z_iconst (v := nI 4) hX d_Mo_link_42 rfl ?_
    refine Z_iload_n (i := 1) hX d_Mo_link_43 rfl rfl ?_
    refine Z_imulN hX d_Mo_link_44 ?_
    refine Z_iload_n (i := 2) hX d_Mo_link_45 rfl rfl ?_
    refine Z_iaddN hX d_Mo_link_46 ?_
    refine Z_istore hX d_Mo_link_47 (by decide) rfl ?_
    refine Z_iconst (v := nI 4) hX d_Mo_link_49 rfl ?_
    refine Z_iload_n (i := 3) hX d_Mo_link_50 rfl rfl ?_
    refine Z_imulN hX d_Mo_link_51 ?_
    refine Z_iload hX d_Mo_link_52 rfl ?_
    refine Z_iaddN hX d_Mo_link_54 ?_
    refine Z_istore hX d_Mo_link_55 (by decide) rfl ?_
    simp only [m_lkt, Bool.or_eq_false_iff, decide_eq_false_iff_not] at ht
    obtain ⟨⟨⟨⟨t1, t2⟩, t3⟩, t4⟩, t5⟩ := ht
    refine Z_aload_n (i := 0) hX d_Mo_link_57 rfl rfl ?_
    refine Z_getR (k0 := 9) hX d_Mo_link_58 rfl rfl u_Mo (by decide) lk_Mo_40 rfl ?_
    refine Z_iload hX d_Mo_link_61 rfl ?_
    refine Z_iald hX d_Mo_link_63 rfl rfl (by omega) (by decide) ?_
    refine Z_ifge (tgt := 106) hX d_Mo_link_64 rfl (fun h => absurd h (t1)) (fun h64 => ?_)
    refine Z_aload_n (i := 0) hX d_Mo_link_67 rfl rfl ?_
    refine Z_getR (k0 := 9) hX d_Mo_link_68 rfl rfl u_Mo (by decide) lk_Mo_40 rfl ?_
    refine Z_iload hX d_Mo_link_71 rfl ?_
    refine Z_iald hX d_Mo_link_73 rfl rfl (by omega) (by decide) ?_
    refine Z_ifge (tgt := 106) hX d_Mo_link_74 rfl (fun h => absurd h (t2)) (fun h74 => ?_)
    refine Z_aload_n (i := 0) hX d_Mo_link_77 rfl rfl ?_
    refine Z_getR (k0 := 11) hX d_Mo_link_78 rfl rfl u_Mo (by decide) lk_Mo_46 rfl ?_
    refine Z_iload hX d_Mo_link_81 rfl ?_
    refine Z_iald hX d_Mo_link_83 rfl rfl (by omega) (by decide) ?_
    refine Z_ifge (tgt := 106) hX d_Mo_link_84 rfl (fun h => absurd h (t3)) (fun h84 => ?_)
    refine Z_aload_n (i := 0) hX d_Mo_link_87 rfl rfl ?_
    refine Z_getR (k0 := 11) hX d_Mo_link_88 rfl rfl u_Mo (by decide) lk_Mo_46 rfl ?_
    refine Z_iload hX d_Mo_link_91 rfl ?_
    refine Z_iald hX d_Mo_link_93 rfl rfl (by omega) (by decide) ?_
    refine Z_ifge (tgt := 106) hX d_Mo_link_94 rfl (fun h => absurd h (t4)) (fun h94 => ?_)
    refine Z_aload_n (i := 0) hX d_Mo_link_97 rfl rfl ?_
    refine Z_getI (k0 := 14) hX d_Mo_link_98 rfl rfl u_Mo (by decide) lk_Mo_55 rfl ?_
    refine Z_bipush (v := 24) hX d_Mo_link_101 rfl ?_
    refine Z_icne (tgt := 113) hX d_Mo_link_103 rfl (fun h103 => ?_) (fun h => absurd h (t5))
    refine Z_aload_n (i := 0) hX d_Mo_link_113 rfl rfl ?_
    refine Z_getR (k0 := 15) hX d_Mo_link_114 rfl rfl u_Mo (by decide) lk_Mo_58 rfl ?_
    refine Z_aload_n (i := 0) hX d_Mo_link_117 rfl rfl ?_
    refine Z_getI (k0 := 14) hX d_Mo_link_118 rfl rfl u_Mo (by decide) lk_Mo_55 rfl ?_
    refine Z_top (y := nI k) (by simp [zup, upd, hk]) ?_
    refine Z_iload hX d_Mo_link_121 rfl ?_
    refine Z_iast hX d_Mo_link_123 rfl rfl (by omega) (by decide) ?_
    refine Z_aload_n (i := 0) hX d_Mo_link_124 rfl rfl ?_
    refine Z_getR (k0 := 16) hX d_Mo_link_125 rfl rfl u_Mo (by decide) lk_Mo_61 rfl ?_
    refine Z_aload_n (i := 0) hX d_Mo_link_128 rfl rfl ?_
    refine Z_getI (k0 := 14) hX d_Mo_link_129 rfl rfl u_Mo (by decide) lk_Mo_55 rfl ?_
    refine Z_top (y := nI k) (by simp [zup, upd, hk]) ?_
    refine Z_iload hX d_Mo_link_132 rfl ?_
    refine Z_iast hX d_Mo_link_134 rfl rfl (by omega) (by decide) ?_
    refine Z_aload_n (i := 0) hX d_Mo_link_135 rfl rfl ?_
    refine Z_getR (k0 := 11) hX d_Mo_link_136 rfl rfl u_Mo (by decide) lk_Mo_46 rfl ?_
    refine Z_iload hX d_Mo_link_139 rfl ?_
    refine Z_aload_n (i := 0) hX d_Mo_link_141 rfl rfl ?_
    refine Z_getI (k0 := 14) hX d_Mo_link_142 rfl rfl u_Mo (by decide) lk_Mo_55 rfl ?_
    refine Z_top (y := nI k) (by simp [zup, upd, hk]) ?_
    refine Z_iast hX d_Mo_link_145 rfl rfl (by omega) (by decide) ?_
    refine Z_aload_n (i := 0) hX d_Mo_link_146 rfl rfl ?_
    refine Z_getR (k0 := 11) hX d_Mo_link_147 rfl rfl u_Mo (by decide) lk_Mo_46 rfl ?_
    refine Z_iload hX d_Mo_link_150 rfl ?_
    refine Z_aload_n (i := 0) hX d_Mo_link_152 rfl rfl ?_
    refine Z_getI (k0 := 14) hX d_Mo_link_153 rfl rfl u_Mo (by decide) lk_Mo_55 rfl ?_
    refine Z_top (y := nI k) (by simp [zup, upd, hk]) ?_
    refine Z_iast hX d_Mo_link_156 rfl rfl (by omega) (by decide) ?_
    refine Z_aload_n (i := 0) hX d_Mo_link_157 rfl rfl ?_
    refine Z_dup hX d_Mo_link_158 rfl ?_
    refine Z_getI (k0 := 14) hX d_Mo_link_159 rfl rfl u_Mo (by decide) lk_Mo_55 rfl ?_
    refine Z_iconst (v := 1) hX d_Mo_link_162 rfl ?_
    refine Z_iadd hX d_Mo_link_163 ?_
    refine Z_top (y := nI (k + 1)) (by rw [show zup (zup (zup (zup (zup I 64 0 0) 77 k (nI (4 * a + p))) 78 k (nI (4 * b + q))) 74 (4 * a + p) (nI k)) 74 (4 * b + q) (nI k) 64 14 = nI k from by simp [zup, upd, hk], nI_1]) ?_
    refine Z_putI (k0 := 14) hX d_Mo_link_164 rfl rfl u_Mo (by decide) lk_Mo_55 rfl t_Mo to_Mo n_Mo rfl rfl rfl rfl ?_
    refine Z_aload_n (i := 0) hX d_Mo_link_167 rfl rfl ?_
    refine Z_getI (k0 := 14) hX d_Mo_link_168 rfl rfl u_Mo (by decide) lk_Mo_55 rfl ?_
    refine Z_iconst (v := 1) hX d_Mo_link_171 rfl ?_
    refine Z_isub hX d_Mo_link_172 ?_
    refine Z_top (y := nI k) (by rw [zup_same, pk_us, nI_pred]) ?_
    exact Z_ri (hR _ _ d_Mo_link_173) (by rfl) (by rfl) (by rfl)
  · refine Z_aload_n (i := 0) hX d_Mo_link_1 rfl rfl ?_
    refine Z_iload_n (i := 1) hX d_Mo_link_2 rfl rfl ?_
    refine Z_iload_n (i := 2) hX d_Mo_link_3 rfl rfl ?_
    refine Z_cVi2 hX d_Mo_link_4 c_Mo_noPort m_Mo_noPort rfl rfl lk_Mo_152 ⟨by decide, by decide⟩ ⟨by decide, by decide⟩ (Nat.le_of_ble_eq_true rfl) ?_
    refine Z_ifneB (tgt := 25) hX d_Mo_link_7 rfl (fun h7 => ?_) (fun h7 => ?_)
    · refine Z_iconst (v := 1) hX d_Mo_link_25 rfl ?_
      refine Z_goto (tgt := 30) hX d_Mo_link_26 rfl ?_
      exact hJ30 _ (by simp [m_lkw, zB, h7])
    · refine Z_aload_n (i := 0) hX d_Mo_link_10 rfl rfl ?_
      refine Z_iload_n (i := 3) hX d_Mo_link_11 rfl rfl ?_
      refine Z_iload hX d_Mo_link_12 rfl ?_
      refine Z_cVi2 hX d_Mo_link_14 c_Mo_noPort m_Mo_noPort rfl rfl lk_Mo_152 ⟨by decide, by decide⟩ ⟨by decide, by decide⟩ (Nat.le_of_ble_eq_true rfl) ?_
      refine Z_ifneB (tgt := 25) hX d_Mo_link_17 rfl (fun h17 => ?_) (fun h17 => ?_)
      · refine Z_iconst (v := 1) hX d_Mo_link_25 rfl ?_
        refine Z_goto (tgt := 30) hX d_Mo_link_26 rfl ?_
        exact hJ30 _ (by simp [m_lkw, zB, h7, h17])
      · refine Z_iload_n (i := 1) hX d_Mo_link_20 rfl rfl ?_
        refine Z_iload_n (i := 3) hX d_Mo_link_21 rfl rfl ?_
        refine Z_icne (tgt := 29) hX d_Mo_link_22 rfl (fun h22 => ?_) (fun h22 => ?_)
        · refine Z_iconst (v := 0) hX d_Mo_link_29 rfl ?_
          exact hJ30 _ (by simp [m_lkw, zB, h7, h17, h22])
        · refine Z_iconst (v := 1) hX d_Mo_link_25 rfl ?_
          refine Z_goto (tgt := 30) hX d_Mo_link_26 rfl ?_
          exact hJ30 _ (by simp [m_lkw, zB, h7, h17, h22])

set_option maxRecDepth 100000 in
set_option maxHeartbeats 4000000 in
theorem c_Mo_source_x {la : Launch} {G : zG} {I : zI} {J : zJ} {e p q o : Int32} (hw : m_sow I e p q o = true) : zCv la G y_Mo_source (Cond.code y_Mo_source prog_8_method_30_code 5 none :: TBL) (zR 3) [.ref (zad G 64), .int e, .int p, .int q, .int o] I J (m_t I 1) (J) := by
  refine zCv_of (by decide) (by simp [lg_sl, Value.category]) (fun X hla hX hR => ?_)
  subst hla
  refine Z_loc (l' := [(0, .ref (zad G 64)), (1, .int e), (2, .int p), (3, .int q), (4, .int o)]) (by simp [lv_args, Value.category, List.lookup]) ?_
  refine Z_aload_n (i := 0) hX d_Mo_source_0 rfl rfl ?_
  refine Z_aload_n (i := 0) hX d_Mo_source_1 rfl rfl ?_
  refine Z_iload_n (i := 1) hX d_Mo_source_2 rfl rfl ?_
  refine Z_iload_n (i := 2) hX d_Mo_source_3 rfl rfl ?_
  refine Z_cVi2 hX d_Mo_source_4 c_Mo_noPort m_Mo_noPort rfl rfl lk_Mo_152 ⟨by decide, by decide⟩ ⟨by decide, by decide⟩ (Nat.le_of_ble_eq_true rfl) ?_
  refine Z_ifneB (tgt := 41) hX d_Mo_source_7 rfl (fun h7 => ?_) (fun h7 => ?_)
  · refine Z_iconst (v := 1) hX d_Mo_source_41 rfl ?_
    refine Z_goto (tgt := 63) hX d_Mo_source_42 rfl ?_
    refine Z_putI (k0 := 0) hX d_Mo_source_63 rfl rfl u_Mo (by decide) lk_Mo_7 rfl t_Mo to_Mo n_Mo rfl rfl rfl rfl ?_
    refine Z_aload_n (i := 0) hX d_Mo_source_66 rfl rfl ?_
    refine Z_getI (k0 := 0) hX d_Mo_source_67 rfl rfl u_Mo (by decide) lk_Mo_7 rfl ?_
    refine Z_top (y := 1) m_t_0 ?_
    refine Z_ifeq (tgt := 74) hX d_Mo_source_70 rfl (fun h => absurd h (by decide)) (fun h70 => ?_)
    exact Z_mem (by rfl) (by rfl) (hR _ _ d_Mo_source_73)
  · refine Z_iload_n (i := 3) hX d_Mo_source_10 rfl rfl ?_
    refine Z_iconst (v := (-1)) hX d_Mo_source_11 rfl ?_
    refine Z_iclt (tgt := 41) hX d_Mo_source_12 rfl (fun h12 => ?_) (fun h12 => ?_)
    · refine Z_iconst (v := 1) hX d_Mo_source_41 rfl ?_
      refine Z_goto (tgt := 63) hX d_Mo_source_42 rfl ?_
      refine Z_putI (k0 := 0) hX d_Mo_source_63 rfl rfl u_Mo (by decide) lk_Mo_7 rfl t_Mo to_Mo n_Mo rfl rfl rfl rfl ?_
      refine Z_aload_n (i := 0) hX d_Mo_source_66 rfl rfl ?_
      refine Z_getI (k0 := 0) hX d_Mo_source_67 rfl rfl u_Mo (by decide) lk_Mo_7 rfl ?_
      refine Z_top (y := 1) m_t_0 ?_
      refine Z_ifeq (tgt := 74) hX d_Mo_source_70 rfl (fun h => absurd h (by decide)) (fun h70 => ?_)
      exact Z_mem (by rfl) (by rfl) (hR _ _ d_Mo_source_73)
    · refine Z_iload_n (i := 3) hX d_Mo_source_15 rfl rfl ?_
      refine Z_bipush (v := 6) hX d_Mo_source_16 rfl ?_
      refine Z_icgt (tgt := 41) hX d_Mo_source_18 rfl (fun h18 => ?_) (fun h18 => ?_)
      · refine Z_iconst (v := 1) hX d_Mo_source_41 rfl ?_
        refine Z_goto (tgt := 63) hX d_Mo_source_42 rfl ?_
        refine Z_putI (k0 := 0) hX d_Mo_source_63 rfl rfl u_Mo (by decide) lk_Mo_7 rfl t_Mo to_Mo n_Mo rfl rfl rfl rfl ?_
        refine Z_aload_n (i := 0) hX d_Mo_source_66 rfl rfl ?_
        refine Z_getI (k0 := 0) hX d_Mo_source_67 rfl rfl u_Mo (by decide) lk_Mo_7 rfl ?_
        refine Z_top (y := 1) m_t_0 ?_
        refine Z_ifeq (tgt := 74) hX d_Mo_source_70 rfl (fun h => absurd h (by decide)) (fun h70 => ?_)
        exact Z_mem (by rfl) (by rfl) (hR _ _ d_Mo_source_73)
      · refine Z_iload_n (i := 3) hX d_Mo_source_21 rfl rfl ?_
        refine Z_iflt (tgt := 45) hX d_Mo_source_22 rfl (fun h22 => ?_) (fun h22 => ?_)
        · exact absurd hw (by simp [m_sow, h7, h12, h18, h22])
        · refine Z_iload hX d_Mo_source_25 rfl ?_
          refine Z_sipush (v := (-1000)) hX d_Mo_source_27 rfl ?_
          refine Z_iclt (tgt := 41) hX d_Mo_source_30 rfl (fun h30 => ?_) (fun h30 => ?_)
          · refine Z_iconst (v := 1) hX d_Mo_source_41 rfl ?_
            refine Z_goto (tgt := 63) hX d_Mo_source_42 rfl ?_
            refine Z_putI (k0 := 0) hX d_Mo_source_63 rfl rfl u_Mo (by decide) lk_Mo_7 rfl t_Mo to_Mo n_Mo rfl rfl rfl rfl ?_
            refine Z_aload_n (i := 0) hX d_Mo_source_66 rfl rfl ?_
            refine Z_getI (k0 := 0) hX d_Mo_source_67 rfl rfl u_Mo (by decide) lk_Mo_7 rfl ?_
            refine Z_top (y := 1) m_t_0 ?_
            refine Z_ifeq (tgt := 74) hX d_Mo_source_70 rfl (fun h => absurd h (by decide)) (fun h70 => ?_)
            exact Z_mem (by rfl) (by rfl) (hR _ _ d_Mo_source_73)
          · refine Z_iload hX d_Mo_source_33 rfl ?_
            refine Z_sipush (v := 1000) hX d_Mo_source_35 rfl ?_
            refine Z_icle (tgt := 45) hX d_Mo_source_38 rfl (fun h38 => ?_) (fun h38 => ?_)
            · exact absurd hw (by simp [m_sow, h7, h12, h18, h22, h30, h38])
            · refine Z_iconst (v := 1) hX d_Mo_source_41 rfl ?_
              refine Z_goto (tgt := 63) hX d_Mo_source_42 rfl ?_
              refine Z_putI (k0 := 0) hX d_Mo_source_63 rfl rfl u_Mo (by decide) lk_Mo_7 rfl t_Mo to_Mo n_Mo rfl rfl rfl rfl ?_
              refine Z_aload_n (i := 0) hX d_Mo_source_66 rfl rfl ?_
              refine Z_getI (k0 := 0) hX d_Mo_source_67 rfl rfl u_Mo (by decide) lk_Mo_7 rfl ?_
              refine Z_top (y := 1) m_t_0 ?_
              refine Z_ifeq (tgt := 74) hX d_Mo_source_70 rfl (fun h => absurd h (by decide)) (fun h70 => ?_)
              exact Z_mem (by rfl) (by rfl) (hR _ _ d_Mo_source_73)

set_option maxRecDepth 100000 in
set_option maxHeartbeats 4000000 in
theorem c_Mo_source_y {la : Launch} {G : zG} {I : zI} {J : zJ} {e p : Nat} (he : e < 16) (hp : p < 4) {q o : Int32} (hw : m_sow I (nI e) (nI p) q o = false) (ht : ¬ I 74 (4 * e + p) < 0) : zCv la G y_Mo_source (Cond.code y_Mo_source prog_8_method_30_code 5 none :: TBL) (zR 3) [.ref (zad G 64), .int (nI e), .int (nI p), .int q, .int o] I J (m_t I 2) (J) := by
  refine zCv_of (by decide) (by simp [lg_sl, Value.category]) (fun X hla hX hR => ?_)
  subst hla
  refine Z_loc (l' := [(0, .ref (zad G 64)), (1, .int (nI e)), (2, .int (nI p)), (3, .int q), (4, .int o)]) (by simp [lv_args, Value.category, List.lookup]) ?_
  refine Z_aload_n (i := 0) hX d_Mo_source_0 rfl rfl ?_
  refine Z_aload_n (i := 0) hX d_Mo_source_1 rfl rfl ?_
  refine Z_iload_n (i := 1) hX d_Mo_source_2 rfl rfl ?_
  refine Z_iload_n (i := 2) hX d_Mo_source_3 rfl rfl ?_
  refine Z_cVi2 hX d_Mo_source_4 c_Mo_noPort m_Mo_noPort rfl rfl lk_Mo_152 ⟨by decide, by decide⟩ ⟨by decide, by decide⟩ (Nat.le_of_ble_eq_true rfl) ?_
  refine Z_ifneB (tgt := 41) hX d_Mo_source_7 rfl (fun h7 => ?_) (fun h7 => ?_)
  · exact absurd hw (by simp [m_sow, h7])
  · refine Z_iload_n (i := 3) hX d_Mo_source_10 rfl rfl ?_
    refine Z_iconst (v := (-1)) hX d_Mo_source_11 rfl ?_
    refine Z_iclt (tgt := 41) hX d_Mo_source_12 rfl (fun h12 => ?_) (fun h12 => ?_)
    · exact absurd hw (by simp [m_sow, h7, h12])
    · refine Z_iload_n (i := 3) hX d_Mo_source_15 rfl rfl ?_
      refine Z_bipush (v := 6) hX d_Mo_source_16 rfl ?_
      refine Z_icgt (tgt := 41) hX d_Mo_source_18 rfl (fun h18 => ?_) (fun h18 => ?_)
      · exact absurd hw (by simp [m_sow, h7, h12, h18])
      · refine Z_iload_n (i := 3) hX d_Mo_source_21 rfl rfl ?_
        refine Z_iflt (tgt := 45) hX d_Mo_source_22 rfl (fun h22 => ?_) (fun h22 => ?_)
        · refine Z_aload_n (i := 0) hX d_Mo_source_45 rfl rfl ?_
          refine Z_getR (k0 := 11) hX d_Mo_source_46 rfl rfl u_Mo (by decide) lk_Mo_46 rfl ?_
          refine Z_iconst (v := nI 4) hX d_Mo_source_49 rfl ?_
          refine Z_iload_n (i := 1) hX d_Mo_source_50 rfl rfl ?_
          refine Z_imulN hX d_Mo_source_51 ?_
          refine Z_iload_n (i := 2) hX d_Mo_source_52 rfl rfl ?_
          refine Z_iaddN hX d_Mo_source_53 ?_
          refine Z_iald hX d_Mo_source_54 rfl rfl (by omega) (by decide) ?_
          refine Z_iflt (tgt := 62) hX d_Mo_source_55 rfl (fun h => absurd h ht) (fun h55 => ?_)
          refine Z_iconst (v := 2) hX d_Mo_source_58 rfl ?_
          refine Z_goto (tgt := 63) hX d_Mo_source_59 rfl ?_
          refine Z_putI (k0 := 0) hX d_Mo_source_63 rfl rfl u_Mo (by decide) lk_Mo_7 rfl t_Mo to_Mo n_Mo rfl rfl rfl rfl ?_
          refine Z_aload_n (i := 0) hX d_Mo_source_66 rfl rfl ?_
          refine Z_getI (k0 := 0) hX d_Mo_source_67 rfl rfl u_Mo (by decide) lk_Mo_7 rfl ?_
          refine Z_top (y := 2) m_t_0 ?_
          refine Z_ifeq (tgt := 74) hX d_Mo_source_70 rfl (fun h => absurd h (by decide)) (fun h70 => ?_)
          exact Z_mem (by rfl) (by rfl) (hR _ _ d_Mo_source_73)
        · refine Z_iload hX d_Mo_source_25 rfl ?_
          refine Z_sipush (v := (-1000)) hX d_Mo_source_27 rfl ?_
          refine Z_iclt (tgt := 41) hX d_Mo_source_30 rfl (fun h30 => ?_) (fun h30 => ?_)
          · exact absurd hw (by simp [m_sow, h7, h12, h18, h22, h30])
          · refine Z_iload hX d_Mo_source_33 rfl ?_
            refine Z_sipush (v := 1000) hX d_Mo_source_35 rfl ?_
            refine Z_icle (tgt := 45) hX d_Mo_source_38 rfl (fun h38 => ?_) (fun h38 => ?_)
            · refine Z_aload_n (i := 0) hX d_Mo_source_45 rfl rfl ?_
              refine Z_getR (k0 := 11) hX d_Mo_source_46 rfl rfl u_Mo (by decide) lk_Mo_46 rfl ?_
              refine Z_iconst (v := nI 4) hX d_Mo_source_49 rfl ?_
              refine Z_iload_n (i := 1) hX d_Mo_source_50 rfl rfl ?_
              refine Z_imulN hX d_Mo_source_51 ?_
              refine Z_iload_n (i := 2) hX d_Mo_source_52 rfl rfl ?_
              refine Z_iaddN hX d_Mo_source_53 ?_
              refine Z_iald hX d_Mo_source_54 rfl rfl (by omega) (by decide) ?_
              refine Z_iflt (tgt := 62) hX d_Mo_source_55 rfl (fun h => absurd h ht) (fun h55 => ?_)
              refine Z_iconst (v := 2) hX d_Mo_source_58 rfl ?_
              refine Z_goto (tgt := 63) hX d_Mo_source_59 rfl ?_
              refine Z_putI (k0 := 0) hX d_Mo_source_63 rfl rfl u_Mo (by decide) lk_Mo_7 rfl t_Mo to_Mo n_Mo rfl rfl rfl rfl ?_
              refine Z_aload_n (i := 0) hX d_Mo_source_66 rfl rfl ?_
              refine Z_getI (k0 := 0) hX d_Mo_source_67 rfl rfl u_Mo (by decide) lk_Mo_7 rfl ?_
              refine Z_top (y := 2) m_t_0 ?_
              refine Z_ifeq (tgt := 74) hX d_Mo_source_70 rfl (fun h => absurd h (by decide)) (fun h70 => ?_)
              exact Z_mem (by rfl) (by rfl) (hR _ _ d_Mo_source_73)
            · exact absurd hw (by simp [m_sow, h7, h12, h18, h22, h30, h38])

set_option maxRecDepth 100000 in
set_option maxHeartbeats 4000000 in
theorem c_Mo_source {la : Launch} {G : zG} {I : zI} {J : zJ} {e p : Nat} (he : e < 16) (hp : p < 4) {q o : Int32} (hw : m_sow I (nI e) (nI p) q o = false) (ht : I 74 (4 * e + p) < 0) : zCv la G y_Mo_source (Cond.code y_Mo_source prog_8_method_30_code 5 none :: TBL) (zR 3) [.ref (zad G 64), .int (nI e), .int (nI p), .int q, .int o] I J (zup (zup (m_t I 0) 72 (4 * e + p) q) 73 (4 * e + p) o) (J) := by
  refine zCv_of (by decide) (by simp [lg_sl, Value.category]) (fun X hla hX hR => ?_)
  subst hla
  refine Z_loc (l' := [(0, .ref (zad G 64)), (1, .int (nI e)), (2, .int (nI p)), (3, .int q), (4, .int o)]) (by simp [lv_args, Value.category, List.lookup]) ?_
  refine Z_aload_n (i := 0) hX d_Mo_source_0 rfl rfl ?_
  refine Z_aload_n (i := 0) hX d_Mo_source_1 rfl rfl ?_
  refine Z_iload_n (i := 1) hX d_Mo_source_2 rfl rfl ?_
  refine Z_iload_n (i := 2) hX d_Mo_source_3 rfl rfl ?_
  refine Z_cVi2 hX d_Mo_source_4 c_Mo_noPort m_Mo_noPort rfl rfl lk_Mo_152 ⟨by decide, by decide⟩ ⟨by decide, by decide⟩ (Nat.le_of_ble_eq_true rfl) ?_
  refine Z_ifneB (tgt := 41) hX d_Mo_source_7 rfl (fun h7 => ?_) (fun h7 => ?_)
  · exact absurd hw (by simp [m_sow, h7])
  · refine Z_iload_n (i := 3) hX d_Mo_source_10 rfl rfl ?_
    refine Z_iconst (v := (-1)) hX d_Mo_source_11 rfl ?_
    refine Z_iclt (tgt := 41) hX d_Mo_source_12 rfl (fun h12 => ?_) (fun h12 => ?_)
    · exact absurd hw (by simp [m_sow, h7, h12])
    · refine Z_iload_n (i := 3) hX d_Mo_source_15 rfl rfl ?_
      refine Z_bipush (v := 6) hX d_Mo_source_16 rfl ?_
      refine Z_icgt (tgt := 41) hX d_Mo_source_18 rfl (fun h18 => ?_) (fun h18 => ?_)
      · exact absurd hw (by simp [m_sow, h7, h12, h18])
      · refine Z_iload_n (i := 3) hX d_Mo_source_21 rfl rfl ?_
        refine Z_iflt (tgt := 45) hX d_Mo_source_22 rfl (fun h22 => ?_) (fun h22 => ?_)
        · refine Z_aload_n (i := 0) hX d_Mo_source_45 rfl rfl ?_
          refine Z_getR (k0 := 11) hX d_Mo_source_46 rfl rfl u_Mo (by decide) lk_Mo_46 rfl ?_
          refine Z_iconst (v := nI 4) hX d_Mo_source_49 rfl ?_
          refine Z_iload_n (i := 1) hX d_Mo_source_50 rfl rfl ?_
          refine Z_imulN hX d_Mo_source_51 ?_
          refine Z_iload_n (i := 2) hX d_Mo_source_52 rfl rfl ?_
          refine Z_iaddN hX d_Mo_source_53 ?_
          refine Z_iald hX d_Mo_source_54 rfl rfl (by omega) (by decide) ?_
          refine Z_iflt (tgt := 62) hX d_Mo_source_55 rfl (fun h55 => ?_) (fun h => absurd ht h)
          refine Z_iconst (v := 0) hX d_Mo_source_62 rfl ?_
          refine Z_putI (k0 := 0) hX d_Mo_source_63 rfl rfl u_Mo (by decide) lk_Mo_7 rfl t_Mo to_Mo n_Mo rfl rfl rfl rfl ?_
          refine Z_aload_n (i := 0) hX d_Mo_source_66 rfl rfl ?_
          refine Z_getI (k0 := 0) hX d_Mo_source_67 rfl rfl u_Mo (by decide) lk_Mo_7 rfl ?_
          refine Z_top (y := 0) m_t_0 ?_
          refine Z_ifeq (tgt := 74) hX d_Mo_source_70 rfl (fun h70 => ?_) (fun h => absurd rfl h)
          refine Z_aload_n (i := 0) hX d_Mo_source_74 rfl rfl ?_
          refine Z_getR (k0 := 9) hX d_Mo_source_75 rfl rfl u_Mo (by decide) lk_Mo_40 rfl ?_
          refine Z_iconst (v := nI 4) hX d_Mo_source_78 rfl ?_
          refine Z_iload_n (i := 1) hX d_Mo_source_79 rfl rfl ?_
          refine Z_imulN hX d_Mo_source_80 ?_
          refine Z_iload_n (i := 2) hX d_Mo_source_81 rfl rfl ?_
          refine Z_iaddN hX d_Mo_source_82 ?_
          refine Z_iload_n (i := 3) hX d_Mo_source_83 rfl rfl ?_
          refine Z_iast hX d_Mo_source_84 rfl rfl (by omega) (by decide) ?_
          refine Z_aload_n (i := 0) hX d_Mo_source_85 rfl rfl ?_
          refine Z_getR (k0 := 10) hX d_Mo_source_86 rfl rfl u_Mo (by decide) lk_Mo_43 rfl ?_
          refine Z_iconst (v := nI 4) hX d_Mo_source_89 rfl ?_
          refine Z_iload_n (i := 1) hX d_Mo_source_90 rfl rfl ?_
          refine Z_imulN hX d_Mo_source_91 ?_
          refine Z_iload_n (i := 2) hX d_Mo_source_92 rfl rfl ?_
          refine Z_iaddN hX d_Mo_source_93 ?_
          refine Z_iload hX d_Mo_source_94 rfl ?_
          refine Z_iast hX d_Mo_source_96 rfl rfl (by omega) (by decide) ?_
          exact Z_mem (by rfl) (by rfl) (hR _ _ d_Mo_source_97)
        · refine Z_iload hX d_Mo_source_25 rfl ?_
          refine Z_sipush (v := (-1000)) hX d_Mo_source_27 rfl ?_
          refine Z_iclt (tgt := 41) hX d_Mo_source_30 rfl (fun h30 => ?_) (fun h30 => ?_)
          · exact absurd hw (by simp [m_sow, h7, h12, h18, h22, h30])
          · refine Z_iload hX d_Mo_source_33 rfl ?_
            refine Z_sipush (v := 1000) hX d_Mo_source_35 rfl ?_
            refine Z_icle (tgt := 45) hX d_Mo_source_38 rfl (fun h38 => ?_) (fun h38 => ?_)
            · refine Z_aload_n (i := 0) hX d_Mo_source_45 rfl rfl ?_
              refine Z_getR (k0 := 11) hX d_Mo_source_46 rfl rfl u_Mo (by decide) lk_Mo_46 rfl ?_
              refine Z_iconst (v := nI 4) hX d_Mo_source_49 rfl ?_
              refine Z_iload_n (i := 1) hX d_Mo_source_50 rfl rfl ?_
              refine Z_imulN hX d_Mo_source_51 ?_
              refine Z_iload_n (i := 2) hX d_Mo_source_52 rfl rfl ?_
              refine Z_iaddN hX d_Mo_source_53 ?_
              refine Z_iald hX d_Mo_source_54 rfl rfl (by omega) (by decide) ?_
              refine Z_iflt (tgt := 62) hX d_Mo_source_55 rfl (fun h55 => ?_) (fun h => absurd ht h)
              refine Z_iconst (v := 0) hX d_Mo_source_62 rfl ?_
              refine Z_putI (k0 := 0) hX d_Mo_source_63 rfl rfl u_Mo (by decide) lk_Mo_7 rfl t_Mo to_Mo n_Mo rfl rfl rfl rfl ?_
              refine Z_aload_n (i := 0) hX d_Mo_source_66 rfl rfl ?_
              refine Z_getI (k0 := 0) hX d_Mo_source_67 rfl rfl u_Mo (by decide) lk_Mo_7 rfl ?_
              refine Z_top (y := 0) m_t_0 ?_
              refine Z_ifeq (tgt := 74) hX d_Mo_source_70 rfl (fun h70 => ?_) (fun h => absurd rfl h)
              refine Z_aload_n (i := 0) hX d_Mo_source_74 rfl rfl ?_
              refine Z_getR (k0 := 9) hX d_Mo_source_75 rfl rfl u_Mo (by decide) lk_Mo_40 rfl ?_
              refine Z_iconst (v := nI 4) hX d_Mo_source_78 rfl ?_
              refine Z_iload_n (i := 1) hX d_Mo_source_79 rfl rfl ?_
              refine Z_imulN hX d_Mo_source_80 ?_
              refine Z_iload_n (i := 2) hX d_Mo_source_81 rfl rfl ?_
              refine Z_iaddN hX d_Mo_source_82 ?_
              refine Z_iload_n (i := 3) hX d_Mo_source_83 rfl rfl ?_
              refine Z_iast hX d_Mo_source_84 rfl rfl (by omega) (by decide) ?_
              refine Z_aload_n (i := 0) hX d_Mo_source_85 rfl rfl ?_
              refine Z_getR (k0 := 10) hX d_Mo_source_86 rfl rfl u_Mo (by decide) lk_Mo_43 rfl ?_
              refine Z_iconst (v := nI 4) hX d_Mo_source_89 rfl ?_
              refine Z_iload_n (i := 1) hX d_Mo_source_90 rfl rfl ?_
              refine Z_imulN hX d_Mo_source_91 ?_
              refine Z_iload_n (i := 2) hX d_Mo_source_92 rfl rfl ?_
              refine Z_iaddN hX d_Mo_source_93 ?_
              refine Z_iload hX d_Mo_source_94 rfl ?_
              refine Z_iast hX d_Mo_source_96 rfl rfl (by omega) (by decide) ?_
              exact Z_mem (by rfl) (by rfl) (hR _ _ d_Mo_source_97)
            · exact absurd hw (by simp [m_sow, h7, h12, h18, h22, h30, h38])

set_option maxRecDepth 100000 in
set_option maxHeartbeats 4000000 in
theorem c_Mo_failElement_x {la : Launch} {G : zG} {I : zI} {J : zJ} {e : Int32} {o : Bool} (hw : m_ne I e = true)  : zCi la G y_Mo_failElement (Cond.code y_Mo_failElement prog_8_method_37_code 4 (some .boolean) :: TBL) (zR 2) [.ref (zad G 64), .int e, .int (zB o)] I J (0) (m_t I 1) (J) := by
  refine zCi_of (by decide) (by simp [lg_sl, Value.category]) (rfl) (fun X hla hX hR => ?_)
  subst hla
  refine Z_loc (l' := [(0, .ref (zad G 64)), (1, .int e), (2, .int (zB o))]) (by simp [lv_args, Value.category, List.lookup]) ?_
  refine Z_aload_n (i := 0) hX d_Mo_failElement_0 rfl rfl ?_
  refine Z_cutw (pc' := 14) (w := zB (m_ne I e)) ?_ (fun hJ14 => ?_)
  · refine Z_id ?_
    refine Z_top (y := 1) (by rw [hw]; rfl) ?_
    refine Z_putI (k0 := 0) hX d_Mo_failElement_14 rfl rfl u_Mo (by decide) lk_Mo_7 rfl t_Mo to_Mo n_Mo rfl rfl rfl rfl ?_
    refine Z_aload_n (i := 0) hX d_Mo_failElement_17 rfl rfl ?_
    refine Z_getI (k0 := 0) hX d_Mo_failElement_18 rfl rfl u_Mo (by decide) lk_Mo_7 rfl ?_
    refine Z_top (y := 1) m_t_0 ?_
    refine Z_ifeq (tgt := 26) hX d_Mo_failElement_21 rfl (fun h => absurd h (by decide)) (fun h21 => ?_)
    refine Z_iconst (v := 0) hX d_Mo_failElement_24 rfl ?_
    exact Z_ri (hR _ _ d_Mo_failElement_25) (by rfl) (by rfl) (by rfl)
  · refine Z_aload_n (i := 0) hX d_Mo_failElement_1 rfl rfl ?_
    refine Z_iload_n (i := 1) hX d_Mo_failElement_2 rfl rfl ?_
    refine Z_cVi1 hX d_Mo_failElement_3 c_Mo_noElement m_Mo_noElement rfl rfl lk_Mo_149 ⟨by decide, by decide⟩ ⟨by decide, by decide⟩ (Nat.le_of_ble_eq_true rfl) ?_
    refine Z_ifeqB (tgt := 13) hX d_Mo_failElement_6 rfl (fun h6 => ?_) (fun h6 => ?_)
    · refine Z_iconst (v := 0) hX d_Mo_failElement_13 rfl ?_
      exact hJ14 _ (by simp [zB, h6])
    · refine Z_iconst (v := 1) hX d_Mo_failElement_9 rfl ?_
      refine Z_goto (tgt := 14) hX d_Mo_failElement_10 rfl ?_
      exact hJ14 _ (by simp [zB, h6])

set_option maxRecDepth 100000 in
set_option maxHeartbeats 4000000 in
theorem c_Mo_failElement {la : Launch} {G : zG} {I : zI} {J : zJ} {e : Nat} (he : e < 16) {o : Bool} (hw : m_ne I (nI e) = false)  : zCi la G y_Mo_failElement (Cond.code y_Mo_failElement prog_8_method_37_code 4 (some .boolean) :: TBL) (zR 3) [.ref (zad G 64), .int (nI e), .int (zB o)] I J (zB (decide (I 79 (672 + e) = 1))) (m_fe (m_t I 0) e o) (J) := by
  refine zCi_of (by decide) (by simp [lg_sl, Value.category]) (zB_nar _) (fun X hla hX hR => ?_)
  subst hla
  refine Z_loc (l' := [(0, .ref (zad G 64)), (1, .int (nI e)), (2, .int (zB o))]) (by simp [lv_args, Value.category, List.lookup]) ?_
  refine Z_aload_n (i := 0) hX d_Mo_failElement_0 rfl rfl ?_
  refine Z_cutw (pc' := 14) (w := zB (m_ne I (nI e))) ?_ (fun hJ14 => ?_)
  · refine Z_id ?_
    refine Z_top (y := 0) (by rw [hw]; rfl) ?_
    refine Z_putI (k0 := 0) hX d_Mo_failElement_14 rfl rfl u_Mo (by decide) lk_Mo_7 rfl t_Mo to_Mo n_Mo rfl rfl rfl rfl ?_
    refine Z_aload_n (i := 0) hX d_Mo_failElement_17 rfl rfl ?_
    refine Z_getI (k0 := 0) hX d_Mo_failElement_18 rfl rfl u_Mo (by decide) lk_Mo_7 rfl ?_
    refine Z_top (y := 0) m_t_0 ?_
    refine Z_ifeq (tgt := 26) hX d_Mo_failElement_21 rfl (fun h21 => ?_) (fun h => absurd rfl h)
    refine Z_cutw (pc' := 45) (w := zB (decide (m_t I 0 79 (672 + e) = 1))) ?_ (fun hJ45 => ?_)
    · refine Z_id ?_
      refine Z_istore_n (i := 3) hX d_Mo_failElement_45 rfl (by decide) rfl ?_
      refine Z_iload_n (i := 2) hX d_Mo_failElement_46 rfl rfl ?_
      refine Z_ifeqB (tgt := 59) hX d_Mo_failElement_47 rfl (fun h47 => ?_) (fun h47 => ?_)
      · refine Z_iload_n (i := 2) hX d_Mo_failElement_59 rfl rfl ?_
        refine Z_ifne (tgt := 72) hX d_Mo_failElement_60 rfl (fun h => absurd ((zB_ne h).symm.trans h47) (by decide)) (fun h60 => ?_)
        refine Z_iload_n (i := 3) hX d_Mo_failElement_63 rfl rfl ?_
        refine Z_ifeqB (tgt := 72) hX d_Mo_failElement_64 rfl (fun h64 => ?_) (fun h64 => ?_)
        · refine Z_iload_n (i := 3) hX d_Mo_failElement_72 rfl rfl ?_
          exact Z_ri (hR _ _ d_Mo_failElement_73) (by (rw [show m_t I 0 79 (672 + e) = I 79 (672 + e) from congrFun (zup_ne (by decide)) _])) (by exact ((if_neg (by rw [h47]; decide)).trans (if_neg (by rw [h64]; decide))).symm) (by rfl)
        · refine Z_aload_n (i := 0) hX d_Mo_failElement_67 rfl rfl ?_
          refine Z_iload_n (i := 1) hX d_Mo_failElement_68 rfl rfl ?_
          refine Z_cVv1 hX d_Mo_failElement_69 (c_Mo_comesBack (by omega)) m_Mo_comesBack rfl rfl lk_Mo_161 ⟨by decide, by decide⟩ ⟨by decide, by decide⟩ (Nat.le_of_ble_eq_true rfl) ?_
          refine Z_iload_n (i := 3) hX d_Mo_failElement_72 rfl rfl ?_
          exact Z_ri (hR _ _ d_Mo_failElement_73) (by (rw [show m_t I 0 79 (672 + e) = I 79 (672 + e) from congrFun (zup_ne (by decide)) _])) (by exact ((if_neg (by rw [h47]; decide)).trans (if_pos h64)).symm) (by rfl)
      · refine Z_iload_n (i := 3) hX d_Mo_failElement_50 rfl rfl ?_
        refine Z_ifneB (tgt := 59) hX d_Mo_failElement_51 rfl (fun h51 => ?_) (fun h51 => ?_)
        · refine Z_iload_n (i := 2) hX d_Mo_failElement_59 rfl rfl ?_
          refine Z_ifne (tgt := 72) hX d_Mo_failElement_60 rfl (fun h60 => ?_) (fun h => absurd ((zB_eq h).symm.trans h47) (by decide))
          refine Z_iload_n (i := 3) hX d_Mo_failElement_72 rfl rfl ?_
          exact Z_ri (hR _ _ d_Mo_failElement_73) (by (rw [show m_t I 0 79 (672 + e) = I 79 (672 + e) from congrFun (zup_ne (by decide)) _])) (by exact ((if_pos h47).trans (if_pos h51)).symm) (by rfl)
        · refine Z_aload_n (i := 0) hX d_Mo_failElement_54 rfl rfl ?_
          refine Z_iload_n (i := 1) hX d_Mo_failElement_55 rfl rfl ?_
          refine Z_cVv1 hX d_Mo_failElement_56 (c_Mo_breakDown (by omega)) m_Mo_breakDown rfl rfl lk_Mo_158 ⟨by decide, by decide⟩ ⟨by decide, by decide⟩ (Nat.le_of_ble_eq_true rfl) ?_
          refine Z_iload_n (i := 2) hX d_Mo_failElement_59 rfl rfl ?_
          refine Z_ifne (tgt := 72) hX d_Mo_failElement_60 rfl (fun h60 => ?_) (fun h => absurd ((zB_eq h).symm.trans h47) (by decide))
          refine Z_iload_n (i := 3) hX d_Mo_failElement_72 rfl rfl ?_
          exact Z_ri (hR _ _ d_Mo_failElement_73) (by (rw [show m_t I 0 79 (672 + e) = I 79 (672 + e) from congrFun (zup_ne (by decide)) _])) (by exact ((if_pos h47).trans (if_neg (by rw [h51]; decide))).symm) (by rfl)
    · refine Z_aload_n (i := 0) hX d_Mo_failElement_26 rfl rfl ?_
      refine Z_getR (k0 := 17) hX d_Mo_failElement_27 rfl rfl u_Mo (by decide) lk_Mo_64 rfl ?_
      refine Z_sipush (v := nI 672) hX d_Mo_failElement_30 rfl ?_
      refine Z_iload_n (i := 1) hX d_Mo_failElement_33 rfl rfl ?_
      refine Z_iaddN hX d_Mo_failElement_34 ?_
      refine Z_iald hX d_Mo_failElement_35 rfl rfl (by omega) (by decide) ?_
      refine Z_iconst (v := 1) hX d_Mo_failElement_36 rfl ?_
      refine Z_icne (tgt := 44) hX d_Mo_failElement_37 rfl (fun h37 => ?_) (fun h37 => ?_)
      · refine Z_iconst (v := 0) hX d_Mo_failElement_44 rfl ?_
        exact hJ45 _ (by (have h9 : m_t I 0 79 (672 + e) = zup I 64 0 0 79 (672 + e) := rfl; rw [h9]; simp [h37, zB]))
      · refine Z_iconst (v := 1) hX d_Mo_failElement_40 rfl ?_
        refine Z_goto (tgt := 45) hX d_Mo_failElement_41 rfl ?_
        exact hJ45 _ (by (have h9 : m_t I 0 79 (672 + e) = zup I 64 0 0 79 (672 + e) := rfl; rw [h9]; simp [h37, zB]))
  · refine Z_aload_n (i := 0) hX d_Mo_failElement_1 rfl rfl ?_
    refine Z_iload_n (i := 1) hX d_Mo_failElement_2 rfl rfl ?_
    refine Z_cVi1 hX d_Mo_failElement_3 c_Mo_noElement m_Mo_noElement rfl rfl lk_Mo_149 ⟨by decide, by decide⟩ ⟨by decide, by decide⟩ (Nat.le_of_ble_eq_true rfl) ?_
    refine Z_ifeqB (tgt := 13) hX d_Mo_failElement_6 rfl (fun h6 => ?_) (fun h6 => ?_)
    · refine Z_iconst (v := 0) hX d_Mo_failElement_13 rfl ?_
      exact hJ14 _ (by simp [zB, h6])
    · refine Z_iconst (v := 1) hX d_Mo_failElement_9 rfl ?_
      refine Z_goto (tgt := 14) hX d_Mo_failElement_10 rfl ?_
      exact hJ14 _ (by simp [zB, h6])

set_option maxRecDepth 100000 in
set_option maxHeartbeats 4000000 in
theorem c_Mo_rounds_x {la : Launch} {G : zG} {I : zI} {J : zJ} {n : Int32} (hw : m_row n = true)  : zCi la G y_Mo_rounds (Cond.code y_Mo_rounds prog_8_method_39_code 3 (some .int) :: TBL) (zR 1) [.ref (zad G 64), .int n] I J (0) (m_t I 1) (J) := by
  refine zCi_of (by decide) (by simp [lg_sl, Value.category]) (rfl) (fun X hla hX hR => ?_)
  subst hla
  refine Z_loc (l' := [(0, .ref (zad G 64)), (1, .int n)]) (by simp [lv_args, Value.category, List.lookup]) ?_
  refine Z_aload_n (i := 0) hX d_Mo_rounds_0 rfl rfl ?_
  refine Z_cutw (pc' := 18) (w := zB (m_row n)) ?_ (fun hJ18 => ?_)
  · refine Z_id ?_
    refine Z_top (y := 1) (by rw [hw]; rfl) ?_
    refine Z_putI (k0 := 0) hX d_Mo_rounds_18 rfl rfl u_Mo (by decide) lk_Mo_7 rfl t_Mo to_Mo n_Mo rfl rfl rfl rfl ?_
    refine Z_aload_n (i := 0) hX d_Mo_rounds_21 rfl rfl ?_
    refine Z_getI (k0 := 0) hX d_Mo_rounds_22 rfl rfl u_Mo (by decide) lk_Mo_7 rfl ?_
    refine Z_top (y := 1) m_t_0 ?_
    refine Z_ifeq (tgt := 30) hX d_Mo_rounds_25 rfl (fun h => absurd h (by decide)) (fun h25 => ?_)
    refine Z_iconst (v := 0) hX d_Mo_rounds_28 rfl ?_
    exact Z_ri (hR _ _ d_Mo_rounds_29) (by rfl) (by rfl) (by rfl)
  · refine Z_iload_n (i := 1) hX d_Mo_rounds_1 rfl rfl ?_
    refine Z_iconst (v := 1) hX d_Mo_rounds_2 rfl ?_
    refine Z_iclt (tgt := 13) hX d_Mo_rounds_3 rfl (fun h3 => ?_) (fun h3 => ?_)
    · refine Z_iconst (v := 1) hX d_Mo_rounds_13 rfl ?_
      refine Z_goto (tgt := 18) hX d_Mo_rounds_14 rfl ?_
      exact hJ18 _ (by simp [m_row, zB, h3])
    · refine Z_iload_n (i := 1) hX d_Mo_rounds_6 rfl rfl ?_
      refine Z_sipush (v := 200) hX d_Mo_rounds_7 rfl ?_
      refine Z_icle (tgt := 17) hX d_Mo_rounds_10 rfl (fun h10 => ?_) (fun h10 => ?_)
      · refine Z_iconst (v := 0) hX d_Mo_rounds_17 rfl ?_
        exact hJ18 _ (by simp [m_row, zB, h3, h10])
      · refine Z_iconst (v := 1) hX d_Mo_rounds_13 rfl ?_
        refine Z_goto (tgt := 18) hX d_Mo_rounds_14 rfl ?_
        exact hJ18 _ (by simp [m_row, zB, h3, h10])

set_option maxRecDepth 100000 in
set_option maxHeartbeats 4000000 in
theorem c_Mo_rounds {la : Launch} {G : zG} {I : zI} {J : zJ} {n : Nat} (hn : n < 1000) (hw : m_row (nI n) = false) (hM : okM I) (hQ : okMQ I) : zCi la G y_Mo_rounds (Cond.code y_Mo_rounds prog_8_method_39_code 3 (some .int) :: TBL) (zR 7) [.ref (zad G 64), .int (nI n)] I J (m_itI (m_t I 0) n 79 761) (m_itI (m_t I 0) n) (m_itJ (m_t I 0) J n) := by
  refine zCi_of (by decide) (by simp [lg_sl, Value.category]) (rfl) (fun X hla hX hR => ?_)
  subst hla
  refine Z_loc (l' := [(0, .ref (zad G 64)), (1, .int (nI n))]) (by simp [lv_args, Value.category, List.lookup]) ?_
  refine Z_aload_n (i := 0) hX d_Mo_rounds_0 rfl rfl ?_
  refine Z_cutw (pc' := 18) (w := zB (m_row (nI n))) ?_ (fun hJ18 => ?_)
  · refine Z_id ?_
    refine Z_top (y := 0) (by rw [hw]; rfl) ?_
    refine Z_putI (k0 := 0) hX d_Mo_rounds_18 rfl rfl u_Mo (by decide) lk_Mo_7 rfl t_Mo to_Mo n_Mo rfl rfl rfl rfl ?_
    refine Z_aload_n (i := 0) hX d_Mo_rounds_21 rfl rfl ?_
    refine Z_getI (k0 := 0) hX d_Mo_rounds_22 rfl rfl u_Mo (by decide) lk_Mo_7 rfl ?_
    refine Z_top (y := 0) m_t_0 ?_
    refine Z_ifeq (tgt := 30) hX d_Mo_rounds_25 rfl (fun h25 => ?_) (fun h => absurd rfl h)
    refine Z_iconst (v := nI 0) hX d_Mo_rounds_30 rfl ?_
    refine Z_istore_n (i := 2) hX d_Mo_rounds_31 rfl (by decide) rfl ?_
    have hL32 : ∀ k i : Nat, k + i = n → Z X G 3 0 0 32 [(2, .int (nI i)), (1, .int (nI n)), (0, .ref (zad G 64))] [] (m_itI (m_t I 0) i) (m_itJ (m_t I 0) J i) := by
      intro k
      induction k with
      | zero =>
        intro i hi
        obtain rfl : n = i := by omega
        refine Z_iload_n (i := 2) hX d_Mo_rounds_32 rfl rfl ?_
        refine Z_iload_n (i := 1) hX d_Mo_rounds_33 rfl rfl ?_
        refine Z_icge (tgt := 47) hX d_Mo_rounds_34 rfl (fun h34 => ?_) (fun h => absurd (nI_le (Nat.le_refl _) (by omega)) h)
        refine Z_aload_n (i := 0) hX d_Mo_rounds_47 rfl rfl ?_
        refine Z_getR (k0 := 17) hX d_Mo_rounds_48 rfl rfl u_Mo (by decide) lk_Mo_64 rfl ?_
        refine Z_sipush (v := nI 761) hX d_Mo_rounds_51 rfl ?_
        refine Z_iald hX d_Mo_rounds_54 rfl rfl (by omega) (by decide) ?_
        exact Z_ri (hR _ _ d_Mo_rounds_55) (by rfl) (by rfl) (by rfl)
      | succ k ih =>
        intro i hi
        have hi2 : i < n := by omega
        refine Z_iload_n (i := 2) hX d_Mo_rounds_32 rfl rfl ?_
        refine Z_iload_n (i := 1) hX d_Mo_rounds_33 rfl rfl ?_
        refine Z_icge (tgt := 47) hX d_Mo_rounds_34 rfl (fun h => absurd h (nI_ge hi2 (by omega))) (fun h34 => ?_)
        refine Z_aload_n (i := 0) hX d_Mo_rounds_37 rfl rfl ?_
        refine Z_cVv0 hX d_Mo_rounds_38 (c_Mo_round (okM_of ((fr_it (by decide) (by decide) i).trans (zup_ne (by decide))) ((fr_it (by decide) (by decide) i).trans (zup_ne (by decide))) ((fr_it (by decide) (by decide) i).trans (zup_ne (by decide))) hM) (okMQ_of ((fr_it (by decide) (by decide) i).trans (zup_ne (by decide))) ((fr_it (by decide) (by decide) i).trans (zup_ne (by decide))) hQ)) m_Mo_round rfl rfl lk_Mo_139 ⟨by decide, by decide⟩ ⟨by decide, by decide⟩ (Nat.le_of_ble_eq_true rfl) ?_
        refine Z_iinc (v := nI (i + 1)) hX d_Mo_rounds_41 rfl (by rw [nI_succ]; rfl) (by decide) rfl ?_
        refine Z_goto (tgt := 32) hX d_Mo_rounds_44 rfl ?_
        refine Z_loc ?_ (ih (i + 1) (by omega))
        rfl
    refine Z_loc ?_ (hL32 n 0 (by omega))
    rfl
  · refine Z_iload_n (i := 1) hX d_Mo_rounds_1 rfl rfl ?_
    refine Z_iconst (v := 1) hX d_Mo_rounds_2 rfl ?_
    refine Z_iclt (tgt := 13) hX d_Mo_rounds_3 rfl (fun h3 => ?_) (fun h3 => ?_)
    · refine Z_iconst (v := 1) hX d_Mo_rounds_13 rfl ?_
      refine Z_goto (tgt := 18) hX d_Mo_rounds_14 rfl ?_
      exact hJ18 _ (by simp [m_row, zB, h3])
    · refine Z_iload_n (i := 1) hX d_Mo_rounds_6 rfl rfl ?_
      refine Z_sipush (v := 200) hX d_Mo_rounds_7 rfl ?_
      refine Z_icle (tgt := 17) hX d_Mo_rounds_10 rfl (fun h10 => ?_) (fun h10 => ?_)
      · refine Z_iconst (v := 0) hX d_Mo_rounds_17 rfl ?_
        exact hJ18 _ (by simp [m_row, zB, h3, h10])
      · refine Z_iconst (v := 1) hX d_Mo_rounds_13 rfl ?_
        refine Z_goto (tgt := 18) hX d_Mo_rounds_14 rfl ?_
        exact hJ18 _ (by simp [m_row, zB, h3, h10])

set_option maxRecDepth 100000 in
set_option maxHeartbeats 4000000 in
theorem c_Mo_state_x {la : Launch} {G : zG} {I : zI} {J : zJ} {e w : Int32} (hw : m_stw I e w = true)  : zCi la G y_Mo_state (Cond.code y_Mo_state prog_8_method_41_code 3 (some .int) :: TBL) (zR 2) [.ref (zad G 64), .int e, .int w] I J (0) (m_t I 1) (J) := by
  refine zCi_of (by decide) (by simp [lg_sl, Value.category]) (rfl) (fun X hla hX hR => ?_)
  subst hla
  refine Z_loc (l' := [(0, .ref (zad G 64)), (1, .int e), (2, .int w)]) (by simp [lv_args, Value.category, List.lookup]) ?_
  refine Z_aload_n (i := 0) hX d_Mo_state_0 rfl rfl ?_
  refine Z_cutw (pc' := 23) (w := zB (m_stw I e w)) ?_ (fun hJ23 => ?_)
  · refine Z_id ?_
    refine Z_top (y := 1) (by rw [hw]; rfl) ?_
    refine Z_putI (k0 := 0) hX d_Mo_state_23 rfl rfl u_Mo (by decide) lk_Mo_7 rfl t_Mo to_Mo n_Mo rfl rfl rfl rfl ?_
    refine Z_aload_n (i := 0) hX d_Mo_state_26 rfl rfl ?_
    refine Z_getI (k0 := 0) hX d_Mo_state_27 rfl rfl u_Mo (by decide) lk_Mo_7 rfl ?_
    refine Z_top (y := 1) m_t_0 ?_
    refine Z_ifeq (tgt := 35) hX d_Mo_state_30 rfl (fun h => absurd h (by decide)) (fun h30 => ?_)
    refine Z_iconst (v := 0) hX d_Mo_state_33 rfl ?_
    exact Z_ri (hR _ _ d_Mo_state_34) (by rfl) (by rfl) (by rfl)
  · refine Z_aload_n (i := 0) hX d_Mo_state_1 rfl rfl ?_
    refine Z_iload_n (i := 1) hX d_Mo_state_2 rfl rfl ?_
    refine Z_cVi1 hX d_Mo_state_3 c_Mo_noElement m_Mo_noElement rfl rfl lk_Mo_149 ⟨by decide, by decide⟩ ⟨by decide, by decide⟩ (Nat.le_of_ble_eq_true rfl) ?_
    refine Z_ifneB (tgt := 18) hX d_Mo_state_6 rfl (fun h6 => ?_) (fun h6 => ?_)
    · refine Z_iconst (v := 1) hX d_Mo_state_18 rfl ?_
      refine Z_goto (tgt := 23) hX d_Mo_state_19 rfl ?_
      exact hJ23 _ (by simp [m_stw, zB, h6])
    · refine Z_iload_n (i := 2) hX d_Mo_state_9 rfl rfl ?_
      refine Z_iflt (tgt := 18) hX d_Mo_state_10 rfl (fun h10 => ?_) (fun h10 => ?_)
      · refine Z_iconst (v := 1) hX d_Mo_state_18 rfl ?_
        refine Z_goto (tgt := 23) hX d_Mo_state_19 rfl ?_
        exact hJ23 _ (by simp [m_stw, zB, h6, h10])
      · refine Z_iload_n (i := 2) hX d_Mo_state_13 rfl rfl ?_
        refine Z_iconst (v := 4) hX d_Mo_state_14 rfl ?_
        refine Z_icle (tgt := 22) hX d_Mo_state_15 rfl (fun h15 => ?_) (fun h15 => ?_)
        · refine Z_iconst (v := 0) hX d_Mo_state_22 rfl ?_
          exact hJ23 _ (by simp [m_stw, zB, h6, h10, h15])
        · refine Z_iconst (v := 1) hX d_Mo_state_18 rfl ?_
          refine Z_goto (tgt := 23) hX d_Mo_state_19 rfl ?_
          exact hJ23 _ (by simp [m_stw, zB, h6, h10, h15])

set_option maxRecDepth 100000 in
set_option maxHeartbeats 4000000 in
theorem c_Mo_state {la : Launch} {G : zG} {I : zI} {J : zJ} {e : Nat} (he : e < 16) {w : Int32} (hw : m_stw I (nI e) w = false)  : zCi la G y_Mo_state (Cond.code y_Mo_state prog_8_method_41_code 3 (some .int) :: TBL) (zR 2) [.ref (zad G 64), .int (nI e), .int w] I J (m_st (m_t I 0) e w) (m_t I 0) (J) := by
  refine zCi_of (by decide) (by simp [lg_sl, Value.category]) (rfl) (fun X hla hX hR => ?_)
  subst hla
  refine Z_loc (l' := [(0, .ref (zad G 64)), (1, .int (nI e)), (2, .int w)]) (by simp [lv_args, Value.category, List.lookup]) ?_
  refine Z_aload_n (i := 0) hX d_Mo_state_0 rfl rfl ?_
  refine Z_cutw (pc' := 23) (w := zB (m_stw I (nI e) w)) ?_ (fun hJ23 => ?_)
  · refine Z_id ?_
    refine Z_top (y := 0) (by rw [hw]; rfl) ?_
    refine Z_putI (k0 := 0) hX d_Mo_state_23 rfl rfl u_Mo (by decide) lk_Mo_7 rfl t_Mo to_Mo n_Mo rfl rfl rfl rfl ?_
    refine Z_aload_n (i := 0) hX d_Mo_state_26 rfl rfl ?_
    refine Z_getI (k0 := 0) hX d_Mo_state_27 rfl rfl u_Mo (by decide) lk_Mo_7 rfl ?_
    refine Z_top (y := 0) m_t_0 ?_
    refine Z_ifeq (tgt := 35) hX d_Mo_state_30 rfl (fun h30 => ?_) (fun h => absurd rfl h)
    refine Z_iload_n (i := 2) hX d_Mo_state_35 rfl rfl ?_
    refine Z_ifne (tgt := 45) hX d_Mo_state_36 rfl (fun h36 => ?_) (fun h36 => ?_)
    · refine Z_iload_n (i := 2) hX d_Mo_state_45 rfl rfl ?_
      refine Z_iconst (v := 1) hX d_Mo_state_46 rfl ?_
      refine Z_icne (tgt := 56) hX d_Mo_state_47 rfl (fun h47 => ?_) (fun h47 => ?_)
      · refine Z_iload_n (i := 2) hX d_Mo_state_56 rfl rfl ?_
        refine Z_iconst (v := 4) hX d_Mo_state_57 rfl ?_
        refine Z_icne (tgt := 72) hX d_Mo_state_58 rfl (fun h58 => ?_) (fun h58 => ?_)
        · refine Z_aload_n (i := 0) hX d_Mo_state_72 rfl rfl ?_
          refine Z_iload_n (i := 1) hX d_Mo_state_73 rfl rfl ?_
          refine Z_cVi1 hX d_Mo_state_74 (c_Mo_stateOf (by omega)) m_Mo_stateOf rfl rfl lk_Mo_127 ⟨by decide, by decide⟩ ⟨by decide, by decide⟩ (Nat.le_of_ble_eq_true rfl) ?_
          refine Z_iconst (v := 1) hX d_Mo_state_77 rfl ?_
          refine Z_iceq (tgt := 85) hX d_Mo_state_78 rfl (fun h78 => ?_) (fun h78 => ?_)
          · refine Z_iload_n (i := 2) hX d_Mo_state_85 rfl rfl ?_
            refine Z_iconst (v := 2) hX d_Mo_state_86 rfl ?_
            refine Z_icne (tgt := 103) hX d_Mo_state_87 rfl (fun h87 => ?_) (fun h87 => ?_)
            · refine Z_aload_n (i := 0) hX d_Mo_state_103 rfl rfl ?_
              refine Z_getR (k0 := 17) hX d_Mo_state_104 rfl rfl u_Mo (by decide) lk_Mo_64 rfl ?_
              refine Z_sipush (v := nI 624) hX d_Mo_state_107 rfl ?_
              refine Z_iload_n (i := 1) hX d_Mo_state_110 rfl rfl ?_
              refine Z_iaddN hX d_Mo_state_111 ?_
              refine Z_iald hX d_Mo_state_112 rfl rfl (by omega) (by decide) ?_
              exact Z_ri (hR _ _ d_Mo_state_113) (by exact ((if_neg h36).trans ((if_neg h47).trans ((if_neg h58).trans ((if_pos h78).trans (if_neg h87))))).symm) (by rfl) (by rfl)
            · refine Z_aload_n (i := 0) hX d_Mo_state_90 rfl rfl ?_
              refine Z_getR (k0 := 17) hX d_Mo_state_91 rfl rfl u_Mo (by decide) lk_Mo_64 rfl ?_
              refine Z_sipush (v := nI 608) hX d_Mo_state_94 rfl ?_
              refine Z_iload_n (i := 1) hX d_Mo_state_97 rfl rfl ?_
              refine Z_iaddN hX d_Mo_state_98 ?_
              refine Z_iald hX d_Mo_state_99 rfl rfl (by omega) (by decide) ?_
              refine Z_goto (tgt := 113) hX d_Mo_state_100 rfl ?_
              exact Z_ri (hR _ _ d_Mo_state_113) (by exact ((if_neg h36).trans ((if_neg h47).trans ((if_neg h58).trans ((if_pos h78).trans (if_pos h87))))).symm) (by rfl) (by rfl)
          · refine Z_iconst (v := (-1)) hX d_Mo_state_81 rfl ?_
            refine Z_goto (tgt := 113) hX d_Mo_state_82 rfl ?_
            exact Z_ri (hR _ _ d_Mo_state_113) (by exact ((if_neg h36).trans ((if_neg h47).trans ((if_neg h58).trans (if_neg h78)))).symm) (by rfl) (by rfl)
        · refine Z_aload_n (i := 0) hX d_Mo_state_61 rfl rfl ?_
          refine Z_getR (k0 := 17) hX d_Mo_state_62 rfl rfl u_Mo (by decide) lk_Mo_64 rfl ?_
          refine Z_sipush (v := nI 560) hX d_Mo_state_65 rfl ?_
          refine Z_iload_n (i := 1) hX d_Mo_state_68 rfl rfl ?_
          refine Z_iaddN hX d_Mo_state_69 ?_
          refine Z_iald hX d_Mo_state_70 rfl rfl (by omega) (by decide) ?_
          exact Z_ri (hR _ _ d_Mo_state_71) (by exact ((if_neg h36).trans ((if_neg h47).trans (if_pos h58))).symm) (by rfl) (by rfl)
      · refine Z_aload_n (i := 0) hX d_Mo_state_50 rfl rfl ?_
        refine Z_iload_n (i := 1) hX d_Mo_state_51 rfl rfl ?_
        refine Z_cVi1 hX d_Mo_state_52 (c_Mo_portOf (by omega)) m_Mo_portOf rfl rfl lk_Mo_130 ⟨by decide, by decide⟩ ⟨by decide, by decide⟩ (Nat.le_of_ble_eq_true rfl) ?_
        exact Z_ri (hR _ _ d_Mo_state_55) (by exact ((if_neg h36).trans (if_pos h47)).symm) (by rfl) (by rfl)
    · refine Z_aload_n (i := 0) hX d_Mo_state_39 rfl rfl ?_
      refine Z_iload_n (i := 1) hX d_Mo_state_40 rfl rfl ?_
      refine Z_cVi1 hX d_Mo_state_41 (c_Mo_stateOf (by omega)) m_Mo_stateOf rfl rfl lk_Mo_127 ⟨by decide, by decide⟩ ⟨by decide, by decide⟩ (Nat.le_of_ble_eq_true rfl) ?_
      exact Z_ri (hR _ _ d_Mo_state_44) (by exact (if_pos h36).symm) (by rfl) (by rfl)
  · refine Z_aload_n (i := 0) hX d_Mo_state_1 rfl rfl ?_
    refine Z_iload_n (i := 1) hX d_Mo_state_2 rfl rfl ?_
    refine Z_cVi1 hX d_Mo_state_3 c_Mo_noElement m_Mo_noElement rfl rfl lk_Mo_149 ⟨by decide, by decide⟩ ⟨by decide, by decide⟩ (Nat.le_of_ble_eq_true rfl) ?_
    refine Z_ifneB (tgt := 18) hX d_Mo_state_6 rfl (fun h6 => ?_) (fun h6 => ?_)
    · refine Z_iconst (v := 1) hX d_Mo_state_18 rfl ?_
      refine Z_goto (tgt := 23) hX d_Mo_state_19 rfl ?_
      exact hJ23 _ (by simp [m_stw, zB, h6])
    · refine Z_iload_n (i := 2) hX d_Mo_state_9 rfl rfl ?_
      refine Z_iflt (tgt := 18) hX d_Mo_state_10 rfl (fun h10 => ?_) (fun h10 => ?_)
      · refine Z_iconst (v := 1) hX d_Mo_state_18 rfl ?_
        refine Z_goto (tgt := 23) hX d_Mo_state_19 rfl ?_
        exact hJ23 _ (by simp [m_stw, zB, h6, h10])
      · refine Z_iload_n (i := 2) hX d_Mo_state_13 rfl rfl ?_
        refine Z_iconst (v := 4) hX d_Mo_state_14 rfl ?_
        refine Z_icle (tgt := 22) hX d_Mo_state_15 rfl (fun h15 => ?_) (fun h15 => ?_)
        · refine Z_iconst (v := 0) hX d_Mo_state_22 rfl ?_
          exact hJ23 _ (by simp [m_stw, zB, h6, h10, h15])
        · refine Z_iconst (v := 1) hX d_Mo_state_18 rfl ?_
          refine Z_goto (tgt := 23) hX d_Mo_state_19 rfl ?_
          exact hJ23 _ (by simp [m_stw, zB, h6, h10, h15])

set_option maxRecDepth 100000 in
set_option maxHeartbeats 4000000 in
theorem c_Mo_phase_x {la : Launch} {G : zG} {I : zI} {J : zJ} {e : Int32} (hw : m_ne I e = true)  : zCl la G y_Mo_phase (Cond.code y_Mo_phase prog_8_method_42_code 2 (some .long) :: TBL) (zR 2) [.ref (zad G 64), .int e] I J (0) (m_t I 1) (J) := by
  refine zCl_of (by decide) (by simp [lg_sl, Value.category]) (fun X hla hX hR => ?_)
  subst hla
  refine Z_loc (l' := [(0, .ref (zad G 64)), (1, .int e)]) (by simp [lv_args, Value.category, List.lookup]) ?_
  refine Z_aload_n (i := 0) hX d_Mo_phase_0 rfl rfl ?_
  refine Z_cutw (pc' := 14) (w := zB (m_ne I e)) ?_ (fun hJ14 => ?_)
  · refine Z_id ?_
    refine Z_top (y := 1) (by rw [hw]; rfl) ?_
    refine Z_putI (k0 := 0) hX d_Mo_phase_14 rfl rfl u_Mo (by decide) lk_Mo_7 rfl t_Mo to_Mo n_Mo rfl rfl rfl rfl ?_
    refine Z_aload_n (i := 0) hX d_Mo_phase_17 rfl rfl ?_
    refine Z_getI (k0 := 0) hX d_Mo_phase_18 rfl rfl u_Mo (by decide) lk_Mo_7 rfl ?_
    refine Z_top (y := 1) m_t_0 ?_
    refine Z_ifeq (tgt := 28) hX d_Mo_phase_21 rfl (fun h => absurd h (by decide)) (fun h21 => ?_)
    refine Z_lconst (v := 0) hX d_Mo_phase_24 rfl ?_
    refine Z_goto (tgt := 34) hX d_Mo_phase_25 rfl ?_
    exact Z_rl (hR _ _ d_Mo_phase_34) (by rfl) rfl rfl
  · refine Z_aload_n (i := 0) hX d_Mo_phase_1 rfl rfl ?_
    refine Z_iload_n (i := 1) hX d_Mo_phase_2 rfl rfl ?_
    refine Z_cVi1 hX d_Mo_phase_3 c_Mo_noElement m_Mo_noElement rfl rfl lk_Mo_149 ⟨by decide, by decide⟩ ⟨by decide, by decide⟩ (Nat.le_of_ble_eq_true rfl) ?_
    refine Z_ifeqB (tgt := 13) hX d_Mo_phase_6 rfl (fun h6 => ?_) (fun h6 => ?_)
    · refine Z_iconst (v := 0) hX d_Mo_phase_13 rfl ?_
      exact hJ14 _ (by simp [zB, h6])
    · refine Z_iconst (v := 1) hX d_Mo_phase_9 rfl ?_
      refine Z_goto (tgt := 14) hX d_Mo_phase_10 rfl ?_
      exact hJ14 _ (by simp [zB, h6])

set_option maxRecDepth 100000 in
set_option maxHeartbeats 4000000 in
theorem c_Mo_phase {la : Launch} {G : zG} {I : zI} {J : zJ} {e : Nat} (he : e < 16) (hw : m_ne I (nI e) = false)  : zCl la G y_Mo_phase (Cond.code y_Mo_phase prog_8_method_42_code 2 (some .long) :: TBL) (zR 2) [.ref (zad G 64), .int (nI e)] I J (J 81 e) (m_t I 0) (J) := by
  refine zCl_of (by decide) (by simp [lg_sl, Value.category]) (fun X hla hX hR => ?_)
  subst hla
  refine Z_loc (l' := [(0, .ref (zad G 64)), (1, .int (nI e))]) (by simp [lv_args, Value.category, List.lookup]) ?_
  refine Z_aload_n (i := 0) hX d_Mo_phase_0 rfl rfl ?_
  refine Z_cutw (pc' := 14) (w := zB (m_ne I (nI e))) ?_ (fun hJ14 => ?_)
  · refine Z_id ?_
    refine Z_top (y := 0) (by rw [hw]; rfl) ?_
    refine Z_putI (k0 := 0) hX d_Mo_phase_14 rfl rfl u_Mo (by decide) lk_Mo_7 rfl t_Mo to_Mo n_Mo rfl rfl rfl rfl ?_
    refine Z_aload_n (i := 0) hX d_Mo_phase_17 rfl rfl ?_
    refine Z_getI (k0 := 0) hX d_Mo_phase_18 rfl rfl u_Mo (by decide) lk_Mo_7 rfl ?_
    refine Z_top (y := 0) m_t_0 ?_
    refine Z_ifeq (tgt := 28) hX d_Mo_phase_21 rfl (fun h21 => ?_) (fun h => absurd rfl h)
    refine Z_aload_n (i := 0) hX d_Mo_phase_28 rfl rfl ?_
    refine Z_getR (k0 := 19) hX d_Mo_phase_29 rfl rfl u_Mo (by decide) lk_Mo_70 rfl ?_
    refine Z_iload_n (i := 1) hX d_Mo_phase_32 rfl rfl ?_
    refine Z_lald hX d_Mo_phase_33 rfl rfl (by omega) (by decide) ?_
    exact Z_rl (hR _ _ d_Mo_phase_34) (by rfl) rfl rfl
  · refine Z_aload_n (i := 0) hX d_Mo_phase_1 rfl rfl ?_
    refine Z_iload_n (i := 1) hX d_Mo_phase_2 rfl rfl ?_
    refine Z_cVi1 hX d_Mo_phase_3 c_Mo_noElement m_Mo_noElement rfl rfl lk_Mo_149 ⟨by decide, by decide⟩ ⟨by decide, by decide⟩ (Nat.le_of_ble_eq_true rfl) ?_
    refine Z_ifeqB (tgt := 13) hX d_Mo_phase_6 rfl (fun h6 => ?_) (fun h6 => ?_)
    · refine Z_iconst (v := 0) hX d_Mo_phase_13 rfl ?_
      exact hJ14 _ (by simp [zB, h6])
    · refine Z_iconst (v := 1) hX d_Mo_phase_9 rfl ?_
      refine Z_goto (tgt := 14) hX d_Mo_phase_10 rfl ?_
      exact hJ14 _ (by simp [zB, h6])

set_option maxRecDepth 100000 in
set_option maxHeartbeats 4000000 in
theorem c_Mo_sends_x {la : Launch} {G : zG} {I : zI} {J : zJ} {e p : Int32} (hw : m_np I e p = true)  : zCi la G y_Mo_sends (Cond.code y_Mo_sends prog_8_method_43_code 3 (some .int) :: TBL) (zR 3) [.ref (zad G 64), .int e, .int p] I J (0) (m_t I 1) (J) := by
  refine zCi_of (by decide) (by simp [lg_sl, Value.category]) (rfl) (fun X hla hX hR => ?_)
  subst hla
  refine Z_loc (l' := [(0, .ref (zad G 64)), (1, .int e), (2, .int p)]) (by simp [lv_args, Value.category, List.lookup]) ?_
  refine Z_aload_n (i := 0) hX d_Mo_sends_0 rfl rfl ?_
  refine Z_cutw (pc' := 15) (w := zB (m_np I e p)) ?_ (fun hJ15 => ?_)
  · refine Z_id ?_
    refine Z_top (y := 1) (by rw [hw]; rfl) ?_
    refine Z_putI (k0 := 0) hX d_Mo_sends_15 rfl rfl u_Mo (by decide) lk_Mo_7 rfl t_Mo to_Mo n_Mo rfl rfl rfl rfl ?_
    refine Z_aload_n (i := 0) hX d_Mo_sends_18 rfl rfl ?_
    refine Z_getI (k0 := 0) hX d_Mo_sends_19 rfl rfl u_Mo (by decide) lk_Mo_7 rfl ?_
    refine Z_top (y := 1) m_t_0 ?_
    refine Z_ifeq (tgt := 29) hX d_Mo_sends_22 rfl (fun h => absurd h (by decide)) (fun h22 => ?_)
    refine Z_iconst (v := 0) hX d_Mo_sends_25 rfl ?_
    refine Z_goto (tgt := 43) hX d_Mo_sends_26 rfl ?_
    exact Z_ri (hR _ _ d_Mo_sends_43) (by rfl) (by rfl) (by rfl)
  · refine Z_aload_n (i := 0) hX d_Mo_sends_1 rfl rfl ?_
    refine Z_iload_n (i := 1) hX d_Mo_sends_2 rfl rfl ?_
    refine Z_iload_n (i := 2) hX d_Mo_sends_3 rfl rfl ?_
    refine Z_cVi2 hX d_Mo_sends_4 c_Mo_noPort m_Mo_noPort rfl rfl lk_Mo_152 ⟨by decide, by decide⟩ ⟨by decide, by decide⟩ (Nat.le_of_ble_eq_true rfl) ?_
    refine Z_ifeqB (tgt := 14) hX d_Mo_sends_7 rfl (fun h7 => ?_) (fun h7 => ?_)
    · refine Z_iconst (v := 0) hX d_Mo_sends_14 rfl ?_
      exact hJ15 _ (by simp [zB, h7])
    · refine Z_iconst (v := 1) hX d_Mo_sends_10 rfl ?_
      refine Z_goto (tgt := 15) hX d_Mo_sends_11 rfl ?_
      exact hJ15 _ (by simp [zB, h7])

set_option maxRecDepth 100000 in
set_option maxHeartbeats 4000000 in
theorem c_Mo_sends {la : Launch} {G : zG} {I : zI} {J : zJ} {e p : Nat} (he : e < 16) (hp : p < 4) (hw : m_np I (nI e) (nI p) = false)  : zCi la G y_Mo_sends (Cond.code y_Mo_sends prog_8_method_43_code 3 (some .int) :: TBL) (zR 3) [.ref (zad G 64), .int (nI e), .int (nI p)] I J (I 79 (256 + (4 * e + p))) (m_t I 0) (J) := by
  refine zCi_of (by decide) (by simp [lg_sl, Value.category]) (rfl) (fun X hla hX hR => ?_)
  subst hla
  refine Z_loc (l' := [(0, .ref (zad G 64)), (1, .int (nI e)), (2, .int (nI p))]) (by simp [lv_args, Value.category, List.lookup]) ?_
  refine Z_aload_n (i := 0) hX d_Mo_sends_0 rfl rfl ?_
  refine Z_cutw (pc' := 15) (w := zB (m_np I (nI e) (nI p))) ?_ (fun hJ15 => ?_)
  · refine Z_id ?_
    refine Z_top (y := 0) (by rw [hw]; rfl) ?_
    refine Z_putI (k0 := 0) hX d_Mo_sends_15 rfl rfl u_Mo (by decide) lk_Mo_7 rfl t_Mo to_Mo n_Mo rfl rfl rfl rfl ?_
    refine Z_aload_n (i := 0) hX d_Mo_sends_18 rfl rfl ?_
    refine Z_getI (k0 := 0) hX d_Mo_sends_19 rfl rfl u_Mo (by decide) lk_Mo_7 rfl ?_
    refine Z_top (y := 0) m_t_0 ?_
    refine Z_ifeq (tgt := 29) hX d_Mo_sends_22 rfl (fun h22 => ?_) (fun h => absurd rfl h)
    refine Z_aload_n (i := 0) hX d_Mo_sends_29 rfl rfl ?_
    refine Z_getR (k0 := 17) hX d_Mo_sends_30 rfl rfl u_Mo (by decide) lk_Mo_64 rfl ?_
    refine Z_sipush (v := nI 256) hX d_Mo_sends_33 rfl ?_
    refine Z_iconst (v := nI 4) hX d_Mo_sends_36 rfl ?_
    refine Z_iload_n (i := 1) hX d_Mo_sends_37 rfl rfl ?_
    refine Z_imulN hX d_Mo_sends_38 ?_
    refine Z_iaddN hX d_Mo_sends_39 ?_
    refine Z_iload_n (i := 2) hX d_Mo_sends_40 rfl rfl ?_
    refine Z_iaddN hX d_Mo_sends_41 ?_
    refine Z_iald (k0 := 256 + (4 * e + p)) hX d_Mo_sends_42 rfl (by rw [Nat.add_assoc]) (by omega) (by decide) ?_
    exact Z_ri (hR _ _ d_Mo_sends_43) (by (exact congrFun (zup_ne (by decide)) _)) (by rfl) (by rfl)
  · refine Z_aload_n (i := 0) hX d_Mo_sends_1 rfl rfl ?_
    refine Z_iload_n (i := 1) hX d_Mo_sends_2 rfl rfl ?_
    refine Z_iload_n (i := 2) hX d_Mo_sends_3 rfl rfl ?_
    refine Z_cVi2 hX d_Mo_sends_4 c_Mo_noPort m_Mo_noPort rfl rfl lk_Mo_152 ⟨by decide, by decide⟩ ⟨by decide, by decide⟩ (Nat.le_of_ble_eq_true rfl) ?_
    refine Z_ifeqB (tgt := 14) hX d_Mo_sends_7 rfl (fun h7 => ?_) (fun h7 => ?_)
    · refine Z_iconst (v := 0) hX d_Mo_sends_14 rfl ?_
      exact hJ15 _ (by simp [zB, h7])
    · refine Z_iconst (v := 1) hX d_Mo_sends_10 rfl ?_
      refine Z_goto (tgt := 15) hX d_Mo_sends_11 rfl ?_
      exact hJ15 _ (by simp [zB, h7])

set_option maxRecDepth 100000 in
set_option maxHeartbeats 4000000 in
theorem c_Mo_traced_x {la : Launch} {G : zG} {I : zI} {J : zJ} {e : Int32} (hw : m_ne I e = true)  : zCi la G y_Mo_traced (Cond.code y_Mo_traced prog_8_method_44_code 4 (some .int) :: TBL) (zR 2) [.ref (zad G 64), .int e] I J (0) (m_t I 1) (J) := by
  refine zCi_of (by decide) (by simp [lg_sl, Value.category]) (rfl) (fun X hla hX hR => ?_)
  subst hla
  refine Z_loc (l' := [(0, .ref (zad G 64)), (1, .int e)]) (by simp [lv_args, Value.category, List.lookup]) ?_
  refine Z_aload_n (i := 0) hX d_Mo_traced_0 rfl rfl ?_
  refine Z_cutw (pc' := 14) (w := zB (m_ne I e)) ?_ (fun hJ14 => ?_)
  · refine Z_id ?_
    refine Z_top (y := 1) (by rw [hw]; rfl) ?_
    refine Z_putI (k0 := 0) hX d_Mo_traced_14 rfl rfl u_Mo (by decide) lk_Mo_7 rfl t_Mo to_Mo n_Mo rfl rfl rfl rfl ?_
    refine Z_aload_n (i := 0) hX d_Mo_traced_17 rfl rfl ?_
    refine Z_getI (k0 := 0) hX d_Mo_traced_18 rfl rfl u_Mo (by decide) lk_Mo_7 rfl ?_
    refine Z_top (y := 1) m_t_0 ?_
    refine Z_ifeq (tgt := 26) hX d_Mo_traced_21 rfl (fun h => absurd h (by decide)) (fun h21 => ?_)
    refine Z_iconst (v := 0) hX d_Mo_traced_24 rfl ?_
    exact Z_ri (hR _ _ d_Mo_traced_25) (by rfl) (by rfl) (by rfl)
  · refine Z_aload_n (i := 0) hX d_Mo_traced_1 rfl rfl ?_
    refine Z_iload_n (i := 1) hX d_Mo_traced_2 rfl rfl ?_
    refine Z_cVi1 hX d_Mo_traced_3 c_Mo_noElement m_Mo_noElement rfl rfl lk_Mo_149 ⟨by decide, by decide⟩ ⟨by decide, by decide⟩ (Nat.le_of_ble_eq_true rfl) ?_
    refine Z_ifeqB (tgt := 13) hX d_Mo_traced_6 rfl (fun h6 => ?_) (fun h6 => ?_)
    · refine Z_iconst (v := 0) hX d_Mo_traced_13 rfl ?_
      exact hJ14 _ (by simp [zB, h6])
    · refine Z_iconst (v := 1) hX d_Mo_traced_9 rfl ?_
      refine Z_goto (tgt := 14) hX d_Mo_traced_10 rfl ?_
      exact hJ14 _ (by simp [zB, h6])

set_option maxRecDepth 100000 in
set_option maxHeartbeats 4000000 in
theorem c_Mo_traced {la : Launch} {G : zG} {I : zI} {J : zJ} {e : Nat} (he : e < 16) (hw : m_ne I (nI e) = false) (hM : okM (m_t I 0)) (hK : ∀ e, e < 16 → okMK (m_t I 0) e) : zCi la G y_Mo_traced (Cond.code y_Mo_traced prog_8_method_44_code 4 (some .int) :: TBL) (zR 3) [.ref (zad G 64), .int (nI e)] I J (if 16 ≤ m_tr (m_t I 0) 17 (nI e) then m_tr (m_t I 0) 17 (nI e) - 16 else -1) (m_t I 0) (J) := by
  refine zCi_of (by decide) (by simp [lg_sl, Value.category]) (rfl) (fun X hla hX hR => ?_)
  subst hla
  refine Z_loc (l' := [(0, .ref (zad G 64)), (1, .int (nI e))]) (by simp [lv_args, Value.category, List.lookup]) ?_
  refine Z_aload_n (i := 0) hX d_Mo_traced_0 rfl rfl ?_
  refine Z_cutw (pc' := 14) (w := zB (m_ne I (nI e))) ?_ (fun hJ14 => ?_)
  · refine Z_id ?_
    refine Z_top (y := 0) (by rw [hw]; rfl) ?_
    refine Z_putI (k0 := 0) hX d_Mo_traced_14 rfl rfl u_Mo (by decide) lk_Mo_7 rfl t_Mo to_Mo n_Mo rfl rfl rfl rfl ?_
    refine Z_aload_n (i := 0) hX d_Mo_traced_17 rfl rfl ?_
    refine Z_getI (k0 := 0) hX d_Mo_traced_18 rfl rfl u_Mo (by decide) lk_Mo_7 rfl ?_
    refine Z_top (y := 0) m_t_0 ?_
    refine Z_ifeq (tgt := 26) hX d_Mo_traced_21 rfl (fun h21 => ?_) (fun h => absurd rfl h)
    refine Z_iload_n (i := 1) hX d_Mo_traced_26 rfl rfl ?_
    refine Z_istore_n (i := 2) hX d_Mo_traced_27 rfl (by decide) rfl ?_
    refine Z_iconst (v := nI 0) hX d_Mo_traced_28 rfl ?_
    refine Z_istore_n (i := 3) hX d_Mo_traced_29 rfl (by decide) rfl ?_
    have hL30 : ∀ (k i : Nat) (y : Int32), k + i = 17 → m_tr (m_t I 0) k y = m_tr (m_t I 0) 17 (nI e) → Z X G 4 0 0 30 [(3, .int (nI i)), (2, .int y), (1, .int (nI e)), (0, .ref (zad G 64))] [] (m_t I 0) J := by
      intro k
      induction k with
      | zero =>
        intro i y hi hf
        obtain rfl : i = 17 := by omega
        refine Z_iload_n (i := 3) hX d_Mo_traced_30 rfl rfl ?_
        refine Z_bipush (v := 17) hX d_Mo_traced_31 rfl ?_
        refine Z_icge (tgt := 58) hX d_Mo_traced_33 rfl (fun h33 => ?_) (fun h => absurd (by decide) h)
        refine Z_iload_n (i := 2) hX d_Mo_traced_58 rfl rfl ?_
        refine Z_bipush (v := 16) hX d_Mo_traced_59 rfl ?_
        refine Z_icge (tgt := 68) hX d_Mo_traced_61 rfl (fun h61 => ?_) (fun h61 => ?_)
        · refine Z_iload_n (i := 2) hX d_Mo_traced_68 rfl rfl ?_
          refine Z_bipush (v := 16) hX d_Mo_traced_69 rfl ?_
          refine Z_isub hX d_Mo_traced_71 ?_
          exact Z_ri (hR _ _ d_Mo_traced_72) (by (have hy : y = m_tr (m_t I 0) 17 (nI e) := hf; rw [← hy]; exact (if_pos h61).symm)) (by rfl) (by rfl)
        · refine Z_iconst (v := (-1)) hX d_Mo_traced_64 rfl ?_
          refine Z_goto (tgt := 72) hX d_Mo_traced_65 rfl ?_
          exact Z_ri (hR _ _ d_Mo_traced_72) (by (have hy : y = m_tr (m_t I 0) 17 (nI e) := hf; rw [← hy]; exact (if_neg h61).symm)) (by rfl) (by rfl)
      | succ k ih =>
        intro i y hi hf
        have hi2 : i < 17 := by omega
        refine Z_iload_n (i := 3) hX d_Mo_traced_30 rfl rfl ?_
        refine Z_bipush (v := 17) hX d_Mo_traced_31 rfl ?_
        refine Z_icge (tgt := 58) hX d_Mo_traced_33 rfl (fun h => absurd h (nI_ge hi2 (by decide))) (fun h33 => ?_)
        refine Z_iload_n (i := 2) hX d_Mo_traced_36 rfl rfl ?_
        refine Z_iflt (tgt := 58) hX d_Mo_traced_37 rfl (fun h37 => ?_) (fun h37 => ?_)
        · refine Z_iload_n (i := 2) hX d_Mo_traced_58 rfl rfl ?_
          refine Z_bipush (v := 16) hX d_Mo_traced_59 rfl ?_
          refine Z_icge (tgt := 68) hX d_Mo_traced_61 rfl (fun h61 => ?_) (fun h61 => ?_)
          · refine Z_iload_n (i := 2) hX d_Mo_traced_68 rfl rfl ?_
            refine Z_bipush (v := 16) hX d_Mo_traced_69 rfl ?_
            refine Z_isub hX d_Mo_traced_71 ?_
            exact Z_ri (hR _ _ d_Mo_traced_72) (by (have hy : y = m_tr (m_t I 0) 17 (nI e) := (m_tr_n h37).symm.trans hf; rw [← hy]; exact (if_pos h61).symm)) (by rfl) (by rfl)
          · refine Z_iconst (v := (-1)) hX d_Mo_traced_64 rfl ?_
            refine Z_goto (tgt := 72) hX d_Mo_traced_65 rfl ?_
            exact Z_ri (hR _ _ d_Mo_traced_72) (by (have hy : y = m_tr (m_t I 0) 17 (nI e) := (m_tr_n h37).symm.trans hf; rw [← hy]; exact (if_neg h61).symm)) (by rfl) (by rfl)
        · refine Z_iload_n (i := 2) hX d_Mo_traced_40 rfl rfl ?_
          refine Z_bipush (v := 16) hX d_Mo_traced_41 rfl ?_
          refine Z_icge (tgt := 58) hX d_Mo_traced_43 rfl (fun h43 => ?_) (fun h43 => ?_)
          · refine Z_iload_n (i := 2) hX d_Mo_traced_58 rfl rfl ?_
            refine Z_bipush (v := 16) hX d_Mo_traced_59 rfl ?_
            refine Z_icge (tgt := 68) hX d_Mo_traced_61 rfl (fun h61 => ?_) (fun h61 => ?_)
            · refine Z_iload_n (i := 2) hX d_Mo_traced_68 rfl rfl ?_
              refine Z_bipush (v := 16) hX d_Mo_traced_69 rfl ?_
              refine Z_isub hX d_Mo_traced_71 ?_
              exact Z_ri (hR _ _ d_Mo_traced_72) (by (have hy : y = m_tr (m_t I 0) 17 (nI e) := (m_tr_g h37 h43).symm.trans hf; rw [← hy]; exact (if_pos h61).symm)) (by rfl) (by rfl)
            · refine Z_iconst (v := (-1)) hX d_Mo_traced_64 rfl ?_
              refine Z_goto (tgt := 72) hX d_Mo_traced_65 rfl ?_
              exact Z_ri (hR _ _ d_Mo_traced_72) (by (have hy : y = m_tr (m_t I 0) 17 (nI e) := (m_tr_g h37 h43).symm.trans hf; rw [← hy]; exact (if_neg h61).symm)) (by rfl) (by rfl)
          · obtain ⟨j, hj, hj2⟩ := at_ix h37 h43
            refine Z_aload_n (i := 0) hX d_Mo_traced_46 rfl rfl ?_
            refine Z_iload_n (i := 2) hX d_Mo_traced_47 rfl rfl ?_
            refine Z_top hj2 ?_
            refine Z_cVi1 hX d_Mo_traced_48 (c_Mo_followed hj hM (hK j hj)) m_Mo_followed rfl rfl lk_Mo_164 ⟨by decide, by decide⟩ ⟨by decide, by decide⟩ (Nat.le_of_ble_eq_true rfl) ?_
            refine Z_istore_n (i := 2) hX d_Mo_traced_51 rfl (by decide) rfl ?_
            refine Z_iinc (v := nI (i + 1)) hX d_Mo_traced_52 rfl (by rw [nI_succ]; rfl) (by decide) rfl ?_
            refine Z_goto (tgt := 30) hX d_Mo_traced_55 rfl ?_
            refine Z_loc ?_ (ih (i + 1) (m_fw (m_t I 0) j) (by omega) ?_)
            · rfl
            · rw [← hf]; exact (m_tr_s h37 h43 hj hj2).symm
    refine Z_loc ?_ (hL30 17 0 (nI e) (by omega) rfl)
    rfl
  · refine Z_aload_n (i := 0) hX d_Mo_traced_1 rfl rfl ?_
    refine Z_iload_n (i := 1) hX d_Mo_traced_2 rfl rfl ?_
    refine Z_cVi1 hX d_Mo_traced_3 c_Mo_noElement m_Mo_noElement rfl rfl lk_Mo_149 ⟨by decide, by decide⟩ ⟨by decide, by decide⟩ (Nat.le_of_ble_eq_true rfl) ?_
    refine Z_ifeqB (tgt := 13) hX d_Mo_traced_6 rfl (fun h6 => ?_) (fun h6 => ?_)
    · refine Z_iconst (v := 0) hX d_Mo_traced_13 rfl ?_
      exact hJ14 _ (by simp [zB, h6])
    · refine Z_iconst (v := 1) hX d_Mo_traced_9 rfl ?_
      refine Z_goto (tgt := 14) hX d_Mo_traced_10 rfl ?_
      exact hJ14 _ (by simp [zB, h6])
