theorem fr_kt {I : zI} {t : Bool} {c : Nat} (h : c ≠ 79) (h2 : c ≠ 80) : ∀ n, m_kI I t n c = I c
  | 0 => rfl
  | n + 1 => by
    unfold m_kI
    cases t
    · show zup (m_kI I false n) 80 n _ c = _
      rw [zup_ne h2, fr_kt h h2 n]
    · show zup (m_kI I true n) 79 n _ c = _
      rw [zup_ne h, fr_kt h h2 n]
/-- cells that a trial of the reference leaves alone -/
def mkc (c : Nat) : Prop := c ≠ 64 ∧ c ≠ 79 ∧ c ≠ 80 ∧ c ≠ 83 ∧ c ≠ 84 ∧ c ≠ 85
theorem fr_gn {m rn : Nat} {f : Int32} {I : zI} {c : Nat} (h : mkc c) : m_gn m rn f I c = I c := by
  rw [← m_gn_1, fr_kt h.2.1 h.2.2.1, fr_gs ⟨h.1, h.2.2.2.2.1, h.2.2.2.2.2⟩, fr_it h.2.1 h.2.2.2.1]
theorem fr_gn64 {m rn : Nat} {f : Int32} {I : zI} {j : Nat} (h : j ≠ 22) : m_gn m rn f I 64 j = I 64 j := by
  rw [← m_gn_1, fr_kt (by decide) (by decide), fr_gsn h, fr_it (by decide) (by decide)]
theorem okMN_of {I I' : zI} (h : I' 64 22 = I 64 22) (hN : okMN I) : okMN I' := by
  unfold okMN
  rw [h]
  exact hN
theorem okMN_gn {m rn : Nat} {f : Int32} {I : zI} (h : okMN I) : okMN (m_gn m rn f I) := by
  rw [← m_gn_1]
  exact okMN_of (congrFun (fr_kt (by decide) (by decide) _) _) (okMN_gs (okMN_of (congrFun (fr_it (by decide) (by decide) _) _) h) 16)
theorem m_lo16_of {I I' : zI} (h5 : I' 65 = I 65) (h9 : I' 69 = I 69) : ∀ n, m_lo16 I' n = m_lo16 I n
  | 0 => rfl
  | n + 1 => by
    unfold m_lo16
    rw [m_lo16_of h5 h9 n, h5, h9]
/-- what a trial of the reference needs -/
def okG (I : zI) (m rn : Nat) : Prop := okM I ∧ okMQ I ∧ okME I m ∧ okMN I ∧ 4 * (24 + m_lo16 I 16) = nI rn
theorem okG_of {I I' : zI} {m rn : Nat} (h : ∀ c, mkc c → I' c = I c) (h14 : I' 64 14 = I 64 14) (hN : okMN I') (hG : okG I m rn) : okG I' m rn := by
  have k : ∀ c, (c ≠ 64 ∧ c ≠ 79 ∧ c ≠ 80 ∧ c ≠ 83 ∧ c ≠ 84 ∧ c ≠ 85) → I' c = I c := h
  refine ⟨okM_of (k 74 (by decide)) (k 77 (by decide)) (k 78 (by decide)) hG.1, okMQ_of (k 70 (by decide)) (k 71 (by decide)) hG.2.1, okME_of h14 (k 77 (by decide)) (k 78 (by decide)) hG.2.2.1, hN, ?_⟩
  rw [m_lo16_of (k 65 (by decide)) (k 69 (by decide))]
  exact hG.2.2.2.2
noncomputable def m_k1 (m rn : Nat) (I : zI) (J : zJ) : Nat → zI × zJ
  | 0 => (I, J)
  | j + 1 => if (m_k1 m rn I J j).1 79 (688 + j) = 0 then (m_gn m rn (nI j) (zup (m_k1 m rn I J j).1 79 (688 + j) 1), m_gnJ rn (zup (m_k1 m rn I J j).1 79 (688 + j) 1) (m_k1 m rn I J j).2) else m_k1 m rn I J j
noncomputable def m_k2 (m rn : Nat) (I : zI) (J : zJ) : Nat → zI × zJ
  | 0 => (I, J)
  | j + 1 => if m_wh (m_k2 m rn I J j).1 j = true then (m_gn m rn (100 + nI j) (m_bd (m_k2 m rn I J j).1 j), m_gnJ rn (m_bd (m_k2 m rn I J j).1 j) (m_k2 m rn I J j).2) else m_k2 m rn I J j
theorem m_k1_y {m rn : Nat} {I : zI} {J : zJ} {j : Nat} (h : (m_k1 m rn I J j).1 79 (688 + j) = 0) : m_k1 m rn I J (j + 1) = (m_gn m rn (nI j) (zup (m_k1 m rn I J j).1 79 (688 + j) 1), m_gnJ rn (zup (m_k1 m rn I J j).1 79 (688 + j) 1) (m_k1 m rn I J j).2) := by
  rw [m_k1, if_pos h]
theorem m_k1_n {m rn : Nat} {I : zI} {J : zJ} {j : Nat} (h : ¬ (m_k1 m rn I J j).1 79 (688 + j) = 0) : m_k1 m rn I J (j + 1) = m_k1 m rn I J j := by
  rw [m_k1, if_neg h]
theorem m_k2_y {m rn : Nat} {I : zI} {J : zJ} {j : Nat} (h : m_wh (m_k2 m rn I J j).1 j = true) : m_k2 m rn I J (j + 1) = (m_gn m rn (100 + nI j) (m_bd (m_k2 m rn I J j).1 j), m_gnJ rn (m_bd (m_k2 m rn I J j).1 j) (m_k2 m rn I J j).2) := by
  rw [m_k2, if_pos h]
theorem m_k2_n {m rn : Nat} {I : zI} {J : zJ} {j : Nat} (h : m_wh (m_k2 m rn I J j).1 j = false) : m_k2 m rn I J (j + 1) = m_k2 m rn I J j := by
  rw [m_k2, if_neg (by rw [h]; decide)]
theorem fr_sn {I : zI} {e c : Nat} (h : c ≠ 79) : ∀ i, m_sn I e i c = I c
  | 0 => rfl
  | i + 1 => by
    unfold m_sn
    rw [zup_ne h, fr_sn h i]
theorem fr_bd {I : zI} {e c : Nat} (h : c ≠ 79) : m_bd I e c = I c := by
  unfold m_bd
  rw [fr_sn h, zup_ne h]
theorem okG_k1 {m rn : Nat} {I : zI} {J : zJ} (h : okG I m rn) : ∀ j, okG (m_k1 m rn I J j).1 m rn
  | 0 => h
  | j + 1 => by
    have h1 := okG_k1 (J := J) h j
    by_cases hc : (m_k1 m rn I J j).1 79 (688 + j) = 0
    · rw [m_k1_y hc]
      refine okG_of (fun c hc => ?_) ?_ (okMN_gn (okMN_of (congrFun (zup_ne (by decide)) _) h1.2.2.2.1)) h1
      · show m_gn m rn _ _ c = _
        rw [fr_gn hc, zup_ne hc.2.1]
      · dsimp only
        rw [fr_gn64 (by decide), zup_ne (by decide)]
    · rw [m_k1_n hc]
      exact h1
theorem okG_k2 {m rn : Nat} {I : zI} {J : zJ} (h : okG I m rn) : ∀ j, okG (m_k2 m rn I J j).1 m rn
  | 0 => h
  | j + 1 => by
    have h1 := okG_k2 (J := J) h j
    cases hc : m_wh (m_k2 m rn I J j).1 j with
    | true =>
      rw [m_k2_y hc]
      refine okG_of (fun c hc => ?_) ?_ (okMN_gn (okMN_of (congrFun (fr_bd (by decide)) _) h1.2.2.2.1)) h1
      · show m_gn m rn _ _ c = _
        rw [fr_gn hc, fr_bd hc.2.1]
      · dsimp only
        rw [fr_gn64 (by decide), fr_bd (by decide)]
    | false =>
      rw [m_k2_n hc]
      exact h1
def m_K0 (I : zI) : zI := m_kI (zup (zup I 64 0 0) 64 22 0) false 762
def m_K0J (J : zJ) : zJ := m_kJ J false 16
theorem m_K0_1 {I : zI} : m_kI (zup (zup I 64 0 0) 64 22 0) false 762 = m_K0 I := by simp only [m_K0]
theorem m_K0J_1 {J : zJ} : m_kJ J false 16 = m_K0J J := by simp only [m_K0J]
noncomputable def m_KA (m rn : Nat) (I : zI) (J : zJ) : zI × zJ := m_k1 m rn (m_K0 I) (m_K0J J) m
noncomputable def m_ck (m rn : Nat) (I : zI) (J : zJ) : zI × zJ := m_k2 m rn (m_KA m rn I J).1 (m_KA m rn I J).2 16
theorem m_KA_1 {m rn : Nat} {I : zI} {J : zJ} : m_k1 m rn (m_K0 I) (m_K0J J) m = m_KA m rn I J := by simp only [m_KA]
theorem m_ck_1 {m rn : Nat} {I : zI} {J : zJ} : m_k2 m rn (m_KA m rn I J).1 (m_KA m rn I J).2 16 = m_ck m rn I J := by simp only [m_ck]
theorem m_k2_0 {m rn : Nat} {I : zI} {J : zJ} : m_k2 m rn I J 0 = (I, J) := by rw [m_k2]
theorem m_k1_0 {m rn : Nat} {I : zI} {J : zJ} : m_k1 m rn I J 0 = (I, J) := by rw [m_k1]
theorem okG_K0 {I : zI} {m rn : Nat} (h : okM I ∧ okMQ I ∧ okME I m ∧ 4 * (24 + m_lo16 I 16) = nI rn) : okG (m_K0 I) m rn := by
  have k : ∀ c, mkc c → m_K0 I c = I c := fun c hc => by rw [← m_K0_1, fr_kt hc.2.1 hc.2.2.1, zup_ne hc.1, zup_ne hc.1]
  have h64 : m_K0 I 64 = zup (zup I 64 0 0) 64 22 0 64 := by rw [← m_K0_1, fr_kt (by decide) (by decide)]
  have k' : ∀ c, (c ≠ 64 ∧ c ≠ 79 ∧ c ≠ 80 ∧ c ≠ 83 ∧ c ≠ 84 ∧ c ≠ 85) → m_K0 I c = I c := k
  refine ⟨okM_of (k' 74 (by decide)) (k' 77 (by decide)) (k' 78 (by decide)) h.1, okMQ_of (k' 70 (by decide)) (k' 71 (by decide)) h.2.1, okME_of ?_ (k' 77 (by decide)) (k' 78 (by decide)) h.2.2.1, ⟨0, by decide, ?_⟩, ?_⟩
  · rw [h64, zup_same, pk_un (by decide), zup_same, pk_un (by decide)]
  · rw [h64, zup_same, pk_us]
    rfl
  · rw [m_lo16_of (k' 65 (by decide)) (k' 69 (by decide))]
    exact h.2.2.2
set_option maxRecDepth 100000 in
set_option maxHeartbeats 4000000 in
theorem c_Mo_loop {la : Launch} {G : zG} {I : zI} {J : zJ} (hM : okM (m_t I 0)) (hK : ∀ e, e < 16 → okMK (m_t I 0) e) : zCi la G y_Mo_loop (Cond.code y_Mo_loop prog_8_method_45_code 5 (some .boolean) :: TBL) (zR 3) [.ref (zad G 64)] I J (zB (m_lf (m_t I 0) 16)) (m_t I 0) (J) := by
  refine zCi_of (by decide) (by simp [lg_sl, Value.category]) (zB_nar _) (fun X hla hX hR => ?_)
  subst hla
  refine Z_loc (l' := [(0, .ref (zad G 64))]) (by simp [lv_args, Value.category, List.lookup]) ?_
  refine Z_aload_n (i := 0) hX d_Mo_loop_0 rfl rfl ?_
  refine Z_iconst (v := 0) hX d_Mo_loop_1 rfl ?_
  refine Z_putI (k0 := 0) hX d_Mo_loop_2 rfl rfl u_Mo (by decide) lk_Mo_7 rfl t_Mo to_Mo n_Mo rfl rfl rfl rfl ?_
  refine Z_iconst (v := 0) hX d_Mo_loop_5 rfl ?_
  refine Z_istore_n (i := 1) hX d_Mo_loop_6 rfl (by decide) rfl ?_
  refine Z_iconst (v := nI 0) hX d_Mo_loop_7 rfl ?_
  refine Z_istore_n (i := 2) hX d_Mo_loop_8 rfl (by decide) rfl ?_
  have hL9 : ∀ k i : Nat, k + i = 16 → Z X G 5 0 0 9 [(2, .int (nI i)), (1, .int (zB (m_lf (m_t I 0) i))), (0, .ref (zad G 64))] [] (m_t I 0) J := by
    intro k
    induction k with
    | zero =>
      intro i hi
      obtain rfl : i = 16 := by omega
      refine Z_iload_n (i := 2) hX d_Mo_loop_9 rfl rfl ?_
      refine Z_bipush (v := 16) hX d_Mo_loop_10 rfl ?_
      refine Z_icge (tgt := 67) hX d_Mo_loop_12 rfl (fun h12 => ?_) (fun h => absurd (by decide) h)
      refine Z_iload_n (i := 1) hX d_Mo_loop_67 rfl rfl ?_
      exact Z_ri (hR _ _ d_Mo_loop_68) (by rfl) (by rfl) (by rfl)
    | succ k ih =>
      intro i hi
      have hi2 : i < 16 := by omega
      refine Z_iload_n (i := 2) hX d_Mo_loop_9 rfl rfl ?_
      refine Z_bipush (v := 16) hX d_Mo_loop_10 rfl ?_
      refine Z_icge (tgt := 67) hX d_Mo_loop_12 rfl (fun h => absurd h (nI_ge hi2 (by decide))) (fun h12 => ?_)
      refine Z_iload_n (i := 2) hX d_Mo_loop_15 rfl rfl ?_
      refine Z_istore_n (i := 3) hX d_Mo_loop_16 rfl (by decide) rfl ?_
      refine Z_iconst (v := nI 0) hX d_Mo_loop_17 rfl ?_
      refine Z_istore hX d_Mo_loop_18 (by decide) rfl ?_
      have hL20 : ∀ (k2 j : Nat) (y : Int32), k2 + j = 17 → m_tr (m_t I 0) k2 y = m_tr (m_t I 0) 17 (nI i) → Z X G 5 0 0 20 [(4, .int (nI j)), (3, .int y), (2, .int (nI i)), (1, .int (zB (m_lf (m_t I 0) i))), (0, .ref (zad G 64))] [] (m_t I 0) J := by
        intro k2
        induction k2 with
        | zero =>
          intro j y hj hf
          obtain rfl : j = 17 := by omega
          refine Z_iload hX d_Mo_loop_20 rfl ?_
          refine Z_bipush (v := 17) hX d_Mo_loop_22 rfl ?_
          refine Z_icge (tgt := 49) hX d_Mo_loop_24 rfl (fun h24 => ?_) (fun h => absurd (by decide) h)
          refine Z_iload_n (i := 3) hX d_Mo_loop_49 rfl rfl ?_
          refine Z_iflt (tgt := 61) hX d_Mo_loop_50 rfl (fun h50 => ?_) (fun h50 => ?_)
          · refine Z_iinc (v := nI (i + 1)) hX d_Mo_loop_61 rfl (by rw [nI_succ]; rfl) (by decide) rfl ?_
            refine Z_goto (tgt := 9) hX d_Mo_loop_64 rfl ?_
            have hy : y = m_tr (m_t I 0) 17 (nI i) := hf
            have hlf : m_lf (m_t I 0) (i + 1) = m_lf (m_t I 0) i := by simp only [m_lf, ← hy, h50, not_true_eq_false, decide_false, Bool.and_false, Bool.false_and, Bool.or_false]
            refine Z_loc ?_ (ih (i + 1) (by omega))
            (rw [hlf]; rfl)
          · refine Z_iload_n (i := 3) hX d_Mo_loop_53 rfl rfl ?_
            refine Z_bipush (v := 16) hX d_Mo_loop_54 rfl ?_
            refine Z_icge (tgt := 61) hX d_Mo_loop_56 rfl (fun h56 => ?_) (fun h56 => ?_)
            · refine Z_iinc (v := nI (i + 1)) hX d_Mo_loop_61 rfl (by rw [nI_succ]; rfl) (by decide) rfl ?_
              refine Z_goto (tgt := 9) hX d_Mo_loop_64 rfl ?_
              have hy : y = m_tr (m_t I 0) 17 (nI i) := hf
              have hlf : m_lf (m_t I 0) (i + 1) = m_lf (m_t I 0) i := by simp only [m_lf, ← hy, h56, not_true_eq_false, decide_false, Bool.and_false, Bool.false_and, Bool.or_false]
              refine Z_loc ?_ (ih (i + 1) (by omega))
              (rw [hlf]; rfl)
            · refine Z_iconst (v := 1) hX d_Mo_loop_59 rfl ?_
              refine Z_istore_n (i := 1) hX d_Mo_loop_60 rfl (by decide) rfl ?_
              refine Z_iinc (v := nI (i + 1)) hX d_Mo_loop_61 rfl (by rw [nI_succ]; rfl) (by decide) rfl ?_
              refine Z_goto (tgt := 9) hX d_Mo_loop_64 rfl ?_
              have hy : y = m_tr (m_t I 0) 17 (nI i) := hf
              have hlf : m_lf (m_t I 0) (i + 1) = true := by simp only [m_lf, ← hy, h50, h56, not_false_eq_true, decide_true, Bool.and_self, Bool.or_true]
              refine Z_loc ?_ (ih (i + 1) (by omega))
              (rw [show zB (m_lf (m_t I 0) (i + 1)) = 1 from by rw [hlf]; rfl]; rfl)
        | succ k2 ih2 =>
          intro j y hj hf
          have hj2 : j < 17 := by omega
          refine Z_iload hX d_Mo_loop_20 rfl ?_
          refine Z_bipush (v := 17) hX d_Mo_loop_22 rfl ?_
          refine Z_icge (tgt := 49) hX d_Mo_loop_24 rfl (fun h => absurd h (nI_ge hj2 (by decide))) (fun h24 => ?_)
          refine Z_iload_n (i := 3) hX d_Mo_loop_27 rfl rfl ?_
          refine Z_iflt (tgt := 49) hX d_Mo_loop_28 rfl (fun h28 => ?_) (fun h28 => ?_)
          · refine Z_iload_n (i := 3) hX d_Mo_loop_49 rfl rfl ?_
            refine Z_iflt (tgt := 61) hX d_Mo_loop_50 rfl (fun h50 => ?_) (fun h => absurd h28 h)
            refine Z_iinc (v := nI (i + 1)) hX d_Mo_loop_61 rfl (by rw [nI_succ]; rfl) (by decide) rfl ?_
            refine Z_goto (tgt := 9) hX d_Mo_loop_64 rfl ?_
            have hy : y = m_tr (m_t I 0) 17 (nI i) := (m_tr_n h28).symm.trans hf
            have hlf : m_lf (m_t I 0) (i + 1) = m_lf (m_t I 0) i := by simp only [m_lf, ← hy, h28, not_true_eq_false, decide_false, Bool.and_false, Bool.false_and, Bool.or_false]
            refine Z_loc ?_ (ih (i + 1) (by omega))
            (rw [hlf]; rfl)
          · refine Z_iload_n (i := 3) hX d_Mo_loop_31 rfl rfl ?_
            refine Z_bipush (v := 16) hX d_Mo_loop_32 rfl ?_
            refine Z_icge (tgt := 49) hX d_Mo_loop_34 rfl (fun h34 => ?_) (fun h34 => ?_)
            · refine Z_iload_n (i := 3) hX d_Mo_loop_49 rfl rfl ?_
              refine Z_iflt (tgt := 61) hX d_Mo_loop_50 rfl (fun h => absurd h h28) (fun h50 => ?_)
              refine Z_iload_n (i := 3) hX d_Mo_loop_53 rfl rfl ?_
              refine Z_bipush (v := 16) hX d_Mo_loop_54 rfl ?_
              refine Z_icge (tgt := 61) hX d_Mo_loop_56 rfl (fun h56 => ?_) (fun h => absurd h34 h)
              refine Z_iinc (v := nI (i + 1)) hX d_Mo_loop_61 rfl (by rw [nI_succ]; rfl) (by decide) rfl ?_
              refine Z_goto (tgt := 9) hX d_Mo_loop_64 rfl ?_
              have hy : y = m_tr (m_t I 0) 17 (nI i) := (m_tr_g h28 h34).symm.trans hf
              have hlf : m_lf (m_t I 0) (i + 1) = m_lf (m_t I 0) i := by simp only [m_lf, ← hy, h34, not_true_eq_false, decide_false, Bool.and_false, Bool.false_and, Bool.or_false]
              refine Z_loc ?_ (ih (i + 1) (by omega))
              (rw [hlf]; rfl)
            · obtain ⟨q, hq, hq2⟩ := at_ix h28 h34
              refine Z_aload_n (i := 0) hX d_Mo_loop_37 rfl rfl ?_
              refine Z_iload_n (i := 3) hX d_Mo_loop_38 rfl rfl ?_
              refine Z_top hq2 ?_
              refine Z_cVi1 hX d_Mo_loop_39 (c_Mo_followed hq hM (hK q hq)) m_Mo_followed rfl rfl lk_Mo_164 ⟨by decide, by decide⟩ ⟨by decide, by decide⟩ (Nat.le_of_ble_eq_true rfl) ?_
              refine Z_istore_n (i := 3) hX d_Mo_loop_42 rfl (by decide) rfl ?_
              refine Z_iinc (v := nI (j + 1)) hX d_Mo_loop_43 rfl (by rw [nI_succ]; rfl) (by decide) rfl ?_
              refine Z_goto (tgt := 20) hX d_Mo_loop_46 rfl ?_
              refine Z_loc ?_ (ih2 (j + 1) (m_fw (m_t I 0) q) (by omega) ?_)
              · rfl
              · rw [← hf]; exact (m_tr_s h28 h34 hq hq2).symm
      refine Z_loc ?_ (hL20 17 0 (nI i) (by omega) rfl)
      rfl
  refine Z_loc ?_ (hL9 16 0 (by omega))
  rfl

set_option maxRecDepth 100000 in
set_option maxHeartbeats 4000000 in
theorem c_Mo_best_x {la : Launch} {G : zG} {I : zI} {J : zJ} {e : Int32} (hw : m_ne I e = true)  : zCi la G y_Mo_best (Cond.code y_Mo_best prog_8_method_46_code 2 (some .int) :: TBL) (zR 2) [.ref (zad G 64), .int e] I J (0) (m_t I 1) (J) := by
  refine zCi_of (by decide) (by simp [lg_sl, Value.category]) (rfl) (fun X hla hX hR => ?_)
  subst hla
  refine Z_loc (l' := [(0, .ref (zad G 64)), (1, .int e)]) (by simp [lv_args, Value.category, List.lookup]) ?_
  refine Z_aload_n (i := 0) hX d_Mo_best_0 rfl rfl ?_
  refine Z_cutw (pc' := 14) (w := zB (m_ne I e)) ?_ (fun hJ14 => ?_)
  · refine Z_id ?_
    refine Z_top (y := 1) (by rw [hw]; rfl) ?_
    refine Z_putI (k0 := 0) hX d_Mo_best_14 rfl rfl u_Mo (by decide) lk_Mo_7 rfl t_Mo to_Mo n_Mo rfl rfl rfl rfl ?_
    refine Z_aload_n (i := 0) hX d_Mo_best_17 rfl rfl ?_
    refine Z_getI (k0 := 0) hX d_Mo_best_18 rfl rfl u_Mo (by decide) lk_Mo_7 rfl ?_
    refine Z_top (y := 1) m_t_0 ?_
    refine Z_ifeq (tgt := 28) hX d_Mo_best_21 rfl (fun h => absurd h (by decide)) (fun h21 => ?_)
    refine Z_iconst (v := 0) hX d_Mo_best_24 rfl ?_
    refine Z_goto (tgt := 33) hX d_Mo_best_25 rfl ?_
    exact Z_ri (hR _ _ d_Mo_best_33) (by rfl) (by rfl) (by rfl)
  · refine Z_aload_n (i := 0) hX d_Mo_best_1 rfl rfl ?_
    refine Z_iload_n (i := 1) hX d_Mo_best_2 rfl rfl ?_
    refine Z_cVi1 hX d_Mo_best_3 c_Mo_noElement m_Mo_noElement rfl rfl lk_Mo_149 ⟨by decide, by decide⟩ ⟨by decide, by decide⟩ (Nat.le_of_ble_eq_true rfl) ?_
    refine Z_ifeqB (tgt := 13) hX d_Mo_best_6 rfl (fun h6 => ?_) (fun h6 => ?_)
    · refine Z_iconst (v := 0) hX d_Mo_best_13 rfl ?_
      exact hJ14 _ (by simp [zB, h6])
    · refine Z_iconst (v := 1) hX d_Mo_best_9 rfl ?_
      refine Z_goto (tgt := 14) hX d_Mo_best_10 rfl ?_
      exact hJ14 _ (by simp [zB, h6])

set_option maxRecDepth 100000 in
set_option maxHeartbeats 4000000 in
theorem c_Mo_best {la : Launch} {G : zG} {I : zI} {J : zJ} {e m x : Nat} (he : e < 16) (hw : m_ne I (nI e) = false) (hE : okME (m_t I 0) m) (hx : m_rP (m_t I 0) m e x) : zCi la G y_Mo_best (Cond.code y_Mo_best prog_8_method_46_code 2 (some .int) :: TBL) (zR 4) [.ref (zad G 64), .int (nI e)] I J (m_bf (m_t I 0) e x) (m_t I 0) (J) := by
  refine zCi_of (by decide) (by simp [lg_sl, Value.category]) (rfl) (fun X hla hX hR => ?_)
  subst hla
  refine Z_loc (l' := [(0, .ref (zad G 64)), (1, .int (nI e))]) (by simp [lv_args, Value.category, List.lookup]) ?_
  refine Z_aload_n (i := 0) hX d_Mo_best_0 rfl rfl ?_
  refine Z_cutw (pc' := 14) (w := zB (m_ne I (nI e))) ?_ (fun hJ14 => ?_)
  · refine Z_id ?_
    refine Z_top (y := 0) (by rw [hw]; rfl) ?_
    refine Z_putI (k0 := 0) hX d_Mo_best_14 rfl rfl u_Mo (by decide) lk_Mo_7 rfl t_Mo to_Mo n_Mo rfl rfl rfl rfl ?_
    refine Z_aload_n (i := 0) hX d_Mo_best_17 rfl rfl ?_
    refine Z_getI (k0 := 0) hX d_Mo_best_18 rfl rfl u_Mo (by decide) lk_Mo_7 rfl ?_
    refine Z_top (y := 0) m_t_0 ?_
    refine Z_ifeq (tgt := 28) hX d_Mo_best_21 rfl (fun h21 => ?_) (fun h => absurd rfl h)
    refine Z_aload_n (i := 0) hX d_Mo_best_28 rfl rfl ?_
    refine Z_iload_n (i := 1) hX d_Mo_best_29 rfl rfl ?_
    refine Z_cVi1 hX d_Mo_best_30 (c_Mo_bestFor he hE hx) m_Mo_bestFor rfl rfl lk_Mo_142 ⟨by decide, by decide⟩ ⟨by decide, by decide⟩ (Nat.le_of_ble_eq_true rfl) ?_
    exact Z_ri (hR _ _ d_Mo_best_33) (by rfl) (by rfl) (by rfl)
  · refine Z_aload_n (i := 0) hX d_Mo_best_1 rfl rfl ?_
    refine Z_iload_n (i := 1) hX d_Mo_best_2 rfl rfl ?_
    refine Z_cVi1 hX d_Mo_best_3 c_Mo_noElement m_Mo_noElement rfl rfl lk_Mo_149 ⟨by decide, by decide⟩ ⟨by decide, by decide⟩ (Nat.le_of_ble_eq_true rfl) ?_
    refine Z_ifeqB (tgt := 13) hX d_Mo_best_6 rfl (fun h6 => ?_) (fun h6 => ?_)
    · refine Z_iconst (v := 0) hX d_Mo_best_13 rfl ?_
      exact hJ14 _ (by simp [zB, h6])
    · refine Z_iconst (v := 1) hX d_Mo_best_9 rfl ?_
      refine Z_goto (tgt := 14) hX d_Mo_best_10 rfl ?_
      exact hJ14 _ (by simp [zB, h6])

set_option maxRecDepth 100000 in
set_option maxHeartbeats 4000000 in
theorem c_Mo_finding_x {la : Launch} {G : zG} {I : zI} {J : zJ} {k w : Int32} (hw : m_fiw I k w = true)  : zCi la G y_Mo_finding (Cond.code y_Mo_finding prog_8_method_48_code 3 (some .int) :: TBL) (zR 1) [.ref (zad G 64), .int k, .int w] I J (0) (m_t I 1) (J) := by
  refine zCi_of (by decide) (by simp [lg_sl, Value.category]) (rfl) (fun X hla hX hR => ?_)
  subst hla
  refine Z_loc (l' := [(0, .ref (zad G 64)), (1, .int k), (2, .int w)]) (by simp [lv_args, Value.category, List.lookup]) ?_
  refine Z_aload_n (i := 0) hX d_Mo_finding_0 rfl rfl ?_
  refine Z_cutw (pc' := 27) (w := zB (m_fiw I k w)) ?_ (fun hJ27 => ?_)
  · refine Z_id ?_
    refine Z_top (y := 1) (by rw [hw]; rfl) ?_
    refine Z_putI (k0 := 0) hX d_Mo_finding_27 rfl rfl u_Mo (by decide) lk_Mo_7 rfl t_Mo to_Mo n_Mo rfl rfl rfl rfl ?_
    refine Z_aload_n (i := 0) hX d_Mo_finding_30 rfl rfl ?_
    refine Z_getI (k0 := 0) hX d_Mo_finding_31 rfl rfl u_Mo (by decide) lk_Mo_7 rfl ?_
    refine Z_top (y := 1) m_t_0 ?_
    refine Z_ifeq (tgt := 41) hX d_Mo_finding_34 rfl (fun h => absurd h (by decide)) (fun h34 => ?_)
    refine Z_iconst (v := 0) hX d_Mo_finding_37 rfl ?_
    refine Z_goto (tgt := 60) hX d_Mo_finding_38 rfl ?_
    exact Z_ri (hR _ _ d_Mo_finding_60) (by rfl) (by rfl) (by rfl)
  · refine Z_iload_n (i := 1) hX d_Mo_finding_1 rfl rfl ?_
    refine Z_iflt (tgt := 22) hX d_Mo_finding_2 rfl (fun h2 => ?_) (fun h2 => ?_)
    · refine Z_iconst (v := 1) hX d_Mo_finding_22 rfl ?_
      refine Z_goto (tgt := 27) hX d_Mo_finding_23 rfl ?_
      exact hJ27 _ (by simp [m_fiw, zB, h2])
    · refine Z_iload_n (i := 1) hX d_Mo_finding_5 rfl rfl ?_
      refine Z_aload_n (i := 0) hX d_Mo_finding_6 rfl rfl ?_
      refine Z_getI (k0 := 22) hX d_Mo_finding_7 rfl rfl u_Mo (by decide) lk_Mo_80 rfl ?_
      refine Z_icge (tgt := 22) hX d_Mo_finding_10 rfl (fun h10 => ?_) (fun h10 => ?_)
      · refine Z_iconst (v := 1) hX d_Mo_finding_22 rfl ?_
        refine Z_goto (tgt := 27) hX d_Mo_finding_23 rfl ?_
        exact hJ27 _ (by simp [m_fiw, zB, h2, h10])
      · refine Z_iload_n (i := 2) hX d_Mo_finding_13 rfl rfl ?_
        refine Z_iflt (tgt := 22) hX d_Mo_finding_14 rfl (fun h14 => ?_) (fun h14 => ?_)
        · refine Z_iconst (v := 1) hX d_Mo_finding_22 rfl ?_
          refine Z_goto (tgt := 27) hX d_Mo_finding_23 rfl ?_
          exact hJ27 _ (by simp [m_fiw, zB, h2, h10, h14])
        · refine Z_iload_n (i := 2) hX d_Mo_finding_17 rfl rfl ?_
          refine Z_iconst (v := 1) hX d_Mo_finding_18 rfl ?_
          refine Z_icle (tgt := 26) hX d_Mo_finding_19 rfl (fun h19 => ?_) (fun h19 => ?_)
          · refine Z_iconst (v := 0) hX d_Mo_finding_26 rfl ?_
            exact hJ27 _ (by simp [m_fiw, zB, h2, h10, h14, h19])
          · refine Z_iconst (v := 1) hX d_Mo_finding_22 rfl ?_
            refine Z_goto (tgt := 27) hX d_Mo_finding_23 rfl ?_
            exact hJ27 _ (by simp [m_fiw, zB, h2, h10, h14, h19])

set_option maxRecDepth 100000 in
set_option maxHeartbeats 4000000 in
theorem c_Mo_finding {la : Launch} {G : zG} {I : zI} {J : zJ} {k : Nat} (hk : k < 100) {w : Int32} (hw : m_fiw I (nI k) w = false)  : zCi la G y_Mo_finding (Cond.code y_Mo_finding prog_8_method_48_code 3 (some .int) :: TBL) (zR 1) [.ref (zad G 64), .int (nI k), .int w] I J (if w = 0 then I 84 k else I 85 k) (m_t I 0) (J) := by
  refine zCi_of (by decide) (by simp [lg_sl, Value.category]) (rfl) (fun X hla hX hR => ?_)
  subst hla
  refine Z_loc (l' := [(0, .ref (zad G 64)), (1, .int (nI k)), (2, .int w)]) (by simp [lv_args, Value.category, List.lookup]) ?_
  refine Z_aload_n (i := 0) hX d_Mo_finding_0 rfl rfl ?_
  refine Z_cutw (pc' := 27) (w := zB (m_fiw I (nI k) w)) ?_ (fun hJ27 => ?_)
  · refine Z_id ?_
    refine Z_top (y := 0) (by rw [hw]; rfl) ?_
    refine Z_putI (k0 := 0) hX d_Mo_finding_27 rfl rfl u_Mo (by decide) lk_Mo_7 rfl t_Mo to_Mo n_Mo rfl rfl rfl rfl ?_
    refine Z_aload_n (i := 0) hX d_Mo_finding_30 rfl rfl ?_
    refine Z_getI (k0 := 0) hX d_Mo_finding_31 rfl rfl u_Mo (by decide) lk_Mo_7 rfl ?_
    refine Z_top (y := 0) m_t_0 ?_
    refine Z_ifeq (tgt := 41) hX d_Mo_finding_34 rfl (fun h34 => ?_) (fun h => absurd rfl h)
    refine Z_iload_n (i := 2) hX d_Mo_finding_41 rfl rfl ?_
    refine Z_ifne (tgt := 54) hX d_Mo_finding_42 rfl (fun h42 => ?_) (fun h42 => ?_)
    · refine Z_aload_n (i := 0) hX d_Mo_finding_54 rfl rfl ?_
      refine Z_getR (k0 := 24) hX d_Mo_finding_55 rfl rfl u_Mo (by decide) lk_Mo_86 rfl ?_
      refine Z_iload_n (i := 1) hX d_Mo_finding_58 rfl rfl ?_
      refine Z_iald hX d_Mo_finding_59 rfl rfl (by omega) (by decide) ?_
      exact Z_ri (hR _ _ d_Mo_finding_60) (by (rw [if_neg h42]; exact congrFun (zup_ne (by decide)) _)) (by rfl) (by rfl)
    · refine Z_aload_n (i := 0) hX d_Mo_finding_45 rfl rfl ?_
      refine Z_getR (k0 := 23) hX d_Mo_finding_46 rfl rfl u_Mo (by decide) lk_Mo_83 rfl ?_
      refine Z_iload_n (i := 1) hX d_Mo_finding_49 rfl rfl ?_
      refine Z_iald hX d_Mo_finding_50 rfl rfl (by omega) (by decide) ?_
      refine Z_goto (tgt := 60) hX d_Mo_finding_51 rfl ?_
      exact Z_ri (hR _ _ d_Mo_finding_60) (by (rw [if_pos h42]; exact congrFun (zup_ne (by decide)) _)) (by rfl) (by rfl)
  · refine Z_iload_n (i := 1) hX d_Mo_finding_1 rfl rfl ?_
    refine Z_iflt (tgt := 22) hX d_Mo_finding_2 rfl (fun h2 => ?_) (fun h2 => ?_)
    · refine Z_iconst (v := 1) hX d_Mo_finding_22 rfl ?_
      refine Z_goto (tgt := 27) hX d_Mo_finding_23 rfl ?_
      exact hJ27 _ (by simp [m_fiw, zB, h2])
    · refine Z_iload_n (i := 1) hX d_Mo_finding_5 rfl rfl ?_
      refine Z_aload_n (i := 0) hX d_Mo_finding_6 rfl rfl ?_
      refine Z_getI (k0 := 22) hX d_Mo_finding_7 rfl rfl u_Mo (by decide) lk_Mo_80 rfl ?_
      refine Z_icge (tgt := 22) hX d_Mo_finding_10 rfl (fun h10 => ?_) (fun h10 => ?_)
      · refine Z_iconst (v := 1) hX d_Mo_finding_22 rfl ?_
        refine Z_goto (tgt := 27) hX d_Mo_finding_23 rfl ?_
        exact hJ27 _ (by simp [m_fiw, zB, h2, h10])
      · refine Z_iload_n (i := 2) hX d_Mo_finding_13 rfl rfl ?_
        refine Z_iflt (tgt := 22) hX d_Mo_finding_14 rfl (fun h14 => ?_) (fun h14 => ?_)
        · refine Z_iconst (v := 1) hX d_Mo_finding_22 rfl ?_
          refine Z_goto (tgt := 27) hX d_Mo_finding_23 rfl ?_
          exact hJ27 _ (by simp [m_fiw, zB, h2, h10, h14])
        · refine Z_iload_n (i := 2) hX d_Mo_finding_17 rfl rfl ?_
          refine Z_iconst (v := 1) hX d_Mo_finding_18 rfl ?_
          refine Z_icle (tgt := 26) hX d_Mo_finding_19 rfl (fun h19 => ?_) (fun h19 => ?_)
          · refine Z_iconst (v := 0) hX d_Mo_finding_26 rfl ?_
            exact hJ27 _ (by simp [m_fiw, zB, h2, h10, h14, h19])
          · refine Z_iconst (v := 1) hX d_Mo_finding_22 rfl ?_
            refine Z_goto (tgt := 27) hX d_Mo_finding_23 rfl ?_
            exact hJ27 _ (by simp [m_fiw, zB, h2, h10, h14, h19])

set_option maxRecDepth 100000 in
set_option maxHeartbeats 4000000 in
theorem c_Mo_goOn {la : Launch} {G : zG} {I : zI} {J : zJ} {m rn : Nat} {f : Int32} (hG : okG I m rn) (hrn : rn < 1000) : zCv la G y_Mo_goOn (Cond.code y_Mo_goOn prog_8_method_23_code 4 none :: TBL) (zR 7) [.ref (zad G 64), .int f] I J (m_gn m rn f I) (m_gnJ rn I J) := by
  refine zCv_of (by decide) (by simp [lg_sl, Value.category]) (fun X hla hX hR => ?_)
  subst hla
  refine Z_loc (l' := [(0, .ref (zad G 64)), (1, .int f)]) (by simp [lv_args, Value.category, List.lookup]) ?_
  refine Z_iconst (v := 0) hX d_Mo_goOn_0 rfl ?_
  refine Z_istore_n (i := 2) hX d_Mo_goOn_1 rfl (by decide) rfl ?_
  refine Z_iconst (v := nI 0) hX d_Mo_goOn_2 rfl ?_
  refine Z_istore_n (i := 3) hX d_Mo_goOn_3 rfl (by decide) rfl ?_
  have hL4 : ∀ k i : Nat, k + i = 16 → Z X G 4 0 0 4 [(3, .int (nI i)), (2, .int (m_lo16 I i)), (1, .int f), (0, .ref (zad G 64))] [] (I) (J) := by
    intro k
    induction k with
    | zero =>
      intro i hi
      obtain rfl : i = 16 := by omega
      refine Z_iload_n (i := 3) hX d_Mo_goOn_4 rfl rfl ?_
      refine Z_bipush (v := 16) hX d_Mo_goOn_5 rfl ?_
      refine Z_icge (tgt := 42) hX d_Mo_goOn_7 rfl (fun h7 => ?_) (fun h => absurd (by decide) h)
      refine Z_iconst (v := nI 0) hX d_Mo_goOn_42 rfl ?_
      refine Z_istore_n (i := 3) hX d_Mo_goOn_43 rfl (by decide) rfl ?_
      have hL44 : ∀ k i : Nat, k + i = rn → Z X G 4 0 0 44 [(3, .int (nI i)), (2, .int (m_lo16 I 16)), (1, .int f), (0, .ref (zad G 64))] [] (m_itI I i) (m_itJ I J i) := by
        intro k
        induction k with
        | zero =>
          intro i hi
          obtain rfl : rn = i := by omega
          refine Z_iload_n (i := 3) hX d_Mo_goOn_44 rfl rfl ?_
          refine Z_iconst (v := 4) hX d_Mo_goOn_45 rfl ?_
          refine Z_bipush (v := 24) hX d_Mo_goOn_46 rfl ?_
          refine Z_iload_n (i := 2) hX d_Mo_goOn_48 rfl rfl ?_
          refine Z_iadd hX d_Mo_goOn_49 ?_
          refine Z_imul hX d_Mo_goOn_50 ?_
          refine Z_top hG.2.2.2.2 ?_
          refine Z_icge (tgt := 64) hX d_Mo_goOn_51 rfl (fun h51 => ?_) (fun h => absurd (nI_le (Nat.le_refl _) (by omega)) h)
          refine Z_iconst (v := nI 0) hX d_Mo_goOn_64 rfl ?_
          refine Z_istore_n (i := 3) hX d_Mo_goOn_65 rfl (by decide) rfl ?_
          have hL66 : ∀ k i : Nat, k + i = 16 → Z X G 4 0 0 66 [(3, .int (nI i)), (1, .int f), (0, .ref (zad G 64))] [] ((m_gs m f (m_itI I rn) i)) (m_itJ I J rn) := by
            intro k
            induction k with
            | zero =>
              intro i hi
              obtain rfl : i = 16 := by omega
              refine Z_iload_n (i := 3) hX d_Mo_goOn_66 rfl rfl ?_
              refine Z_bipush (v := 16) hX d_Mo_goOn_67 rfl ?_
              refine Z_icge (tgt := 149) hX d_Mo_goOn_69 rfl (fun h69 => ?_) (fun h => absurd (by decide) h)
              refine Z_aload_n (i := 0) hX d_Mo_goOn_149 rfl rfl ?_
              refine Z_iconst (v := zB true) hX d_Mo_goOn_150 rfl ?_
              refine Z_cVv1 hX d_Mo_goOn_151 c_Mo_keep m_Mo_keep rfl rfl lk_Mo_145 ⟨by decide, by decide⟩ ⟨by decide, by decide⟩ (Nat.le_of_ble_eq_true rfl) ?_
              exact Z_mem (by exact m_gn_1) (by exact m_gnJ_1) (hR _ _ d_Mo_goOn_154)
            | succ k ih =>
              intro i hi
              have hi2 : i < 16 := by omega
              have hEi : okME (m_gs m f (m_itI I rn) i) m := okME_of ((fr_gsn (by decide) i).trans (congrFun (fr_it (by decide) (by decide) rn) 14)) ((fr_gs (by decide) i).trans (fr_it (by decide) (by decide) rn)) ((fr_gs (by decide) i).trans (fr_it (by decide) (by decide) rn)) hG.2.2.1
              have hNi : okMN (m_gs m f (m_itI I rn) i) := okMN_gs (okMN_of (congrFun (fr_it (by decide) (by decide) rn) 22) hG.2.2.2.1) i
              refine Z_iload_n (i := 3) hX d_Mo_goOn_66 rfl rfl ?_
              refine Z_bipush (v := 16) hX d_Mo_goOn_67 rfl ?_
              refine Z_icge (tgt := 149) hX d_Mo_goOn_69 rfl (fun h => absurd h (nI_ge hi2 (by decide))) (fun h69 => ?_)
              refine Z_aload_n (i := 0) hX d_Mo_goOn_72 rfl rfl ?_
              refine Z_iload_n (i := 3) hX d_Mo_goOn_73 rfl rfl ?_
              refine Z_cVi1 hX d_Mo_goOn_74 (c_Mo_whole (by omega)) m_Mo_whole rfl rfl lk_Mo_93 ⟨by decide, by decide⟩ ⟨by decide, by decide⟩ (Nat.le_of_ble_eq_true rfl) ?_
              refine Z_ifeqB (tgt := 143) hX d_Mo_goOn_77 rfl (fun h77 => ?_) (fun h77 => ?_)
              · refine Z_iinc (v := nI (i + 1)) hX d_Mo_goOn_143 rfl (by rw [nI_succ]; rfl) (by decide) rfl ?_
                refine Z_goto (tgt := 66) hX d_Mo_goOn_146 rfl ?_
                refine Z_loc ?_ (Z_mem ?_ ?_ (ih (i + 1) (by omega)))
                · rfl
                · exact (if_neg (by simp [m_gc, h77])).symm
                · rfl
              · refine Z_aload_n (i := 0) hX d_Mo_goOn_80 rfl rfl ?_
                refine Z_getR (k0 := 17) hX d_Mo_goOn_81 rfl rfl u_Mo (by decide) lk_Mo_64 rfl ?_
                refine Z_sipush (v := nI 512) hX d_Mo_goOn_84 rfl ?_
                refine Z_iload_n (i := 3) hX d_Mo_goOn_87 rfl rfl ?_
                refine Z_iaddN hX d_Mo_goOn_88 ?_
                refine Z_iald hX d_Mo_goOn_89 rfl rfl (by omega) (by decide) ?_
                refine Z_iconst (v := 1) hX d_Mo_goOn_90 rfl ?_
                refine Z_iceq (tgt := 143) hX d_Mo_goOn_91 rfl (fun h91 => ?_) (fun h91 => ?_)
                · refine Z_iinc (v := nI (i + 1)) hX d_Mo_goOn_143 rfl (by rw [nI_succ]; rfl) (by decide) rfl ?_
                  refine Z_goto (tgt := 66) hX d_Mo_goOn_146 rfl ?_
                  refine Z_loc ?_ (Z_mem ?_ ?_ (ih (i + 1) (by omega)))
                  · rfl
                  · exact (if_neg (by simp [m_gc, h77, h91])).symm
                  · rfl
                · refine Z_aload_n (i := 0) hX d_Mo_goOn_94 rfl rfl ?_
                  refine Z_iload_n (i := 3) hX d_Mo_goOn_95 rfl rfl ?_
                  refine Z_cVi1 hX d_Mo_goOn_96 (c_Mo_bestFor (by omega) hEi (m_rx_ok hEi (by omega))) m_Mo_bestFor rfl rfl lk_Mo_142 ⟨by decide, by decide⟩ ⟨by decide, by decide⟩ (Nat.le_of_ble_eq_true rfl) ?_
                  refine Z_bipush (v := 7) hX d_Mo_goOn_99 rfl ?_
                  refine Z_icge (tgt := 143) hX d_Mo_goOn_101 rfl (fun h101 => ?_) (fun h101 => ?_)
                  · refine Z_iinc (v := nI (i + 1)) hX d_Mo_goOn_143 rfl (by rw [nI_succ]; rfl) (by decide) rfl ?_
                    refine Z_goto (tgt := 66) hX d_Mo_goOn_146 rfl ?_
                    refine Z_loc ?_ (Z_mem ?_ ?_ (ih (i + 1) (by omega)))
                    · rfl
                    · exact (if_neg (by simp [m_gc, h77, h91, h101])).symm
                    · rfl
                  · refine Z_aload_n (i := 0) hX d_Mo_goOn_104 rfl rfl ?_
                    refine Z_getI (k0 := 22) hX d_Mo_goOn_105 rfl rfl u_Mo (by decide) lk_Mo_80 rfl ?_
                    refine Z_bipush (v := 100) hX d_Mo_goOn_108 rfl ?_
                    refine Z_icge (tgt := 143) hX d_Mo_goOn_110 rfl (fun h110 => ?_) (fun h110 => ?_)
                    · refine Z_iinc (v := nI (i + 1)) hX d_Mo_goOn_143 rfl (by rw [nI_succ]; rfl) (by decide) rfl ?_
                      refine Z_goto (tgt := 66) hX d_Mo_goOn_146 rfl ?_
                      refine Z_loc ?_ (Z_mem ?_ ?_ (ih (i + 1) (by omega)))
                      · rfl
                      · exact (if_neg (by simp [m_gc, h77, h91, h101, h110])).symm
                      · rfl
                    · obtain ⟨c, hc, hc2⟩ := okMN_lt hNi h110
                      refine Z_aload_n (i := 0) hX d_Mo_goOn_113 rfl rfl ?_
                      refine Z_getR (k0 := 23) hX d_Mo_goOn_114 rfl rfl u_Mo (by decide) lk_Mo_83 rfl ?_
                      refine Z_aload_n (i := 0) hX d_Mo_goOn_117 rfl rfl ?_
                      refine Z_getI (k0 := 22) hX d_Mo_goOn_118 rfl rfl u_Mo (by decide) lk_Mo_80 rfl ?_
                      refine Z_top hc2 ?_
                      refine Z_iload_n (i := 1) hX d_Mo_goOn_121 rfl rfl ?_
                      refine Z_iast hX d_Mo_goOn_122 rfl rfl (by omega) (by decide) ?_
                      refine Z_aload_n (i := 0) hX d_Mo_goOn_123 rfl rfl ?_
                      refine Z_getR (k0 := 24) hX d_Mo_goOn_124 rfl rfl u_Mo (by decide) lk_Mo_86 rfl ?_
                      refine Z_aload_n (i := 0) hX d_Mo_goOn_127 rfl rfl ?_
                      refine Z_getI (k0 := 22) hX d_Mo_goOn_128 rfl rfl u_Mo (by decide) lk_Mo_80 rfl ?_
                      refine Z_top (y := nI c) (by rw [zup_ne (by decide)]; exact hc2) ?_
                      refine Z_iload_n (i := 3) hX d_Mo_goOn_131 rfl rfl ?_
                      refine Z_iast hX d_Mo_goOn_132 rfl rfl (by omega) (by decide) ?_
                      refine Z_aload_n (i := 0) hX d_Mo_goOn_133 rfl rfl ?_
                      refine Z_dup hX d_Mo_goOn_134 rfl ?_
                      refine Z_getI (k0 := 22) hX d_Mo_goOn_135 rfl rfl u_Mo (by decide) lk_Mo_80 rfl ?_
                      refine Z_iconst (v := 1) hX d_Mo_goOn_138 rfl ?_
                      refine Z_iadd hX d_Mo_goOn_139 ?_
                      refine Z_putI (k0 := 22) hX d_Mo_goOn_140 rfl rfl u_Mo (by decide) lk_Mo_80 rfl t_Mo to_Mo n_Mo rfl rfl rfl rfl ?_
                      refine Z_iinc (v := nI (i + 1)) hX d_Mo_goOn_143 rfl (by rw [nI_succ]; rfl) (by decide) rfl ?_
                      refine Z_goto (tgt := 66) hX d_Mo_goOn_146 rfl ?_
                      refine Z_loc ?_ (Z_mem ?_ ?_ (ih (i + 1) (by omega)))
                      · rfl
                      · (rw [m_gs, if_pos (by simp [m_gc, h77, h91, h101, h110]), m_g1_c hc hc2]; rw [show zup (zup (m_gs m f (m_itI I rn) i) 84 c f) 85 c (nI i) 64 22 = nI c from by rw [zup_ne (by decide), zup_ne (by decide)]; exact hc2, nI_1])
                      · rfl
          refine Z_loc ?_ (Z_mem ?_ ?_ (hL66 16 0 (by omega)))
          · rfl
          · rfl
          · rfl
        | succ k ih =>
          intro i hi
          have hi2 : i < rn := by omega
          refine Z_iload_n (i := 3) hX d_Mo_goOn_44 rfl rfl ?_
          refine Z_iconst (v := 4) hX d_Mo_goOn_45 rfl ?_
          refine Z_bipush (v := 24) hX d_Mo_goOn_46 rfl ?_
          refine Z_iload_n (i := 2) hX d_Mo_goOn_48 rfl rfl ?_
          refine Z_iadd hX d_Mo_goOn_49 ?_
          refine Z_imul hX d_Mo_goOn_50 ?_
          refine Z_top hG.2.2.2.2 ?_
          refine Z_icge (tgt := 64) hX d_Mo_goOn_51 rfl (fun h => absurd h (nI_ge hi2 (by omega))) (fun h51 => ?_)
          refine Z_aload_n (i := 0) hX d_Mo_goOn_54 rfl rfl ?_
          refine Z_cVv0 hX d_Mo_goOn_55 (c_Mo_round (okM_of (fr_it (by decide) (by decide) i) (fr_it (by decide) (by decide) i) (fr_it (by decide) (by decide) i) hG.1) (okMQ_of (fr_it (by decide) (by decide) i) (fr_it (by decide) (by decide) i) hG.2.1)) m_Mo_round rfl rfl lk_Mo_139 ⟨by decide, by decide⟩ ⟨by decide, by decide⟩ (Nat.le_of_ble_eq_true rfl) ?_
          refine Z_iinc (v := nI (i + 1)) hX d_Mo_goOn_58 rfl (by rw [nI_succ]; rfl) (by decide) rfl ?_
          refine Z_goto (tgt := 44) hX d_Mo_goOn_61 rfl ?_
          refine Z_loc ?_ (Z_mem ?_ ?_ (ih (i + 1) (by omega)))
          · rfl
          · rfl
          · rfl
      refine Z_loc ?_ (Z_mem ?_ ?_ (hL44 rn 0 (by omega)))
      · rfl
      · rfl
      · rfl
    | succ k ih =>
      intro i hi
      have hi2 : i < 16 := by omega
      refine Z_iload_n (i := 3) hX d_Mo_goOn_4 rfl rfl ?_
      refine Z_bipush (v := 16) hX d_Mo_goOn_5 rfl ?_
      refine Z_icge (tgt := 42) hX d_Mo_goOn_7 rfl (fun h => absurd h (nI_ge hi2 (by decide))) (fun h7 => ?_)
      refine Z_aload_n (i := 0) hX d_Mo_goOn_10 rfl rfl ?_
      refine Z_getR (k0 := 2) hX d_Mo_goOn_11 rfl rfl u_Mo (by decide) lk_Mo_17 rfl ?_
      refine Z_iload_n (i := 3) hX d_Mo_goOn_14 rfl rfl ?_
      refine Z_zald hX d_Mo_goOn_15 rfl rfl (by omega) (by decide) ?_
      refine Z_ifeq (tgt := 36) hX d_Mo_goOn_16 rfl (fun h16 => ?_) (fun h16 => ?_)
      · refine Z_iinc (v := nI (i + 1)) hX d_Mo_goOn_36 rfl (by rw [nI_succ]; rfl) (by decide) rfl ?_
        refine Z_goto (tgt := 4) hX d_Mo_goOn_39 rfl ?_
        refine Z_loc ?_ (Z_mem ?_ ?_ (ih (i + 1) (by omega)))
        · (rw [show m_lo16 I (i + 1) = m_lo16 I i from if_pos h16]; rfl)
        · rfl
        · rfl
      · refine Z_aload_n (i := 0) hX d_Mo_goOn_19 rfl rfl ?_
        refine Z_getR (k0 := 6) hX d_Mo_goOn_20 rfl rfl u_Mo (by decide) lk_Mo_31 rfl ?_
        refine Z_iload_n (i := 3) hX d_Mo_goOn_23 rfl rfl ?_
        refine Z_iald hX d_Mo_goOn_24 rfl rfl (by omega) (by decide) ?_
        refine Z_iload_n (i := 2) hX d_Mo_goOn_25 rfl rfl ?_
        refine Z_icle (tgt := 36) hX d_Mo_goOn_26 rfl (fun h26 => ?_) (fun h26 => ?_)
        · refine Z_iinc (v := nI (i + 1)) hX d_Mo_goOn_36 rfl (by rw [nI_succ]; rfl) (by decide) rfl ?_
          refine Z_goto (tgt := 4) hX d_Mo_goOn_39 rfl ?_
          refine Z_loc ?_ (Z_mem ?_ ?_ (ih (i + 1) (by omega)))
          · (rw [show m_lo16 I (i + 1) = m_lo16 I i from (if_neg h16).trans (if_pos h26)]; rfl)
          · rfl
          · rfl
        · refine Z_aload_n (i := 0) hX d_Mo_goOn_29 rfl rfl ?_
          refine Z_getR (k0 := 6) hX d_Mo_goOn_30 rfl rfl u_Mo (by decide) lk_Mo_31 rfl ?_
          refine Z_iload_n (i := 3) hX d_Mo_goOn_33 rfl rfl ?_
          refine Z_iald hX d_Mo_goOn_34 rfl rfl (by omega) (by decide) ?_
          refine Z_istore_n (i := 2) hX d_Mo_goOn_35 rfl (by decide) rfl ?_
          refine Z_iinc (v := nI (i + 1)) hX d_Mo_goOn_36 rfl (by rw [nI_succ]; rfl) (by decide) rfl ?_
          refine Z_goto (tgt := 4) hX d_Mo_goOn_39 rfl ?_
          refine Z_loc ?_ (Z_mem ?_ ?_ (ih (i + 1) (by omega)))
          · (rw [show m_lo16 I (i + 1) = I 69 i from (if_neg h16).trans (if_neg h26)]; rfl)
          · rfl
          · rfl
  refine Z_loc ?_ (Z_mem ?_ ?_ (hL4 16 0 (by omega)))
  · rfl
  · rfl
  · rfl

set_option maxRecDepth 100000 in
set_option maxHeartbeats 4000000 in
theorem c_Mo_check {la : Launch} {G : zG} {I : zI} {J : zJ} {m rn : Nat} (h0 : okM I ∧ okMQ I ∧ okME I m ∧ 4 * (24 + m_lo16 I 16) = nI rn) (hrn : rn < 1000) : zCi la G y_Mo_check (Cond.code y_Mo_check prog_8_method_47_code 2 (some .int) :: TBL) (zR 8) [.ref (zad G 64)] I J ((m_ck m rn I J).1 64 22) ((m_ck m rn I J).1) ((m_ck m rn I J).2) := by
  refine zCi_of (by decide) (by simp [lg_sl, Value.category]) (rfl) (fun X hla hX hR => ?_)
  subst hla
  refine Z_loc (l' := [(0, .ref (zad G 64))]) (by simp [lv_args, Value.category, List.lookup]) ?_
  have hm := h0.2.2.1.2.1
  refine Z_aload_n (i := 0) hX d_Mo_check_0 rfl rfl ?_
  refine Z_iconst (v := 0) hX d_Mo_check_1 rfl ?_
  refine Z_putI (k0 := 0) hX d_Mo_check_2 rfl rfl u_Mo (by decide) lk_Mo_7 rfl t_Mo to_Mo n_Mo rfl rfl rfl rfl ?_
  refine Z_aload_n (i := 0) hX d_Mo_check_5 rfl rfl ?_
  refine Z_iconst (v := 0) hX d_Mo_check_6 rfl ?_
  refine Z_putI (k0 := 22) hX d_Mo_check_7 rfl rfl u_Mo (by decide) lk_Mo_80 rfl t_Mo to_Mo n_Mo rfl rfl rfl rfl ?_
  refine Z_aload_n (i := 0) hX d_Mo_check_10 rfl rfl ?_
  refine Z_iconst (v := zB false) hX d_Mo_check_11 rfl ?_
  refine Z_cVv1 hX d_Mo_check_12 c_Mo_keep m_Mo_keep rfl rfl lk_Mo_145 ⟨by decide, by decide⟩ ⟨by decide, by decide⟩ (Nat.le_of_ble_eq_true rfl) ?_
  refine Z_iconst (v := nI 0) hX d_Mo_check_15 rfl ?_
  refine Z_istore_n (i := 1) hX d_Mo_check_16 rfl (by decide) rfl ?_
  have hL17 : ∀ k i : Nat, k + i = m → Z X G 2 0 0 17 [(1, .int (nI i)), (0, .ref (zad G 64))] [] ((m_k1 m rn (m_K0 I) (m_K0J J) i).1) ((m_k1 m rn (m_K0 I) (m_K0J J) i).2) := by
    intro k
    induction k with
    | zero =>
      intro i hi
      obtain rfl : m = i := by omega
      have hGi := okG_k1 (J := m_K0J J) (okG_K0 h0) m
      refine Z_iload_n (i := 1) hX d_Mo_check_17 rfl rfl ?_
      refine Z_aload_n (i := 0) hX d_Mo_check_18 rfl rfl ?_
      refine Z_getI (k0 := 14) hX d_Mo_check_19 rfl rfl u_Mo (by decide) lk_Mo_55 rfl ?_
      refine Z_top hGi.2.2.1.1 ?_
      refine Z_icge (tgt := 60) hX d_Mo_check_22 rfl (fun h22 => ?_) (fun h => absurd (nI_le (Nat.le_refl _) (by omega)) h)
      refine Z_iconst (v := nI 0) hX d_Mo_check_60 rfl ?_
      refine Z_istore_n (i := 1) hX d_Mo_check_61 rfl (by decide) rfl ?_
      have hL62 : ∀ k i : Nat, k + i = 16 → Z X G 2 0 0 62 [(1, .int (nI i)), (0, .ref (zad G 64))] [] ((m_k2 m rn (m_KA m rn I J).1 (m_KA m rn I J).2 i).1) ((m_k2 m rn (m_KA m rn I J).1 (m_KA m rn I J).2 i).2) := by
        intro k
        induction k with
        | zero =>
          intro i hi
          obtain rfl : i = 16 := by omega
          refine Z_iload_n (i := 1) hX d_Mo_check_62 rfl rfl ?_
          refine Z_bipush (v := 16) hX d_Mo_check_63 rfl ?_
          refine Z_icge (tgt := 95) hX d_Mo_check_65 rfl (fun h65 => ?_) (fun h => absurd (by decide) h)
          refine Z_aload_n (i := 0) hX d_Mo_check_95 rfl rfl ?_
          refine Z_getI (k0 := 22) hX d_Mo_check_96 rfl rfl u_Mo (by decide) lk_Mo_80 rfl ?_
          exact Z_ri (hR _ _ d_Mo_check_99) (by rw [m_ck_1]) (by rw [m_ck_1]) (by rw [m_ck_1])
        | succ k ih =>
          intro i hi
          have hi2 : i < 16 := by omega
          have hGj : okG (m_k2 m rn (m_KA m rn I J).1 (m_KA m rn I J).2 i).1 m rn := okG_k2 (by rw [← m_KA_1]; exact okG_k1 (okG_K0 h0) m) i
          refine Z_iload_n (i := 1) hX d_Mo_check_62 rfl rfl ?_
          refine Z_bipush (v := 16) hX d_Mo_check_63 rfl ?_
          refine Z_icge (tgt := 95) hX d_Mo_check_65 rfl (fun h => absurd h (nI_ge hi2 (by decide))) (fun h65 => ?_)
          refine Z_aload_n (i := 0) hX d_Mo_check_68 rfl rfl ?_
          refine Z_iload_n (i := 1) hX d_Mo_check_69 rfl rfl ?_
          refine Z_cVi1 hX d_Mo_check_70 (c_Mo_whole (by omega)) m_Mo_whole rfl rfl lk_Mo_93 ⟨by decide, by decide⟩ ⟨by decide, by decide⟩ (Nat.le_of_ble_eq_true rfl) ?_
          refine Z_ifeqB (tgt := 89) hX d_Mo_check_73 rfl (fun h73 => ?_) (fun h73 => ?_)
          · refine Z_iinc (v := nI (i + 1)) hX d_Mo_check_89 rfl (by rw [nI_succ]; rfl) (by decide) rfl ?_
            refine Z_goto (tgt := 62) hX d_Mo_check_92 rfl ?_
            refine Z_loc ?_ (Z_mem ?_ ?_ (ih (i + 1) (by omega)))
            · rfl
            · rw [m_k2_n h73]
            · rw [m_k2_n h73]
          · refine Z_aload_n (i := 0) hX d_Mo_check_76 rfl rfl ?_
            refine Z_iload_n (i := 1) hX d_Mo_check_77 rfl rfl ?_
            refine Z_cVv1 hX d_Mo_check_78 (c_Mo_breakDown (by omega)) m_Mo_breakDown rfl rfl lk_Mo_158 ⟨by decide, by decide⟩ ⟨by decide, by decide⟩ (Nat.le_of_ble_eq_true rfl) ?_
            refine Z_aload_n (i := 0) hX d_Mo_check_81 rfl rfl ?_
            refine Z_bipush (v := 100) hX d_Mo_check_82 rfl ?_
            refine Z_iload_n (i := 1) hX d_Mo_check_84 rfl rfl ?_
            refine Z_iadd hX d_Mo_check_85 ?_
            refine Z_cVv1 hX d_Mo_check_86 (c_Mo_goOn (m := m) (okG_of (fun c hc => fr_bd hc.2.1) (congrFun (fr_bd (by decide)) _) (okMN_of (congrFun (fr_bd (by decide)) _) hGj.2.2.2.1) hGj) hrn) m_Mo_goOn rfl rfl lk_Mo_167 ⟨by decide, by decide⟩ ⟨by decide, by decide⟩ (Nat.le_of_ble_eq_true rfl) ?_
            refine Z_iinc (v := nI (i + 1)) hX d_Mo_check_89 rfl (by rw [nI_succ]; rfl) (by decide) rfl ?_
            refine Z_goto (tgt := 62) hX d_Mo_check_92 rfl ?_
            refine Z_loc ?_ (Z_mem ?_ ?_ (ih (i + 1) (by omega)))
            · rfl
            · rw [m_k2_y h73]
            · rw [m_k2_y h73]
      refine Z_loc ?_ (Z_mem ?_ ?_ (hL62 16 0 (by omega)))
      · rfl
      · rw [m_k2_0, m_KA_1]
      · rw [m_k2_0, m_KA_1]
    | succ k ih =>
      intro i hi
      have hi2 : i < m := by omega
      have hGi := okG_k1 (J := m_K0J J) (okG_K0 h0) i
      refine Z_iload_n (i := 1) hX d_Mo_check_17 rfl rfl ?_
      refine Z_aload_n (i := 0) hX d_Mo_check_18 rfl rfl ?_
      refine Z_getI (k0 := 14) hX d_Mo_check_19 rfl rfl u_Mo (by decide) lk_Mo_55 rfl ?_
      refine Z_top hGi.2.2.1.1 ?_
      refine Z_icge (tgt := 60) hX d_Mo_check_22 rfl (fun h => absurd h (nI_ge hi2 (by omega))) (fun h22 => ?_)
      refine Z_aload_n (i := 0) hX d_Mo_check_25 rfl rfl ?_
      refine Z_getR (k0 := 17) hX d_Mo_check_26 rfl rfl u_Mo (by decide) lk_Mo_64 rfl ?_
      refine Z_sipush (v := nI 688) hX d_Mo_check_29 rfl ?_
      refine Z_iload_n (i := 1) hX d_Mo_check_32 rfl rfl ?_
      refine Z_iaddN hX d_Mo_check_33 ?_
      refine Z_iald hX d_Mo_check_34 rfl rfl (by omega) (by decide) ?_
      refine Z_ifne (tgt := 54) hX d_Mo_check_35 rfl (fun h35 => ?_) (fun h35 => ?_)
      · refine Z_iinc (v := nI (i + 1)) hX d_Mo_check_54 rfl (by rw [nI_succ]; rfl) (by decide) rfl ?_
        refine Z_goto (tgt := 17) hX d_Mo_check_57 rfl ?_
        refine Z_loc ?_ (Z_mem ?_ ?_ (ih (i + 1) (by omega)))
        · rfl
        · rw [m_k1_n h35]
        · rw [m_k1_n h35]
      · refine Z_aload_n (i := 0) hX d_Mo_check_38 rfl rfl ?_
        refine Z_getR (k0 := 17) hX d_Mo_check_39 rfl rfl u_Mo (by decide) lk_Mo_64 rfl ?_
        refine Z_sipush (v := nI 688) hX d_Mo_check_42 rfl ?_
        refine Z_iload_n (i := 1) hX d_Mo_check_45 rfl rfl ?_
        refine Z_iaddN hX d_Mo_check_46 ?_
        refine Z_iconst (v := 1) hX d_Mo_check_47 rfl ?_
        refine Z_iast hX d_Mo_check_48 rfl rfl (by omega) (by decide) ?_
        refine Z_aload_n (i := 0) hX d_Mo_check_49 rfl rfl ?_
        refine Z_iload_n (i := 1) hX d_Mo_check_50 rfl rfl ?_
        refine Z_cVv1 hX d_Mo_check_51 (c_Mo_goOn (m := m) (okG_of (fun c hc => zup_ne hc.2.1) (congrFun (zup_ne (by decide)) _) (okMN_of (congrFun (zup_ne (by decide)) _) hGi.2.2.2.1) hGi) hrn) m_Mo_goOn rfl rfl lk_Mo_167 ⟨by decide, by decide⟩ ⟨by decide, by decide⟩ (Nat.le_of_ble_eq_true rfl) ?_
        refine Z_iinc (v := nI (i + 1)) hX d_Mo_check_54 rfl (by rw [nI_succ]; rfl) (by decide) rfl ?_
        refine Z_goto (tgt := 17) hX d_Mo_check_57 rfl ?_
        refine Z_loc ?_ (Z_mem ?_ ?_ (ih (i + 1) (by omega)))
        · rfl
        · rw [m_k1_y h35]
        · rw [m_k1_y h35]
  refine Z_loc ?_ (Z_mem ?_ ?_ (hL17 m 0 (by omega)))
  · rfl
  · rw [m_k1_0, m_K0_1]
  · rw [m_k1_0, m_K0J_1]
