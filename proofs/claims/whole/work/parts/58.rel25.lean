section R25
variable {A B X Y : zI} {JA JB JX JY : zJ} {m r rn : Nat}
theorem KI_link {j : Nat} (h : KI X JX Y JY m r) (hr : r + rn < 2 ^ 20) (hj : j < m) : KI (c_try m rn (nI j) (f_sl (f_cp X 16 35) 35 (nI j) 1) (f_cpJ JX 16 35)).1 (c_try m rn (nI j) (f_sl (f_cp X 16 35) 35 (nI j) 1) (f_cpJ JX 16 35)).2 (m_gn m rn (nI j) (zup Y 79 (688 + j) 1)) (m_gnJ rn (zup Y 79 (688 + j) 1) JY) m r := by
  have h24 := h.R.L.m24
  have hF := RF_fail (b := 35) (k := j) (o := true) (by decide) (RF_cp h.R.F) (by omega)
  rw [zB_t] at hF
  have t : ∀ c, c < 35 ∨ 54 ≤ c → f_sl (f_cp X 16 35) 35 (nI j) 1 c = X c := fun c hc => by rw [fr_sl (by omega), fr_cp (by omega)]
  have v : ∀ c, c ≠ 79 → zup Y 79 (688 + j) 1 c = Y c := fun c hc => zup_ne hc
  refine KI_try h hr ?_ ?_ hF t (fun c hc => zupL_ne hc) v (fun k hk => zz_k (by omega))
  · exact RP_of h.R.P (fun c h1 h2 => t c (by omega)) (fun c h1 h2 => v c (by omega)) (by rw [v 64 (by decide)]) (by rw [v 64 (by decide)])
  · exact RL_of h.R.L (fun c h1 h2 => t c (by omega)) (v 77 (by decide)) (v 78 (by decide))
theorem KI_elem {j : Nat} (h : KI X JX Y JY m r) (hr : r + rn < 2 ^ 20) (hj : j < 16) (hw : f_wh X 16 j = true) : KI (c_try m rn (100 + nI j) (f_se (f_cp X 16 35) 35 j 1) (f_cpJ JX 16 35)).1 (c_try m rn (100 + nI j) (f_se (f_cp X 16 35) 35 j 1) (f_cpJ JX 16 35)).2 (m_gn m rn (100 + nI j) (m_bd Y j)) (m_gnJ rn (m_bd Y j) JY) m r := by
  have h2 : ¬ X 2 j = 0 ∧ f_bit (X 16 11) (nI j) = 0 := by
    unfold f_wh at hw
    simp only [Bool.and_eq_true, decide_eq_true_eq] at hw
    exact hw
  have hf : ¬ Y 79 (672 + j) = 1 := by
    rw [← h.R.F.fe j hj, h2.2]; decide
  have hF := RF_fe (b := 35) (e := j) (o := true) (by decide) (RF_cp h.R.F) hj (by rw [fr_cp (by decide)]; exact h2.1)
  have e1 : m_fe Y j true = m_bd Y j := by unfold m_fe; rw [if_pos rfl, if_neg (by simp [hf])]
  rw [zB_t, e1] at hF
  have t : ∀ c, c < 35 ∨ 54 ≤ c → f_se (f_cp X 16 35) 35 j 1 c = X c := fun c hc => by rw [fr_se (by omega), fr_cp (by omega)]
  have v : ∀ c, c ≠ 79 → m_bd Y j c = Y c := fun c hc => fr_bd hc
  refine KI_try h hr ?_ ?_ hF t (fun c hc => zupL_ne hc) v (fun k hk => bd_n hj (by omega) (by omega))
  · exact RP_of h.R.P (fun c h1 h2 => t c (by omega)) (fun c h1 h2 => v c (by omega)) (by rw [v 64 (by decide)]) (by rw [v 64 (by decide)])
  · exact RL_of h.R.L (fun c h1 h2 => t c (by omega)) (v 77 (by decide)) (v 78 (by decide))
theorem KI_l (h : KI X JX Y JY m r) (hr : r + rn < 2 ^ 20) (j : Nat) : j ≤ m → KI (c_l m rn X JX j).1 (c_l m rn X JX j).2 (m_k1 m rn Y JY j).1 (m_k1 m rn Y JY j).2 m r := by
  induction j with
  | zero => intro _; exact h
  | succ j ih =>
    intro hj
    have i := ih (by omega)
    have h24 := h.R.L.m24
    have hfl := i.R.F.fl j (by omega)
    have tr := KI_link (j := j) (rn := rn) i hr (by omega)
    by_cases h100 : 100 ≤ (c_l m rn X JX j).1 0 7
    · have e1 : c_l m rn X JX (j + 1) = c_l m rn X JX j := c_l_stop h100 1
      rw [e1]
      by_cases hy : (m_k1 m rn Y JY j).1 79 (688 + j) = 0
      · rw [m_k1_y hy]
        exact KI_full i h100 (fun c hc => by rw [fr_sl (by omega), fr_cp (by omega)]) (fun c hc => zupL_ne hc) tr
      · rw [m_k1_n hy]; exact i
    · by_cases hy : (m_k1 m rn Y JY j).1 79 (688 + j) = 0
      · have hlw : f_lw (c_l m rn X JX j).1 16 (nI j) = true := by unfold f_lw; rw [hfl]; exact decide_eq_true hy
        rw [m_k1_y hy, ← c_l_y1 h100 hlw, ← c_l_y2 h100 hlw, ← c_try_1, ← c_try_2]
        exact tr
      · have hlw : f_lw (c_l m rn X JX j).1 16 (nI j) = false := by unfold f_lw; rw [hfl]; exact decide_eq_false hy
        rw [m_k1_n hy, c_l_n h100 hlw]
        exact i
theorem KI_e (h : KI X JX Y JY m r) (hr : r + rn < 2 ^ 20) (j : Nat) : j ≤ 16 → KI (c_e m rn X JX j).1 (c_e m rn X JX j).2 (m_k2 m rn Y JY j).1 (m_k2 m rn Y JY j).2 m r := by
  induction j with
  | zero => intro _; exact h
  | succ j ih =>
    intro hj
    have i := ih (by omega)
    have hwh := RF_wh i.R.P i.R.F (e := j) (by omega)
    cases hw : f_wh (c_e m rn X JX j).1 16 j with
    | true =>
      have tr := KI_elem (j := j) (rn := rn) i hr (by omega) hw
      rw [m_k2_y (by rw [hwh]; exact hw)]
      by_cases h100 : 100 ≤ (c_e m rn X JX j).1 0 7
      · have e1 : c_e m rn X JX (j + 1) = c_e m rn X JX j := c_e_stop h100 1
        rw [e1]
        exact KI_full i h100 (fun c hc => by rw [fr_se (by omega), fr_cp (by omega)]) (fun c hc => zupL_ne hc) tr
      · rw [← c_e_y1 h100 hw, ← c_e_y2 h100 hw, ← c_try_1, ← c_try_2]
        exact tr
    | false =>
      rw [m_k2_n (by rw [hwh]; exact hw)]
      by_cases h100 : 100 ≤ (c_e m rn X JX j).1 0 7
      · have e1 : c_e m rn X JX (j + 1) = c_e m rn X JX j := c_e_stop h100 1
        rw [e1]; exact i
      · rw [c_e_n h100 hw]; exact i
/-- the check -/
theorem S_check (h : RA A JA B JB m r) (hr : r + rn < 2 ^ 20) : KI (c_ck m rn A JA).1 (c_ck m rn A JA).2 (m_ck m rn B JB).1 (m_ck m rn B JB).2 m r := by
  have k0 : KI (zup A 0 7 0) JA (m_K0 B) (m_K0J JB) m r := by
    have z : ∀ c, c ≠ 79 → c ≠ 80 → m_K0 B c = zup (zup B 64 0 0) 64 22 0 c := fun c h1 h2 => by unfold m_K0; exact fr_kt h1 h2 762
    have z79 : m_K0 B 79 = B 79 := by unfold m_K0; rw [kI_f79, zup_ne (by decide), zup_ne (by decide)]
    refine ⟨RA_A (RA_B h (fun c h1 h2 => ?_) ?_ ?_ ?_) (fun c h1 h2 => zup_ne (by omega)) rfl rfl, ⟨0, by omega, ?_, ?_, fun i hi => absurd hi (by omega)⟩, fun k hk => ?_, fun e he => ?_⟩
    · by_cases hc : c = 79
      · rw [hc]; exact z79
      · rw [z c hc (by omega), zup_ne (by omega), zup_ne (by omega)]
    · rw [z 64 (by decide) (by decide), zz_k (by decide), zz_k (by decide)]
    · rw [z 64 (by decide) (by decide), zz_k (by decide), zz_k (by decide)]
    · unfold m_K0J; rw [kJ_f81]
    · rw [zz_e]; rfl
    · rw [z 64 (by decide) (by decide), zz_e]; rfl
    · rw [z79]
      unfold m_K0
      rw [kI_f, if_pos hk, zz_c (by decide), zz_c (by decide)]
    · unfold m_K0J; rw [kJ_f, if_pos he, kJ_f81]
  have k1 := KI_l k0 hr m (Nat.le_refl _)
  have k2 := KI_e k1 hr 16 (Nat.le_refl _)
  unfold c_ck m_ck c_A m_KA
  exact k2
/-- the longest restore time -/
theorem lo_eq (hP : RP A B) (hL : RL A B m) : ∀ n, n ≤ 16 → p_lo A n = m_lo16 B n ∧ ∃ k, k ≤ 10 ∧ p_lo A n = nI k
  | 0, _ => ⟨rfl, 0, by omega, rfl⟩
  | n + 1, hn => by
    obtain ⟨i1, k, hk, i2⟩ := lo_eq hP hL n (by omega)
    obtain ⟨q, hq, hq2⟩ := hL.q6 n (by omega)
    unfold p_lo m_lo16
    rw [← i1, ← hP.p2, ← hP.p6, i2, hq2]
    by_cases h2 : A 2 n = 0
    · have h6 := hL.q6z n (by omega) h2
      have hq0 : q = 0 := by
        rw [hq2, show (0 : Int32) = nI 0 from rfl, nI_eq (by omega) (by omega)] at h6
        exact h6
      subst hq0
      rw [if_pos h2, if_neg (by rw [nI_ltI (by omega) (by omega)]; omega)]
      exact ⟨rfl, k, hk, rfl⟩
    · rw [if_neg h2]
      by_cases hkq : k < q
      · rw [if_pos (by rw [nI_ltI (by omega) (by omega)]; exact hkq), if_neg (by rw [nI_leI (by omega) (by omega)]; omega)]
        exact ⟨rfl, q, hq, rfl⟩
      · rw [if_neg (by rw [nI_ltI (by omega) (by omega)]; exact hkq), if_pos (by rw [nI_leI (by omega) (by omega)]; omega)]
        exact ⟨rfl, k, hk, rfl⟩
theorem lo_rn (hP : RP A B) (hL : RL A B m) : ∃ rn, rn < 1000 ∧ 4 * (24 + p_lo A 16) = nI rn ∧ 4 * (24 + m_lo16 B 16) = nI rn := by
  obtain ⟨i1, k, hk, i2⟩ := lo_eq hP hL 16 (Nat.le_refl _)
  refine ⟨4 * (24 + k), by omega, ?_, ?_⟩
  · rw [i2, show (24 : Int32) = nI 24 from rfl, nI_add, show (4 : Int32) = nI 4 from rfl, pk_mul]
  · rw [← i1, i2, show (24 : Int32) = nI 24 from rfl, nI_add, show (4 : Int32) = nI 4 from rfl, pk_mul]
end R25
