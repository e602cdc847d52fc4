/-! A round of both, the first half: words and what is usable. -/
section R8
variable {A B P M : zI} {JA : zJ} {b m r : Nat}
theorem E1_v {I : zI} {s : Nat} (h : E1 64 M I) (hs : s < 64) (hw : m_wh I (s / 4) = true) : M 79 s = g_w 0 I s ∧ M 79 (64 + s) = g_w 1 I s ∧ M 79 (128 + s) = g_w 2 I s ∧ M 79 (192 + s) = g_w 3 I s := by
  have h0 := h.2.1 s 0 hs hs (by decide) hw
  have h1 := h.2.1 s 1 hs hs (by decide) hw
  have h2 := h.2.1 s 2 hs hs (by decide) hw
  have h3 := h.2.1 s 3 hs hs (by decide) hw
  rw [show 64 * 0 + s = s by omega] at h0
  exact ⟨h0, h1, h2, h3⟩
theorem B1_wh {e : Nat} {v : Int32} (he : e < 16) : m_wh (zup B 79 760 v) e = m_wh B e := by
  unfold m_wh
  rw [B1_c (by decide), B1_n (by omega)]
theorem R_w {s : Nat} (hr : r + 1 < 2 ^ 20) (hP : RP A B) (hL : RL A B m) (hF : RF b A JA B r) (hD : D1 64 P A JA b) (hE : E1 64 M (zup B 79 760 (nI (r + 1)))) (hs : s < 64) (hw : f_wh A b (s / 4) = true) : RW b P M (r + 1) s := by
  have hwB : m_wh (zup B 79 760 (nI (r + 1))) (s / 4) = true := by rw [B1_wh (by omega), RF_wh hP hF (by omega)]; exact hw
  obtain ⟨m0, m1, m2, m3⟩ := E1_v hE hs hwB
  obtain ⟨hg, ha, -⟩ := hD.2.2.1 s hs hs hw
  have hg1 := (hg 1 (Or.inl rfl)).1
  have hg2 := (hg 2 (Or.inr (Or.inl rfl))).1
  have hg3 := (hg 3 (Or.inr (Or.inr rfl))).1
  have hco := R_co (v := nI (r + 1)) hP hL hF hs
  unfold RW
  rw [m0, m1, m2, m3, ha, show b + 2 = b + 1 + 1 by omega, show b + 3 = b + 1 + 2 by omega, show b + 4 = b + 1 + 3 by omega, hg1, hg2, hg3]
  unfold g_w a_g a_ag
  rw [hco]
  cases hc : a_co A JA b s with
  | true =>
    have h9 : ¬ A 9 s = -1 := by unfold a_co at hc; simp at hc; exact hc.1
    obtain ⟨l, q, hl, hq, hqs, e9, e74, h9q, h10, h10q, epe, elk, eax, hends⟩ := RL_at hP hL hs h9
    have ego : g_o (zup B 79 760 (nI (r + 1))) s = q := by
      unfold g_o m_ax m_lk
      unfold m_lk at elk
      unfold m_ax at eax
      rw [B1_c (by decide), B1_c (by decide), B1_c (by decide), elk, eax, nI_clamp (by omega)]
    obtain ⟨s1, s2⟩ := hF.se q hq
    have hne : ¬ A (b + 6) q = -1 := by
      unfold a_co f_co at hc
      rw [epe] at hc
      simp at hc
      exact hc.2.1.2
    obtain ⟨p1, p2, p3⟩ := s2.resolve_left hne
    simp only [reduceIte, h9, show ¬ (0 = 3) by decide, show ¬ (1 = 3) by decide, show ¬ (2 = 3) by decide, ego, epe]
    rw [show 256 + 64 * 0 + q = 256 + q by omega, show 256 + 64 * 1 + q = 320 + q by omega, show 256 + 64 * 2 + q = 384 + q by omega]
    rw [zz_e (k := 760), B1_n (k := 256 + q) (by omega), B1_n (k := 320 + q) (by omega), B1_n (k := 384 + q) (by omega), ← s1, ← p2, ← p3]
    right
    refine ⟨r + 1, Nat.le_refl _, ?_, rfl, Or.inr ⟨by omega, ?_, rfl, rfl, rfl⟩⟩
    · rw [Int32.not_lt]; exact p1
    · rw [Nat.sub_self]; rfl
  | false =>
    simp only [Bool.false_eq_true, if_false]
    rw [show 64 * 0 + s = s by omega, B1_n (k := s) (by omega), B1_n (k := 64 * 1 + s) (by omega), B1_n (k := 64 * 2 + s) (by omega), B1_n (k := 64 * 3 + s) (by omega)]
    by_cases h9 : A 9 s = -1
    · obtain ⟨u1, u2, -⟩ := hF.un s hs h9
      left
      rw [if_pos h9]
      exact ⟨u2, u1⟩
    · rw [if_neg h9]
      rcases hF.ag s hs hw with ⟨a1, a2⟩ | ⟨w, w1, w2, w3, w4⟩
      · left
        rw [a1]
        exact ⟨by decide, a2⟩
      · right
        refine ⟨w, by omega, w2, w3, ?_⟩
        rcases w4 with ⟨w5, w6⟩ | ⟨w5, w6, w7, w8, w9⟩
        · left
          rw [w6]
          exact ⟨by omega, by decide⟩
        · rw [w6, nI_1]
          by_cases h3 : r + 1 < w + 3
          · right
            refine ⟨h3, ?_, w7, w8, w9⟩
            rw [if_neg]
            · rw [show r - w + 1 = r + 1 - w by omega]
            · rw [show (3 : Int32) = nI 3 from rfl, nI_ltI (by omega) (by omega)]; omega
          · left
            refine ⟨by omega, ?_⟩
            rw [show r - w + 1 = 3 by omega]
            decide
end R8
