/-! Offsets, phases and the calm in a round. -/
def RC (A : zI) (JA : zJ) (B : zI) (JB : zJ) : Prop := (∀ e, e < 16 → A 55 e = B 79 (560 + e)) ∧ (∀ e, e < 16 → A 55 e = B 79 (576 + e)) ∧ (∀ e, e < 16 → A 56 e = B 79 (592 + e)) ∧ (∀ e, e < 16 → JA 58 e = JB 81 e) ∧ (∀ e, e < 16 → A 60 e = B 79 (640 + e)) ∧ (∀ e, e < 16 → A 61 e = B 79 (656 + e)) ∧ (A 59 2 = B 79 761)
theorem RC.no {A : zI} {JA : zJ} {B : zI} {JB : zJ} (h : RC A JA B JB) : ∀ e, e < 16 → A 55 e = B 79 (560 + e) := h.1
theorem RC.la {A : zI} {JA : zJ} {B : zI} {JB : zJ} (h : RC A JA B JB) : ∀ e, e < 16 → A 55 e = B 79 (576 + e) := h.2.1
theorem RC.be {A : zI} {JA : zJ} {B : zI} {JB : zJ} (h : RC A JA B JB) : ∀ e, e < 16 → A 56 e = B 79 (592 + e) := h.2.2.1
theorem RC.ph {A : zI} {JA : zJ} {B : zI} {JB : zJ} (h : RC A JA B JB) : ∀ e, e < 16 → JA 58 e = JB 81 e := h.2.2.2.1
theorem RC.ca {A : zI} {JA : zJ} {B : zI} {JB : zJ} (h : RC A JA B JB) : ∀ e, e < 16 → A 60 e = B 79 (640 + e) := h.2.2.2.2.1
theorem RC.cp {A : zI} {JA : zJ} {B : zI} {JB : zJ} (h : RC A JA B JB) : ∀ e, e < 16 → A 61 e = B 79 (656 + e) := h.2.2.2.2.2.1
theorem RC.st {A : zI} {JA : zJ} {B : zI} {JB : zJ} (h : RC A JA B JB) : A 59 2 = B 79 761 := h.2.2.2.2.2.2
section R12
variable {A B : zI} {JA JB : zJ} {b m r : Nat}
theorem kn_v {I : zI} {e : Nat} : ∀ n, k_n I n 57 e = if e < n then (if f_wh I 16 e = true then k_off I e else I 55 e) else I 57 e
  | 0 => by rw [if_neg (by omega)]; rfl
  | n + 1 => by
    have ih := kn_v (I := I) (e := e) n
    have c : ∀ c, c ≠ 57 → k_n I n c = I c := fun c h => fr_kn h n
    unfold k_n
    by_cases hx : e = n
    · subst hx
      rw [zz_e, if_pos (show e < e + 1 by omega)]
      have w : f_wh (k_n I e) 16 e = f_wh I 16 e := by unfold f_wh; rw [c 2 (by decide), c 16 (by decide)]
      have k : k_off (k_n I e) e = k_off I e := by
        unfold k_off f_lo pe
        rw [c 31 (by decide), c 9 (by decide), c 32 (by decide), c 12 (by decide), c 56 (by decide), c 10 (by decide), c 55 (by decide), c 5 (by decide), c 4 (by decide)]
      rw [w, k, c 55 (by decide)]
    · rw [zz_k hx, ih, ls_eq hx]
theorem ks_v {I : zI} {e : Nat} : ∀ n, k_s I n 55 e = (if e < n then I 57 e else I 55 e) ∧ k_s I n 56 e = (if e < n then I 55 e else I 56 e)
  | 0 => by rw [if_neg (by omega), if_neg (by omega)]; exact ⟨rfl, rfl⟩
  | n + 1 => by
    obtain ⟨i1, i2⟩ := ks_v (I := I) (e := e) n
    have c57 : k_s I n 57 = I 57 := fr_ks (by decide) (by decide) n
    unfold k_s k_s1
    by_cases hx : e = n
    · subst hx
      rw [if_neg (by omega)] at i1 i2
      rw [if_pos (by omega), if_pos (by omega)]
      refine ⟨?_, ?_⟩
      · rw [zz_e, zz_c (by decide), c57]
      · rw [zz_c (by decide), zz_e, i1]
    · rw [ls_eq hx, ls_eq hx]
      refine ⟨?_, ?_⟩
      · rw [zz_k hx, zz_c (by decide), i1]
      · rw [zz_c (by decide), zz_k hx, i2]
theorem ksJ_v {I : zI} {J : zJ} {e : Nat} : ∀ n, k_sJ I J n 58 e = if e < n then (if f_wh I 16 e = true then J 58 e + (I 57 e).toInt64 else J 58 e) else J 58 e
  | 0 => by rw [if_neg (by omega)]; rfl
  | n + 1 => by
    have ih := ksJ_v (I := I) (J := J) (e := e) n
    have w : f_wh (k_s I (n + 1)) 16 n = f_wh I 16 n := by unfold f_wh; rw [fr_ks (by decide) (by decide), fr_ks (by decide) (by decide)]
    have v : k_s I (n + 1) 55 n = I 57 n := by rw [(ks_v (n + 1)).1, if_pos (by omega)]
    unfold k_sJ
    rw [w, v]
    by_cases hx : e = n
    · subst hx
      rw [if_neg (by omega)] at ih
      rw [if_pos (show e < e + 1 by omega)]
      split
      · rw [zupL_same, pk_uLs, ih]
      · exact ih
    · rw [ls_eq hx, ← ih]
      split
      · rw [zupL_same, pk_uLn hx]
      · rfl
theorem ksJ_n {I : zI} {J : zJ} {c : Nat} (h : c ≠ 58) : ∀ n, k_sJ I J n c = J c
  | 0 => rfl
  | n + 1 => by
    unfold k_sJ
    split
    · rw [zupL_ne h, ksJ_n h n]
    · exact ksJ_n h n
theorem kro_v {I : zI} {e : Nat} (he : e < 16) : k_ro I 55 e = (if f_wh I 16 e = true then k_off I e else I 55 e) ∧ k_ro I 56 e = I 55 e := by
  unfold k_ro
  obtain ⟨h1, h2⟩ := ks_v (I := k_n I 16) (e := e) 16
  rw [h1, h2, if_pos he, if_pos he, kn_v, if_pos he, fr_kn (by decide)]
  exact ⟨rfl, rfl⟩
theorem kroJ_v {I : zI} {J : zJ} {e : Nat} (he : e < 16) : k_roJ I J 58 e = if f_wh I 16 e = true then J 58 e + (k_ro I 55 e).toInt64 else J 58 e := by
  unfold k_roJ
  have w : f_wh (k_n I 16) 16 e = f_wh I 16 e := by unfold f_wh; rw [fr_kn (by decide), fr_kn (by decide)]
  rw [ksJ_v, if_pos he, w, kn_v, if_pos he, (kro_v he).1]
theorem lm_v {I : zI} {e : Nat} : ∀ n, l_m I n 60 e = (if e < n then f_sc I 16 e else I 60 e) ∧ l_m I n 61 e = (if e < n then I 32 e else I 61 e)
  | 0 => by rw [if_neg (by omega), if_neg (by omega)]; exact ⟨rfl, rfl⟩
  | n + 1 => by
    obtain ⟨i1, i2⟩ := lm_v (I := I) (e := e) n
    have c : ∀ c, c ≠ 60 → c ≠ 61 → l_m I n c = I c := fun c h1 h2 => fr_lm h1 h2 n
    have sc : f_sc (l_m I n) 16 n = f_sc I 16 n := by unfold f_sc; rw [c 16 (by decide) (by decide), c 31 (by decide) (by decide)]
    unfold l_m l_1
    rw [sc]
    by_cases hx : e = n
    · subst hx
      rw [if_pos (by omega), if_pos (by omega)]
      refine ⟨?_, ?_⟩
      · rw [zz_c (by decide), zz_e]
      · rw [zz_e, zz_c (by decide), c 32 (by decide) (by decide)]
    · rw [ls_eq hx, ls_eq hx]
      refine ⟨?_, ?_⟩
      · rw [zz_c (by decide), zz_k hx, i1]
      · rw [zz_k hx, zz_c (by decide), i2]
theorem ls_v {I : zI} : ∀ n, (l_s I n = true ↔ ∀ e, e < n → I 60 e = f_sc I 16 e ∧ I 61 e = I 32 e)
  | 0 => ⟨fun _ e h => absurd h (by omega), fun _ => rfl⟩
  | n + 1 => by
    have ih := ls_v (I := I) n
    obtain ⟨i1, i2⟩ := lm_v (I := I) (e := n) n
    rw [if_neg (by omega)] at i1 i2
    have c : ∀ c, c ≠ 60 → c ≠ 61 → l_m I n c = I c := fun c h1 h2 => fr_lm h1 h2 n
    have sc : f_sc (l_m I n) 16 n = f_sc I 16 n := by unfold f_sc; rw [c 16 (by decide) (by decide), c 31 (by decide) (by decide)]
    unfold l_s
    rw [sc, i1, i2, c 32 (by decide) (by decide)]
    simp only [Bool.and_eq_true, decide_eq_true_eq, ih]
    constructor
    · rintro ⟨⟨h, h2⟩, h3⟩ e he
      by_cases hx : e = n
      · rw [hx]; exact ⟨h2, h3⟩
      · exact h e (by omega)
    · intro h
      exact ⟨⟨fun e he => h e (by omega), (h n (by omega)).1⟩, (h n (by omega)).2⟩
/-- what is shown of an element is the same -/
theorem RF_sc {e : Nat} (hF : RF b A JA B r) (he : e < 16) : f_sc A b e = m_so B e ∧ A (b + 16) e = m_po B e := by
  unfold f_sc m_so m_po
  rw [hF.fe e he]
  cases hw : f_wh A b e with
  | true =>
    have h0 : B 79 (672 + e) = 0 := by
      unfold f_wh at hw
      rw [hF.fe e he] at hw
      simp at hw
      exact hw.2
    obtain ⟨k1, k2, -⟩ := hF.wh e he hw
    rw [h0, if_neg (by decide), if_neg (by decide), if_neg (by decide)]
    exact ⟨k1, k2⟩
  | false =>
    obtain ⟨k1, k2, -⟩ := hF.nw e he hw
    by_cases h2 : A 2 e = 0
    · obtain ⟨a1, a2, a3, a4, -⟩ := hF.ab e he h2
      rw [a4, if_neg (by decide), if_neg (by decide), if_neg (by decide), k1, k2, a1, a2]
      exact ⟨rfl, rfl⟩
    · have h1 : B 79 (672 + e) = 1 := by
        have h9 := hF.fe e he
        rcases b_01 (A b 11) (e := e) (by omega) with q | q
        · unfold f_wh at hw
          rw [q] at hw
          simp [h2] at hw
        · rw [← h9, q]
      rw [h1, if_pos rfl, if_pos rfl, if_pos rfl, k2]
      exact ⟨rfl, rfl⟩
theorem R_M560 {k : Nat} (hF : RF b A JA B r) (h : 256 ≤ k) (h2 : k ≠ 760) : r_M B 79 k = B 79 k := R_Mn hF h h2
/-- the offset of a whole element -/
theorem R_off {e : Nat} (hr : r + 1 < 2 ^ 20) (hP : RP A B) (hL : RL A B m) (hF : RF 16 A JA B r) (hC : RC A JA B JB) (he : e < 16) (hw : f_wh A 16 e = true) : k_off (f_ro A JA 16) e = r_of (r_M B) e := by
  have hb : (16 : Nat) ≤ 16 := Nat.le_refl _
  have h2 := R_2 hb hr hP hL hF he hw
  obtain ⟨x1, x2, x3, x4, x5, x6⟩ := (R_D2 (A := A) (JA := JA) hb).2.2.1 e he he (by rw [R_Pw hb]; exact hw)
  obtain ⟨k1, k2, k3, k4, k5, k6⟩ := R2_el he h2 (R_ev hb hF he hw)
  have c : ∀ c, c < 16 ∨ 35 ≤ c → f_ro A JA 16 c = A c := fun c h => fr_ro (by omega)
  have e31 : f_ro A JA 16 31 e = r_st (r_M B) e := x2.trans k1
  have m68 : r_M B 68 = A 5 := by rw [R_Mc (by decide) (by decide), hP.p5]
  have m67 : r_M B 67 = A 4 := by rw [R_Mc (by decide) (by decide), hP.p4]
  unfold r_of
  cases hl : r_lk (r_M B) e with
  | false =>
    have hst : ¬ r_st (r_M B) e = 1 := by
      unfold r_st
      rw [hl]
      simp only [Bool.false_eq_true, if_false]
      split <;> decide
    have hlo : f_lo (f_ro A JA 16) 16 e = false := by
      unfold f_lo
      rw [e31]
      exact decide_eq_false hst
    simp only [Bool.false_eq_true, if_false]
    rw [m68, m67, R_Mn hF (by omega) (by omega), ← hC.no e he]
    by_cases hq : r_st (r_M B) e = 2
    · rw [k_off_h hlo (e31.trans hq), if_pos hq, c 55 (by omega), c 5 (by omega)]
    · rw [k_off_f hlo (by rw [e31]; exact hq), if_neg hq, c 4 (by omega)]
  | true =>
    obtain ⟨k, hk4, hk1, hk2, hk3, hk5, hk6⟩ := R2_l he h2 hl
    have hlo : f_lo (f_ro A JA 16) 16 e = true := by
      unfold f_lo
      rw [e31]
      unfold r_st
      rw [hl]
      rfl
    have e32 : f_ro A JA 16 32 e = nI k := x1.trans hk2
    have m72 : r_M B 72 = A 11 := by rw [R_Mc (by decide) (by decide), hP.p11]
    have m74 : r_M B 74 = A 9 := by rw [R_Mc (by decide) (by decide), hP.p9]
    have m73 : r_M B 73 = A 12 := by rw [R_Mc (by decide) (by decide), hP.p12]
    rw [if_pos rfl, hk5, m72, m73]
    by_cases hs : A 11 (4 * e + k) < 0
    · obtain ⟨k9, hk9, hu, -⟩ := cs_t hl
      have : k9 = k := by rw [hk1] at hk9; cases hk9; rfl
      subst this
      have hlink := m_lk_link he hk4 hu (by rw [m72]; exact hs)
      rw [m74] at hlink
      have h9 : ¬ A 9 (4 * e + k9) = -1 := fun q => hlink ((R9_lt hL (by omega)).mpr q)
      obtain ⟨l, q, hl', hq, hqs, e9, e74, h9q, h10, h10q, epe, elk, eax, hends⟩ := RL_at hP hL (by omega) h9
      have elk2 : m_lk (r_M B) (4 * e + k9) = l := by unfold m_lk at elk ⊢; rw [R_Mc (by decide) (by decide)]; exact elk
      have eax2 : m_ax (r_M B) l (4 * e + k9) = nI q := by unfold m_ax at eax ⊢; rw [R_Mc (by decide) (by decide), R_Mc (by decide) (by decide)]; exact eax
      have epe2 : pe (f_ro A JA 16) (4 * e + k9) = q := by unfold pe at epe ⊢; rw [c 10 (by omega)]; exact epe
      rw [k_off_x hlo hk4 e32 (by rw [c 9 (by omega)]; exact h9), epe2, c 56 (by omega), if_pos hs, elk2, eax2, nI_clamp (by omega), R_Mn hF (by omega) (by omega), hC.be (q / 4) (by omega)]
    · have h11 : ¬ A 11 (4 * e + k) = -1 := fun q => hs ((R11_lt hL (by omega)).mpr q)
      have h9 : A 9 (4 * e + k) = -1 := by
        by_cases h : A 9 (4 * e + k) = -1
        · exact h
        · exact absurd (hL.ls _ (by omega) h) h11
      rw [k_off_s hlo hk4 e32 (by rw [c 9 (by omega)]; exact h9), c 12 (by omega), if_neg hs]
/-- a round keeps the relation of the clocks and of the calm -/
theorem RC_round (hr : r + 1 < 2 ^ 20) (hP : RP A B) (hL : RL A B m) (hF : RF 16 A JA B r) (hC : RC A JA B JB) : RC (c_rI A JA) (c_rJ A JA) (m_ro B) (m_roJ B JB) := by
  have hb : (16 : Nat) ≤ 16 := Nat.le_refl _
  have hF' := R_round hb hr hP hL hF
  have hE2 := R_E2 hP hL
  have c : ∀ c, c < 16 ∨ 35 ≤ c → f_ro A JA 16 c = A c := fun c h => fr_ro (by omega)
  have w : ∀ e, f_wh (f_ro A JA 16) 16 e = f_wh A 16 e := fun e => R_Xw hb
  have y : ∀ e, e < 16 → r_Y B 79 (560 + e) = if f_wh A 16 e = true then r_of (r_M B) e else B 79 (560 + e) := by
    intro e he
    cases hw : f_wh A 16 e with
    | true =>
      obtain ⟨y1, y2, y3, y4, y5, y6, y7, y8⟩ := hE2.2.2.1 e he he (by rw [R_Mw hP hF he]; exact hw)
      rw [if_pos rfl, y6]
    | false =>
      rw [if_neg (by decide), (hE2.2.2.2 e he (Or.inr (by rw [R_Mw hP hF he]; exact hw))).1 _ (by unfold r_own; omega), R_Mn hF (by omega) (by omega)]
  have n55 : ∀ e, e < 16 → k_ro (f_ro A JA 16) 55 e = r_Y B 79 (560 + e) := by
    intro e he
    rw [(kro_v he).1, w, y e he]
    cases hw : f_wh A 16 e with
    | true => rw [if_pos rfl, if_pos rfl, R_off hr hP hL hF hC he hw]
    | false => rw [if_neg (by decide), if_neg (by decide), c 55 (by omega), hC.no e he]
  have q560 : ∀ e, e < 16 → m_rA B 79 (560 + e) = r_Y B 79 (560 + e) := fun e he => rA_lo (by omega)
  have q576 : ∀ k, (576 ≤ k ∧ k < 608) ∨ (640 ≤ k ∧ k < 712) ∨ k = 761 → m_rA B 79 k = B 79 k := fun k h => by rw [rA_lo (by omega), hE2.2.1 k (by omega), R_Mn hF (by omega) (by omega)]
  have l55 : ∀ c, c < 59 ∨ 61 < c → c_rI A JA c = k_ro (f_ro A JA 16) c := fun c h => by unfold c_rI; rw [fr_lro h]
  have wA : ∀ e, e < 16 → m_wh (m_rA B) e = f_wh A 16 e := by
    intro e he
    rw [← RF_wh hP hF he]
    unfold m_wh
    rw [fr_rA (by decide) (by decide), q576 _ (by omega)]
  have so : ∀ e, e < 16 → m_so (m_rA B) e = m_so (m_ro B) e ∧ m_po (m_rA B) e = m_po (m_ro B) e := fun e he => by
    refine ⟨so_eq ?_ ?_, po_eq ?_ ?_⟩ <;> rw [ro_v (by omega)]
  have scx : ∀ e, f_sc (k_ro (f_ro A JA 16)) 16 e = f_sc (f_ro A JA 16) 16 e := by
    intro e
    unfold f_sc
    rw [fr_kro (by omega), fr_kro (by omega)]
  refine ⟨fun e he => ?_, fun e he => ?_, fun e he => ?_, fun e he => ?_, fun e he => ?_, fun e he => ?_, ?_⟩
  · rw [l55 55 (by omega), n55 e he, ro_v (by omega), q560 e he]
  · rw [l55 55 (by omega), n55 e he]
    unfold m_ro
    rw [zz_k (by omega), (r5_v he 16 (Nat.le_refl _)).2.1, if_pos he, q560 e he]
  · rw [l55 56 (by omega), (kro_v he).2, c 55 (by omega), hC.la e he]
    unfold m_ro
    rw [zz_k (by omega), (r5_v he 16 (Nat.le_refl _)).1, if_pos he, q576 _ (by omega)]
  · unfold c_rJ m_roJ
    rw [kroJ_v he, w, n55 e he, r5J_v 16 (Nat.le_refl _), if_pos he, wA e he, q560 e he, zupL_ne (by decide), hC.ph e he]
  · unfold c_rI l_ro m_ro
    rw [zz_c (by decide), (lm_v 16).1, if_pos he, scx, (RF_sc hF' he).1, zz_k (by omega), (r5_v he 16 (Nat.le_refl _)).2.2.1, if_pos he, (so e he).1]
  · unfold c_rI l_ro m_ro
    rw [zz_c (by decide), (lm_v 16).2, if_pos he, zz_k (by omega), (r5_v he 16 (Nat.le_refl _)).2.2.2, if_pos he, (so e he).2, fr_kro (by omega)]
    exact (RF_sc hF' he).2
  · have same : (l_s (k_ro (f_ro A JA 16)) 16 = true) ↔ (m_r5s (m_rA B) 16 = true) := by
      rw [ls_v, r5s_v 16 (Nat.le_refl _)]
      have key : ∀ e, e < 16 → ((k_ro (f_ro A JA 16) 60 e = f_sc (k_ro (f_ro A JA 16)) 16 e ∧ k_ro (f_ro A JA 16) 61 e = k_ro (f_ro A JA 16) 32 e) ↔ (m_so (m_rA B) e = m_rA B 79 (640 + e) ∧ m_po (m_rA B) e = m_rA B 79 (656 + e))) := by
        intro e he
        have po := (RF_sc hF' he).2
        rw [scx, (RF_sc hF' he).1, (so e he).1, (so e he).2, ← po, fr_kro (c := 60) (by omega), fr_kro (c := 61) (by omega), fr_kro (c := 32) (by omega), c 60 (by omega), c 61 (by omega), hC.ca e he, hC.cp e he, q576 _ (by omega), q576 _ (by omega)]
        exact ⟨fun h => ⟨h.1.symm, h.2.symm⟩, fun h => ⟨h.1.symm, h.2.symm⟩⟩
      exact ⟨fun h e he => (key e he).mp (h e he), fun h e he => (key e he).mpr (h e he)⟩
    have v59 : l_m (k_ro (f_ro A JA 16)) 16 59 2 = A 59 2 := by rw [fr_lm (by decide) (by decide), fr_kro (by omega), c 59 (by omega)]
    have v761 : m_r5 (m_rA B) 16 79 761 = B 79 761 := by rw [r5_n 16 (Nat.le_refl _) (by omega), q576 _ (by omega)]
    unfold c_rI l_ro m_ro
    rw [zz_e, zz_e, v59, v761, hC.st]
    by_cases h : l_s (k_ro (f_ro A JA 16)) 16 = true
    · rw [if_pos h, if_pos (same.mp h)]
    · rw [if_neg h, if_neg (fun q => h (same.mpr q))]
end R12
