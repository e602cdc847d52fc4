/-! A round of both, the second half: what is chosen. -/
section R10
variable {A B P M : zI} {JA : zJ} {b m r : Nat}
theorem f_bp_ok {I : zI} {e : Nat} {t : Int32} : ∀ n k, f_bp I b e t n = some k → ¬ I (b + 14) (4 * e + k) < t
  | 0, k, h => by cases h
  | n + 1, k, h => by
    have ih := f_bp_ok (I := I) (e := e) (t := t) n
    by_cases hl : I (b + 14) (4 * e + n) < t
    · rw [f_bp_a hl] at h
      exact ih k h
    · cases hr : f_bp I b e t n with
      | none =>
        rw [f_bp_b hl hr] at h
        cases h
        exact hl
      | some q =>
        cases hb : f_bt I b (4 * e + n) (4 * e + q) with
        | true =>
          rw [f_bp_c hl hr hb] at h
          cases h
          exact hl
        | false =>
          rw [f_bp_d hl hr hb] at h
          exact ih k h
/-- the setting of the second half, for a whole element e -/
def R2 (b : Nat) (P M : zI) (e : Nat) : Prop := (∀ p, p < 4 → ∃ u, u < 2 ^ 20 ∧ r_u M (4 * e + p) = nI u ∧ P (b + 14) (4 * e + p) = nI (min u 11) ∧ (0 < u ↔ m_us M (4 * e + p) = true)) ∧ (∀ p, p < 4 → m_us M (4 * e + p) = true → P (b + 10) (4 * e + p) = m_qu M (4 * e + p) ∧ P (b + 11) (4 * e + p) = m_ho M (4 * e + p) ∧ P (b + 12) (4 * e + p) = (if M 72 (4 * e + p) < 0 then M 79 (128 + (4 * e + p)) else 0) ∧ ∃ q, q ≤ 6 ∧ m_qu M (4 * e + p) = nI q) ∧ (P 13 = M 75) ∧ (P 6 = M 69) ∧ (P 7 = M 70) ∧ (P 8 = M 71) ∧ (∃ n, n ≤ 10 ∧ P 6 e = nI n) ∧ (okQ (P 7 e)) ∧ (okQ (P 8 e))
theorem R2.u {b : Nat} {P M : zI} {e : Nat} (h : R2 b P M e) : ∀ p, p < 4 → ∃ u, u < 2 ^ 20 ∧ r_u M (4 * e + p) = nI u ∧ P (b + 14) (4 * e + p) = nI (min u 11) ∧ (0 < u ↔ m_us M (4 * e + p) = true) := h.1
theorem R2.o {b : Nat} {P M : zI} {e : Nat} (h : R2 b P M e) : ∀ p, p < 4 → m_us M (4 * e + p) = true → P (b + 10) (4 * e + p) = m_qu M (4 * e + p) ∧ P (b + 11) (4 * e + p) = m_ho M (4 * e + p) ∧ P (b + 12) (4 * e + p) = (if M 72 (4 * e + p) < 0 then M 79 (128 + (4 * e + p)) else 0) ∧ ∃ q, q ≤ 6 ∧ m_qu M (4 * e + p) = nI q := h.2.1
theorem R2.p13 {b : Nat} {P M : zI} {e : Nat} (h : R2 b P M e) : P 13 = M 75 := h.2.2.1
theorem R2.p6 {b : Nat} {P M : zI} {e : Nat} (h : R2 b P M e) : P 6 = M 69 := h.2.2.2.1
theorem R2.p7 {b : Nat} {P M : zI} {e : Nat} (h : R2 b P M e) : P 7 = M 70 := h.2.2.2.2.1
theorem R2.p8 {b : Nat} {P M : zI} {e : Nat} (h : R2 b P M e) : P 8 = M 71 := h.2.2.2.2.2.1
theorem R2.n6 {b : Nat} {P M : zI} {e : Nat} (h : R2 b P M e) : ∃ n, n ≤ 10 ∧ P 6 e = nI n := h.2.2.2.2.2.2.1
theorem R2.q7 {b : Nat} {P M : zI} {e : Nat} (h : R2 b P M e) : okQ (P 7 e) := h.2.2.2.2.2.2.2.1
theorem R2.q8 {b : Nat} {P M : zI} {e : Nat} (h : R2 b P M e) : okQ (P 8 e) := h.2.2.2.2.2.2.2.2
theorem R2_of {e : Nat} (hb : 16 ≤ b) (hr : r + 1 < 2 ^ 20) (hP : RP A B) (hL : RL A B m) (hF : RF b A JA B r) (hD : D1 64 P A JA b) (hE : E1 64 M (zup B 79 760 (nI (r + 1)))) (he : e < 16) (hw : f_wh A b e = true) : R2 b P M e := by
  have h4 : ∀ p, p < 4 → (4 * e + p) / 4 = e := fun p hp => by omega
  have c : ∀ x y, x < b → y ≠ 79 → y ≠ 83 → A x = B y → P x = M y := fun x y h1 h2 h3 h4 => by rw [hD.1 x (Or.inl h1), hE.1.1 y h2 h3, B1_c h2, h4]
  have p6 := c 6 69 (by omega) (by decide) (by decide) hP.p6
  have e6 : P 6 = A 6 := hD.1 6 (by omega)
  have e7 : P 7 = A 7 := hD.1 7 (by omega)
  have e8 : P 8 = A 8 := hD.1 8 (by omega)
  refine ⟨fun p hp => ?_, fun p hp hu => ?_, c 13 75 (by omega) (by decide) (by decide) hP.p13, p6, c 7 70 (by omega) (by decide) (by decide) hP.p7, c 8 71 (by omega) (by decide) (by decide) hP.p8, by rw [e6]; exact hL.q6 e he, by rw [e7]; exact (hL.q7 e he).1, by rw [e8]; exact (hL.q7 e he).2⟩
  · obtain ⟨u, u1, u2, u3, u4⟩ := R_u (s := 4 * e + p) hr hP hL hF hD hE (by omega) (by rw [h4 p hp]; exact hw)
    exact ⟨u, by omega, u2, u3, u4⟩
  · have hws : f_wh A b ((4 * e + p) / 4) = true := by rw [h4 p hp]; exact hw
    obtain ⟨o1, o2, o3, o4⟩ := (R_us (s := 4 * e + p) hr hP hL hF hD hE (by omega) hws).2 hu
    obtain ⟨hg, -⟩ := hD.2.2.1 (4 * e + p) (by omega) (by omega) hws
    rw [show b + 10 = b + 9 + 1 by omega, show b + 11 = b + 9 + 2 by omega, show b + 12 = b + 9 + 3 by omega, (hg 1 (Or.inl rfl)).2, (hg 2 (Or.inr (Or.inl rfl))).2, (hg 3 (Or.inr (Or.inr rfl))).2]
    exact ⟨o1, o2, o3, o4⟩
theorem R2_bt {e p q : Nat} (he : e < 16) (h : R2 b P M e) (hp : p < 4) (hq : q < 4) (up : m_us M (4 * e + p) = true) (uq : m_us M (4 * e + q) = true) : f_bt P b (4 * e + p) (4 * e + q) = m_bt (r_C M e) (4 * e + p) (4 * e + q) := by
  obtain ⟨a1, a2, -⟩ := h.o p hp up
  obtain ⟨b1, b2, -⟩ := h.o q hq uq
  unfold f_bt m_bt
  rw [mqu_C (by omega), mqu_C (by omega), mho_C (by omega), mho_C (by omega), a1, a2, b1, b2, rC_c (by decide), ← h.p13]
theorem R2_bp {e n : Nat} (he : e < 16) (h : R2 b P M e) (hn : n ≤ 10) : ∀ k, k ≤ 4 → f_bp P b e (nI (n + 1)) k = m_bo (r_C M e) e (nI n) k
  | 0, _ => rfl
  | k + 1, hk => by
    have ih := R2_bp he h hn k (by omega)
    obtain ⟨u, u1, u2, u3, u4⟩ := h.u k (by omega)
    have hC : r_C M e 79 (448 + (4 * e + k)) = nI u := by rw [rC_u he (by omega), u2]
    by_cases hl : u ≤ n
    · rw [f_bp_a (by rw [u3, nI_ltI (by omega) (by omega)]; omega), m_bo_a (by rw [hC, nI_leI (by omega) (by omega)]; exact hl), ih]
    · have h1 : ¬ P (b + 14) (4 * e + k) < nI (n + 1) := by rw [u3, nI_ltI (by omega) (by omega)]; omega
      have h2 : ¬ r_C M e 79 (448 + (4 * e + k)) ≤ nI n := by rw [hC, nI_leI (by omega) (by omega)]; exact hl
      cases hr : f_bp P b e (nI (n + 1)) k with
      | none => rw [f_bp_b h1 hr, m_bo_b h2 (by rw [← ih]; exact hr)]
      | some q =>
        have hr2 : m_bo (r_C M e) e (nI n) k = some q := by rw [← ih]; exact hr
        have hq := f_bp_lt k q hr
        have uk : m_us M (4 * e + k) = true := u4.mp (by omega)
        have uq : m_us M (4 * e + q) = true := by
          obtain ⟨v, v1, v2, v3, v4⟩ := h.u q (by omega)
          have h9 := f_bp_ok k q hr
          rw [v3, nI_ltI (by omega) (by omega)] at h9
          exact v4.mp (by omega)
        have hbt := R2_bt he h (by omega) (by omega) uk uq
        cases hb : f_bt P b (4 * e + k) (4 * e + q) with
        | true => rw [f_bp_c h1 hr hb, m_bo_c h2 hr2 (by rw [← hbt]; exact hb)]
        | false => rw [f_bp_d h1 hr hb, m_bo_d h2 hr2 (by rw [← hbt]; exact hb), ih]
theorem okQ_lt {x : Int32} (h : okQ x) : (x < 0) ↔ x = -1 := by
  rcases h with h | ⟨k, hk, h⟩
  · rw [h]; exact ⟨fun _ => rfl, fun _ => by decide⟩
  · rw [h]; exact ⟨fun q => absurd q (nI_pos (by omega)), fun q => absurd q (nI_neg1 (by omega))⟩
theorem R2_ch {e : Nat} (he : e < 16) (h : R2 b P M e) : f_ch P b e = zO (r_k M e) := by
  obtain ⟨n, hn, hn2⟩ := h.n6
  have b1 := R2_bp he h hn 4 (Nat.le_refl _)
  have b0 := R2_bp (n := 0) he h (by omega) 4 (Nat.le_refl _)
  have c69 : r_C M e 69 e = nI n := by rw [rC_c (by decide), ← h.p6]; exact hn2
  have c70 : r_C M e 70 e = P 7 e := by rw [rC_c (by decide), ← h.p7]
  have c71 : r_C M e 71 e = P 8 e := by rw [rC_c (by decide), ← h.p8]
  have e1 : P 6 e + 1 = nI (n + 1) := by rw [hn2, nI_1]
  unfold r_k
  rcases h.q7 with h7 | ⟨k7, hk7, h7⟩
  · have hlt : r_C M e 70 e < 0 := by rw [c70, h7]; decide
    have step : ∀ (hx : P 8 e = -1 ∨ ∃ k, k < 4 ∧ P 8 e = nI k ∧ P (b + 14) (4 * e + k) ≤ 0) (hy : r_C M e 71 e < 0 ∨ ∃ k, k < 4 ∧ r_C M e 71 e = nI k ∧ r_C M e 79 (448 + (4 * e + k)) ≤ 0), f_ch P b e = zO (m_ch (r_C M e) e) := by
      intro hx hy
      rw [m_ch_x hlt hy, c69, ← b1, ← e1]
      cases hz : f_bp P b e (P 6 e + 1) 4 with
      | none =>
        rw [← f_ch_x0 h7 hx hz]
        show zO (f_bp P b e (nI 1) 4) = zO (m_bo (r_C M e) e (nI 0) 4)
        rw [b0]
      | some k =>
        rw [← f_ch_x1 h7 hx hz, hz]
    rcases h.q8 with h8 | ⟨k, hk, h8⟩
    · exact step (Or.inl h8) (Or.inl (by rw [c71, h8]; decide))
    · obtain ⟨u, u1, u2, u3, u4⟩ := h.u k hk
      have hC : r_C M e 79 (448 + (4 * e + k)) = nI u := by rw [rC_u he hk, u2]
      by_cases hu : u = 0
      · refine step (Or.inr ⟨k, hk, h8, ?_⟩) (Or.inr ⟨k, hk, by rw [c71, h8], ?_⟩)
        · rw [u3, hu]; decide
        · rw [hC, hu]; decide
      · have n1 : ¬ P (b + 14) (4 * e + k) ≤ 0 := by rw [u3]; exact nI_nle (by omega) (by omega)
        have n2 : ¬ r_C M e 79 (448 + (4 * e + k)) ≤ 0 := by rw [hC]; exact nI_nle (by omega) (by omega)
        rw [f_ch_b h7 (by rw [h8]; exact nI_neg1 (by omega)) hk h8 n1, m_ch_b hlt (by rw [c71, h8]; exact nI_pos (by omega)) hk (by rw [c71, h8]) n2, h8]
        rfl
  · rw [f_ch_a (by rw [h7]; exact nI_neg1 (by omega)), m_ch_a (by rw [c70, h7]; exact nI_pos (by omega)) hk7 (by rw [c70, h7]), h7]
    rfl
theorem R2_lt {e k : Nat} (h : R2 b P M e) (hk : r_k M e = some k) : k < 4 := rk_lt ⟨by rw [← h.p7]; exact h.q7, by rw [← h.p8]; exact h.q8⟩ hk
theorem R2_dk {e k : Nat} (he : e < 16) (h : R2 b P M e) (hk : r_k M e = some k) : f_ch P b e = nI k ∧ d_k P b e = k := by
  have h1 : f_ch P b e = nI k := by rw [R2_ch he h, hk]; rfl
  refine ⟨h1, ?_⟩
  unfold d_k
  rw [h1, nI_clamp (by have := R2_lt h hk; omega)]
theorem R2_lk {e : Nat} (he : e < 16) (h : R2 b P M e) : d_lk P b e = r_lk M e := by
  unfold d_lk r_lk
  cases hk : r_k M e with
  | none =>
    have h1 : f_ch P b e = -1 := by rw [R2_ch he h, hk]; rfl
    rw [h1]
    rfl
  | some k =>
    have hlt := R2_lt h hk
    obtain ⟨h1, h2⟩ := R2_dk he h hk
    obtain ⟨u, u1, u2, u3, u4⟩ := h.u k hlt
    rw [h2, h1, decide_eq_true (nI_neg1 (by omega)), Bool.true_and, u3]
    simp only
    rw [rC_u he hlt, u2]
    by_cases hu : u = 0
    · rw [hu]; rfl
    · rw [decide_eq_true (nI_nle (by omega) (by omega)), decide_eq_true (nI_nle (by omega) (by omega))]
/-- a locked element's port is usable -/
theorem R2_l {e : Nat} (he : e < 16) (h : R2 b P M e) (hl : r_lk M e = true) : ∃ k, k < 4 ∧ r_k M e = some k ∧ f_ch P b e = nI k ∧ d_k P b e = k ∧ r_s M e = 4 * e + k ∧ m_us M (4 * e + k) = true := by
  obtain ⟨k, hk, h2, -⟩ := cs_t hl
  have hlt := R2_lt h hk
  obtain ⟨h3, h4⟩ := R2_dk he h hk
  refine ⟨k, hlt, hk, h3, h4, by unfold r_s; rw [hk]; rfl, ?_⟩
  obtain ⟨u, u1, u2, u3, u4⟩ := h.u k hlt
  rw [rC_u he hlt, u2] at h2
  refine u4.mp ?_
  by_cases hu : u = 0
  · rw [hu] at h2; exact absurd (by decide) h2
  · omega
end R10
