/-! A round of the reference: what comes over the links. -/
def g_c (I : zI) (p : Nat) : Bool := decide (¬ I 74 p < 0) && m_co I (m_lk I p) p
def g_o (I : zI) (p : Nat) : Nat := (m_ax I (m_lk I p) p).toNatClampNeg
def g_w (j : Nat) (I : zI) (p : Nat) : Int32 := if g_c I p = true then (if j = 3 then I 79 760 else I 79 (256 + 64 * j + g_o I p)) else I 79 (64 * j + p)
theorem gw_v {Y : zI} {p o j : Nat} (hp : p < 64) (hj : j < 4) : m_gw Y p o 79 (64 * j + p) = if j = 3 then Y 79 760 else Y 79 (256 + 64 * j + o) := by
  unfold m_gw
  have h : j = 0 ∨ j = 1 ∨ j = 2 ∨ j = 3 := by omega
  rcases h with rfl | rfl | rfl | rfl
  · show zup _ 79 (192 + p) _ 79 (64 * 0 + p) = Y 79 (256 + 64 * 0 + o)
    rw [show 64 * 0 + p = p by omega, show 256 + 64 * 0 + o = 256 + o by omega, zz_k (by omega), zz_k (by omega), zz_k (by omega), zz_e]
  · show zup _ 79 (192 + p) _ 79 (64 * 1 + p) = Y 79 (256 + 64 * 1 + o)
    rw [show 64 * 1 + p = 64 + p by omega, show 256 + 64 * 1 + o = 320 + o by omega, zz_k (by omega), zz_k (by omega), zz_e, zz_k (by omega)]
  · show zup _ 79 (192 + p) _ 79 (64 * 2 + p) = Y 79 (256 + 64 * 2 + o)
    rw [show 64 * 2 + p = 128 + p by omega, show 256 + 64 * 2 + o = 384 + o by omega, zz_k (by omega), zz_e, zz_k (by omega), zz_k (by omega)]
  · show zup _ 79 (192 + p) _ 79 (64 * 3 + p) = Y 79 760
    rw [show 64 * 3 + p = 192 + p by omega, zz_e, zz_k (by omega), zz_k (by omega), zz_k (by omega)]
theorem gw_n {Y : zI} {p o c k : Nat} (h : c ≠ 79 ∨ ∀ j, j < 4 → k ≠ 64 * j + p) : m_gw Y p o c k = Y c k := by
  unfold m_gw
  have h0 : c ≠ 79 ∨ k ≠ p := h.imp id (fun q => by have := q 0 (by decide); omega)
  have h1 : c ≠ 79 ∨ k ≠ 64 + p := h.imp id (fun q => by have := q 1 (by decide); omega)
  have h2 : c ≠ 79 ∨ k ≠ 128 + p := h.imp id (fun q => by have := q 2 (by decide); omega)
  have h3 : c ≠ 79 ∨ k ≠ 192 + p := h.imp id (fun q => by have := q 3 (by decide); omega)
  try simp only
  rw [zz_n h3, zz_n h2, zz_n h1, zz_n h0]
theorem ge_v {Y : zI} {p j : Nat} (hp : p < 64) (hj : j < 4) : m_ge Y p 79 (64 * j + p) = g_w j Y p := by
  unfold m_ge g_w g_c g_o
  by_cases h : Y 74 p < 0
  · have hn : ¬ (decide (¬ Y 74 p < 0) && m_co Y (m_lk Y p) p) = true := by simp [h]
    rw [if_pos h, if_neg hn]
  · by_cases hc : m_co Y (m_lk Y p) p = true
    · have hn : (decide (¬ Y 74 p < 0) && m_co Y (m_lk Y p) p) = true := by rw [hc, decide_eq_true h]; rfl
      rw [if_neg h, if_pos hc, if_pos hn, gw_v hp hj]
    · have hn : ¬ (decide (¬ Y 74 p < 0) && m_co Y (m_lk Y p) p) = true := by simp [hc]
      rw [if_neg h, if_neg hc, if_neg hn]
theorem ge_n {Y : zI} {p c k : Nat} (h : c ≠ 79 ∨ ∀ j, j < 4 → k ≠ 64 * j + p) : m_ge Y p c k = Y c k := by
  unfold m_ge
  split
  · rfl
  · split
    · exact gw_n h
    · rfl
/-- what the words over a link are read from -/
def g_eq (X I : zI) : Prop := (∀ c, c ≠ 79 → c ≠ 83 → X c = I c) ∧ ∀ k, 256 ≤ k → X 79 k = I 79 k
theorem gwh_eq {X I : zI} {e : Nat} (h : g_eq X I) : m_wh X e = m_wh I e := by
  unfold m_wh
  rw [h.1 65 (by decide) (by decide), h.2 (672 + e) (by omega)]
theorem gc_eq {X I : zI} {p : Nat} (h : g_eq X I) : g_c X p = g_c I p := by
  unfold g_c m_co m_lo m_li m_ax m_lk
  rw [h.1 74 (by decide) (by decide), h.1 77 (by decide) (by decide), h.1 78 (by decide) (by decide), h.2 _ (by omega), h.2 _ (by omega), h.2 _ (by omega), gwh_eq h]
theorem go_eq {X I : zI} {p : Nat} (h : g_eq X I) : g_o X p = g_o I p := by
  unfold g_o m_ax m_lk
  rw [h.1 74 (by decide) (by decide), h.1 77 (by decide) (by decide), h.1 78 (by decide) (by decide)]
theorem gw_eq {X I : zI} {p j : Nat} (h : g_eq X I) (hs : X 79 (64 * j + p) = I 79 (64 * j + p)) : g_w j X p = g_w j I p := by
  unfold g_w
  rw [gc_eq h, go_eq h, hs, h.2 760 (by decide), h.2 (256 + 64 * j + g_o I p) (by omega)]
def E1 (n : Nat) (X I : zI) : Prop := g_eq X I ∧ (∀ p j, p < 64 → p < n → j < 4 → m_wh I (p / 4) = true → X 79 (64 * j + p) = g_w j I p) ∧ (∀ p j, p < 64 → j < 4 → (n ≤ p ∨ m_wh I (p / 4) = false) → X 79 (64 * j + p) = I 79 (64 * j + p)) ∧ ∀ p, p < n → X 83 p = -1
theorem E1_s {n : Nat} {X I : zI} (hn : n < 64) (h : E1 n X I) : E1 (n + 1) (if m_wh (zup X 83 n (-1)) (n / 4) = true then m_ge (zup X 83 n (-1)) n else zup X 83 n (-1)) I := by
  have hq : g_eq (zup X 83 n (-1)) I := ⟨fun c h1 h2 => by rw [zup_ne h2, h.1.1 c h1 h2], fun k hk => by rw [zz_c (by decide), h.1.2 k hk]⟩
  rw [gwh_eq hq]
  by_cases hw : m_wh I (n / 4) = true
  · rw [if_pos hw]
    refine ⟨⟨fun c h1 h2 => ?_, fun k hk => ?_⟩, fun p j hp hpn hj hwp => ?_, fun p j hp hj hpn => ?_, fun p hp => ?_⟩
    · funext k
      rw [ge_n (Or.inl h1), hq.1 c h1 h2]
    · rw [ge_n (Or.inr (fun j hj => by omega)), hq.2 k hk]
    · by_cases hx : p = n
      · subst hx
        rw [ge_v hp hj, gw_eq hq]
        rw [zz_c (by decide), h.2.2.1 p j hp hj (Or.inl (Nat.le_refl _))]
      · rw [ge_n (Or.inr (fun i hi => by omega)), zz_c (by decide), h.2.1 p j hp (by omega) hj hwp]
    · have hx : p ≠ n := by
        rintro rfl
        rcases hpn with q | q
        · omega
        · rw [hw] at q; cases q
      rw [ge_n (Or.inr (fun i hi => by omega)), zz_c (by decide), h.2.2.1 p j hp hj (hpn.imp (by omega) id)]
    · rw [ge_n (Or.inl (by decide))]
      by_cases hx : p = n
      · rw [hx, zz_e]
      · rw [zz_k hx, h.2.2.2 p (by omega)]
  · rw [if_neg hw]
    refine ⟨hq, fun p j hp hpn hj hwp => ?_, fun p j hp hj hpn => ?_, fun p hp => ?_⟩
    · have hx : p ≠ n := by rintro rfl; exact hw hwp
      rw [zz_c (by decide), h.2.1 p j hp (by omega) hj hwp]
    · rw [zz_c (by decide)]
      by_cases hx : p = n
      · exact h.2.2.1 p j hp hj (Or.inl (by omega))
      · exact h.2.2.1 p j hp hj (hpn.imp (by omega) id)
    · by_cases hx : p = n
      · rw [hx, zz_e]
      · rw [zz_k hx, h.2.2.2 p (by omega)]
theorem E1_all {I : zI} : ∀ n, n ≤ 64 → E1 n (m_r1 I n) I
  | 0, _ => ⟨⟨fun _ _ _ => rfl, fun _ _ => rfl⟩, fun p j _ h => absurd h (by omega), fun _ _ _ _ _ => rfl, fun p h => absurd h (by omega)⟩
  | n + 1, hn => by
    have h9 := E1_s (by omega) (E1_all (I := I) n (by omega))
    unfold m_r1
    exact h9
/-! A round of the reference: what an element chooses. -/
def r_C (M : zI) (e : Nat) : zI := m_c1 M e 4
def r_u (M : zI) (s : Nat) : Int32 := if m_us M s = true then M 79 (448 + s) + 1 else 0
theorem rC_u {M : zI} {e p : Nat} (he : e < 16) (hp : p < 4) : r_C M e 79 (448 + (4 * e + p)) = r_u M (4 * e + p) := by
  unfold r_C r_u
  rw [m_c1_used hp, m_us_c1 he (by omega) (by omega), fr_c1n p (fun q hq => by omega)]
theorem rC_n {M : zI} {e c k : Nat} (h : c ≠ 79 ∨ ∀ q, q < 4 → k ≠ 448 + (4 * e + q)) : r_C M e c k = M c k := by
  unfold r_C
  by_cases hc : c = 79
  · subst hc
    exact fr_c1n 4 (h.elim (fun q => absurd rfl q) id)
  · rw [fr_c1 hc 4]
def r_k (M : zI) (e : Nat) : Option Nat := m_ch (r_C M e) e
def r_lk (M : zI) (e : Nat) : Bool := match r_k M e with
  | none => false
  | some k => decide (¬ r_C M e 79 (448 + (4 * e + k)) ≤ 0)
theorem cs_f {M : zI} {e : Nat} (h : r_lk M e = false) : m_cs M e = m_o0 (m_fl (m_s0 (r_C M e) e (r_k M e)) e (r_k M e) false 4) e := by
  unfold r_lk at h
  cases hk : r_k M e with
  | none => exact m_cs_0 hk
  | some k =>
    rw [hk] at h
    have h2 : r_C M e 79 (448 + (4 * e + k)) ≤ 0 := by simpa using h
    exact m_cs_1 hk h2
theorem cs_t {M : zI} {e : Nat} (h : r_lk M e = true) : ∃ k, r_k M e = some k ∧ ¬ r_C M e 79 (448 + (4 * e + k)) ≤ 0 ∧ m_cs M e = m_o1 (m_fl (m_s1 (r_C M e) e k) e (some k) true 4) e (4 * e + k) := by
  unfold r_lk at h
  cases hk : r_k M e with
  | none => rw [hk] at h; cases h
  | some k =>
    rw [hk] at h
    have h2 : ¬ r_C M e 79 (448 + (4 * e + k)) ≤ 0 := by simpa using h
    exact ⟨k, rfl, h2, m_cs_2 hk h2⟩
def r_f (j : Nat) (Y : zI) (e : Nat) (r : Option Nat) (lk : Bool) (i : Nat) : Int32 := if j = 0 then m_q0 Y e r lk i else if j = 1 then m_h0 Y e r lk i else m_t0 Y e r lk i
theorem f1_v {Y : zI} {e i j : Nat} {r : Option Nat} {lk : Bool} (hj : j < 3) (he : e < 16) (hi : i < 4) : m_f1 Y e r lk i 83 (64 * j + (4 * e + i)) = r_f j Y e r lk i := by
  unfold m_f1 r_f
  have h : j = 0 ∨ j = 1 ∨ j = 2 := by omega
  rcases h with rfl | rfl | rfl
  · show zup _ 83 (128 + (4 * e + i)) _ 83 (64 * 0 + (4 * e + i)) = m_q0 Y e r lk i
    rw [zz_k (by omega), zz_k (by omega), show 64 * 0 + (4 * e + i) = 4 * e + i by omega, zz_e]
  · show zup _ 83 (128 + (4 * e + i)) _ 83 (64 * 1 + (4 * e + i)) = m_h0 Y e r lk i
    rw [zz_k (by omega), show 64 * 1 + (4 * e + i) = 64 + (4 * e + i) by omega, zz_e]
    unfold m_h0 m_ho
    rw [zup_ne (by decide), zup_ne (by decide)]
  · show zup _ 83 (128 + (4 * e + i)) _ 83 (64 * 2 + (4 * e + i)) = m_t0 Y e r lk i
    rw [show 64 * 2 + (4 * e + i) = 128 + (4 * e + i) by omega, zz_e]
    unfold m_t0
    rw [zup_ne (by decide), zup_ne (by decide), zup_ne (by decide), zup_ne (by decide)]
theorem f1_n {Y : zI} {e i k : Nat} {r : Option Nat} {lk : Bool} (h : ∀ j, j < 3 → k ≠ 64 * j + (4 * e + i)) : m_f1 Y e r lk i 83 k = Y 83 k := by
  unfold m_f1
  have h0 := h 0 (by decide)
  have h1 := h 1 (by decide)
  have h2 := h 2 (by decide)
  try simp only
  rw [zz_k (by omega), zz_k (by omega), zz_k (by omega)]
theorem rf_eq {X Y : zI} {e j i : Nat} {r : Option Nat} {lk : Bool} (h : ∀ c, c ≠ 83 → X c = Y c) : r_f j X e r lk i = r_f j Y e r lk i := by
  unfold r_f m_q0 m_h0 m_t0 m_qu m_ho
  rw [h 74 (by decide), h 72 (by decide), h 79 (by decide), h 66 (by decide)]
theorem fl_v {Y : zI} {e j : Nat} {r : Option Nat} {lk : Bool} (hj : j < 3) (he : e < 16) : ∀ n i, n ≤ 4 → i < 4 → m_fl Y e r lk n 83 (64 * j + (4 * e + i)) = if i < n then r_f j Y e r lk i else Y 83 (64 * j + (4 * e + i))
  | 0, i, _, _ => by
    rw [if_neg (by omega)]
    rfl
  | n + 1, i, hn, hi => by
    have ih := fl_v (Y := Y) (r := r) (lk := lk) hj he n i (by omega) hi
    unfold m_fl
    by_cases hx : i = n
    · subst hx
      rw [f1_v hj he hi, if_pos (by omega)]
      exact rf_eq (X := m_fl Y e r lk i) (Y := Y) (fun c hc => fr_mfl hc i)
    · rw [f1_n (fun q hq => by omega), ih]
      by_cases h2 : i < n
      · rw [if_pos h2, if_pos (by omega)]
      · rw [if_neg h2, if_neg (by omega)]
theorem fl_n {Y : zI} {e k : Nat} {r : Option Nat} {lk : Bool} : ∀ n, (∀ i j, i < n → j < 3 → k ≠ 64 * j + (4 * e + i)) → m_fl Y e r lk n 83 k = Y 83 k
  | 0, _ => rfl
  | n + 1, h => by
    unfold m_fl
    rw [f1_n (fun j hj => h n j (by omega) hj), fl_n n (fun i j hi hj => h i j (by omega) hj)]
