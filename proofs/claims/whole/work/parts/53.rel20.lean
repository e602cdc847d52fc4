/-! What is read: states, following. -/
section R20
variable {A B : zI} {JA JB : zJ} {b m r : Nat}
theorem A_hq {e : Nat} (hF : RF b A JA B r) (he : e < 16) : A (b + 17) e = (if m_so B e = 1 then B 79 (608 + e) else -1) ∧ A (b + 18) e = (if m_so B e = 1 then B 79 (624 + e) else -1) := by
  have hs := (RF_sc hF he).1
  cases hw : f_wh A b e with
  | true =>
    have h0 : f_bit (A b 11) (nI e) = 0 := by unfold f_wh at hw; simp at hw; exact hw.2
    have hs2 : m_so B e = A (b + 15) e := by rw [← hs]; unfold f_sc; rw [h0, if_neg (by decide)]
    obtain ⟨k1, k2, k3, k4, k5⟩ := hF.wh e he hw
    obtain ⟨w1, w2⟩ := hF.wk e he hw
    rw [hs2]
    by_cases hl : A (b + 15) e = 1
    · rw [if_pos hl, if_pos hl]; exact ⟨k3, k4⟩
    · rw [if_neg hl, if_neg hl]; exact w2 hl
  | false =>
    obtain ⟨k1, k2, k3, k4, k5⟩ := hF.nw e he hw
    have hn : ¬ m_so B e = 1 := by
      rw [← hs]
      unfold f_sc
      rw [k1]
      split <;> decide
    rw [if_neg hn, if_neg hn]
    exact ⟨k3, k4⟩
theorem A_state {e : Nat} {w : Int32} (h : RA A JA B JB m r) (he : e < 16) : (w = 0 → f_sc A 16 e = m_st B e w) ∧ (w = 1 → A 32 e = m_st B e w) ∧ (w = 2 → A 33 e = m_st B e w) ∧ (w = 3 → A 34 e = m_st B e w) ∧ (w = 4 → A 55 e = m_st B e w) := by
  obtain ⟨q1, q2⟩ := RF_sc h.F he
  obtain ⟨q3, q4⟩ := A_hq h.F he
  unfold m_st
  refine ⟨?_, ?_, ?_, ?_, ?_⟩ <;> (rintro rfl)
  · rw [if_pos rfl]; exact q1
  · rw [if_neg (by decide), if_pos rfl]; exact q2
  · rw [if_neg (by decide), if_neg (by decide), if_neg (by decide), if_pos (show (2 : Int32) = 2 from rfl)]; exact q3
  · rw [if_neg (by decide), if_neg (by decide), if_neg (by decide), if_neg (show ¬ (3 : Int32) = 2 by decide)]; exact q4
  · rw [if_neg (by decide), if_neg (by decide), if_pos rfl]; exact h.C.no e he
theorem okM_R (hP : RP A B) (hL : RL A B m) : okM B := by
  intro s hs
  rw [← hP.p9]
  rcases hL.sl s hs with h | ⟨l, hl, h1, h2⟩
  · exact Or.inl h
  · right
    obtain ⟨x, y, hx, hy, hxy, e77, e78, -⟩ := hL.lk l hl
    have := hL.m24
    exact ⟨l, by omega, h1, ⟨x, hx, e77⟩, ⟨y, hy, e78⟩⟩
theorem okMQ_R (hP : RP A B) (hL : RL A B m) : okMQ B := by
  intro e he
  rw [← hP.p7, ← hP.p8]
  exact hL.q7 e he
theorem okME_R (hP : RP A B) (hL : RL A B m) : okME B m := by
  refine ⟨by rw [← hP.pL]; exact hL.cnt, hL.m24, fun l hl => ?_⟩
  obtain ⟨x, y, hx, hy, hxy, e77, e78, -⟩ := hL.lk l hl
  exact ⟨⟨x, hx, e77⟩, ⟨y, hy, e78⟩⟩
theorem okL_R (hP : RP A B) (hL : RL A B m) : okL A := by
  intro s hs
  by_cases h9 : A 9 s = -1
  · exact Or.inl h9
  · obtain ⟨l, q, hl, hq, hqs, e9, e74, h9q, h10, h10q, epe, elk, eax, hends⟩ := RL_at hP hL hs h9
    exact Or.inr ⟨q, hq, h10⟩
theorem okP_R (hP : RP A B) (hL : RL A B m) : okP A := ⟨okL_R hP hL, fun e he => hL.q7 e he⟩
theorem RL_fe (hL : RL A B m) {l : Nat} (hl : l < m) : ∃ x y, x < 64 ∧ y < 64 ∧ x ≠ y ∧ B 77 l = nI x ∧ B 78 l = nI y ∧ A 15 l = nI x ∧ A 9 x = nI l ∧ A 9 y = nI l ∧ A 10 x = nI y ∧ fe A l = x ∧ pe A x = y := by
  obtain ⟨x, y, hx, hy, hxy, e77, e78, e15, h9x, h9y, h10x, h10y⟩ := hL.lk l hl
  exact ⟨x, y, hx, hy, hxy, e77, e78, e15, h9x, h9y, h10x, by unfold fe; rw [e15, nI_clamp (by omega)], by unfold pe; rw [h10x, nI_clamp (by omega)]⟩
theorem okE_R (hL : RL A B m) : okE A m := by
  refine ⟨hL.cnt, hL.m24, fun l hl => ?_⟩
  obtain ⟨x, y, hx, hy, hxy, e77, e78, e15, h9x, h9y, h10x, efe, epe⟩ := RL_fe hL hl
  rw [efe, epe]
  exact ⟨e15, hx, h10x, hy⟩
theorem okK_R (hF : RF b A JA B r) : ∀ e, e < 16 → okK A b e := by
  intro e he hlo
  have h1 : A (b + 15) e = 1 := by unfold f_lo at hlo; simpa using hlo
  cases hw : f_wh A b e with
  | true => exact (hF.wk e he hw).1 h1
  | false => rw [(hF.nw e he hw).1] at h1; exact absurd h1 (by decide)
theorem okMK_R (hF : RF b A JA B r) : ∀ e, e < 16 → okMK B e := fun e he h => hF.mk e he h
/-! following -/
theorem fo_tr {e : Nat} (hP : RP A B) (hL : RL A B m) (hF : RF 16 A JA B r) : ∀ k e, e < 16 → (f_fo A 16 k e = -2 ∧ ∃ x, x < 16 ∧ m_tr B k (nI e) = nI x) ∨ (f_fo A 16 k e = -1 ∧ m_tr B k (nI e) = -1) ∨ (∃ s, s < 64 ∧ f_fo A 16 k e = nI s ∧ m_tr B k (nI e) = nI (16 + s))
  | 0, e, he => Or.inl ⟨rfl, e, he, rfl⟩
  | k + 1, e, he => by
    have tn : m_tr B k (-1) = -1 := by
      cases k with
      | zero => rfl
      | succ k => exact m_tr_n (by decide)
    have tg : ∀ s, s < 64 → m_tr B k (nI (16 + s)) = nI (16 + s) := by
      intro s hs
      cases k with
      | zero => rfl
      | succ k => exact m_tr_g (nI_pos (by omega)) (nI_le (a := 16) (by omega) (by omega))
    rw [m_tr_s (nI_pos (by omega)) (by rw [show (16 : Int32) = nI 16 from rfl, nI_leI (by omega) (by omega)]; omega) he rfl]
    have hwB := RF_wh hP hF he
    cases hw : f_wh A 16 e with
    | false =>
      rw [f_fo_w hw, m_fw_w (by rw [hwB]; exact hw), tn]
      exact Or.inr (Or.inl ⟨rfl, rfl⟩)
    | true =>
      obtain ⟨k1, k2, -⟩ := hF.wh e he hw
      by_cases hl : A 31 e = 1
      · have hlo : f_lo A 16 e = true := by unfold f_lo; exact decide_eq_true hl
        obtain ⟨p, hp, hp2⟩ := (hF.wk e he hw).1 hl
        have b512 : B 79 (512 + e) = 1 := by rw [← k1]; exact hl
        have b528 : B 79 (528 + e) = nI p := by rw [← k2]; exact hp2
        by_cases h9 : A 9 (4 * e + p) = -1
        · rw [f_fo_s hw hlo hp hp2 h9, m_fw_s (by rw [hwB]; exact hw) b512 hp b528 (by rw [← hP.p9, h9]; decide), tg _ (by omega)]
          exact Or.inr (Or.inr ⟨4 * e + p, by omega, rfl, rfl⟩)
        · obtain ⟨l, q, hl', hq, hqs, e9, e74, h9q, h10, h10q, epe, elk, eax, hends⟩ := RL_at hP hL (s := 4 * e + p) (by omega) h9
          have h24 := hL.m24
          rw [f_fo_x hw hlo hp hp2 h9, epe, m_fw_x (by rw [hwB]; exact hw) b512 hp b528 (by rw [e74]; exact nI_pos (by omega)) (by omega) e74 hq eax]
          exact fo_tr (e := e) hP hL hF k (q / 4) (by omega)
      · have hlo : f_lo A 16 e = false := by unfold f_lo; exact decide_eq_false hl
        rw [f_fo_l hw hlo, m_fw_l (by rw [hwB]; exact hw) (by rw [← k1]; exact hl), tn]
        exact Or.inr (Or.inl ⟨rfl, rfl⟩)
/-- how many numbers below n -/
def n_c (f : Nat → Bool) : Nat → Nat
  | 0 => 0
  | n + 1 => n_c f n + (if f n = true then 1 else 0)
theorem n_c_le (f : Nat → Bool) : ∀ n, n_c f n ≤ n
  | 0 => Nat.le_refl _
  | n + 1 => by
    have := n_c_le f n
    unfold n_c
    split <;> omega
theorem n_c_mono {f g : Nat → Bool} : ∀ n, (∀ x, x < n → f x = true → g x = true) → n_c f n ≤ n_c g n
  | 0, _ => Nat.le_refl _
  | n + 1, h => by
    have ih := n_c_mono n (fun x hx => h x (by omega))
    unfold n_c
    by_cases hf : f n = true
    · rw [if_pos hf, if_pos (h n (by omega) hf)]; omega
    · rw [if_neg hf]; split <;> omega
theorem n_c_lt {f g : Nat → Bool} {x : Nat} : ∀ n, (∀ x, x < n → f x = true → g x = true) → x < n → g x = true → ¬ f x = true → n_c f n < n_c g n
  | 0, _, h, _, _ => absurd h (by omega)
  | n + 1, h, hx, hg, hf => by
    unfold n_c
    by_cases hxn : x = n
    · subst hxn
      have := n_c_mono x (fun y hy => h y (by omega))
      rw [if_neg hf, if_pos hg]; omega
    · have := n_c_lt n (fun y hy => h y (by omega)) (show x < n by omega) hg hf
      by_cases hfn : f n = true
      · rw [if_pos hfn, if_pos (h n (by omega) hfn)]; omega
      · rw [if_neg hfn]; split <;> omega
theorem n_c_0 {f : Nat → Bool} {x : Nat} {n : Nat} (h : n_c f n = 0) (hx : x < n) : ¬ f x = true := by
  intro hf
  have h9 := n_c_lt (f := fun _ => false) (g := f) n (fun _ _ q => by cases q) hx hf (by decide)
  omega
/-- one step of following -/
def fo_n (A : zI) (b e : Nat) : Option Nat := if f_wh A b e = true ∧ f_lo A b e = true ∧ ¬ A 9 (4 * e + (A (b + 16) e).toNatClampNeg) = -1 then some (pe A (4 * e + (A (b + 16) e).toNatClampNeg) / 4) else none
theorem fo_s {k e : Nat} (he : e < 16) (hK : okK A b e) : f_fo A b (k + 1) e = -2 → ∃ x, fo_n A b e = some x ∧ f_fo A b k x = -2 := by
  intro h
  unfold f_fo at h
  unfold fo_n
  split at h
  · rename_i h1
    split at h
    · rename_i h2
      split at h
      · rename_i h3
        exfalso
        obtain ⟨p, hp, hp2⟩ := hK h2
        rw [hp2, nI_clamp (by omega)] at h
        have h9 := congrArg Int32.toInt h
        rw [nI_toInt (by omega)] at h9
        have : (-2 : Int32).toInt = -2 := by decide
        omega
      · rename_i h3
        exact ⟨_, if_pos ⟨h1, h2, h3⟩, h⟩
    · exact absurd h (by decide)
  · exact absurd h (by decide)
theorem fo_t {k e x : Nat} (h : fo_n A b e = some x) : f_fo A b (k + 1) e = f_fo A b k x := by
  unfold fo_n at h
  split at h
  · rename_i h1
    cases h
    rw [f_fo, if_pos h1.1, if_pos h1.2.1, if_neg h1.2.2]
  · cases h
theorem fo_lt {e x : Nat} (he : e < 16) (hK : okK A b e) (hL : okL A) (h : fo_n A b e = some x) : x < 16 := by
  unfold fo_n at h
  split at h
  · rename_i h1
    obtain ⟨p, hp, hp2⟩ := hK h1.2.1
    have h3 := h1.2.2
    rw [hp2, nI_clamp (by omega)] at h h3
    cases h
    have := (okL_pe hL (s := 4 * e + p) (by omega) h3).2
    omega
  · cases h
theorem fo_mono (hK : ∀ e, e < 16 → okK A b e) (hL : okL A) : ∀ k e, e < 16 → f_fo A b (k + 1) e = -2 → f_fo A b k e = -2
  | 0, _, _, _ => rfl
  | k + 1, e, he, h => by
    obtain ⟨x, hx, h2⟩ := fo_s he (hK e he) h
    rw [fo_t hx]
    exact fo_mono hK hL k x (fo_lt he (hK e he) hL hx) h2
def fo_c (A : zI) (b k : Nat) : Nat := n_c (fun e => decide (f_fo A b k e = -2)) 16
theorem fo_c_le {k : Nat} : fo_c A b k ≤ 16 := n_c_le _ 16
theorem fo_c_lt {k e : Nat} (hm : ∀ e, e < 16 → f_fo A b (k + 1) e = -2 → f_fo A b k e = -2) (he : e < 16) (h1 : f_fo A b k e = -2) (h2 : ¬ f_fo A b (k + 1) e = -2) : fo_c A b (k + 1) < fo_c A b k := n_c_lt (f := fun e => decide (f_fo A b (k + 1) e = -2)) (g := fun e => decide (f_fo A b k e = -2)) (x := e) 16 (fun x hx hf => decide_eq_true (hm x hx (of_decide_eq_true hf))) he (decide_eq_true h1) (fun q => h2 (of_decide_eq_true q))
theorem fo_c_0 {k e : Nat} (h : fo_c A b k = 0) (he : e < 16) : ¬ f_fo A b k e = -2 := fun h1 => n_c_0 (f := fun e => decide (f_fo A b k e = -2)) (n := 16) h he (decide_eq_true h1)
theorem fo_u {e k : Nat} (h : fo_n A b e = none) : f_fo A b (k + 1 + 1) e = f_fo A b (k + 1) e := by
  have one : ∀ j, f_fo A b (j + 1) e = if f_wh A b e = true then (if f_lo A b e = true then (if A 9 (4 * e + (A (b + 16) e).toNatClampNeg) = -1 then nI (4 * e + (A (b + 16) e).toNatClampNeg) else f_fo A b j (pe A (4 * e + (A (b + 16) e).toNatClampNeg) / 4)) else -1) else -1 := fun j => by rw [f_fo]
  unfold fo_n at h
  split at h
  · cases h
  · rename_i h1
    rw [one (k + 1), one k]
    by_cases h2 : f_wh A b e = true
    · rw [if_pos h2, if_pos h2]
      by_cases h3 : f_lo A b e = true
      · rw [if_pos h3, if_pos h3]
        by_cases h4 : A 9 (4 * e + (A (b + 16) e).toNatClampNeg) = -1
        · rw [if_pos h4, if_pos h4]
        · exact absurd ⟨h2, h3, h4⟩ h1
      · rw [if_neg h3, if_neg h3]
    · rw [if_neg h2, if_neg h2]
theorem fo_st (hK : ∀ e, e < 16 → okK A b e) (hL : okL A) (k : Nat) : (∀ e, e < 16 → f_fo A b k e = -2 → f_fo A b (k + 1) e = -2) ∨ fo_c A b k + k ≤ 16 := by
  induction k with
  | zero =>
    right
    have h9 := fo_c_le (A := A) (b := b) (k := 0)
    rw [Nat.add_zero]
    exact h9
  | succ k ih =>
    have go : (∀ e, e < 16 → f_fo A b k e = -2 → f_fo A b (k + 1) e = -2) → ∀ e, e < 16 → f_fo A b (k + 1) e = -2 → f_fo A b (k + 1 + 1) e = -2 := by
      intro h e he h1
      obtain ⟨x, hx, h2⟩ := fo_s he (hK e he) h1
      rw [fo_t hx]
      exact h x (fo_lt he (hK e he) hL hx) h2
    rcases ih with h | h
    · exact Or.inl (go h)
    · by_cases hst : ∀ e, e < 16 → f_fo A b k e = -2 → f_fo A b (k + 1) e = -2
      · exact Or.inl (go hst)
      · right
        have : ∃ e, e < 16 ∧ f_fo A b k e = -2 ∧ ¬ f_fo A b (k + 1) e = -2 := by
          apply Classical.byContradiction
          intro hn
          apply hst
          intro e he h1
          apply Classical.byContradiction
          intro h2
          exact hn ⟨e, he, h1, h2⟩
        obtain ⟨e, he, h1, h2⟩ := this
        have h9 := fo_c_lt (fo_mono hK hL k) he h1 h2
        omega
theorem fo_17 (hK : ∀ e, e < 16 → okK A b e) (hL : okL A) {e : Nat} (he : e < 16) : (f_fo A b 16 e = -2 ↔ f_fo A b 17 e = -2) ∧ (¬ f_fo A b 16 e = -2 → f_fo A b 17 e = f_fo A b 16 e) := by
  have hst : ∀ e, e < 16 → f_fo A b 16 e = -2 → f_fo A b 17 e = -2 := by
    rcases fo_st hK hL 16 with h | h
    · exact h
    · intro e he h1
      exact absurd h1 (fo_c_0 (by omega) he)
  refine ⟨⟨hst e he, fo_mono hK hL 16 e he⟩, ?_⟩
  have key : ∀ k e, e < 16 → ¬ f_fo A b k e = -2 → f_fo A b (k + 1) e = f_fo A b k e := by
    intro k
    induction k with
    | zero => intro e _ h; exact absurd rfl h
    | succ k ih =>
      intro e he h
      cases hn : fo_n A b e with
      | some x =>
        rw [fo_t hn] at h ⊢
        rw [fo_t hn]
        exact ih x (fo_lt he (hK e he) hL hn) h
      | none => exact fo_u hn
  exact key 16 e he
/-- following comes to the same end -/
theorem A_traced {e : Nat} (hP : RP A B) (hL : RL A B m) (hF : RF 16 A JA B r) (he : e < 16) : (if f_fo A 16 16 e = -2 then -1 else f_fo A 16 16 e) = (if 16 ≤ m_tr B 17 (nI e) then m_tr B 17 (nI e) - 16 else -1) := by
  obtain ⟨h1, h2⟩ := fo_17 (okK_R hF) (okL_R hP hL) he
  have e16 : (16 : Int32) = nI 16 := rfl
  rcases fo_tr (e := e) hP hL hF 17 e he with ⟨t1, x, hx, t2⟩ | ⟨t1, t2⟩ | ⟨s, hs, t1, t2⟩
  · rw [if_pos (h1.mpr t1), t2, if_neg]
    rw [e16, nI_leI (by omega) (by omega)]; omega
  · have hn : ¬ f_fo A 16 16 e = -2 := fun q => by rw [h1.mp q] at t1; exact absurd t1 (by decide)
    rw [if_neg hn, ← h2 hn, t1, t2]
    decide
  · have hn : ¬ f_fo A 16 16 e = -2 := fun q => by
      rw [h1.mp q] at t1
      have h9 := congrArg Int32.toInt t1
      rw [nI_toInt (by omega)] at h9
      have : (-2 : Int32).toInt = -2 := by decide
      omega
    rw [if_neg hn, ← h2 hn, t1, t2, if_pos, e16, pk_sub (by omega), show 16 + s - 16 = s by omega]
    rw [e16, nI_leI (by omega) (by omega)]; omega
theorem A_lo1 {e : Nat} (hP : RP A B) (hL : RL A B m) (hF : RF 16 A JA B r) (he : e < 16) : decide (f_fo A 16 16 e = -2) = (decide (¬ m_tr B 17 (nI e) < 0) && decide (¬ 16 ≤ m_tr B 17 (nI e))) := by
  obtain ⟨h1, h2⟩ := fo_17 (okK_R hF) (okL_R hP hL) he
  have e16 : (16 : Int32) = nI 16 := rfl
  rcases fo_tr (e := e) hP hL hF 17 e he with ⟨t1, x, hx, t2⟩ | ⟨t1, t2⟩ | ⟨s, hs, t1, t2⟩
  · rw [decide_eq_true (h1.mpr t1), t2, decide_eq_true (nI_pos (by omega)), decide_eq_true]
    · rfl
    · rw [e16, nI_leI (by omega) (by omega)]; omega
  · have hn : ¬ f_fo A 16 16 e = -2 := fun q => by rw [h1.mp q] at t1; exact absurd t1 (by decide)
    rw [decide_eq_false hn, t2]
    decide
  · have hn : ¬ f_fo A 16 16 e = -2 := fun q => by
      rw [h1.mp q] at t1
      have h9 := congrArg Int32.toInt t1
      rw [nI_toInt (by omega)] at h9
      have : (-2 : Int32).toInt = -2 := by decide
      omega
    have hge : (16 : Int32) ≤ nI (16 + s) := by rw [e16, nI_leI (by omega) (by omega)]; omega
    rw [decide_eq_false hn, t2, d_n hge, Bool.and_false]
theorem A_loop (hP : RP A B) (hL : RL A B m) (hF : RF 16 A JA B r) : ∀ n, n ≤ 16 → c_lo A n = m_lf B n
  | 0, _ => rfl
  | n + 1, hn => by
    unfold c_lo m_lf
    rw [A_loop hP hL hF n (by omega), A_lo1 hP hL hF (by omega)]
end R20
