/-! A round of the reference, all of it. -/
theorem own_ne {e i k : Nat} (he : e < 16) (hi : i < 16) (h : r_own i k) (hn : e ≠ i) : ¬ r_own e k := by
  unfold r_own at h ⊢
  rintro (q | q | q | q | q | q | ⟨x, hx, q⟩) <;> rcases h with w | w | w | w | w | w | ⟨y, hy, w⟩ <;> omega
theorem own_out {e k : Nat} (he : e < 16) (h : k < 448 ∨ (576 ≤ k ∧ k < 608) ∨ 640 ≤ k) : ¬ r_own e k := by
  unfold r_own
  rintro (q | q | q | q | q | q | ⟨x, hx, q⟩) <;> omega
theorem ceq_v {X M : zI} {e : Nat} (he : e < 16) (hQ : okQ (M 70 e) ∧ okQ (M 71 e)) (hA : ∀ s, s < 64 → ¬ M 74 s < 0 → (m_ax M (m_lk M s) s).toNatClampNeg < 64) (h : c_eq X M e) :
    r_st X e = r_st M e ∧ r_ev X e = r_ev M e ∧ r_ho X e = r_ho M e ∧ r_qu X e = r_qu M e ∧ r_of X e = r_of M e ∧ (∀ p, p < 4 → r_u X (4 * e + p) = r_u M (4 * e + p)) ∧ ∀ i j, r_f j X e (r_k X e) (r_lk X e) i = r_f j M e (r_k M e) (r_lk M e) i := by
  have hk := ceq_k he hQ.2 h
  have hl := ceq_lk he hQ h
  have hs : r_s X e = r_s M e := by unfold r_s; rw [hk]
  have hlt : r_s M e < 64 := by
    unfold r_s
    cases hk : r_k M e with
    | none => show 4 * e + 0 < 64; omega
    | some k => have := rk_lt hQ hk; show 4 * e + k < 64; omega
  have hev : X 79 (544 + e) = M 79 (544 + e) := h.2.2 _ (by unfold r_own; simp)
  have hst : r_st X e = r_st M e := by unfold r_st; rw [hl, hev]
  have hho : m_ho X (r_s M e) = m_ho M (r_s M e) := by unfold m_ho; rw [h.1 72 (by decide) (by decide), h.2.1 (64 + r_s M e) (by omega)]
  have hqu : m_qu X (r_s M e) = m_qu M (r_s M e) := by unfold m_qu; rw [h.1 72 (by decide) (by decide), h.2.1 (r_s M e) (by omega)]
  refine ⟨hst, ?_, ?_, ?_, ?_, fun p hp => ?_, fun i j => ?_⟩
  · unfold r_ev; rw [hl, hev]
  · unfold r_ho; rw [hl, hs, hho]
  · unfold r_qu; rw [hl, hs, hqu]
  · unfold r_of
    have ax : m_ax X (m_lk X (r_s M e)) (r_s M e) = m_ax M (m_lk M (r_s M e)) (r_s M e) := by
      unfold m_ax m_lk
      rw [h.1 74 (by decide) (by decide), h.1 77 (by decide) (by decide), h.1 78 (by decide) (by decide)]
    rw [hl, hs, hst, ax, h.1 72 (by decide) (by decide), h.1 73 (by decide) (by decide), h.1 68 (by decide) (by decide), h.1 67 (by decide) (by decide), h.2.2 (560 + e) (by unfold r_own; simp)]
    cases hlk : r_lk M e with
    | false => rfl
    | true =>
      rw [if_pos rfl, if_pos rfl]
      by_cases hq : M 72 (r_s M e) < 0
      · have hlink : ¬ M 74 (r_s M e) < 0 := by
          obtain ⟨k, hk9, h2, -⟩ := cs_t hlk
          have e9 : r_s M e = 4 * e + k := by unfold r_s; rw [hk9]; rfl
          rw [e9] at hq ⊢
          exact m_lk_link he (rk_lt hQ hk9) h2 hq
        have ho := hA (r_s M e) hlt hlink
        rw [if_pos hq, if_pos hq, h.2.1 _ (by omega)]
      · rw [if_neg hq, if_neg hq]
  · have h1 := ceq_C he h p hp
    rw [rC_u he hp, rC_u he hp] at h1
    exact h1
  · rw [hk, hl]
    unfold r_f m_q0 m_h0 m_t0
    have hs2 : 4 * e + (r_k M e).getD 0 = r_s M e := rfl
    rw [hs2, hho, hqu, h.1 74 (by decide) (by decide), h.1 72 (by decide) (by decide), h.1 66 (by decide) (by decide), h.2.1 (128 + r_s M e) (by omega)]
def E2 (n : Nat) (X M : zI) : Prop := (∀ c, c ≠ 79 → c ≠ 83 → X c = M c) ∧ (∀ k, (k < 448 ∨ (576 ≤ k ∧ k < 608) ∨ 640 ≤ k) → X 79 k = M 79 k) ∧
  (∀ e, e < 16 → e < n → m_wh M e = true → X 79 (512 + e) = r_st M e ∧ X 79 (528 + e) = zO (r_k M e) ∧ X 79 (544 + e) = r_ev M e ∧ X 79 (608 + e) = r_ho M e ∧ X 79 (624 + e) = r_qu M e ∧ X 79 (560 + e) = r_of M e ∧ (∀ p, p < 4 → X 79 (448 + (4 * e + p)) = r_u M (4 * e + p)) ∧ ∀ i j, i < 4 → j < 3 → X 83 (64 * j + (4 * e + i)) = r_f j M e (r_k M e) (r_lk M e) i) ∧
  (∀ e, e < 16 → (n ≤ e ∨ m_wh M e = false) → (∀ k, r_own e k → X 79 k = M 79 k) ∧ ∀ i j, i < 4 → j < 3 → X 83 (64 * j + (4 * e + i)) = M 83 (64 * j + (4 * e + i)))
theorem E2_wh {n e : Nat} {X M : zI} (h : E2 n X M) : m_wh X e = m_wh M e := by
  unfold m_wh
  rw [h.1 65 (by decide) (by decide), h.2.1 (672 + e) (by omega)]
theorem E2_s {n : Nat} {X M : zI} (hn : n < 16) (hQ : okQ (M 70 n) ∧ okQ (M 71 n)) (hA : ∀ s, s < 64 → ¬ M 74 s < 0 → (m_ax M (m_lk M s) s).toNatClampNeg < 64) (hw : m_wh M n = true) (h : E2 n X M) : E2 (n + 1) (m_cs X n) M := by
  have hc : c_eq X M n := ⟨h.1, h.2.1, (h.2.2.2 n hn (Or.inl (Nat.le_refl _))).1⟩
  have hQX : okQ (X 70 n) ∧ okQ (X 71 n) := by rw [h.1 70 (by decide) (by decide), h.1 71 (by decide) (by decide)]; exact hQ
  have hAX : ∀ s, s < 64 → ¬ X 74 s < 0 → (m_ax X (m_lk X s) s).toNatClampNeg < 64 := by
    unfold m_ax m_lk
    rw [h.1 74 (by decide) (by decide), h.1 77 (by decide) (by decide), h.1 78 (by decide) (by decide)]
    exact hA
  obtain ⟨q1, q2, q3, q4, q5, q6, q7⟩ := ceq_v hn hQ hA hc
  have hk := ceq_k hn hQ.2 hc
  refine ⟨fun c h1 h2 => ?_, fun k hk => ?_, fun e he hen hwe => ?_, fun e he hen => ?_⟩
  · funext k
    rw [cs_n h2 (Or.inl h1), h.1 c h1 h2]
  · rw [cs_n (by decide) (Or.inr (own_out hn hk)), h.2.1 k hk]
  · by_cases hx : e = n
    · subst hx
      obtain ⟨v1, v2, v3, v4, v5, v6, v7⟩ := cs_v he hQX hAX
      refine ⟨v1.trans q1, v2.trans (by rw [hk]), v3.trans q2, v4.trans q3, v5.trans q4, v6.trans q5, fun p hp => (v7 p hp).trans (q6 p hp), fun i j hi hj => (cs_fr he hQX hi hj).trans (q7 i j)⟩
    · obtain ⟨g1, g2, g3, g4, g5, g6, g7, g8⟩ := h.2.2.1 e he (by omega) hwe
      have nn : ∀ k, r_own e k → m_cs X n 79 k = X 79 k := fun k hk => cs_n (by decide) (Or.inr (own_ne hn he hk (by omega)))
      refine ⟨(nn _ (by unfold r_own; simp)).trans g1, (nn _ (by unfold r_own; simp)).trans g2, (nn _ (by unfold r_own; simp)).trans g3, (nn _ (by unfold r_own; simp)).trans g4, (nn _ (by unfold r_own; simp)).trans g5, (nn _ (by unfold r_own; simp)).trans g6, fun p hp => (nn _ (by unfold r_own; exact Or.inr (Or.inr (Or.inr (Or.inr (Or.inr (Or.inr ⟨p, hp, rfl⟩))))))).trans (g7 p hp), fun i j hi hj => ?_⟩
      rw [cs_fn hn (fun i2 j2 h1 h2 => by omega), g8 i j hi hj]
  · have hx : e ≠ n := by
      rintro rfl
      rcases hen with q | q
      · omega
      · rw [hw] at q; cases q
    obtain ⟨g1, g2⟩ := h.2.2.2 e he (hen.imp (by omega) id)
    refine ⟨fun k hk => ?_, fun i j hi hj => ?_⟩
    · rw [cs_n (by decide) (Or.inr (own_ne hn he hk (by omega))), g1 k hk]
    · rw [cs_fn hn (fun i2 j2 h1 h2 => by omega), g2 i j hi hj]
theorem E2_all {M : zI} (hQ : ∀ e, e < 16 → okQ (M 70 e) ∧ okQ (M 71 e)) (hA : ∀ s, s < 64 → ¬ M 74 s < 0 → (m_ax M (m_lk M s) s).toNatClampNeg < 64) : ∀ n, n ≤ 16 → E2 n (m_r2 M n) M
  | 0, _ => ⟨fun _ _ _ => rfl, fun _ _ => rfl, fun e _ h => absurd h (by omega), fun _ _ _ => ⟨fun _ _ => rfl, fun _ _ _ _ => rfl⟩⟩
  | n + 1, hn => by
    have ih := E2_all hQ hA n (by omega)
    unfold m_r2
    rw [E2_wh ih]
    by_cases hw : m_wh M n = true
    · rw [if_pos hw]
      exact E2_s (by omega) (hQ n (by omega)) hA hw ih
    · rw [if_neg hw]
      have hw : m_wh M n = false := by simpa using hw
      refine ⟨ih.1, ih.2.1, fun e he hen hwe => ?_, fun e he hen => ih.2.2.2 e he (hen.imp (by omega) id)⟩
      by_cases hx : e = n
      · subst hx; rw [hw] at hwe; cases hwe
      · exact ih.2.2.1 e he (by omega) hwe
theorem r3a_v {A : zI} {p j : Nat} (hp : p < 64) (hj : j < 3) : m_r3a A p 79 (256 + 64 * j + p) = A 83 (64 * j + p) := by
  unfold m_r3a
  try simp only
  have h : j = 0 ∨ j = 1 ∨ j = 2 := by omega
  rcases h with rfl | rfl | rfl
  · rw [zz_k (by omega), zz_k (by omega), show 256 + 64 * 0 + p = 256 + p by omega, zz_e, show 64 * 0 + p = p by omega]
  · rw [zz_k (by omega), show 256 + 64 * 1 + p = 320 + p by omega, zz_e, zz_c (by decide)]
  · rw [show 256 + 64 * 2 + p = 384 + p by omega, zz_e, zz_c (by decide), zz_c (by decide)]
theorem r3a_n {A : zI} {p c k : Nat} (h : c ≠ 79 ∨ ∀ j, j < 3 → k ≠ 256 + 64 * j + p) : m_r3a A p c k = A c k := by
  unfold m_r3a
  try simp only
  have h0 : c ≠ 79 ∨ k ≠ 256 + p := h.imp id (fun q => by have := q 0 (by decide); omega)
  have h1 : c ≠ 79 ∨ k ≠ 320 + p := h.imp id (fun q => by have := q 1 (by decide); omega)
  have h2 : c ≠ 79 ∨ k ≠ 384 + p := h.imp id (fun q => by have := q 2 (by decide); omega)
  rw [zz_n h2, zz_n h1, zz_n h0]
theorem r3_v {A : zI} {j : Nat} (hj : j < 3) : ∀ n p, n ≤ 64 → p < 64 → m_r3 A n 79 (256 + 64 * j + p) = if p < n then A 83 (64 * j + p) else A 79 (256 + 64 * j + p)
  | 0, p, _, _ => by
    rw [if_neg (by omega)]
    rfl
  | n + 1, p, hn, hp => by
    have ih := r3_v (A := A) hj n p (by omega) hp
    unfold m_r3
    by_cases hx : p = n
    · subst hx
      rw [r3a_v hp hj, fr_mr3 (by decide) p, if_pos (by omega)]
    · rw [r3a_n (Or.inr (fun i hi => by omega)), ih]
      by_cases h2 : p < n
      · rw [if_pos h2, if_pos (by omega)]
      · rw [if_neg h2, if_neg (by omega)]
theorem r3_n {A : zI} {k : Nat} (h : k < 256 ∨ 448 ≤ k) : ∀ n, n ≤ 64 → m_r3 A n 79 k = A 79 k
  | 0, _ => rfl
  | n + 1, hn => by
    unfold m_r3
    rw [r3a_n (Or.inr (fun i hi => by omega)), r3_n h n (by omega)]
theorem r4_v {A : zI} : ∀ n k, k < n → m_r4 A n 79 (712 + k) = 0
  | 0, k, h => absurd h (by omega)
  | n + 1, k, h => by
    unfold m_r4
    by_cases hx : k = n
    · rw [hx, zz_e]
    · rw [zz_k (by omega), r4_v n k (by omega)]
theorem r4_n {A : zI} {k : Nat} : ∀ n, (k < 712 ∨ 712 + n ≤ k) → m_r4 A n 79 k = A 79 k
  | 0, _ => rfl
  | n + 1, h => by
    unfold m_r4
    rw [zz_k (by omega), r4_n n (by omega)]
theorem ls_eq {α : Type} {a b : α} {e n : Nat} (h : e ≠ n) : (if e < n + 1 then a else b) = if e < n then a else b := by
  by_cases h2 : e < n
  · rw [if_pos h2, if_pos (by omega)]
  · rw [if_neg h2, if_neg (by omega)]
section R5
variable {A : zI}
theorem r5_n {k : Nat} : ∀ n, n ≤ 16 → (k < 576 ∨ (608 ≤ k ∧ k < 640) ∨ 672 ≤ k) → m_r5 A n 79 k = A 79 k
  | 0, _, _ => rfl
  | n + 1, hn, h => by
    unfold m_r5 m_r5b m_r5a
    try simp only
    rw [zz_k (by omega), zz_k (by omega), zz_k (by omega), zz_k (by omega), r5_n n (by omega) h]
theorem r5a_n {X : zI} {e k : Nat} (h : k ≠ 592 + e ∧ k ≠ 576 + e) : m_r5a X e 79 k = X 79 k := by
  unfold m_r5a
  try simp only
  rw [zz_k (by omega), zz_k (by omega)]
theorem so_eq {X : zI} {e : Nat} (h1 : X 79 (672 + e) = A 79 (672 + e)) (h2 : X 79 (512 + e) = A 79 (512 + e)) : m_so X e = m_so A e := by
  unfold m_so
  rw [h1, h2]
theorem po_eq {X : zI} {e : Nat} (h1 : X 79 (672 + e) = A 79 (672 + e)) (h2 : X 79 (528 + e) = A 79 (528 + e)) : m_po X e = m_po A e := by
  unfold m_po
  rw [h1, h2]
theorem r5_so {n : Nat} (hn : n < 16) : m_so (m_r5a (m_r5 A n) n) n = m_so A n ∧ m_po (m_r5a (m_r5 A n) n) n = m_po A n := by
  refine ⟨so_eq ?_ ?_, po_eq ?_ ?_⟩ <;> rw [r5a_n (by omega), r5_n n (by omega) (by omega)]
theorem r5_v {e : Nat} (he : e < 16) : ∀ n, n ≤ 16 → m_r5 A n 79 (592 + e) = (if e < n then A 79 (576 + e) else A 79 (592 + e)) ∧ m_r5 A n 79 (576 + e) = (if e < n then A 79 (560 + e) else A 79 (576 + e)) ∧ m_r5 A n 79 (640 + e) = (if e < n then m_so A e else A 79 (640 + e)) ∧ m_r5 A n 79 (656 + e) = (if e < n then m_po A e else A 79 (656 + e))
  | 0, _ => by
    rw [if_neg (by omega), if_neg (by omega), if_neg (by omega), if_neg (by omega)]
    exact ⟨rfl, rfl, rfl, rfl⟩
  | n + 1, hn => by
    obtain ⟨i1, i2, i3, i4⟩ := r5_v he n (by omega)
    obtain ⟨s1, s2⟩ := r5_so (A := A) (n := n) (by omega)
    have q560 : m_r5 A n 79 (560 + e) = A 79 (560 + e) := r5_n n (by omega) (by omega)
    by_cases hx : e = n
    · subst hx
      rw [if_neg (by omega)] at i1 i2 i3 i4
      rw [if_pos (by omega), if_pos (by omega), if_pos (by omega), if_pos (by omega)]
      unfold m_r5 m_r5b
      refine ⟨?_, ?_, ?_, ?_⟩
      · rw [zz_k (by omega), zz_k (by omega)]
        unfold m_r5a
        try simp only
        rw [zz_k (by omega), zz_e, i2]
      · rw [zz_k (by omega), zz_k (by omega)]
        unfold m_r5a
        try simp only
        rw [zz_e, zz_k (by omega), q560]
      · rw [zz_k (by omega), zz_e, s1]
      · rw [zz_e, s2]
    · rw [ls_eq hx, ls_eq hx, ls_eq hx, ls_eq hx]
      unfold m_r5 m_r5b
      refine ⟨?_, ?_, ?_, ?_⟩
      · rw [zz_k (by omega), zz_k (by omega), r5a_n (by omega), i1]
      · rw [zz_k (by omega), zz_k (by omega), r5a_n (by omega), i2]
      · rw [zz_k (by omega), zz_k (by omega), r5a_n (by omega), i3]
      · rw [zz_k (by omega), zz_k (by omega), r5a_n (by omega), i4]
theorem r5s_v : ∀ n, n ≤ 16 → (m_r5s A n = true ↔ ∀ e, e < n → m_so A e = A 79 (640 + e) ∧ m_po A e = A 79 (656 + e))
  | 0, _ => ⟨fun _ e h => absurd h (by omega), fun _ => rfl⟩
  | n + 1, hn => by
    have ih := r5s_v n (by omega)
    obtain ⟨s1, s2⟩ := r5_so (A := A) (n := n) (by omega)
    obtain ⟨i1, i2, i3, i4⟩ := r5_v (A := A) (e := n) (by omega) n (by omega)
    rw [if_neg (by omega)] at i3 i4
    unfold m_r5s
    rw [s1, s2, r5a_n (by omega), r5a_n (by omega), i3, i4]
    simp only [Bool.and_eq_true, decide_eq_true_eq, ih]
    constructor
    · rintro ⟨h, h2⟩ e he
      by_cases hx : e = n
      · rw [hx]; exact h2
      · exact h e (by omega)
    · intro h
      exact ⟨fun e he => h e (by omega), h n (by omega)⟩
theorem r5J_v {J : zJ} {e : Nat} : ∀ n, n ≤ 16 → m_r5J A J n 81 e = if e < n then (if m_wh A e = true then J 81 e + (A 79 (560 + e)).toInt64 else J 81 e) else J 81 e
  | 0, _ => by
    rw [if_neg (by omega)]
    rfl
  | n + 1, hn => by
    have ih := r5J_v (J := J) (e := e) n (by omega)
    have hw : m_wh (m_r5 A n) n = m_wh A n := by
      unfold m_wh
      rw [fr_mr5 (by decide) n, r5_n n (by omega) (by omega)]
    have ho : m_r5 A n 79 (560 + n) = A 79 (560 + n) := r5_n n (by omega) (by omega)
    unfold m_r5J
    rw [hw, ho]
    by_cases hx : e = n
    · subst hx
      rw [if_neg (Nat.lt_irrefl _)] at ih
      rw [if_pos (Nat.lt_succ_self _)]
      split
      · rw [zupL_same]
        simp [vp_updL, ih]
      · exact ih
    · rw [ls_eq hx, ← ih]
      split
      · rw [zupL_same]
        simp [vp_updL, hx]
      · rfl
theorem r5J_n {J : zJ} {c : Nat} (h : c ≠ 81) : ∀ n, m_r5J A J n c = J c
  | 0 => rfl
  | n + 1 => by
    unfold m_r5J
    split
    · rw [zupL_ne h, r5J_n h n]
    · exact r5J_n h n
end R5
