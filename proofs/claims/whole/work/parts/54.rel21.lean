/-! What is reached. -/
section R21
variable {A B : zI} {JA JB : zJ} {b m r : Nat}
theorem on_eq {l : Nat} (hP : RP A B) (hL : RL A B m) (hF : RF b A JA B r) (hl : l < m) : m_e1 B l = fe A l / 4 ∧ m_e2 B l = pe A (fe A l) / 4 ∧ fe A l < 64 ∧ pe A (fe A l) < 64 ∧ f_on A b l = m_on B l := by
  obtain ⟨x, y, hx, hy, hxy, e77, e78, e15, h9x, h9y, h10x, efe, epe⟩ := RL_fe hL hl
  have h24 := hL.m24
  have e1 : m_e1 B l = x / 4 := by unfold m_e1; rw [e77, nI_clamp (by omega)]
  have e2 : m_e2 B l = y / 4 := by unfold m_e2; rw [e78, nI_clamp (by omega)]
  rw [efe, epe]
  refine ⟨e1, e2, hx, hy, ?_⟩
  unfold f_on m_on f_lw
  rw [efe, epe, e1, e2, RF_wh hP hF (by omega), RF_wh hP hF (by omega), hF.fl l (by omega), Bool.and_assoc]
def w_1 (B : zI) (z k : Nat) : Nat := if m_on B k = true ∧ (z.testBit (m_e1 B k) = true ∨ z.testBit (m_e2 B k) = true) then 2 ^ m_e1 B k ||| 2 ^ m_e2 B k else 0
def w_s (B : zI) (z : Nat) : Nat → Nat
  | 0 => z
  | k + 1 => w_s B z k ||| w_1 B z k
theorem nI_and (x y : Nat) : nI x &&& nI y = nI (x &&& y) := by
  apply Int32.toBitVec_inj.mp
  show BitVec.ofNat 32 x &&& BitVec.ofNat 32 y = BitVec.ofNat 32 (x &&& y)
  exact BitVec.ofNat_and.symm
theorem and_pw {z a c : Nat} : (z &&& (2 ^ a ||| 2 ^ c) = 0) ↔ ¬ (z.testBit a = true ∨ z.testBit c = true) := by
  constructor
  · intro h q
    rcases q with q | q
    · have h1 := congrArg (fun t => Nat.testBit t a) h
      simp [q] at h1
    · have h1 := congrArg (fun t => Nat.testBit t c) h
      simp [q] at h1
  · intro h
    apply Nat.eq_of_testBit_eq
    intro i
    rw [Nat.testBit_and, Nat.testBit_or, Nat.testBit_two_pow, Nat.testBit_two_pow, Nat.zero_testBit]
    by_cases ha : a = i
    · subst ha
      have : z.testBit a = false := by
        cases hz : z.testBit a with
        | false => rfl
        | true => exact absurd (Or.inl hz) h
      rw [this, Bool.false_and]
    · by_cases hc : c = i
      · subst hc
        have : z.testBit c = false := by
          cases hz : z.testBit c with
          | false => rfl
          | true => exact absurd (Or.inr hz) h
        rw [this, Bool.false_and]
      · simp [ha, hc]
theorem w_1_lt {z k : Nat} (h1 : m_e1 B k < 16) (h2 : m_e2 B k < 16) : w_1 B z k < 2 ^ 16 := by
  unfold w_1
  split
  · exact Nat.or_lt_two_pow (Nat.pow_lt_pow_right (by decide) h1) (Nat.pow_lt_pow_right (by decide) h2)
  · exact Nat.two_pow_pos 16
theorem w_s_lt {z : Nat} (hE : okME B m) (hz : z < 2 ^ 16) : ∀ k, k ≤ m → w_s B z k < 2 ^ 16
  | 0, _ => hz
  | k + 1, hk => Nat.or_lt_two_pow (w_s_lt hE hz k (by omega)) (w_1_lt (okME_e hE (by omega)).1 (okME_e hE (by omega)).2)
theorem ac_eq {z k : Nat} (hP : RP A B) (hL : RL A B m) (hF : RF b A JA B r) (hz : z < 2 ^ 16) (hk : k < m) : f_ac A b k (nI z) = nI (w_1 B z k) := by
  obtain ⟨e1, e2, f1, f2, eo⟩ := on_eq hP hL hF hk
  have een : f_ends A k = nI (2 ^ m_e1 B k ||| 2 ^ m_e2 B k) := by
    unfold f_ends
    rw [b_one (by omega), b_one (by omega), nI_or, e1, e2]
  have hlt : 2 ^ m_e1 B k ||| 2 ^ m_e2 B k < 2 ^ 16 := Nat.or_lt_two_pow (Nat.pow_lt_pow_right (by decide) (by omega)) (Nat.pow_lt_pow_right (by decide) (by omega))
  unfold f_ac w_1
  rw [eo, een, nI_and]
  have hz2 : z &&& (2 ^ m_e1 B k ||| 2 ^ m_e2 B k) < 2 ^ 16 := Nat.and_lt_two_pow _ hlt
  have h0 : (nI (z &&& (2 ^ m_e1 B k ||| 2 ^ m_e2 B k)) = 0) ↔ (z &&& (2 ^ m_e1 B k ||| 2 ^ m_e2 B k) = 0) := by
    rw [show (0 : Int32) = nI 0 from rfl]
    exact nI_eq (Nat.lt_trans hz2 (by decide)) (by decide)
  cases ho : m_on B k with
  | false => simp; rfl
  | true =>
    rw [if_pos rfl]
    by_cases hq : z.testBit (m_e1 B k) = true ∨ z.testBit (m_e2 B k) = true
    · rw [if_neg (fun h => and_pw.mp (h0.mp h) hq), if_pos ⟨rfl, hq⟩]
    · rw [if_pos (h0.mpr (and_pw.mpr hq)), if_neg (fun h => hq h.2)]
      rfl
theorem wi_eq {z : Nat} (hP : RP A B) (hL : RL A B m) (hF : RF b A JA B r) (hz : z < 2 ^ 16) : ∀ k, k ≤ m → f_wi A b (nI z) k = nI (w_s B z k)
  | 0, _ => rfl
  | k + 1, hk => by
    unfold f_wi w_s
    rw [wi_eq hP hL hF hz k (by omega), ac_eq hP hL hF hz (by omega), nI_or]
theorem w_s_up {z i : Nat} (h : z.testBit i = true) : ∀ k, (w_s B z k).testBit i = true
  | 0 => h
  | k + 1 => by
    unfold w_s
    rw [Nat.testBit_or, w_s_up h k, Bool.true_or]
theorem w_s_in {z i l : Nat} (h : (w_1 B z l).testBit i = true) : ∀ k, l < k → (w_s B z k).testBit i = true
  | 0, hl => absurd hl (by omega)
  | k + 1, hl => by
    unfold w_s
    rw [Nat.testBit_or]
    by_cases hk : l = k
    · rw [← hk, h, Bool.or_true]
    · rw [w_s_in h k (by omega), Bool.true_or]
theorem w_s_sub {z y : Nat} (h : m_sub z y) (hy : m_cl B m y) : ∀ k, k ≤ m → m_sub (w_s B z k) y
  | 0, _ => h
  | k + 1, hk => by
    intro i hi
    unfold w_s at hi
    rw [Nat.testBit_or, Bool.or_eq_true] at hi
    rcases hi with hi | hi
    · exact w_s_sub h hy k (by omega) i hi
    · unfold w_1 at hi
      split at hi
      · rename_i hc
        have hc2 : m_on B k = true ∧ (y.testBit (m_e1 B k) = true ∨ y.testBit (m_e2 B k) = true) := ⟨hc.1, hc.2.elim (fun q => Or.inl (h _ q)) (fun q => Or.inr (h _ q))⟩
        have hy2 := hy k (by omega)
        unfold m_p1 at hy2
        rw [if_pos hc2] at hy2
        rw [← hy2]
        rw [Nat.testBit_or, Bool.or_eq_true] at hi
        rw [Nat.testBit_or, Nat.testBit_or]
        rcases hi with hi | hi
        · rw [hi]; simp
        · rw [hi]; simp
      · rw [Nat.zero_testBit] at hi; cases hi
theorem w_s_cl {z : Nat} (h : w_s B z m = z) : m_cl B m z := by
  intro k hk
  unfold m_p1
  split
  · rename_i hc
    apply Nat.eq_of_testBit_eq
    intro i
    rw [Nat.testBit_or, Nat.testBit_or]
    cases hz : z.testBit i with
    | true => simp
    | false =>
      rw [Bool.false_or]
      cases hq : (2 ^ m_e1 B k).testBit i || (2 ^ m_e2 B k).testBit i with
      | false => rfl
      | true =>
        have h1 : (w_1 B z k).testBit i = true := by
          unfold w_1
          rw [if_pos hc, Nat.testBit_or]
          exact hq
        have h2 := w_s_in h1 m hk
        rw [h, hz] at h2
        cases h2
  · rfl
theorem n_bits {z w : Nat} (hz : z < 2 ^ 16) (hw : w < 2 ^ 16) (hs : m_sub z w) (hne : ¬ w = z) : n_c z.testBit 16 < n_c w.testBit 16 := by
  have : ∃ i, i < 16 ∧ w.testBit i = true ∧ ¬ z.testBit i = true := by
    apply Classical.byContradiction
    intro hn
    apply hne
    refine m_sub_anti (fun i hi => ?_) hs
    by_cases hi16 : i < 16
    · apply Classical.byContradiction
      intro h
      exact hn ⟨i, hi16, hi, h⟩
    · have : w.testBit i = false := Nat.testBit_lt_two_pow (Nat.lt_of_lt_of_le hw (Nat.pow_le_pow_right (by decide) (by omega)))
      rw [this] at hi
      cases hi
  obtain ⟨i, hi, h1, h2⟩ := this
  exact n_c_lt 16 (fun x _ hx => hs x hx) hi h1 h2
theorem rf_eq' {e : Nat} (hP : RP A B) (hL : RL A B m) (hF : RF b A JA B r) (k : Nat) : ∀ z, z < 2 ^ 16 → z.testBit e = true → (∀ y, y.testBit e = true → m_cl B m y → m_sub z y) → 17 ≤ n_c z.testBit 16 + k → ∃ x, f_rf A b m k (nI z) = nI x ∧ m_rP B m e x := by
  have hE := okME_R hP hL
  induction k with
  | zero =>
    intro z hz he hm hc
    have h9 := n_c_le z.testBit 16
    exact absurd hc (by omega)
  | succ k ih =>
    intro z hz he hm hc
    unfold f_rf
    rw [wi_eq hP hL hF hz m (Nat.le_refl _)]
    have hwl := w_s_lt hE hz m (Nat.le_refl _)
    by_cases hw : w_s B z m = z
    · rw [if_pos (by rw [hw])]
      exact ⟨z, rfl, hz, he, w_s_cl hw, hm⟩
    · rw [if_neg (by rw [nI_eq (Nat.lt_trans hwl (by decide)) (Nat.lt_trans hz (by decide))]; exact hw)]
      have h9 := n_bits hz hwl (fun i hi => w_s_up hi m) hw
      exact ih _ hwl (w_s_up he m) (fun y h1 h2 => w_s_sub (hm y h1 h2) h2 m (Nat.le_refl _)) (by omega)
theorem rch_eq {e : Nat} (hP : RP A B) (hL : RL A B m) (hF : RF b A JA B r) (he : e < 16) : ∃ x, f_rch A b m e = nI x ∧ m_rP B m e x := by
  unfold f_rch
  rw [b_one (by omega)]
  refine rf_eq' hP hL hF 16 (2 ^ e) (Nat.pow_lt_pow_right (by decide) he) Nat.testBit_two_pow_self (fun y h1 _ i hi => ?_) ?_
  · rw [Nat.testBit_two_pow] at hi
    have h2 : e = i := by simpa using hi
    rw [← h2]
    exact h1
  · have h9 := n_c_lt (f := fun _ => false) (g := (2 ^ e).testBit) (x := e) 16 (fun _ _ q => by cases q) he Nat.testBit_two_pow_self (by decide)
    omega
theorem bs_eq {x : Nat} (hP : RP A B) (hL : RL A B m) (hx : x < 2 ^ 16) : ∀ i, i ≤ 64 → f_bs A (nI x) i = m_bs B x i
  | 0, _ => rfl
  | i + 1, hi => by
    have ih := bs_eq hP hL hx i (by omega)
    have hlt := R11_lt hL (s := i) (by omega)
    have hbit : (f_bit (nI x) (nI (i / 4)) = 1) ↔ (x.testBit (i / 4) = true) := by
      rw [b_get (Nat.lt_trans hx (by decide)) (by omega), show (1 : Int32) = nI 1 from rfl, nI_eq (by omega) (by decide), b_tb]
    unfold f_bs m_bs p_so
    rw [ih, ← hP.p11]
    by_cases h1 : x.testBit (i / 4) = true
    · rw [if_pos (hbit.mpr h1)]
      by_cases h2 : A 11 i = -1
      · rw [if_neg (by simp [h2]), if_neg (fun q => q.2.1 (hlt.mpr h2))]
      · rw [if_pos (by simp [h2])]
        by_cases h3 : A 11 i < m_bs B x i
        · rw [if_pos h3, if_pos ⟨h1, fun q => h2 (hlt.mp q), h3⟩]
        · rw [if_neg h3, if_neg (fun q => h3 q.2.2)]
    · rw [if_neg (fun q => h1 (hbit.mp q)), if_neg (fun q => h1 q.1)]
theorem br_eq {e x : Nat} (hP : RP A B) (hL : RL A B m) (hF : RF b A JA B r) (he : e < 16) (hx : m_rP B m e x) : f_br A b m e = m_bf B e x := by
  obtain ⟨y, hy, hy2⟩ := rch_eq hP hL hF he
  have : y = x := m_rP_un hy2 hx
  subst this
  unfold f_br m_bf
  rw [RF_wh hP hF he, hy, bs_eq hP hL hy2.1 64 (Nat.le_refl _)]
end R21
