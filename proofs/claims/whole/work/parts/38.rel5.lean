/-! A round of the reference: the cells of an element behind its choice. -/
def r_s (M : zI) (e : Nat) : Nat := 4 * e + (r_k M e).getD 0
def r_st (M : zI) (e : Nat) : Int32 := if r_lk M e = true then 1 else if M 79 (544 + e) = 1 then 2 else 0
def r_ev (M : zI) (e : Nat) : Int32 := if r_lk M e = true then 1 else M 79 (544 + e)
def r_ho (M : zI) (e : Nat) : Int32 := if r_lk M e = true then m_ho M (r_s M e) else -1
def r_qu (M : zI) (e : Nat) : Int32 := if r_lk M e = true then m_qu M (r_s M e) else -1
def r_of (M : zI) (e : Nat) : Int32 := if r_lk M e = true then (if M 72 (r_s M e) < 0 then M 79 (592 + (m_ax M (m_lk M (r_s M e)) (r_s M e)).toNatClampNeg / 4) else M 73 (r_s M e)) else if r_st M e = 2 then M 79 (560 + e) + M 68 e else M 67 e
section CS
variable {M : zI} {e : Nat}
theorem mho_C {s : Nat} (hs : s < 64) : m_ho (r_C M e) s = m_ho M s := by
  unfold m_ho
  rw [rC_n (c := 72) (Or.inl (by decide)), rC_n (c := 79) (Or.inr (fun q hq => by omega))]
theorem mqu_C {s : Nat} (hs : s < 64) : m_qu (r_C M e) s = m_qu M s := by
  unfold m_qu
  rw [rC_n (c := 72) (Or.inl (by decide)), rC_n (c := 79) (Or.inr (fun q hq => by omega))]
theorem rC_c {c : Nat} (h : c ≠ 79) : r_C M e c = M c := by
  funext k
  exact rC_n (Or.inl h)
theorem s0_v {Y : zI} {r : Option Nat} (he : e < 16) : m_s0 Y e r 79 (528 + e) = zO r ∧ m_s0 Y e r 79 (512 + e) = (if Y 79 (544 + e) = 1 then 2 else 0) ∧ m_s0 Y e r 79 (608 + e) = -1 ∧ m_s0 Y e r 79 (624 + e) = -1 := by
  unfold m_s0
  try simp only
  refine ⟨?_, ?_, ?_, ?_⟩
  · rw [zz_k (by omega), zz_k (by omega), zz_k (by omega), zz_e]
  · rw [zz_k (by omega), zz_k (by omega), zz_e, zz_k (by omega)]
  · rw [zz_k (by omega), zz_e]
  · rw [zz_e]
theorem s0_n {Y : zI} {r : Option Nat} {c k : Nat} (h : c ≠ 79 ∨ (k ≠ 528 + e ∧ k ≠ 512 + e ∧ k ≠ 608 + e ∧ k ≠ 624 + e)) : m_s0 Y e r c k = Y c k := by
  unfold m_s0
  try simp only
  rw [zz_n (by omega), zz_n (by omega), zz_n (by omega), zz_n (by omega)]
theorem s1_v {Y : zI} {k : Nat} (he : e < 16) (hk : k < 4) : m_s1 Y e k 79 (528 + e) = nI k ∧ m_s1 Y e k 79 (512 + e) = 1 ∧ m_s1 Y e k 79 (544 + e) = 1 ∧ m_s1 Y e k 79 (608 + e) = m_ho Y (4 * e + k) ∧ m_s1 Y e k 79 (624 + e) = m_qu Y (4 * e + k) := by
  unfold m_s1
  try simp only
  refine ⟨?_, ?_, ?_, ?_, ?_⟩
  · rw [zz_k (by omega), zz_k (by omega), zz_k (by omega), zz_k (by omega), zz_e]
  · rw [zz_k (by omega), zz_k (by omega), zz_e]
  · rw [zz_k (by omega), zz_k (by omega), zz_k (by omega), zz_e]
  · rw [zz_k (by omega), zz_e]
    unfold m_ho
    rw [zz_c (a := 72) (by decide), zz_c (a := 72) (by decide), zz_c (a := 72) (by decide), zz_k (by omega), zz_k (by omega), zz_k (by omega)]
  · rw [zz_e]
    unfold m_qu
    rw [zz_c (a := 72) (by decide), zz_c (a := 72) (by decide), zz_c (a := 72) (by decide), zz_c (a := 72) (by decide), zz_k (by omega), zz_k (by omega), zz_k (by omega), zz_k (by omega)]
theorem s1_n {Y : zI} {k9 c k : Nat} (h : c ≠ 79 ∨ (k ≠ 528 + e ∧ k ≠ 512 + e ∧ k ≠ 544 + e ∧ k ≠ 608 + e ∧ k ≠ 624 + e)) : m_s1 Y e k9 c k = Y c k := by
  unfold m_s1
  try simp only
  rw [zz_n (by omega), zz_n (by omega), zz_n (by omega), zz_n (by omega), zz_n (by omega)]
theorem o0_n {Y : zI} {c k : Nat} (h : c ≠ 79 ∨ k ≠ 560 + e) : m_o0 Y e c k = Y c k := zz_n h
theorem o1_n {Y : zI} {s c k : Nat} (h : c ≠ 79 ∨ k ≠ 560 + e) : m_o1 Y e s c k = Y c k := zz_n h
/-- cells of the element itself -/
def r_own (e k : Nat) : Prop := k = 512 + e ∨ k = 528 + e ∨ k = 544 + e ∨ k = 560 + e ∨ k = 608 + e ∨ k = 624 + e ∨ ∃ q, q < 4 ∧ k = 448 + (4 * e + q)
theorem cs_n {c k : Nat} (hc : c ≠ 83) (h : c ≠ 79 ∨ ¬ r_own e k) : m_cs M e c k = M c k := by
  have hq : c ≠ 79 ∨ ∀ q, q < 4 → k ≠ 448 + (4 * e + q) := h.imp id (fun n q hq hk => n (Or.inr (Or.inr (Or.inr (Or.inr (Or.inr (Or.inr ⟨q, hq, hk⟩)))))))
  have hr : c ≠ 79 ∨ (k ≠ 512 + e ∧ k ≠ 528 + e ∧ k ≠ 544 + e ∧ k ≠ 560 + e ∧ k ≠ 608 + e ∧ k ≠ 624 + e) := by
    refine h.imp id (fun n => ?_)
    unfold r_own at n
    exact ⟨fun q => n (by simp [q]), fun q => n (by simp [q]), fun q => n (by simp [q]), fun q => n (by simp [q]), fun q => n (by simp [q]), fun q => n (by simp [q])⟩
  cases hl : r_lk M e with
  | false =>
    rw [cs_f hl, o0_n (by omega), fr_mfl hc 4, s0_n (by omega), rC_n hq]
  | true =>
    obtain ⟨k9, -, -, e1⟩ := cs_t hl
    rw [e1, o1_n (by omega), fr_mfl hc 4, s1_n (by omega), rC_n hq]
theorem rk_lt {k : Nat} (hQ : okQ (M 70 e) ∧ okQ (M 71 e)) (h : r_k M e = some k) : k < 4 := m_ch_lt (by rw [rC_c (by decide)]; exact hQ.1) (by rw [rC_c (by decide)]; exact hQ.2) h
theorem cs_v (he : e < 16) (hQ : okQ (M 70 e) ∧ okQ (M 71 e)) (hA : ∀ s, s < 64 → ¬ M 74 s < 0 → (m_ax M (m_lk M s) s).toNatClampNeg < 64) : m_cs M e 79 (512 + e) = r_st M e ∧ m_cs M e 79 (528 + e) = zO (r_k M e) ∧ m_cs M e 79 (544 + e) = r_ev M e ∧ m_cs M e 79 (608 + e) = r_ho M e ∧ m_cs M e 79 (624 + e) = r_qu M e ∧ m_cs M e 79 (560 + e) = r_of M e ∧ ∀ p, p < 4 → m_cs M e 79 (448 + (4 * e + p)) = r_u M (4 * e + p) := by
  unfold r_of r_st r_ev r_ho r_qu r_s
  cases hl : r_lk M e with
  | false =>
    have f0 : ¬ (false = true) := by decide
    obtain ⟨a1, a2, a3, a4⟩ := s0_v (Y := r_C M e) (r := r_k M e) he
    have q1 : r_C M e 79 (544 + e) = M 79 (544 + e) := rC_n (Or.inr (fun q hq => by omega))
    rw [q1] at a2
    rw [cs_f hl, if_neg f0, if_neg f0, if_neg f0, if_neg f0, if_neg f0]
    refine ⟨?_, ?_, ?_, ?_, ?_, ?_, fun p hp => ?_⟩
    · rw [o0_n (by omega), fr_mfl (by decide) 4, a2]
    · rw [o0_n (by omega), fr_mfl (by decide) 4, a1]
    · rw [o0_n (by omega), fr_mfl (by decide) 4, s0_n (by omega), q1]
    · rw [o0_n (by omega), fr_mfl (by decide) 4, a3]
    · rw [o0_n (by omega), fr_mfl (by decide) 4, a4]
    · unfold m_o0
      rw [zz_e, fr_mfl (by decide) 4, fr_mfl (by decide) 4, fr_mfl (by decide) 4, a2, s0_n (k := 560 + e) (by omega), s0_n (c := 68) (by omega), s0_n (c := 67) (by omega), rC_n (k := 560 + e) (Or.inr (fun q hq => by omega)), rC_n (c := 68) (Or.inl (by decide)), rC_n (c := 67) (Or.inl (by decide))]
    · rw [o0_n (by omega), fr_mfl (by decide) 4, s0_n (by omega), rC_u he hp]
  | true =>
    obtain ⟨k, hk, h2, e1⟩ := cs_t hl
    have hk4 := rk_lt hQ hk
    obtain ⟨a1, a2, a3, a4, a5⟩ := s1_v (Y := r_C M e) he hk4
    rw [mho_C (by omega)] at a4
    rw [mqu_C (by omega)] at a5
    have t0 : (true = true) := rfl
    have hg : (r_k M e).getD 0 = k := by rw [hk]; rfl
    rw [e1, if_pos t0, if_pos t0, if_pos t0, if_pos t0, if_pos t0, hg, hk]
    refine ⟨?_, ?_, ?_, ?_, ?_, ?_, fun p hp => ?_⟩
    · rw [o1_n (by omega), fr_mfl (by decide) 4, a2]
    · rw [o1_n (by omega), fr_mfl (by decide) 4, a1]
      rfl
    · rw [o1_n (by omega), fr_mfl (by decide) 4, a3]
    · rw [o1_n (by omega), fr_mfl (by decide) 4, a4]
    · rw [o1_n (by omega), fr_mfl (by decide) 4, a5]
    · unfold m_o1
      have w : ∀ c, c ≠ 79 → c ≠ 83 → m_fl (m_s1 (r_C M e) e k) e (some k) true 4 c = M c := fun c h h3 => by
        rw [fr_mfl h3 4]
        funext j
        rw [s1_n (Or.inl h), rC_n (Or.inl h)]
      have ax : m_ax (m_fl (m_s1 (r_C M e) e k) e (some k) true 4) (m_lk (m_fl (m_s1 (r_C M e) e k) e (some k) true 4) (4 * e + k)) (4 * e + k) = m_ax M (m_lk M (4 * e + k)) (4 * e + k) := by
        unfold m_ax m_lk
        rw [w 74 (by decide) (by decide), w 77 (by decide) (by decide), w 78 (by decide) (by decide)]
      rw [zz_e, ax, w 72 (by decide) (by decide), w 73 (by decide) (by decide)]
      by_cases hs : M 72 (4 * e + k) < 0
      · have ho := hA (4 * e + k) (by omega) (m_lk_link he hk4 h2 hs)
        rw [if_pos hs, if_pos hs, fr_mfl (by decide) 4, s1_n (c := 79) (by omega), rC_n (c := 79) (Or.inr (fun q hq => by omega))]
      · rw [if_neg hs, if_neg hs]
    · rw [o1_n (by omega), fr_mfl (by decide) 4, s1_n (by omega), rC_u he hp]
theorem cs_fr (he : e < 16) (hQ : okQ (M 70 e) ∧ okQ (M 71 e)) {i j : Nat} (hi : i < 4) (hj : j < 3) : m_cs M e 83 (64 * j + (4 * e + i)) = r_f j M e (r_k M e) (r_lk M e) i := by
  have hlt : 4 * e + (r_k M e).getD 0 < 64 := by
    cases hk : r_k M e with
    | none => show 4 * e + 0 < 64; omega
    | some k => have := rk_lt hQ hk; show 4 * e + k < 64; omega
  have eqf : ∀ (Y : zI) (r : Option Nat) (lk : Bool), 4 * e + r.getD 0 < 64 → (∀ c, c ≠ 79 → c ≠ 83 → Y c = M c) → (∀ k, k < 448 → Y 79 k = M 79 k) → r_f j Y e r lk i = r_f j M e r lk i := by
    intro Y r lk hr h1 h2
    unfold r_f m_q0 m_h0 m_t0 m_qu m_ho
    rw [h1 74 (by decide) (by decide), h1 72 (by decide) (by decide), h1 66 (by decide) (by decide), h2 (4 * e + r.getD 0) (by omega), h2 (64 + (4 * e + r.getD 0)) (by omega), h2 (128 + (4 * e + r.getD 0)) (by omega)]
  cases hl : r_lk M e with
  | false =>
    rw [cs_f hl, o0_n (by omega), fl_v hj he 4 i (Nat.le_refl _) hi, if_pos hi]
    refine eqf _ _ _ hlt (fun c h1 h2 => ?_) (fun k hk => ?_)
    · funext k
      rw [s0_n (Or.inl h1), rC_n (Or.inl h1)]
    · rw [s0_n (by omega), rC_n (Or.inr (fun q hq => by omega))]
  | true =>
    obtain ⟨k, hk, h2, e1⟩ := cs_t hl
    rw [hk] at hlt
    rw [e1, hk, o1_n (by omega), fl_v hj he 4 i (Nat.le_refl _) hi, if_pos hi]
    refine eqf _ _ _ hlt (fun c h1 h2 => ?_) (fun k hk => ?_)
    · funext k
      rw [s1_n (Or.inl h1), rC_n (Or.inl h1)]
    · rw [s1_n (by omega), rC_n (Or.inr (fun q hq => by omega))]
theorem cs_fn (he : e < 16) {k : Nat} (h : ∀ i j, i < 4 → j < 3 → k ≠ 64 * j + (4 * e + i)) : m_cs M e 83 k = M 83 k := by
  cases hl : r_lk M e with
  | false =>
    rw [cs_f hl, o0_n (by omega), fl_n 4 h, s0_n (by omega), rC_n (Or.inl (by decide))]
  | true =>
    obtain ⟨k9, hk, h2, e1⟩ := cs_t hl
    rw [e1, o1_n (by omega), fl_n 4 h, s1_n (by omega), rC_n (Or.inl (by decide))]
end CS
/-! all elements choose -/
theorem mbt_eq {X M : zI} {s t : Nat} (h1 : X 72 = M 72) (h2 : X 75 = M 75) (h3 : ∀ k, k < 448 → X 79 k = M 79 k) (hs : s < 64) (ht : t < 64) : m_bt X s t = m_bt M s t := by
  unfold m_bt m_qu m_ho
  rw [h1, h2, h3 s (by omega), h3 t (by omega), h3 (64 + s) (by omega), h3 (64 + t) (by omega)]
theorem mbo_eq {X M : zI} {e : Nat} {m : Int32} (he : e < 16) (h1 : X 72 = M 72) (h2 : X 75 = M 75) (h3 : ∀ k, k < 448 → X 79 k = M 79 k) (h4 : ∀ p, p < 4 → X 79 (448 + (4 * e + p)) = M 79 (448 + (4 * e + p))) : ∀ n, n ≤ 4 → m_bo X e m n = m_bo M e m n
  | 0, _ => rfl
  | n + 1, hn => by
    unfold m_bo
    rw [mbo_eq he h1 h2 h3 h4 n (by omega), h4 n (by omega)]
    cases hk : m_bo M e m n with
    | none => rfl
    | some k =>
      have := m_bo_lt n k hk
      simp only [mbt_eq h1 h2 h3 (s := 4 * e + n) (t := 4 * e + k) (by omega) (by omega)]
theorem mch_eq {X M : zI} {e : Nat} (he : e < 16) (hc : ∀ c, c ≠ 79 → c ≠ 83 → X c = M c) (h3 : ∀ k, k < 448 → X 79 k = M 79 k) (hQ : okQ (M 71 e)) (h4 : ∀ p, p < 4 → X 79 (448 + (4 * e + p)) = M 79 (448 + (4 * e + p))) : m_ch X e = m_ch M e := by
  unfold m_ch
  rw [hc 70 (by decide) (by decide), hc 71 (by decide) (by decide), hc 69 (by decide) (by decide), mbo_eq he (hc 72 (by decide) (by decide)) (hc 75 (by decide) (by decide)) h3 h4 4 (Nat.le_refl _), mbo_eq he (hc 72 (by decide) (by decide)) (hc 75 (by decide) (by decide)) h3 h4 4 (Nat.le_refl _)]
  rcases hQ with q | ⟨k, hk, q⟩
  · have q0 : M 71 e < 0 := by rw [q]; decide
    simp only [q0, true_or, if_true]
  · rw [q, nI_clamp (by omega), h4 k hk]
/-- what an element's choice reads -/
def c_eq (X M : zI) (e : Nat) : Prop := (∀ c, c ≠ 79 → c ≠ 83 → X c = M c) ∧ (∀ k, (k < 448 ∨ (576 ≤ k ∧ k < 608) ∨ 640 ≤ k) → X 79 k = M 79 k) ∧ (∀ k, r_own e k → X 79 k = M 79 k)
theorem ceq_us {X M : zI} {e s : Nat} (hs : s < 64) (h : c_eq X M e) : m_us X s = m_us M s := by
  unfold m_us m_hw m_ow
  rw [h.1 76 (by decide) (by decide), h.1 72 (by decide) (by decide), h.1 74 (by decide) (by decide), h.1 64 (by decide) (by decide), h.2.1 s (by omega), h.2.1 (192 + s) (by omega), h.2.1 (128 + s) (by omega), h.2.1 760 (by omega)]
theorem ceq_C {X M : zI} {e : Nat} (he : e < 16) (h : c_eq X M e) : ∀ p, p < 4 → r_C X e 79 (448 + (4 * e + p)) = r_C M e 79 (448 + (4 * e + p)) := by
  intro p hp
  rw [rC_u he hp, rC_u he hp]
  unfold r_u
  rw [ceq_us (by omega) h, h.2.2 _ (by unfold r_own; exact Or.inr (Or.inr (Or.inr (Or.inr (Or.inr (Or.inr ⟨p, hp, rfl⟩))))))]
theorem ceq_k {X M : zI} {e : Nat} (he : e < 16) (hQ : okQ (M 71 e)) (h : c_eq X M e) : r_k X e = r_k M e := by
  unfold r_k
  refine mch_eq he (fun c h1 h2 => ?_) (fun k hk => ?_) (by rw [rC_c (by decide)]; exact hQ) (ceq_C he h)
  · rw [rC_c h1, rC_c h1, h.1 c h1 h2]
  · rw [rC_n (Or.inr (fun q hq => by omega)), rC_n (Or.inr (fun q hq => by omega)), h.2.1 k (Or.inl hk)]
theorem ceq_lk {X M : zI} {e : Nat} (he : e < 16) (hQ : okQ (M 70 e) ∧ okQ (M 71 e)) (h : c_eq X M e) : r_lk X e = r_lk M e := by
  unfold r_lk
  rw [ceq_k he hQ.2 h]
  cases hk : r_k M e with
  | none => rfl
  | some k => simp only [ceq_C he h k (rk_lt hQ hk)]
