/-! Each call of both keeps the relation. -/
section R26
variable {I I1 I2 : zI} {J J1 J2 JA : zJ} {j m r m' r' : Nat}
theorem RA_I (h : RA I J I J m r) (h1 : ∀ c, 64 ≤ c → c ≤ 79 → I1 c = I c) (h81 : J1 81 = J 81) : RA I J I1 J1 m r := RA_B h (fun c q1 q2 => h1 c (by omega) q2) (by rw [h1 64 (by decide) (by decide)]) (by rw [h1 64 (by decide) (by decide)]) h81
theorem Rel_go (hA : RA I J I J m r) (h1 : ∀ c, 64 ≤ c → c ≤ 79 → I1 c = I c) (h81 : J1 81 = J 81) (S : RA I J I1 J1 m r → RA I1 JA I2 J2 m' r') (h2 : ∀ c, c < 62 → I2 c = I1 c) (h16 : J2 16 = JA 16) (h58 : J2 58 = JA 58) (hN : RN I2 I2) (hr : r' ≤ 200 * (j + 1)) : Rel (j + 1) I2 J2 :=
  ⟨m', r', hr, RA_A (S (RA_I hA h1 h81)) (fun c q1 q2 => h2 c (by omega)) h16 h58, hN⟩
theorem G_mono (h : Rel j I J) : Rel (j + 1) I J := by
  obtain ⟨m, r, hr, hA, hN⟩ := h
  exact ⟨m, r, by omega, hA, hN⟩
/-- a call that answers and changes nothing, or is refused -/
theorem G_read {v : Int32} (h : Rel j I J) (hJ : ∀ c, c < 86 → J1 c = J c) : Rel (j + 1) (m_t I v) J1 := by
  obtain ⟨m, r, hr, hA, hN⟩ := h
  refine ⟨m, r, by omega, RA_A (RA_B (S_t hA) (fun _ _ _ => rfl) rfl rfl (hJ 81 (by decide))) (fun c q1 q2 => mt_ne (by omega)) (hJ 16 (by decide)) (hJ 58 (by decide)), ?_⟩
  exact RN_of hN (by rw [mt_ne (by decide)]) (mt_ne (by decide)) (mt_ne (by decide)) (mt_k (by decide)) (mt_ne (by decide)) (mt_ne (by decide))
theorem G_t {v : Int32} (h : Rel j I J) : Rel (j + 1) (m_t I v) J := G_read h (fun _ _ => rfl)
theorem J_86 {w : Int64} {c : Nat} (h : c < 86) : zupL J 86 0 w c = J c := zupL_ne (by omega)
theorem G_o {v : Int32} {w : Int64} (h : Rel j I J) : Rel (j + 1) (m_t I v) (zupL J 86 0 w) := G_read h (fun c hc => J_86 hc)
theorem G_t2 {v w : Int32} (h : Rel j I J) : Rel (j + 1) (zup (zup I 64 0 v) 64 0 w) J := by
  obtain ⟨m, r, hr, hA, hN⟩ := G_t (v := v) h
  refine ⟨m, r, hr, RA_A (S_t hA) (fun c q1 q2 => zup_ne (by omega)) rfl rfl, ?_⟩
  exact RN_of hN (by rw [zup_ne (by decide)]; rfl) (by rw [zup_ne (by decide)]; rfl) (by rw [zup_ne (by decide)]; rfl) (by rw [zz_k (by decide)]; rfl) (by rw [zup_ne (by decide)]; rfl) (by rw [zup_ne (by decide)]; rfl)
/-- the relation of a memory -/
theorem Rel_RN (hN : RN I I) (h : ∀ c, c = 0 ∨ c = 62 ∨ c = 63 ∨ c = 84 ∨ c = 85 → I2 c = I c) (h22 : I2 64 22 = I 64 22) : RN I2 I2 := RN_of hN (by rw [h 0 (by decide)]) (h 62 (by decide)) (h 63 (by decide)) h22 (h 84 (by decide)) (h 85 (by decide))
theorem G_priority {s : Nat} {v : Int32} {w : Int64} (h : Rel j I J) : Rel (j + 1) (zup (m_t (zup I 13 s v) 0) 75 s v) (zupL J 86 0 w) := by
  obtain ⟨m, r, hr, hA, hN⟩ := h
  refine Rel_go (I1 := zup I 13 s v) (J1 := zupL J 86 0 w) hA (fun c h1 h2 => up_ne (by omega)) (J_86 (by decide)) S_priority (fun c hc => by rw [up_ne (by omega), mt_ne (by omega)]) (J_86 (by decide)) (J_86 (by decide)) (Rel_RN hN (fun c hc => by rw [up_ne (by omega), mt_ne (by omega), up_ne (by omega)]) ?_) (by omega)
  rw [zz_c (by decide), mt_k (by decide), zz_c (by decide)]
theorem G_restore {e : Nat} {v : Int32} {w : Int64} (h : Rel j I J) (he : e < 16) (h2 : ¬ I 2 e = 0) (hv : p_in v 0 10 = true) : Rel (j + 1) (zup (m_t (zup I 6 e v) 0) 69 e v) (zupL J 86 0 w) := by
  obtain ⟨m, r, hr, hA, hN⟩ := h
  refine Rel_go (I1 := zup I 6 e v) (J1 := zupL J 86 0 w) hA (fun c h1 h2 => up_ne (by omega)) (J_86 (by decide)) (fun q => S_restore q he h2 hv) (fun c hc => by rw [up_ne (by omega), mt_ne (by omega)]) (J_86 (by decide)) (J_86 (by decide)) (Rel_RN hN (fun c hc => by rw [up_ne (by omega), mt_ne (by omega), up_ne (by omega)]) ?_) (by omega)
  rw [zz_c (by decide), mt_k (by decide), zz_c (by decide)]
theorem G_tracing {o : Bool} (h : Rel j I J) : Rel (j + 1) (zup (m_t (zup I 1 15 (zB o)) 0) 64 1 (zB o)) J := by
  obtain ⟨m, r, hr, hA, hN⟩ := h
  refine Rel_go (I1 := zup I 1 15 (zB o)) (J1 := J) hA (fun c h1 h2 => up_ne (by omega)) rfl S_tracing (fun c hc => by rw [up_ne (by omega), mt_ne (by omega)]) rfl rfl (Rel_RN hN (fun c hc => by rw [up_ne (by omega), mt_ne (by omega), up_ne (by omega)]) ?_) (by omega)
  rw [zz_k (by decide), mt_k (by decide), zz_c (by decide)]
theorem G_command {e : Nat} {v w9 : Int32} {w : Int64} (h : Rel j I J) (hv : okQ v) : Rel (j + 1) (if w9 = 0 then zup (m_t (if w9 = 0 then zup I 7 e v else zup I 8 e v) 0) 70 e v else zup (m_t (if w9 = 0 then zup I 7 e v else zup I 8 e v) 0) 71 e v) (zupL J 86 0 w) := by
  obtain ⟨m, r, hr, hA, hN⟩ := h
  by_cases h0 : w9 = 0
  · rw [if_pos h0, if_pos h0]
    refine Rel_go (I1 := zup I 7 e v) (J1 := zupL J 86 0 w) hA (fun c h1 h2 => up_ne (by omega)) (J_86 (by decide)) (fun q => S_com7 q hv) (fun c hc => by rw [up_ne (by omega), mt_ne (by omega)]) (J_86 (by decide)) (J_86 (by decide)) (Rel_RN hN (fun c hc => by rw [up_ne (by omega), mt_ne (by omega), up_ne (by omega)]) ?_) (by omega)
    rw [zz_c (by decide), mt_k (by decide), zz_c (by decide)]
  · rw [if_neg h0, if_neg h0]
    refine Rel_go (I1 := zup I 8 e v) (J1 := zupL J 86 0 w) hA (fun c h1 h2 => up_ne (by omega)) (J_86 (by decide)) (fun q => S_com8 q hv) (fun c hc => by rw [up_ne (by omega), mt_ne (by omega)]) (J_86 (by decide)) (J_86 (by decide)) (Rel_RN hN (fun c hc => by rw [up_ne (by omega), mt_ne (by omega), up_ne (by omega)]) ?_) (by omega)
    rw [zz_c (by decide), mt_k (by decide), zz_c (by decide)]
theorem G_lockout {s : Nat} {o : Bool} {w : Int64} (h : Rel j I J) : Rel (j + 1) (zup (m_t (zup I 14 s (zB o)) 0) 76 s (zB o)) (zupL J 86 0 w) := by
  obtain ⟨m, r, hr, hA, hN⟩ := h
  refine Rel_go (I1 := zup I 14 s (zB o)) (J1 := zupL J 86 0 w) hA (fun c h1 h2 => up_ne (by omega)) (J_86 (by decide)) S_lockout (fun c hc => by rw [up_ne (by omega), mt_ne (by omega)]) (J_86 (by decide)) (J_86 (by decide)) (Rel_RN hN (fun c hc => by rw [up_ne (by omega), mt_ne (by omega), up_ne (by omega)]) ?_) (by omega)
  rw [zz_c (by decide), mt_k (by decide), zz_c (by decide)]
theorem G_source {s : Nat} {q o : Int32} (h : Rel j I J) (h9 : I 9 s = -1) (hv : (decide (q = -1) || (p_in q 0 6 && p_in o (-1000) 1000)) = true) : Rel (j + 1) (zup (zup (m_t (zup (zup I 11 s q) 12 s o) 0) 72 s q) 73 s o) J := by
  obtain ⟨m, r, hr, hA, hN⟩ := h
  refine Rel_go (I1 := zup (zup I 11 s q) 12 s o) (J1 := J) hA (fun c h1 h2 => by rw [up_ne (by omega), up_ne (by omega)]) rfl (fun z => S_source z h9 hv) (fun c hc => by rw [up_ne (by omega), up_ne (by omega), mt_ne (by omega)]) rfl rfl (Rel_RN hN (fun c hc => by rw [up_ne (by omega), up_ne (by omega), mt_ne (by omega), up_ne (by omega), up_ne (by omega)]) ?_) (by omega)
  rw [zz_c (by decide), zz_c (by decide), mt_k (by decide), zz_c (by decide), zz_c (by decide)]
theorem G_fail {k : Nat} {o : Bool} {w : Int64} (h : Rel j I J) (hk : k < 24) : Rel (j + 1) (zup (m_t (f_sl I 16 (nI k) (zB o)) 0) 79 (688 + k) (zB o)) (zupL J 86 0 w) := by
  obtain ⟨m, r, hr, hA, hN⟩ := h
  refine Rel_go (I1 := f_sl I 16 (nI k) (zB o)) (J1 := zupL J 86 0 w) hA (fun c h1 h2 => fr_sl (by omega)) (J_86 (by decide)) (fun q => S_fail q hk) (fun c hc => by rw [up_ne (by omega), mt_ne (by omega)]) (J_86 (by decide)) (J_86 (by decide)) (Rel_RN hN (fun c hc => by rw [up_ne (by omega), mt_ne (by omega), fr_sl (by omega)]) ?_) (by omega)
  rw [zz_c (by decide), mt_k (by decide), fr_sl (by decide)]
theorem G_failElement {e : Nat} {o : Bool} {w : Int64} (h : Rel j I J) (he : e < 16) (h2 : ¬ I 2 e = 0) : Rel (j + 1) (m_fe (m_t (f_se I 16 e (zB o)) 0) e o) (zupL J 86 0 w) := by
  obtain ⟨m, r, hr, hA, hN⟩ := h
  refine Rel_go (I1 := f_se I 16 e (zB o)) (J1 := zupL J 86 0 w) hA (fun c h1 h2 => fr_se (by omega)) (J_86 (by decide)) (fun q => S_failElement q he h2) (fun c hc => by rw [fe_c (by omega), mt_ne (by omega)]) (J_86 (by decide)) (J_86 (by decide)) (Rel_RN hN (fun c hc => by rw [fe_c (by omega), mt_ne (by omega), fr_se (by omega)]) ?_) (by omega)
  rw [fe_c (by decide), mt_k (by decide), fr_se (by decide)]
theorem G_lose {k x y : Nat} {o : Bool} (h : Rel j I J) (hk : ∀ m r, RA I J I J m r → k < m) (hx : x < 64) (hy : y < 64) (hxy : x ≠ y) (h77 : I 77 k = nI x) (h78 : I 78 k = nI y) (h9x : I 9 x = nI k) (h9y : I 9 y = nI k) : Rel (j + 1) (zup (m_t I 0) 79 (712 + 2 * k + cond o 1 0) 1) (f_lf J 16 (cond o y x)) := by
  obtain ⟨m, r, hr, hA, hN⟩ := h
  have jn : ∀ c, c ≠ 16 → f_lf J 16 (cond o y x) c = J c := fun c hc => zupL_ne hc
  refine Rel_go (I1 := I) (J1 := f_lf J 16 (cond o y x)) hA (fun c h1 h2 => rfl) (jn 81 (by decide)) (fun q => S_lose q (hk m r hA) hx hy hxy h77 h78 h9x h9y) (fun c hc => by rw [up_ne (by omega), mt_ne (by omega)]) rfl rfl (Rel_RN hN (fun c hc => by rw [up_ne (by omega), mt_ne (by omega)]) ?_) (by omega)
  rw [zz_c (by decide), mt_k (by decide)]
theorem el_c {I : zI} {e c : Nat} {q o s : Int32} (h : c ≠ 2 ∧ c ≠ 3 ∧ c ≠ 4 ∧ c ≠ 5 ∧ c ≠ 55 ∧ c ≠ 56) : c_el I e q o s c = I c := by
  unfold c_el
  rw [up_ne h.2.2.2.2.2, up_ne h.2.2.2.2.1, up_ne h.2.2.2.1, up_ne h.2.2.1, up_ne h.2.1, up_ne h.1]
theorem mel_c {I : zI} {e c : Nat} {q o s : Int32} (h : c < 64 ∨ 80 ≤ c) : m_el I e q o s c = I c := by
  unfold m_el
  rw [up_ne (by omega), up_ne (by omega), up_ne (by omega), up_ne (by omega), up_ne (by omega), up_ne (by omega), up_ne (by omega), up_ne (by omega), up_ne (by omega), mt_ne (by omega)]
theorem mel_64 {I : zI} {e k : Nat} {q o s : Int32} (h : k ≠ 0) : m_el I e q o s 64 k = I 64 k := by
  unfold m_el
  rw [up_ne (by decide), up_ne (by decide), up_ne (by decide), up_ne (by decide), up_ne (by decide), up_ne (by decide), up_ne (by decide), up_ne (by decide), up_ne (by decide), mt_k h]
theorem G_element {e : Nat} {q o s : Int32} (h : Rel j I J) (he : e < 16) (h0 : I 2 e = 0) (hq : p_in q 0 6 = true) : Rel (j + 1) (m_el (c_el I e q o s) e q o s) J := by
  obtain ⟨m, r, hr, hA, hN⟩ := h
  refine Rel_go (I1 := c_el I e q o s) (J1 := J) hA (fun c h1 h2 => el_c (by omega)) rfl (fun z => S_element z he h0 hq) (fun c hc => mel_c (by omega)) rfl rfl (Rel_RN hN (fun c hc => by rw [mel_c (by omega), el_c (by omega)]) ?_) (by omega)
  rw [mel_64 (by decide), el_c (by omega)]
theorem jo_c {I : zI} {k s t c : Nat} (h : c ≠ 1 ∧ c ≠ 9 ∧ c ≠ 10 ∧ c ≠ 15) : p_jo I k s t c = I c := by
  unfold p_jo
  try simp only
  rw [up_ne h.2.2.1, up_ne h.2.2.1, up_ne h.2.1, up_ne h.2.1, up_ne h.2.2.2, up_ne h.1]
theorem ln_c {I : zI} {k s t c : Nat} (h : c ≠ 64 ∧ c ≠ 74 ∧ c ≠ 77 ∧ c ≠ 78) : m_ln I k s t c = I c := by
  unfold m_ln
  rw [up_ne h.1, up_ne h.2.1, up_ne h.2.1, up_ne h.2.2.2, up_ne h.2.2.1, mt_ne h.1]
theorem G_link {k s t : Nat} {w : Int64} (h : Rel j I J) (hk : I 1 14 = nI k) (hk2 : k < 24) (hs : s < 64) (ht : t < 64) (hst : s ≠ t) (s2 : ¬ I 2 (s / 4) = 0) (t2 : ¬ I 2 (t / 4) = 0) (t1 : p_tk I s = false) (t3 : p_tk I t = false) : Rel (j + 1) (m_ln (p_jo I k s t) k s t) (zupL J 86 0 w) := by
  obtain ⟨m, r, hr, hA, hN⟩ := h
  have hkm : k = m := by
    have h24 := hA.L.m24
    have h9 := hA.L.cnt
    rw [hk, nI_eq (by omega) (by omega)] at h9
    exact h9
  subst hkm
  unfold p_tk p_so at t1 t3
  simp only [Bool.or_eq_false_iff, decide_eq_false_iff_not, Decidable.not_not] at t1 t3
  refine Rel_go (I1 := p_jo I k s t) (J1 := zupL J 86 0 w) hA (fun c h1 h2 => jo_c (by omega)) (J_86 (by decide)) (fun z => S_link z hk2 hs ht hst s2 t2 t1.1 t3.1 t1.2 t3.2) (fun c hc => ln_c (by omega)) (J_86 (by decide)) (J_86 (by decide)) (Rel_RN hN (fun c hc => by rw [ln_c (by omega), jo_c (by omega)]) ?_) (by omega)
  unfold m_ln
  rw [zz_k (by decide), up_ne (by decide), up_ne (by decide), up_ne (by decide), up_ne (by decide), mt_k (by decide), jo_c (by omega)]
theorem rn_J {c : Nat} (h : c ≠ 16) (h2 : c ≠ 58) : ∀ n, (c_rn I J n).2 c = J c
  | 0 => rfl
  | n + 1 => by
    rw [c_rn_2]
    unfold k_roJ
    rw [ksJ_n h2, zupL_ne h, rn_J h h2 n]
theorem G_rounds {n : Nat} {w : Int64} (h : Rel j I J) (hj : j ≤ 512) (hn : n ≤ 200) : Rel (j + 1) (m_itI (m_t (c_rn I J n).1 0) n) (m_itJ (m_t (c_rn I J n).1 0) (zupL (c_rn I J n).2 86 0 w) n) ∧ (c_rn I J n).1 59 2 = m_itI (m_t (c_rn I J n).1 0) n 79 761 := by
  obtain ⟨m, r, hr, hA, hN⟩ := h
  have c1 : ∀ c, 64 ≤ c → (c_rn I J n).1 c = I c := fun c h1 => fr_rn (by omega) n
  have S : RA I J (c_rn I J n).1 (zupL (c_rn I J n).2 86 0 w) m r → RA (c_rn I J n).1 (c_rn I J n).2 (m_itI (m_t (c_rn I J n).1 0) n) (m_itJ (m_t (c_rn I J n).1 0) (zupL (c_rn I J n).2 86 0 w) n) m (r + n) := fun z => R_rn (S_t z) n (by omega)
  have h81 : zupL (c_rn I J n).2 86 0 w 81 = J 81 := by rw [J_86 (by decide), rn_J (by decide) (by decide)]
  refine ⟨Rel_go hA (fun c h1 h2 => c1 c h1) h81 S (fun c hc => by rw [fr_it (by omega) (by omega), mt_ne (by omega)]) (by rw [itJ_n (by decide), J_86 (by decide)]) (by rw [itJ_n (by decide), J_86 (by decide)]) (Rel_RN hN (fun c hc => ?_) ?_) (by omega), (S (RA_I hA (fun c h1 h2 => c1 c h1) h81)).C.st⟩
  · rw [fr_it (by omega) (by omega), mt_ne (by omega), fr_rn (by omega)]
  · rw [fr_it (by decide) (by decide), mt_k (by decide), fr_rn (by omega)]
theorem K_rounds {n : Nat} (h : Rel j I J) (hj : j ≤ 512) (hn : n ≤ 200) : ∀ i e, i < n → e < 16 → okK (f_ro (c_rn I J i).1 (c_rn I J i).2 16) 16 e := by
  obtain ⟨m, r, hr, hA, hN⟩ := h
  intro i e hi he
  have h1 := R_rn hA i (by omega)
  exact okK_R (R_round (Nat.le_refl _) (by omega) h1.P h1.L h1.F) e he
theorem fr_k1m {m rn : Nat} {c : Nat} (h : mkc c) : ∀ n, (m_k1 m rn I J n).1 c = I c
  | 0 => by rw [m_k1_0]
  | n + 1 => by
    have ih := fr_k1m (m := m) (rn := rn) h n
    by_cases hc : (m_k1 m rn I J n).1 79 (688 + n) = 0
    · rw [m_k1_y hc]
      show m_gn m rn _ _ c = _
      rw [fr_gn h, zup_ne h.2.1, ih]
    · rw [m_k1_n hc, ih]
theorem fr_k2m {m rn : Nat} {c : Nat} (h : mkc c) : ∀ n, (m_k2 m rn I J n).1 c = I c
  | 0 => by rw [m_k2_0]
  | n + 1 => by
    have ih := fr_k2m (m := m) (rn := rn) h n
    cases hc : m_wh (m_k2 m rn I J n).1 n with
    | true =>
      rw [m_k2_y hc]
      show m_gn m rn _ _ c = _
      rw [fr_gn h, fr_bd h.2.1, ih]
    | false => rw [m_k2_n hc, ih]
theorem gn_J {rn c : Nat} (h : c ≠ 81) (h2 : c ≠ 82) : m_gnJ rn I J c = J c := by
  unfold m_gnJ
  rw [kJ_n h h2, itJ_n h]
theorem k1_J {m rn c : Nat} (h : c ≠ 81) (h2 : c ≠ 82) : ∀ n, (m_k1 m rn I J n).2 c = J c
  | 0 => by rw [m_k1_0]
  | n + 1 => by
    have ih := k1_J (m := m) (rn := rn) h h2 n
    by_cases hc : (m_k1 m rn I J n).1 79 (688 + n) = 0
    · rw [m_k1_y hc]
      show m_gnJ rn _ _ c = _
      rw [gn_J h h2, ih]
    · rw [m_k1_n hc, ih]
theorem k2_J {m rn c : Nat} (h : c ≠ 81) (h2 : c ≠ 82) : ∀ n, (m_k2 m rn I J n).2 c = J c
  | 0 => by rw [m_k2_0]
  | n + 1 => by
    have ih := k2_J (m := m) (rn := rn) h h2 n
    cases hc : m_wh (m_k2 m rn I J n).1 n with
    | true =>
      rw [m_k2_y hc]
      show m_gnJ rn _ _ c = _
      rw [gn_J h h2, ih]
    | false => rw [m_k2_n hc, ih]
theorem fr_mck {m rn c : Nat} (h : mkc c) : (m_ck m rn I J).1 c = I c := by
  unfold m_ck m_KA
  rw [fr_k2m h, fr_k1m h]
  unfold m_K0
  rw [fr_kt h.2.1 h.2.2.1, zup_ne h.1, zup_ne h.1]
theorem mck_J {m rn c : Nat} (h : c ≠ 81) (h2 : c ≠ 82) : (m_ck m rn I J).2 c = J c := by
  unfold m_ck m_KA
  rw [k2_J h h2, k1_J h h2]
  unfold m_K0J
  rw [kJ_n h h2]
theorem try_J {m rn c : Nat} {f : Int32} (h : c ≠ 35) : (c_try m rn f I J).2 c = J c := by
  rw [c_try_2, rs_J h]
theorem cl_J {m rn c : Nat} (h : c ≠ 35) : ∀ n, (c_l m rn I J n).2 c = J c
  | 0 => rfl
  | n + 1 => by
    unfold c_l
    have ih := cl_J (m := m) (rn := rn) h n
    split
    · exact ih
    · split
      · rw [try_J h]
        unfold f_cpJ
        rw [zupL_ne h, ih]
      · exact ih
theorem ce_J {m rn c : Nat} (h : c ≠ 35) : ∀ n, (c_e m rn I J n).2 c = J c
  | 0 => rfl
  | n + 1 => by
    unfold c_e
    have ih := ce_J (m := m) (rn := rn) h n
    split
    · exact ih
    · split
      · rw [try_J h]
        unfold f_cpJ
        rw [zupL_ne h, ih]
      · exact ih
theorem cck_J {m rn c : Nat} (h : c ≠ 35) : (c_ck m rn I J).2 c = J c := by
  unfold c_ck c_A
  rw [ce_J h, cl_J h]
theorem mkc_lt {c : Nat} (h : c < 64) : mkc c := ⟨by omega, by omega, by omega, by omega, by omega, by omega⟩
theorem G_check {m r rn : Nat} (hA : RA I J I J m r) (hr : r ≤ 200 * j) (hj : j ≤ 512) (hrn : rn < 1000) : Rel (j + 1) (m_ck m rn (c_ck m rn I J).1 (c_ck m rn I J).2).1 (m_ck m rn (c_ck m rn I J).1 (c_ck m rn I J).2).2 ∧ (c_ck m rn I J).1 0 7 = (m_ck m rn (c_ck m rn I J).1 (c_ck m rn I J).2).1 64 22 := by
  have c1 : ∀ c, 64 ≤ c → (c_ck m rn I J).1 c = I c := fun c h1 => fr_ck ⟨by omega, by omega, by omega, by omega⟩
  have j81 : (c_ck m rn I J).2 81 = J 81 := cck_J (by decide)
  have K := S_check (rn := rn) (RA_I hA (fun c h1 h2 => c1 c h1) j81) (by omega)
  have d : ∀ c, c < 64 → (m_ck m rn (c_ck m rn I J).1 (c_ck m rn I J).2).1 c = (c_ck m rn I J).1 c := fun c hc => fr_mck (mkc_lt hc)
  have dj : ∀ c, c ≠ 81 → c ≠ 82 → (m_ck m rn (c_ck m rn I J).1 (c_ck m rn I J).2).2 c = (c_ck m rn I J).2 c := fun c h1 h2 => mck_J h1 h2
  generalize c_ck m rn I J = C at *
  generalize m_ck m rn C.1 C.2 = D at *
  refine ⟨⟨m, r, by omega, RA_A K.R (fun c h1 h2 => d c (by omega)) (dj 16 (by decide) (by decide)) (dj 58 (by decide) (by decide)), RN_of K.N (by rw [d 0 (by decide)]) (d 62 (by decide)) (d 63 (by decide)) rfl rfl rfl⟩, ?_⟩
  obtain ⟨c, hc, k1, k2, -⟩ := K.N
  rw [k1, k2]
end R26
