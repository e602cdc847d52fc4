/-! What is refused. -/
section R14
variable {A B : zI} {JA JB : zJ} {m r : Nat}
theorem i_lt (x y : Int32) : (x < y) ↔ (x.toInt < y.toInt) := Int32.lt_iff_toInt_lt
theorem i_le (x y : Int32) : (x ≤ y) ↔ (x.toInt ≤ y.toInt) := Int32.le_iff_toInt_le
theorem i_eq (x y : Int32) : (x = y) ↔ (x.toInt = y.toInt) := Int32.toInt_inj.symm
theorem i_m1 {m : Nat} (h : m < 2 ^ 31) : (nI m - 1).toInt = (m : Int) - 1 := by
  rw [Int32.toInt_sub, nI_toInt h]
  have : (1 : Int32).toInt = 1 := by decide
  rw [this]
  apply Int.bmod_eq_of_le <;> omega
theorem l_0 : (0 : Int32).toInt = 0 := by decide
theorem l_1' : (1 : Int32).toInt = 1 := by decide
theorem l_3 : (3 : Int32).toInt = 3 := by decide
theorem l_4 : (4 : Int32).toInt = 4 := by decide
theorem l_6 : (6 : Int32).toInt = 6 := by decide
theorem l_7 : (7 : Int32).toInt = 7 := by decide
theorem l_9 : (9 : Int32).toInt = 9 := by decide
theorem l_10 : (10 : Int32).toInt = 10 := by decide
theorem l_15 : (15 : Int32).toInt = 15 := by decide
theorem l_24 : (24 : Int32).toInt = 24 := by decide
theorem l_100 : (100 : Int32).toInt = 100 := by decide
theorem l_200 : (200 : Int32).toInt = 200 := by decide
theorem l_1000 : (1000 : Int32).toInt = 1000 := by decide
theorem l_n1 : (-1 : Int32).toInt = -1 := by decide
theorem l_n9 : (-9 : Int32).toInt = -9 := by decide
theorem l_n1000 : (-1000 : Int32).toInt = -1000 := by decide
theorem B_ne {e : Int32} (hP : RP A B) : m_ne B e = !p_th A e := by
  unfold m_ne p_th p_in
  rw [hP.p2, Bool.eq_iff_iff]
  simp only [Bool.or_eq_true, Bool.and_eq_true, Bool.not_eq_true', Bool.and_eq_false_iff, decide_eq_true_eq, decide_eq_false_iff_not, i_lt, l_0, l_15]
  by_cases h : B 65 e.toNatClampNeg = 0
  · simp [h]
  · simp [h]
theorem B_np {e p : Int32} (hP : RP A B) : m_np B e p = !p_po A e p := by
  unfold m_np p_po
  rw [B_ne hP]
  unfold p_in
  cases p_th A e
  · simp
  · rw [Bool.eq_iff_iff]
    simp only [Bool.not_true, Bool.false_or, Bool.true_and, Bool.or_eq_true, Bool.not_eq_true', Bool.and_eq_false_iff, decide_eq_true_eq, decide_eq_false_iff_not, i_lt, i_le, l_0, l_3]
    omega
theorem B_nl {k : Int32} (hP : RP A B) (hL : RL A B m) : m_nl B k = !p_lk A k := by
  unfold m_nl p_lk p_in
  have h24 := hL.m24
  rw [← hP.pL, hL.cnt, Bool.eq_iff_iff]
  simp only [Bool.or_eq_true, Bool.not_eq_true', Bool.and_eq_false_iff, decide_eq_true_eq, decide_eq_false_iff_not, i_lt, l_0, i_m1 (show m < 2 ^ 31 by omega), nI_toInt (show m < 2 ^ 31 by omega)]
  omega
theorem B_el {e q o s : Int32} : m_elw e q o s = !((p_in e 0 15 && p_in q 0 6) && p_in o (-1000) 1000 && p_in s (-9) 9) := by
  unfold m_elw p_in
  rw [Bool.eq_iff_iff]
  simp only [Bool.or_eq_true, Bool.not_eq_true', Bool.and_eq_false_iff, decide_eq_true_eq, decide_eq_false_iff_not, i_lt, i_le, l_0, l_15, l_6, l_1000, l_n1000, l_9, l_n9]
  omega
theorem B_lkw {a p b q : Int32} (hP : RP A B) : m_lkw B a p b q = !(p_po A a p && p_po A b q && decide (¬ a = b)) := by
  unfold m_lkw
  rw [B_np hP, B_np hP]
  cases p_po A a p <;> cases p_po A b q <;> simp
theorem B_sow {e p q o : Int32} (hP : RP A B) : m_sow B e p q o = !(p_po A e p && (decide (q = -1) || (p_in q 0 6 && p_in o (-1000) 1000))) := by
  unfold m_sow
  rw [B_np hP]
  unfold p_in
  cases p_po A e p
  · simp
  · rw [Bool.eq_iff_iff]
    simp only [Bool.not_true, Bool.false_or, Bool.true_and, Bool.or_eq_true, Bool.and_eq_true, Bool.or_eq_false_iff, Bool.not_eq_true', Bool.and_eq_false_iff, decide_eq_true_eq, decide_eq_false_iff_not, i_lt, i_le, i_eq, l_0, l_6, l_1000, l_n1000, l_n1]
    omega
theorem B_prw {e p v : Int32} (hP : RP A B) : m_prw B e p v = !(p_po A e p && p_in v 0 9) := by
  unfold m_prw
  rw [B_np hP]
  unfold p_in
  cases p_po A e p
  · simp
  · rw [Bool.eq_iff_iff]
    simp only [Bool.not_true, Bool.false_or, Bool.true_and, Bool.or_eq_true, Bool.not_eq_true', Bool.and_eq_false_iff, decide_eq_true_eq, decide_eq_false_iff_not, i_lt, i_le, l_0, l_9]
    omega
theorem B_rew {e v : Int32} (hP : RP A B) : m_rew B e v = !(p_th A e && p_in v 0 10) := by
  unfold m_rew
  rw [B_ne hP]
  unfold p_in
  cases p_th A e
  · simp
  · rw [Bool.eq_iff_iff]
    simp only [Bool.not_true, Bool.false_or, Bool.true_and, Bool.or_eq_true, Bool.not_eq_true', Bool.and_eq_false_iff, decide_eq_true_eq, decide_eq_false_iff_not, i_lt, i_le, l_0, l_10]
    omega
theorem B_cow {e w p : Int32} (hP : RP A B) : m_cow B e w p = !((p_th A e && p_in w 0 1) && (decide (p = -1) || p_in p 0 3)) := by
  unfold m_cow
  rw [B_ne hP]
  unfold p_in
  cases p_th A e
  · simp
  · rw [Bool.eq_iff_iff]
    simp only [Bool.not_true, Bool.false_or, Bool.true_and, Bool.or_eq_true, Bool.or_eq_false_iff, Bool.not_eq_true', Bool.and_eq_false_iff, decide_eq_true_eq, decide_eq_false_iff_not, i_lt, i_le, i_eq, l_0, l_1', l_3, l_n1]
    omega
theorem B_row {n : Int32} : m_row n = !p_in n 1 200 := by
  unfold m_row p_in
  rw [Bool.eq_iff_iff]
  simp only [Bool.or_eq_true, Bool.not_eq_true', Bool.and_eq_false_iff, decide_eq_true_eq, decide_eq_false_iff_not, i_lt, i_le, l_1', l_200]
  omega
theorem B_stw {e w : Int32} (hP : RP A B) : m_stw B e w = !(p_th A e && p_in w 0 4) := by
  unfold m_stw
  rw [B_ne hP]
  unfold p_in
  cases p_th A e
  · simp
  · rw [Bool.eq_iff_iff]
    simp only [Bool.not_true, Bool.false_or, Bool.true_and, Bool.or_eq_true, Bool.not_eq_true', Bool.and_eq_false_iff, decide_eq_true_eq, decide_eq_false_iff_not, i_lt, i_le, l_0, l_4]
    omega
theorem B_fiw {k w : Int32} (hN : RN A B) : m_fiw B k w = !(p_in k 0 (A 0 7 - 1) && p_in w 0 1) := by
  obtain ⟨c, hc, c1, c2, -⟩ := hN
  unfold m_fiw p_in
  rw [c1, c2, Bool.eq_iff_iff]
  simp only [Bool.or_eq_true, Bool.not_eq_true', Bool.and_eq_false_iff, decide_eq_true_eq, decide_eq_false_iff_not, i_lt, i_le, l_0, l_1', i_m1 (show c < 2 ^ 31 by omega), nI_toInt (show c < 2 ^ 31 by omega)]
  omega
theorem B_tk {s : Nat} (hP : RP A B) (hL : RL A B m) (hs : s < 64) : (decide (0 ≤ B 72 s) || decide (0 ≤ B 74 s)) = p_tk A s := by
  unfold p_tk p_so
  rw [← hP.p9, ← hP.p11, Bool.eq_iff_iff]
  have h1 := R9_lt hL hs
  have h2 := R11_lt hL hs
  simp only [Bool.or_eq_true, decide_eq_true_eq, i_lt, i_le, l_0, i_eq, l_n1] at h1 h2 ⊢
  omega
theorem B_lkt {x y : Nat} {v : Int32} (hP : RP A B) (hL : RL A B m) (hx : x < 64) (hy : y < 64) : m_lkt (zup B 64 0 v) x y = (p_tk A x || p_tk A y || decide (¬ A 1 14 < 24)) := by
  unfold m_lkt
  have h24 := hL.m24
  rw [zup_ne (by decide), zup_ne (by decide), zz_k (by decide), ← B_tk hP hL hx, ← B_tk hP hL hy, ← hP.pL, hL.cnt]
  have : decide (nI m = 24) = decide (¬ nI m < 24) := by
    rw [show (24 : Int32) = nI 24 from rfl]
    have h1 := nI_eq (a := m) (b := 24) (by omega) (by omega)
    have h2 := nI_ltI (a := m) (b := 24) (by omega) (by omega)
    rw [Bool.eq_iff_iff]
    simp only [decide_eq_true_eq, h1, h2]
    omega
  rw [this]
  cases decide (0 ≤ B 72 x) <;> cases decide (0 ≤ B 72 y) <;> cases decide (0 ≤ B 74 x) <;> cases decide (0 ≤ B 74 y) <;> rfl
/-- an element, a port, a link that are there, by their numbers -/
theorem p_th_ix {e : Int32} (h : p_th A e = true) : ∃ n, n < 16 ∧ e = nI n ∧ ¬ A 2 n = 0 := by
  unfold p_th at h
  simp only [Bool.and_eq_true, decide_eq_true_eq] at h
  obtain ⟨h1, h2⟩ := p_in_ix (n := 15) (by decide) h.1
  exact ⟨e.toNatClampNeg, by omega, h1, h.2⟩
theorem p_in_3 {p : Int32} (h : p_in p 0 3 = true) : ∃ n, n < 4 ∧ p = nI n := by
  obtain ⟨h1, h2⟩ := p_in_ix (n := 3) (by decide) h
  exact ⟨p.toNatClampNeg, by omega, h1⟩
theorem p_po_ix {e p : Int32} (h : p_po A e p = true) : ∃ n k, n < 16 ∧ k < 4 ∧ e = nI n ∧ p = nI k ∧ ¬ A 2 n = 0 := by
  unfold p_po at h
  simp only [Bool.and_eq_true] at h
  obtain ⟨n, hn, e1, h2⟩ := p_th_ix h.1
  obtain ⟨k, hk, e2⟩ := p_in_3 h.2
  exact ⟨n, k, hn, hk, e1, e2, h2⟩
theorem p_lk_ix {k : Int32} (hL : RL A B m) (h : p_lk A k = true) : ∃ n, n < m ∧ k = nI n := by
  unfold p_lk p_in at h
  have h24 := hL.m24
  rw [hL.cnt] at h
  simp only [Bool.and_eq_true, decide_eq_true_eq] at h
  obtain ⟨n, hn, e⟩ := nI_of h.1
  refine ⟨n, ?_, e⟩
  have h2 := h.2
  rw [i_lt, i_m1 (by omega), e, nI_toInt hn] at h2
  omega
end R14
