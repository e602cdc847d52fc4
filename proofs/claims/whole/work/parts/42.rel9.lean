section R9
variable {A B P M : zI} {JA : zJ} {b m r : Nat}
theorem d_n {p : Prop} {i2 : Decidable (¬ p)} (h : p) : @decide (¬ p) i2 = false := by
  exact decide_eq_false (fun q => q h)
theorem i67 (x : Int32) : (6 < x) ↔ (7 ≤ x) := by
  rw [Int32.lt_iff_toInt_lt, Int32.le_iff_toInt_le]
  have h6 : (6 : Int32).toInt = 6 := by decide
  have h7 : (7 : Int32).toInt = 7 := by decide
  omega
theorem b_zero {e : Nat} (he : e < 32) : f_bit 0 (nI e) = 0 := by
  rw [b_is _ he]
  have : (0 : Int32).toBitVec.getLsbD e = false := by
    have : (0 : Int32).toBitVec = 0#32 := rfl
    rw [this]; exact BitVec.getLsbD_zero
  rw [this]; rfl
/-- what a slot offers, by what it has -/
theorem ao_P {s j : Nat} (hD : D1 64 P A JA b) (hs : s < 64) (hw : f_wh A b (s / 4) = true) (hj : j = 1 ∨ j = 2 ∨ j = 3) : a_o j A JA b s = if p_so A s = true then (if j = 1 then A 11 s else 0) else if 3 ≤ P (b + 13) s then (if j = 1 then -1 else 0) else P (b + 1 + j) s := by
  obtain ⟨hg, ha, -⟩ := hD.2.2.1 s hs hs hw
  rw [ha, (hg j hj).1]
  rfl
theorem R_us {s : Nat} (hr : r + 1 < 2 ^ 20) (hP : RP A B) (hL : RL A B m) (hF : RF b A JA B r) (hD : D1 64 P A JA b) (hE : E1 64 M (zup B 79 760 (nI (r + 1)))) (hs : s < 64) (hw : f_wh A b (s / 4) = true) :
    m_us M s = a_us A JA b (s / 4) s ∧ (m_us M s = true → a_o 1 A JA b s = m_qu M s ∧ a_o 2 A JA b s = m_ho M s ∧ a_o 3 A JA b s = (if M 72 s < 0 then M 79 (128 + s) else 0) ∧ ∃ q, q ≤ 6 ∧ m_qu M s = nI q) := by
  have hW := R_w hr hP hL hF hD hE hs hw
  have o1 := ao_P (j := 1) hD hs hw (Or.inl rfl)
  have o2 := ao_P (j := 2) hD hs hw (Or.inr (Or.inl rfl))
  have o3 := ao_P (j := 3) hD hs hw (Or.inr (Or.inr rfl))
  have c76 : M 76 s = A 14 s := by rw [hE.1.1 76 (by decide) (by decide), B1_c (by decide), hP.p14]
  have c72 : M 72 s = A 11 s := by rw [hE.1.1 72 (by decide) (by decide), B1_c (by decide), hP.p11]
  have c74 : M 74 s = A 9 s := by rw [hE.1.1 74 (by decide) (by decide), B1_c (by decide), hP.p9]
  have c64 : M 64 1 = A 1 15 := by rw [hE.1.1 64 (by decide) (by decide), B1_c (by decide), hP.pT]
  have c760 : M 79 760 = nI (r + 1) := by rw [hE.1.2 760 (by decide), zz_e]
  unfold m_us m_hw m_ow a_us m_qu m_ho
  rw [c76, c72, c74, c64, c760]
  by_cases hso : A 11 s = -1
  · have hn : p_so A s = false := by unfold p_so; rw [hso]; rfl
    have hlt : A 11 s < 0 := by rw [hso]; decide
    rw [hn] at o1 o2 o3
    simp only [Bool.false_eq_true, if_false] at o1 o2 o3
    rw [d_n (hlt), Bool.false_or, if_pos hlt, if_pos hlt, if_pos hlt]
    rcases hW with ⟨w1, w2⟩ | ⟨w, w1, w2, w3, w4⟩
    · rw [if_pos (by rw [w1]; decide)] at o1
      rw [o1, d_n (w2)]
      have : p_in (-1) 0 6 = false := by decide
      simp [this]
    · rw [w3, pk_sub (by omega)]
      have e3 : (3 : Int32) = nI 3 := rfl
      rcases w4 with ⟨w5, w6⟩ | ⟨w5, w6, w7, w8, w9⟩
      · rw [if_pos (by rw [w6]; decide)] at o1
        have h3 : (3 : Int32) ≤ nI (r + 1 - w) := by rw [e3, nI_leI (by omega) (by omega)]; omega
        rw [o1, d_n (h3)]
        have : p_in (-1) 0 6 = false := by decide
        simp [this]
      · have h3 : ¬ (3 : Int32) ≤ nI (r + 1 - w) := by rw [e3, nI_leI (by omega) (by omega)]; omega
        rw [w6] at o1 o2 o3
        rw [if_neg h3] at o1 o2 o3
        have h9 : ¬ A 9 s < 0 := by
          intro h9
          have h9 := (R9_lt hL hs).mp h9
          obtain ⟨hg, ha, -⟩ := hD.2.2.1 s hs hs hw
          unfold a_ag at ha
          rw [if_pos h9, (hF.un s hs h9).2.1, w6, e3, nI_eq (by omega) (by omega)] at ha
          omega
        rw [show b + 1 + 1 = b + 2 by omega, w7] at o1
        rw [show b + 1 + 2 = b + 3 by omega, w8] at o2
        rw [show b + 1 + 3 = b + 4 by omega, w9] at o3
        rw [o1, o2, o3, decide_eq_true h9, decide_eq_true w2, decide_eq_true h3]
        refine ⟨?_, fun h => ⟨rfl, rfl, rfl, ?_⟩⟩
        · unfold p_in
          rw [decide_eq_true w2]
          have : decide (¬ 6 < M 79 s) = decide (¬ 7 ≤ M 79 s) := by simp [i67]
          rw [this]
          have t1 : decide (¬ A 1 15 = 0) = !decide (A 1 15 = 0) := by simp
          have t2 : decide (¬ f_bit (M 79 (128 + s)) (nI (s / 4)) = 1) = !decide (f_bit (M 79 (128 + s)) (nI (s / 4)) = 1) := by simp
          rw [t1, t2]
          cases decide (¬ 7 ≤ M 79 s) <;> cases decide (A 14 s = 0) <;> cases decide (A 1 15 = 0) <;> cases decide (f_bit (M 79 (128 + s)) (nI (s / 4)) = 1) <;> rfl
        · simp only [Bool.true_and, Bool.and_eq_true, decide_eq_true_eq] at h
          obtain ⟨k, hk, e⟩ := nI_of w2
          refine ⟨k, ?_, e⟩
          have h7 := h.2.1
          rw [e, show (7 : Int32) = nI 7 from rfl, nI_leI (by omega) (by omega)] at h7
          omega
  · have hn : p_so A s = true := by unfold p_so; simp [hso]
    obtain ⟨q, hq, eq⟩ := (hL.src s hs).resolve_left hso
    have hlt : ¬ A 11 s < 0 := fun h => hso ((R11_lt hL hs).mp h)
    rw [hn] at o1 o2 o3
    simp only [if_true] at o1 o2 o3
    rw [decide_eq_true hlt, Bool.true_or, if_neg hlt, if_neg hlt, if_neg hlt, o1, o2, o3]
    refine ⟨?_, fun h => ⟨rfl, rfl, rfl, q, hq, eq⟩⟩
    rw [if_neg (by decide), b_zero (by omega)]
    have : p_in (A 11 s) 0 6 = true := by
      unfold p_in
      rw [decide_eq_true hlt, eq]
      have : ¬ (6 : Int32) < nI q := by rw [show (6 : Int32) = nI 6 from rfl, nI_ltI (by omega) (by omega)]; omega
      rw [decide_eq_true this]; rfl
    rw [this]
    have h01 : decide (¬ (0 : Int32) = 1) = true := by decide
    rw [h01]
    simp
/-- for how long a slot was usable -/
theorem R_u {s : Nat} (hr : r + 1 < 2 ^ 20) (hP : RP A B) (hL : RL A B m) (hF : RF b A JA B r) (hD : D1 64 P A JA b) (hE : E1 64 M (zup B 79 760 (nI (r + 1)))) (hs : s < 64) (hw : f_wh A b (s / 4) = true) :
    ∃ u, u ≤ r + 1 ∧ r_u M s = nI u ∧ P (b + 14) s = nI (min u 11) ∧ (0 < u ↔ m_us M s = true) := by
  obtain ⟨-, -, hu⟩ := hD.2.2.1 s hs hs hw
  obtain ⟨u, u1, u2, u3⟩ := hF.us s hs hw
  have h448 : M 79 (448 + s) = nI u := by rw [hE.1.2 _ (by omega), B1_n (by omega), u2]
  obtain ⟨q1, -⟩ := R_us hr hP hL hF hD hE hs hw
  rw [hu]
  unfold a_u r_u
  rw [← q1, h448, u3]
  cases m_us M s with
  | false => exact ⟨0, by omega, rfl, rfl, by simp⟩
  | true =>
    refine ⟨u + 1, by omega, ?_, ?_, by simp⟩
    · rw [if_pos rfl, nI_1]
    · rw [if_pos rfl, nI_1, show (11 : Int32) = nI 11 from rfl]
      by_cases h : min u 11 + 1 ≤ 11
      · rw [if_neg (by rw [nI_ltI (by omega) (by omega)]; omega), show min u 11 + 1 = min (u + 1) 11 by omega]
      · rw [if_pos (by rw [nI_ltI (by omega) (by omega)]; omega), show min (u + 1) 11 = 11 by omega]
end R9
