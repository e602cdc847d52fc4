/-! The relation holds at the start. -/
theorem mN1_v {k : Nat} : ∀ n, n ≤ 64 → mN1 n k = if k < n ∨ (256 ≤ k ∧ k < 256 + n) then -1 else 0
  | 0, _ => by rw [if_neg (by omega)]; rfl
  | n + 1, hn => by
    have ih := mN1_v (k := k) n (by omega)
    unfold mN1
    rw [Nat.zero_add]
    by_cases h1 : k = 256 + n
    · rw [h1, pk_us, if_pos (by omega)]
    · rw [pk_un h1]
      by_cases h2 : k = n
      · rw [h2, pk_us, if_pos (by omega)]
      · rw [pk_un h2, ih]
        by_cases h3 : k < n ∨ (256 ≤ k ∧ k < 256 + n)
        · rw [if_pos h3, if_pos (by omega)]
        · rw [if_neg h3, if_neg (by omega)]
theorem mN2_v {k : Nat} : ∀ n, n ≤ 16 → mN2 n k = if (528 ≤ k ∧ k < 528 + n) ∨ (656 ≤ k ∧ k < 656 + n) then -1 else mN1 64 k
  | 0, _ => by rw [if_neg (by omega)]; rfl
  | n + 1, hn => by
    have ih := mN2_v (k := k) n (by omega)
    unfold mN2
    by_cases h1 : k = 656 + n
    · rw [h1, pk_us, if_pos (by omega)]
    · rw [pk_un h1]
      by_cases h2 : k = 528 + n
      · rw [h2, pk_us, if_pos (by omega)]
      · rw [pk_un h2, ih]
        by_cases h3 : (528 ≤ k ∧ k < 528 + n) ∨ (656 ≤ k ∧ k < 656 + n)
        · rw [if_pos h3, if_pos (by omega)]
        · rw [if_neg h3, if_neg (by omega)]
def N0 : Nat → Int32 := mN2 16
theorem N0_v {k : Nat} : N0 k = if k < 64 ∨ (256 ≤ k ∧ k < 320) ∨ (528 ≤ k ∧ k < 544) ∨ (656 ≤ k ∧ k < 672) then -1 else 0 := by
  unfold N0
  rw [mN2_v 16 (Nat.le_refl _), mN1_v 64 (Nat.le_refl _)]
  by_cases h1 : (528 ≤ k ∧ k < 528 + 16) ∨ (656 ≤ k ∧ k < 656 + 16)
  · rw [if_pos h1, if_pos (by omega)]
  · rw [if_neg h1]
    by_cases h2 : k < 64 ∨ (256 ≤ k ∧ k < 256 + 64)
    · rw [if_pos h2, if_pos (by omega)]
    · rw [if_neg h2, if_neg (by omega)]
theorem N0_m {k : Nat} (h : k < 64 ∨ (256 ≤ k ∧ k < 320) ∨ (528 ≤ k ∧ k < 544) ∨ (656 ≤ k ∧ k < 672)) : N0 k = -1 := by rw [N0_v, if_pos h]
theorem N0_0 {k : Nat} (h : ¬ (k < 64 ∨ (256 ≤ k ∧ k < 320) ∨ (528 ≤ k ∧ k < 544) ∨ (656 ≤ k ∧ k < 672))) : N0 k = 0 := by rw [N0_v, if_neg h]
def m64 : Nat → Int32 := yF 64 (-1) y0
def m16 : Nat → Int32 := yF 16 (-1) y0
def a64 : Nat → Int32 := yF 64 3 y0
def c16 : Nat → Int32 := yF 16 0 y0
theorem m64_v {s : Nat} (h : s < 64) : m64 s = -1 := if_pos h
theorem m16_v {s : Nat} (h : s < 16) : m16 s = -1 := if_pos h
theorem a64_v {s : Nat} (h : s < 64) : a64 s = 3 := if_pos h
theorem c16_v {s : Nat} (h : s < 16) : c16 s = 0 := if_pos h
theorem y0_v {s : Nat} : y0 s = 0 := rfl
theorem I0_2 : I0 2 = y0 := rfl
theorem I0_3 : I0 3 = y0 := rfl
theorem I0_4 : I0 4 = y0 := rfl
theorem I0_5 : I0 5 = y0 := rfl
theorem I0_6 : I0 6 = y0 := rfl
theorem I0_7 : I0 7 = m16 := rfl
theorem I0_8 : I0 8 = m16 := rfl
theorem I0_9 : I0 9 = m64 := rfl
theorem I0_11 : I0 11 = m64 := rfl
theorem I0_12 : I0 12 = y0 := rfl
theorem I0_13 : I0 13 = y0 := rfl
theorem I0_14 : I0 14 = y0 := rfl
theorem I0_22 : I0 22 = m64 := rfl
theorem I0_29 : I0 29 = a64 := rfl
theorem I0_30 : I0 30 = y0 := rfl
theorem I0_31 : I0 31 = y0 := rfl
theorem I0_32 : I0 32 = m16 := rfl
theorem I0_33 : I0 33 = m16 := rfl
theorem I0_34 : I0 34 = m16 := rfl
theorem I0_55 : I0 55 = y0 := rfl
theorem I0_56 : I0 56 = y0 := rfl
theorem I0_60 : I0 60 = c16 := rfl
theorem I0_61 : I0 61 = m16 := rfl
theorem I0_65 : I0 65 = y0 := rfl
theorem I0_66 : I0 66 = y0 := rfl
theorem I0_67 : I0 67 = y0 := rfl
theorem I0_68 : I0 68 = y0 := rfl
theorem I0_69 : I0 69 = y0 := rfl
theorem I0_70 : I0 70 = m16 := rfl
theorem I0_71 : I0 71 = m16 := rfl
theorem I0_72 : I0 72 = m64 := rfl
theorem I0_73 : I0 73 = y0 := rfl
theorem I0_74 : I0 74 = m64 := rfl
theorem I0_75 : I0 75 = y0 := rfl
theorem I0_76 : I0 76 = y0 := rfl
theorem I0_79 : I0 79 = N0 := rfl
theorem I0_110 : I0 1 14 = 0 := rfl
theorem I0_111 : I0 1 15 = 1 := rfl
theorem I0_640 : I0 64 14 = 0 := rfl
theorem I0_641 : I0 64 1 = 1 := rfl
theorem I0_642 : I0 64 22 = 0 := rfl
theorem I0_07 : I0 0 7 = 0 := rfl
theorem I0_160 : I0 16 10 = 0 := rfl
theorem I0_161 : I0 16 11 = 0 := rfl
theorem I0_162 : I0 16 12 = 0 := rfl
theorem I0_592 : I0 59 2 = 0 := rfl
theorem f_ls_z {s : Nat} : f_ls J0 16 s = true := by
  have h := f_ls_0 (J := J0) (b := 16) (s := s)
  unfold f_ls at h ⊢
  rw [zupL_same, pk_uLs] at h
  exact h
theorem I0_wh {e : Nat} : f_wh I0 16 e = false := by
  unfold f_wh
  rw [I0_2, y0_v]
  simp
theorem Rel_0 : Rel 0 I0 J0 := by
  refine ⟨0, 0, Nat.le_refl _, ⟨?_, ?_, ?_, ?_⟩, ?_⟩
  · refine ⟨?_, ?_, ?_, ?_, ?_, ?_, ?_, ?_, ?_, ?_, ?_, ?_, ?_, ?_⟩
    · rw [I0_2, I0_65]
    · rw [I0_3, I0_66]
    · rw [I0_4, I0_67]
    · rw [I0_5, I0_68]
    · rw [I0_6, I0_69]
    · rw [I0_7, I0_70]
    · rw [I0_8, I0_71]
    · rw [I0_9, I0_74]
    · rw [I0_11, I0_72]
    · rw [I0_12, I0_73]
    · rw [I0_13, I0_75]
    · rw [I0_14, I0_76]
    · rw [I0_110, I0_640]
    · rw [I0_111, I0_641]
  · refine ⟨by omega, by rw [I0_110]; rfl, fun l hl => absurd hl (by omega), fun s hs => Or.inl ?_, fun s hs => Or.inl ?_, fun s hs h9 => ?_, fun s hs => Or.inl ?_, fun s hs _ => ?_, fun e he => ⟨Or.inl ?_, Or.inl ?_⟩, fun e he => ⟨0, by omega, ?_⟩, fun e he => ⟨0, by omega, ?_⟩, fun e he _ => ?_, fun e he => Or.inl ?_, Or.inr I0_111⟩
    · rw [I0_9]; exact m64_v hs
    · rw [I0_11]; exact m64_v hs
    · rw [I0_9] at h9; exact absurd (m64_v hs) h9
    · rw [I0_14]; exact y0_v
    · rw [I0_9]; exact m64_v hs
    · rw [I0_7]; exact m16_v he
    · rw [I0_8]; exact m16_v he
    · rw [I0_3]; rfl
    · rw [I0_6]; rfl
    · rw [I0_6]; exact y0_v
    · rw [I0_2]; exact y0_v
  · refine ⟨fun e he => ?_, fun l hl => ?_, fun s l hs hl h9 => ?_, ?_, fun e he hw => ?_, fun e he hw => ?_, fun s hs hw => ?_, fun s hs hw => ?_, fun e he hw => ?_, fun s hs hw => ?_, fun e he h2 => ?_, fun s hs h9 => ?_, fun s hs => ?_, fun s hs h9 => f_ls_z, fun l hl h9 => ?_, fun y hy h5 => ?_⟩
    · rw [I0_161, b_zero (by omega), I0_79, N0_0 (by omega)]
    · rw [I0_162, b_zero (by omega), I0_79, N0_0 (by omega)]
    · rw [I0_9, m64_v hs] at h9; exact absurd h9.symm (nI_neg1 (by omega))
    · rw [I0_79, N0_0 (by omega)]; rfl
    · rw [I0_wh] at hw; cases hw
    · rw [I0_wh] at hw; cases hw
    · rw [I0_wh] at hw; cases hw
    · rw [I0_wh] at hw; cases hw
    · show I0 31 e = 0 ∧ I0 32 e = -1 ∧ I0 33 e = -1 ∧ I0 34 e = -1 ∧ _
      rw [I0_31, I0_32, I0_33, I0_34, I0_160, b_zero (by omega), m16_v he]
      exact ⟨rfl, rfl, rfl, rfl, rfl⟩
    · show I0 29 s = 3 ∧ I0 30 s = 0 ∧ I0 22 s = -1
      rw [I0_29, I0_30, I0_22, a64_v hs, m64_v hs]
      exact ⟨rfl, rfl, rfl⟩
    · rw [I0_79]
      exact ⟨N0_0 (by omega), N0_m (by omega), N0_0 (by omega), N0_0 (by omega), fun p hp => N0_0 (by omega)⟩
    · show _ ∧ I0 29 s = 3 ∧ I0 22 s = -1
      rw [I0_79, I0_29, I0_22, N0_m (by omega), a64_v hs, m64_v hs]
      exact ⟨by decide, rfl, rfl⟩
    · show I0 22 s = _ ∧ (I0 22 s = -1 ∨ _)
      rw [I0_79, I0_22, N0_m (by omega), m64_v hs]
      exact ⟨rfl, Or.inl rfl⟩
    · rw [I0_79]
      exact ⟨N0_0 (by omega), N0_0 (by omega)⟩
    · rw [I0_79, N0_0 (by omega)] at h5
      exact absurd h5 (by decide)
  · refine ⟨fun e he => ?_, fun e he => ?_, fun e he => ?_, fun e he => rfl, fun e he => ?_, fun e he => ?_, ?_⟩
    · rw [I0_55, I0_79, N0_0 (by omega)]; rfl
    · rw [I0_55, I0_79, N0_0 (by omega)]; rfl
    · rw [I0_56, I0_79, N0_0 (by omega)]; rfl
    · rw [I0_60, I0_79, N0_0 (by omega), c16_v he]
    · rw [I0_61, I0_79, N0_m (by omega), m16_v he]
    · rw [I0_592, I0_79, N0_0 (by omega)]
  · exact ⟨0, by omega, by rw [I0_07]; rfl, by rw [I0_642]; rfl, fun i hi => absurd hi (by omega)⟩
