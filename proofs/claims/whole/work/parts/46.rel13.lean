/-! The whole relation, and that it looks at some cells alone. -/
section R13
variable {A A' B B' : zI} {JA JA' JB JB' : zJ} {b m r : Nat}
theorem RP_of (h : RP A B) (hA : ∀ c, 0 < c → c < 16 → A' c = A c) (hB : ∀ c, 65 ≤ c → c ≤ 78 → B' c = B c) (h14 : B' 64 14 = B 64 14) (h1 : B' 64 1 = B 64 1) : RP A' B' := by
  unfold RP at h ⊢
  rw [hA 1 (by decide) (by decide), hA 2 (by decide) (by decide), hA 3 (by decide) (by decide), hA 4 (by decide) (by decide), hA 5 (by decide) (by decide), hA 6 (by decide) (by decide), hA 7 (by decide) (by decide), hA 8 (by decide) (by decide), hA 9 (by decide) (by decide), hA 11 (by decide) (by decide), hA 12 (by decide) (by decide), hA 13 (by decide) (by decide), hA 14 (by decide) (by decide),
    hB 65 (by decide) (by decide), hB 66 (by decide) (by decide), hB 67 (by decide) (by decide), hB 68 (by decide) (by decide), hB 69 (by decide) (by decide), hB 70 (by decide) (by decide), hB 71 (by decide) (by decide), hB 72 (by decide) (by decide), hB 73 (by decide) (by decide), hB 74 (by decide) (by decide), hB 75 (by decide) (by decide), hB 76 (by decide) (by decide), h14, h1]
  exact h
theorem RL_of (h : RL A B m) (hA : ∀ c, 0 < c → c < 16 → A' c = A c) (h77 : B' 77 = B 77) (h78 : B' 78 = B 78) : RL A' B' m := by
  unfold RL at h ⊢
  rw [hA 1 (by decide) (by decide), hA 2 (by decide) (by decide), hA 3 (by decide) (by decide), hA 6 (by decide) (by decide), hA 7 (by decide) (by decide), hA 8 (by decide) (by decide), hA 9 (by decide) (by decide), hA 10 (by decide) (by decide), hA 11 (by decide) (by decide), hA 14 (by decide) (by decide), hA 15 (by decide) (by decide), h77, h78]
  exact h
theorem RF_of (h : RF b A JA B r) (hA : ∀ c, c = 2 ∨ c = 9 ∨ (b ≤ c ∧ c < b + 19) → A' c = A c) (hJ : JA' b = JA b) (hB : B' 79 = B 79) (h77 : B' 77 = B 77) : RF b A' JA' B' r := by
  unfold RF RW f_wh f_ls at h ⊢
  rw [hA 2 (by omega), hA 9 (by omega), hA b (by omega), hA (b + 2) (by omega), hA (b + 3) (by omega), hA (b + 4) (by omega), hA (b + 6) (by omega), hA (b + 7) (by omega), hA (b + 8) (by omega), hA (b + 13) (by omega), hA (b + 14) (by omega), hA (b + 15) (by omega), hA (b + 16) (by omega), hA (b + 17) (by omega), hA (b + 18) (by omega), hJ, hB, h77]
  exact h
theorem RC_of (h : RC A JA B JB) (hA : ∀ c, 54 ≤ c → c < 62 → A' c = A c) (hJ : JA' 58 = JA 58) (hB : B' 79 = B 79) (hJB : JB' 81 = JB 81) : RC A' JA' B' JB' := by
  unfold RC at h ⊢
  rw [hA 55 (by decide) (by decide), hA 56 (by decide) (by decide), hA 59 (by decide) (by decide), hA 60 (by decide) (by decide), hA 61 (by decide) (by decide), hJ, hB, hJB]
  exact h
def RA (A : zI) (JA : zJ) (B : zI) (JB : zJ) (m r : Nat) : Prop := (RP A B) ∧ (RL A B m) ∧ (RF 16 A JA B r) ∧ (RC A JA B JB)
theorem RA.P {A : zI} {JA : zJ} {B : zI} {JB : zJ} {m r : Nat} (h : RA A JA B JB m r) : RP A B := h.1
theorem RA.L {A : zI} {JA : zJ} {B : zI} {JB : zJ} {m r : Nat} (h : RA A JA B JB m r) : RL A B m := h.2.1
theorem RA.F {A : zI} {JA : zJ} {B : zI} {JB : zJ} {m r : Nat} (h : RA A JA B JB m r) : RF 16 A JA B r := h.2.2.1
theorem RA.C {A : zI} {JA : zJ} {B : zI} {JB : zJ} {m r : Nat} (h : RA A JA B JB m r) : RC A JA B JB := h.2.2.2
theorem RA_A (h : RA A JA B JB m r) (hA : ∀ c, 0 < c → (c < 35 ∨ (54 ≤ c ∧ c < 62)) → A' c = A c) (h16 : JA' 16 = JA 16) (h58 : JA' 58 = JA 58) : RA A' JA' B JB m r :=
  ⟨RP_of h.P (fun c h1 h2 => hA c h1 (by omega)) (fun _ _ _ => rfl) rfl rfl, RL_of h.L (fun c h1 h2 => hA c h1 (by omega)) rfl rfl, RF_of h.F (fun c h1 => hA c (by omega) (by omega)) h16 rfl rfl, RC_of h.C (fun c h1 h2 => hA c (by omega) (by omega)) h58 rfl rfl⟩
theorem RA_B (h : RA A JA B JB m r) (hB : ∀ c, 65 ≤ c → c ≤ 79 → B' c = B c) (h14 : B' 64 14 = B 64 14) (h1 : B' 64 1 = B 64 1) (h81 : JB' 81 = JB 81) : RA A JA B' JB' m r :=
  ⟨RP_of h.P (fun _ _ _ => rfl) (fun c h1 h2 => hB c h1 (by omega)) h14 h1, RL_of h.L (fun _ _ _ => rfl) (hB 77 (by decide) (by decide)) (hB 78 (by decide) (by decide)), RF_of h.F (fun _ _ => rfl) rfl (hB 79 (by decide) (by decide)) (hB 77 (by decide) (by decide)), RC_of h.C (fun _ _ _ => rfl) rfl (hB 79 (by decide) (by decide)) h81⟩
/-- the findings -/
def RN (A B : zI) : Prop := ∃ c, c ≤ 100 ∧ A 0 7 = nI c ∧ B 64 22 = nI c ∧ ∀ i, i < c → A 62 i = B 84 i ∧ A 63 i = B 85 i
theorem RN_of (h : RN A B) (h0 : A' 0 7 = A 0 7) (h62 : A' 62 = A 62) (h63 : A' 63 = A 63) (h22 : B' 64 22 = B 64 22) (h84 : B' 84 = B 84) (h85 : B' 85 = B 85) : RN A' B' := by
  unfold RN at h ⊢
  rw [h0, h62, h63, h22, h84, h85]
  exact h
/-- what holds before the call of number j -/
def Rel (j : Nat) (I : zI) (J : zJ) : Prop := ∃ m r, r ≤ 200 * j ∧ RA I J I J m r ∧ RN I I
theorem R_rn (h : RA A JA B JB m r) : ∀ n, r + n < 2 ^ 20 → RA (c_rn A JA n).1 (c_rn A JA n).2 (m_itI B n) (m_itJ B JB n) m (r + n)
  | 0, _ => h
  | n + 1, hn => by
    have ih := R_rn h n (by omega)
    have hF := R_round (Nat.le_refl _) (by omega) ih.P ih.L ih.F
    have hC := RC_round (by omega) ih.P ih.L ih.F ih.C
    have a1 : ∀ c, c < 55 ∨ 61 < c → c_rI (c_rn A JA n).1 (c_rn A JA n).2 c = f_ro (c_rn A JA n).1 (c_rn A JA n).2 16 c := fun c h => by unfold c_rI; rw [fr_lro (by omega), fr_kro (by omega)]
    have a2 : ∀ c, c < 16 → c_rI (c_rn A JA n).1 (c_rn A JA n).2 c = (c_rn A JA n).1 c := fun c h => by rw [a1 c (by omega), fr_ro (by omega)]
    have b2 : ∀ c, c ≠ 79 → c ≠ 83 → m_ro (m_itI B n) c = m_itI B n c := fun c h1 h2 => fr_mro h1 h2
    have e1 : (c_rn A JA (n + 1)).1 = c_rI (c_rn A JA n).1 (c_rn A JA n).2 := by rw [c_rn]
    have e2 : (c_rn A JA (n + 1)).2 = c_rJ (c_rn A JA n).1 (c_rn A JA n).2 := by rw [c_rn]
    have e3 : m_itI B (n + 1) = m_ro (m_itI B n) := by rw [m_itI]
    have e4 : m_itJ B JB (n + 1) = m_roJ (m_itI B n) (m_itJ B JB n) := by rw [m_itJ]
    rw [e1, e2, e3, e4]
    generalize (c_rn A JA n).1 = X at *
    generalize (c_rn A JA n).2 = JX at *
    generalize m_itI B n = Y at *
    generalize m_itJ B JB n = JY at *
    refine ⟨?_, ?_, ?_, hC⟩
    · exact RP_of ih.P (fun c h1 h2 => a2 c h2) (fun c h1 h2 => b2 c (by omega) (by omega)) (by rw [b2 64 (by decide) (by decide)]) (by rw [b2 64 (by decide) (by decide)])
    · exact RL_of ih.L (fun c h1 h2 => a2 c h2) (b2 77 (by decide) (by decide)) (b2 78 (by decide) (by decide))
    · refine RF_of hF (fun c h1 => a1 c (by omega)) ?_ rfl rfl
      unfold c_rJ k_roJ
      rw [ksJ_n (by decide)]
end R13
