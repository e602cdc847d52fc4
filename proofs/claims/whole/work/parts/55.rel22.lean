/-! A trial: the copy of the flow, and its rounds. -/
section R22
variable {A B : zI} {JA JB : zJ} {b m r : Nat}
theorem zcp_v {I : zI} {c0 c1 n j : Nat} (h : j < n) : zcp I c0 c1 n c1 j = I c0 j := by
  rw [zcp_same, pk_cpy_in (Nat.zero_le _) (by omega), Nat.zero_add, Nat.sub_zero]
theorem cp_b {k : Nat} (h : k = 10 ∨ k = 11 ∨ k = 12) : f_cp A 16 35 35 k = A 16 k := by
  have c : ∀ c, c < 35 ∨ c = 35 → f_cpA A 16 35 c = A c := fun c hc => by
    unfold f_cpA
    rw [zcp_ne (by omega), zcp_ne (by omega), zcp_ne (by omega), zcp_ne (by omega), zcp_ne (by omega), zcp_ne (by omega), fr_wcp (by omega), fr_wcp (by omega)]
  unfold f_cp f_cpu
  rcases h with rfl | rfl | rfl
  · rw [zz_k (by decide), zz_k (by decide), zz_e, c 16 (by decide)]
  · rw [zz_k (by decide), zz_e, zz_c (by decide), c 16 (by decide)]
  · rw [zz_e, zz_c (by decide), zz_c (by decide), c 16 (by decide)]
theorem cp_c {c j : Nat} (h : c ≠ 35) : f_cp A 16 35 c j = f_cpA A 16 35 c j := by
  unfold f_cp f_cpu
  rw [zz_c h, zz_c h, zz_c h]
theorem cp_s {c s : Nat} (hs : s < 64) (h : (2 ≤ c ∧ c ≤ 4) ∨ (6 ≤ c ∧ c ≤ 8) ∨ c = 13 ∨ c = 14) : f_cp A 16 35 (35 + c) s = A (16 + c) s := by
  rw [cp_c (by omega)]
  unfold f_cpA w_cp
  have h9 : c = 2 ∨ c = 3 ∨ c = 4 ∨ c = 6 ∨ c = 7 ∨ c = 8 ∨ c = 13 ∨ c = 14 := by omega
  rcases h9 with rfl | rfl | rfl | rfl | rfl | rfl | rfl | rfl
  · rw [zcp_ne (by decide), zcp_ne (by decide), zcp_ne (by decide), zcp_ne (by decide), zcp_ne (by decide), zcp_ne (by decide), zcp_ne (by decide), zcp_ne (by decide), zcp_ne (by decide), zcp_ne (by decide), zcp_ne (by decide), zcp_v hs]
  · rw [zcp_ne (by decide), zcp_ne (by decide), zcp_ne (by decide), zcp_ne (by decide), zcp_ne (by decide), zcp_ne (by decide), zcp_ne (by decide), zcp_ne (by decide), zcp_ne (by decide), zcp_ne (by decide), zcp_v hs, zcp_ne (by decide)]
  · rw [zcp_ne (by decide), zcp_ne (by decide), zcp_ne (by decide), zcp_ne (by decide), zcp_ne (by decide), zcp_ne (by decide), zcp_ne (by decide), zcp_ne (by decide), zcp_ne (by decide), zcp_v hs, zcp_ne (by decide), zcp_ne (by decide)]
  · rw [zcp_ne (by decide), zcp_ne (by decide), zcp_ne (by decide), zcp_ne (by decide), zcp_ne (by decide), zcp_ne (by decide), zcp_ne (by decide), zcp_ne (by decide), zcp_v hs, zcp_ne (by decide), zcp_ne (by decide), zcp_ne (by decide)]
  · rw [zcp_ne (by decide), zcp_ne (by decide), zcp_ne (by decide), zcp_ne (by decide), zcp_ne (by decide), zcp_ne (by decide), zcp_ne (by decide), zcp_v hs, zcp_ne (by decide), zcp_ne (by decide), zcp_ne (by decide), zcp_ne (by decide)]
  · rw [zcp_ne (by decide), zcp_ne (by decide), zcp_ne (by decide), zcp_ne (by decide), zcp_ne (by decide), zcp_ne (by decide), zcp_v hs, zcp_ne (by decide), zcp_ne (by decide), zcp_ne (by decide), zcp_ne (by decide), zcp_ne (by decide)]
  · rw [zcp_ne (by decide), zcp_ne (by decide), zcp_ne (by decide), zcp_ne (by decide), zcp_ne (by decide), zcp_v hs, zcp_ne (by decide), zcp_ne (by decide), zcp_ne (by decide), zcp_ne (by decide), zcp_ne (by decide), zcp_ne (by decide)]
  · rw [zcp_ne (by decide), zcp_ne (by decide), zcp_ne (by decide), zcp_ne (by decide), zcp_v hs, zcp_ne (by decide), zcp_ne (by decide), zcp_ne (by decide), zcp_ne (by decide), zcp_ne (by decide), zcp_ne (by decide), zcp_ne (by decide)]
theorem cp_e {c e : Nat} (he : e < 16) (h : 15 ≤ c ∧ c ≤ 18) : f_cp A 16 35 (35 + c) e = A (16 + c) e := by
  rw [cp_c (by omega)]
  unfold f_cpA w_cp
  have h9 : c = 15 ∨ c = 16 ∨ c = 17 ∨ c = 18 := by omega
  rcases h9 with rfl | rfl | rfl | rfl
  · rw [zcp_ne (by decide), zcp_ne (by decide), zcp_ne (by decide), zcp_v he, zcp_ne (by decide), zcp_ne (by decide), zcp_ne (by decide), zcp_ne (by decide), zcp_ne (by decide), zcp_ne (by decide), zcp_ne (by decide), zcp_ne (by decide)]
  · rw [zcp_ne (by decide), zcp_ne (by decide), zcp_v he, zcp_ne (by decide), zcp_ne (by decide), zcp_ne (by decide), zcp_ne (by decide), zcp_ne (by decide), zcp_ne (by decide), zcp_ne (by decide), zcp_ne (by decide), zcp_ne (by decide)]
  · rw [zcp_ne (by decide), zcp_v he, zcp_ne (by decide), zcp_ne (by decide), zcp_ne (by decide), zcp_ne (by decide), zcp_ne (by decide), zcp_ne (by decide), zcp_ne (by decide), zcp_ne (by decide), zcp_ne (by decide), zcp_ne (by decide)]
  · rw [zcp_v he, zcp_ne (by decide), zcp_ne (by decide), zcp_ne (by decide), zcp_ne (by decide), zcp_ne (by decide), zcp_ne (by decide), zcp_ne (by decide), zcp_ne (by decide), zcp_ne (by decide), zcp_ne (by decide), zcp_ne (by decide)]
/-- the copy stands to the reference as the flow does -/
theorem RF_cp (h : RF 16 A JA B r) : RF 35 (f_cp A 16 35) (f_cpJ JA 16 35) B r := by
  have c2 : f_cp A 16 35 2 = A 2 := fr_cp (by decide)
  have c9 : f_cp A 16 35 9 = A 9 := fr_cp (by decide)
  have b10 := cp_b (A := A) (k := 10) (by decide)
  have b11 := cp_b (A := A) (k := 11) (by decide)
  have b12 := cp_b (A := A) (k := 12) (by decide)
  have s : ∀ c s, s < 64 → ((2 ≤ c ∧ c ≤ 4) ∨ (6 ≤ c ∧ c ≤ 8) ∨ c = 13 ∨ c = 14) → f_cp A 16 35 (35 + c) s = A (16 + c) s := fun c s h1 h2 => cp_s h1 h2
  have e : ∀ c e, e < 16 → (15 ≤ c ∧ c ≤ 18) → f_cp A 16 35 (35 + c) e = A (16 + c) e := fun c e h1 h2 => cp_e h1 h2
  have ls : ∀ s, f_ls (f_cpJ JA 16 35) 35 s = f_ls JA 16 s := fun s => by unfold f_ls f_cpJ; rw [zupL_same, pk_uLs]
  generalize f_cp A 16 35 = X at *
  generalize f_cpJ JA 16 35 = JX at *
  have w : ∀ e, f_wh X 35 e = f_wh A 16 e := fun e => by unfold f_wh; rw [c2, b11]
  refine ⟨fun x hx => ?_, fun l hl => ?_, fun x l hx hl h9 => ?_, h.ro, fun x hx hw => ?_, fun x hx hw => ?_, fun x hx hw => ?_, fun x hx hw => ?_, fun x hx hw => ?_, fun x hx hw => ?_, fun x hx h2 => ?_, fun x hx h9 => ?_, fun x hx => ?_, fun x hx h9 => ?_, fun l hl h9 => ?_, h.mk⟩
  · rw [b11]; exact h.fe x hx
  · rw [b12]; exact h.fl l hl
  · rw [c9] at h9; rw [ls]; exact h.lo x l hx hl h9
  · rw [w] at hw
    rw [b10, e 15 x hx (by omega), e 16 x hx (by omega), e 17 x hx (by omega), e 18 x hx (by omega)]; exact h.wh x hx hw
  · rw [w] at hw
    rw [e 15 x hx (by omega), e 16 x hx (by omega), e 17 x hx (by omega), e 18 x hx (by omega)]; exact h.wk x hx hw
  · rw [w] at hw
    rw [s 14 x hx (by omega)]; exact h.us x hx hw
  · rw [w] at hw
    unfold RW
    rw [s 13 x hx (by omega), s 2 x hx (by omega), s 3 x hx (by omega), s 4 x hx (by omega)]; exact h.ag x hx hw
  · rw [w] at hw
    rw [b10, e 15 x hx (by omega), e 16 x hx (by omega), e 17 x hx (by omega), e 18 x hx (by omega)]; exact h.nw x hx hw
  · rw [w] at hw
    rw [s 13 x hx (by omega), s 14 x hx (by omega), s 6 x hx (by omega)]; exact h.ns x hx hw
  · rw [c2] at h2; exact h.ab x hx h2
  · rw [c9] at h9
    rw [s 13 x hx (by omega), s 6 x hx (by omega)]; exact h.un x hx h9
  · rw [s 6 x hx (by omega), s 7 x hx (by omega), s 8 x hx (by omega)]; exact h.se x hx
  · rw [c9] at h9; rw [ls]; exact h.lu x hx h9
  · rw [c9] at h9; exact h.lz l hl h9
/-- rounds of a flow, as many as said -/
def f_it (b : Nat) (I : zI) (J : zJ) : Nat → zI × zJ
  | 0 => (I, J)
  | n + 1 => (f_ro (f_it b I J n).1 (f_it b I J n).2 b, zupL (f_it b I J n).2 b 13 0)
theorem f_it_1 {I : zI} {J : zJ} {n : Nat} : (f_it b I J (n + 1)).1 = f_ro (f_it b I J n).1 (f_it b I J n).2 b := by rw [f_it]
theorem f_it_2 {I : zI} {J : zJ} {n : Nat} : (f_it b I J (n + 1)).2 = zupL (f_it b I J n).2 b 13 0 := by rw [f_it]
theorem fr_fit {I : zI} {J : zJ} {c : Nat} (hc : c < b ∨ b + 19 ≤ c) : ∀ n, (f_it b I J n).1 c = I c
  | 0 => rfl
  | n + 1 => by rw [f_it_1, fr_ro hc, fr_fit hc n]
theorem R_it (hb : 16 ≤ b) (hP : RP A B) (hL : RL A B m) (hF : RF b A JA B r) (n : Nat) : r + n < 2 ^ 20 → RP (f_it b A JA n).1 (m_itI B n) ∧ RL (f_it b A JA n).1 (m_itI B n) m ∧ RF b (f_it b A JA n).1 (f_it b A JA n).2 (m_itI B n) (r + n) := by
  induction n with
  | zero => intro _; exact ⟨hP, hL, hF⟩
  | succ n ih =>
    intro hn
    obtain ⟨i1, i2, i3⟩ := ih (by omega)
    rw [f_it_1, f_it_2, m_itI]
    have h9 := R_round hb (by omega) i1 i2 i3
    generalize (f_it b A JA n).1 = X at *
    generalize (f_it b A JA n).2 = JX at *
    generalize m_itI B n = Y at *
    have b2 : ∀ c, c ≠ 79 → c ≠ 83 → m_ro Y c = Y c := fun c h1 h2 => fr_mro h1 h2
    exact ⟨RP_of i1 (fun c h1 h2 => fr_ro (by omega)) (fun c h1 h2 => b2 c (by omega) (by omega)) (by rw [b2 64 (by decide) (by decide)]) (by rw [b2 64 (by decide) (by decide)]), RL_of i2 (fun c h1 h2 => fr_ro (by omega)) (b2 77 (by decide) (by decide)) (b2 78 (by decide) (by decide)), h9⟩
/-- behind the net's last number a round writes nothing -/
theorem it_hi (hP : RP A B) (hL : RL A B m) (hF : RF b A JA B r) (hb : 16 ≤ b) (n : Nat) : r + n < 2 ^ 20 → ∀ k, 762 ≤ k → m_itI B n 79 k = B 79 k := by
  induction n with
  | zero => intro _ k _; rfl
  | succ n ih =>
    intro hn k hk
    obtain ⟨i1, i2, i3⟩ := R_it hb hP hL hF n (by omega)
    have i4 := ih (by omega) k hk
    rw [m_itI, ro_v (by omega), rA_lo (by omega), (R_E2 i1 i2).2.1 k (by omega), R_Mn i3 (by omega) (by omega), i4]
theorem itJ_hi {e : Nat} (he : 16 ≤ e) : ∀ n, m_itJ B JB n 81 e = JB 81 e
  | 0 => rfl
  | n + 1 => by
    rw [m_itJ]
    unfold m_roJ
    rw [r5J_v 16 (Nat.le_refl _), if_neg (by omega), itJ_hi he n]
theorem itJ_n {c : Nat} (h : c ≠ 81) : ∀ n, m_itJ B JB n c = JB c
  | 0 => rfl
  | n + 1 => by
    rw [m_itJ]
    unfold m_roJ
    rw [r5J_n h 16, itJ_n h n]
end R22
