/-! A round of the class, slot by slot: what it makes of a slot of a whole element. -/
theorem zz_e {I : zI} {c k : Nat} {v : Int32} : zup I c k v c k = v := by simp [zup, upd]
theorem zz_k {I : zI} {c k j : Nat} {v : Int32} (h : j ≠ k) : zup I c k v c j = I c j := by simp [zup, upd, h]
theorem zz_c {I : zI} {c a k j : Nat} {v : Int32} (h : a ≠ c) : zup I c k v a j = I a j := by rw [zup_ne h]
theorem zz_n {I : zI} {c a k j : Nat} {v : Int32} (h : a ≠ c ∨ j ≠ k) : zup I c k v a j = I a j := by
  by_cases h1 : a = c
  · subst h1
    exact zz_k (h.elim (fun q => absurd rfl q) id)
  · exact zz_c h1
def a_co (I : zI) (J : zJ) (b s : Nat) : Bool := decide (¬ I 9 s = -1) && f_co I J b s (pe I s)
def a_g (j : Nat) (I : zI) (J : zJ) (b s : Nat) : Int32 := if a_co I J b s = true then I (b + 5 + j) (pe I s) else I (b + 1 + j) s
def a_ag (I : zI) (J : zJ) (b s : Nat) : Int32 := if I 9 s = -1 then I (b + 13) s else if a_co I J b s = true then 0 else if 3 < I (b + 13) s + 1 then 3 else I (b + 13) s + 1
def a_o (j : Nat) (I : zI) (J : zJ) (b s : Nat) : Int32 := if p_so I s = true then (if j = 1 then I 11 s else 0) else if 3 ≤ a_ag I J b s then (if j = 1 then -1 else 0) else a_g j I J b s
def a_us (I : zI) (J : zJ) (b e s : Nat) : Bool := p_in (a_o 1 I J b s) 0 6 && decide (I 14 s = 0) && (decide (I 1 15 = 0) || decide (¬ f_bit (a_o 3 I J b s) (nI e) = 1))
def a_u (I : zI) (J : zJ) (b e s : Nat) : Int32 := if a_us I J b e s = true then (if 11 < I (b + 14) s + 1 then 11 else I (b + 14) s + 1) else 0
section CL
variable {I : zI} {J : zJ} {b e s : Nat}
theorem mo_n {x : Bool} {c k : Nat} (h : c ≠ b ∨ k ≠ 14) : f_mo I b x c k = I c k := zz_n h
theorem h3_n {a : Int32} {c k : Nat} (h : c ≠ b ∨ k ≠ 14) (h2 : c ≠ b + 13 ∨ k ≠ s) : f_h3 I b s a c k = I c k := by
  unfold f_h3
  rw [zz_n h2, mo_n h]
theorem h3_v {a : Int32} : f_h3 I b s a (b + 13) s = a := zz_e
theorem wr_n {w : Nat} {q h t : Int32} {c k : Nat} (hc : k ≠ s ∨ c < w + 1 ∨ w + 4 ≤ c) : w_wr I w s q h t c k = I c k := by
  unfold w_wr
  rw [zz_n (by omega), zz_n (by omega), zz_n (by omega)]
theorem wr_1 {w : Nat} {q h t : Int32} : w_wr I w s q h t (w + 1) s = q := by
  unfold w_wr
  rw [zz_c (by omega), zz_c (by omega), zz_e]
theorem wr_2 {w : Nat} {q h t : Int32} : w_wr I w s q h t (w + 2) s = h := by
  unfold w_wr
  rw [zz_c (by omega), zz_e]
theorem wr_3 {w : Nat} {q h t : Int32} : w_wr I w s q h t (w + 3) s = t := zz_e
/-- the slot's memory behind hearing -/
abbrev a_H (I : zI) (J : zJ) (b s : Nat) : zI := if I 9 s = -1 then I else f_he I J b s (pe I s)
theorem aH_n {c k : Nat} (h : c ≠ b ∨ k ≠ 14) (h2 : k ≠ s ∨ (c < b + 2 ∨ (b + 5 ≤ c ∧ c ≠ b + 13))) : a_H I J b s c k = I c k := by
  unfold a_H
  split
  · rfl
  · unfold f_he
    split
    · rw [h3_n h (by omega)]
      unfold f_h2 f_h1
      rw [wr_n (by omega), mo_n h]
    · exact h3_n h (by omega)
theorem aH_a : a_H I J b s (b + 13) s = a_ag I J b s := by
  unfold a_H a_ag
  split
  · rfl
  · rename_i h9
    unfold f_he a_co
    by_cases hc : f_co I J b s (pe I s) = true
    · rw [if_pos hc, h3_v, if_pos (by simp [h9, hc])]
    · have hn : ¬ (decide (¬ I 9 s = -1) && f_co I J b s (pe I s)) = true := by simp [hc]
      rw [if_neg hc, h3_v, if_neg hn]
theorem h2_v {q j : Nat} (hj : j = 1 ∨ j = 2 ∨ j = 3) : f_h2 I b s q (b + 1 + j) s = I (b + 5 + j) q := by
  unfold f_h2
  rcases hj with rfl | rfl | rfl
  · exact wr_1
  · exact wr_2
  · exact wr_3
theorem aH_g {j : Nat} (hj : j = 1 ∨ j = 2 ∨ j = 3) : a_H I J b s (b + 1 + j) s = a_g j I J b s := by
  unfold a_H a_g a_co
  by_cases h9 : I 9 s = -1
  · rw [if_pos h9, if_neg (by simp [h9])]
  · rw [if_neg h9]
    unfold f_he
    by_cases hc : f_co I J b s (pe I s) = true
    · rw [if_pos hc, if_pos (by simp [h9, hc]), h3_n (by omega) (by omega), h2_v hj]
      unfold f_h1
      rw [mo_n (by omega)]
    · have hn : ¬ (decide (¬ I 9 s = -1) && f_co I J b s (pe I s)) = true := by simp [hc]
      rw [if_neg hc, if_neg hn, h3_n (by omega) (by omega)]
theorem we_n {c k : Nat} (h : k ≠ s ∨ (c < b + 10 ∨ b + 13 ≤ c)) : f_we I b s c k = I c k := by
  unfold f_we
  split
  · exact wr_n (by omega)
  · split
    · exact wr_n (by omega)
    · exact wr_n (by omega)
theorem we_v {j : Nat} (hj : j = 1 ∨ j = 2 ∨ j = 3) : f_we I b s (b + 9 + j) s = if p_so I s = true then (if j = 1 then I 11 s else 0) else if 3 ≤ I (b + 13) s then (if j = 1 then -1 else 0) else I (b + 1 + j) s := by
  unfold f_we
  split
  · rcases hj with rfl | rfl | rfl
    · exact wr_1
    · exact wr_2
    · exact wr_3
  · split
    · rcases hj with rfl | rfl | rfl
      · exact wr_1
      · exact wr_2
      · exact wr_3
    · rcases hj with rfl | rfl | rfl
      · exact wr_1
      · exact wr_2
      · exact wr_3
theorem cu_n {c k : Nat} (h : c ≠ b ∨ k ≠ 14) (h2 : k ≠ s ∨ c ≠ b + 14) : f_cu I b e s c k = I c k := by
  unfold f_cu
  rw [zz_n (by omega), mo_n h]
theorem cu_v : f_cu I b e s (b + 14) s = f_cn I b e s := zz_e
theorem lp_n {c k : Nat} (hb : 16 ≤ b) (h : c ≠ b ∨ k ≠ 14) (h2 : k ≠ s ∨ (c < b + 2 ∨ (b + 5 ≤ c ∧ c < b + 10) ∨ b + 15 ≤ c)) : f_lp I J b e s c k = I c k := by
  unfold f_lp
  rw [cu_n h (by omega), we_n (by omega)]
  exact aH_n h (by omega)
theorem lp_so (hb : 16 ≤ b) : p_so (a_H I J b s) s = p_so I s := by
  unfold p_so
  rw [aH_n (by omega) (by omega)]
theorem lp_a (hb : 16 ≤ b) : f_lp I J b e s (b + 13) s = a_ag I J b s := by
  unfold f_lp
  rw [cu_n (by omega) (by omega), we_n (by omega)]
  exact aH_a
theorem lp_g (hb : 16 ≤ b) {j : Nat} (hj : j = 1 ∨ j = 2 ∨ j = 3) : f_lp I J b e s (b + 1 + j) s = a_g j I J b s := by
  unfold f_lp
  rw [cu_n (by omega) (by omega), we_n (by omega)]
  exact aH_g hj
theorem wh_v (hb : 16 ≤ b) {j : Nat} (hj : j = 1 ∨ j = 2 ∨ j = 3) : f_we (a_H I J b s) b s (b + 9 + j) s = a_o j I J b s := by
  rw [we_v hj, lp_so hb, aH_a, aH_g hj, aH_n (c := 11) (by omega) (by omega)]
  rfl
theorem lp_o (hb : 16 ≤ b) {j : Nat} (hj : j = 1 ∨ j = 2 ∨ j = 3) : f_lp I J b e s (b + 9 + j) s = a_o j I J b s := by
  unfold f_lp
  rw [cu_n (by omega) (by omega)]
  exact wh_v hb hj
theorem lp_u (hb : 16 ≤ b) : f_lp I J b e s (b + 14) s = a_u I J b e s := by
  unfold f_lp
  rw [cu_v]
  unfold f_cn a_u a_us f_us
  have e1 := wh_v (I := I) (J := J) (s := s) hb (j := 1) (Or.inl rfl)
  have e3 := wh_v (I := I) (J := J) (s := s) hb (j := 3) (Or.inr (Or.inr rfl))
  have q1 : f_we (a_H I J b s) b s 14 s = I 14 s := by rw [we_n (by omega), aH_n (by omega) (by omega)]
  have q2 : f_we (a_H I J b s) b s 1 15 = I 1 15 := by rw [we_n (by omega), aH_n (by omega) (by omega)]
  have q3 : f_we (a_H I J b s) b s (b + 14) s = I (b + 14) s := by rw [we_n (by omega), aH_n (by omega) (by omega)]
  rw [show b + 10 = b + 9 + 1 by omega, show b + 12 = b + 9 + 3 by omega, e1, e3, q1, q2, q3]
end CL
/-- what a slot's round reads -/
def a_eq (X I : zI) (b s : Nat) : Prop := (∀ c, c < b → X c = I c) ∧ (∀ j, j = 1 ∨ j = 2 ∨ j = 3 → X (b + 5 + j) = I (b + 5 + j)) ∧ X b 11 = I b 11 ∧ X b 12 = I b 12 ∧ ∀ c, c = b + 2 ∨ c = b + 3 ∨ c = b + 4 ∨ c = b + 13 ∨ c = b + 14 → X c s = I c s
theorem aco_eq {X I : zI} {J : zJ} {b s : Nat} (hb : 16 ≤ b) (h : a_eq X I b s) : a_co X J b s = a_co I J b s := by
  unfold a_co f_co f_lw f_wh pe
  rw [h.1 9 (by omega), h.1 10 (by omega), h.1 2 (by omega), h.2.2.1, h.2.2.2.1, show b + 6 = b + 5 + 1 by omega, h.2.1 1 (Or.inl rfl)]
theorem ag_eq {X I : zI} {J : zJ} {b s j : Nat} (hb : 16 ≤ b) (hj : j = 1 ∨ j = 2 ∨ j = 3) (h : a_eq X I b s) : a_g j X J b s = a_g j I J b s := by
  unfold a_g pe
  rw [aco_eq hb h, h.1 10 (by omega), h.2.1 j hj, h.2.2.2.2 (b + 1 + j) (by omega)]
theorem aag_eq {X I : zI} {J : zJ} {b s : Nat} (hb : 16 ≤ b) (h : a_eq X I b s) : a_ag X J b s = a_ag I J b s := by
  unfold a_ag
  rw [aco_eq hb h, h.1 9 (by omega), h.2.2.2.2 (b + 13) (by omega)]
theorem ao_eq {X I : zI} {J : zJ} {b s j : Nat} (hb : 16 ≤ b) (hj : j = 1 ∨ j = 2 ∨ j = 3) (h : a_eq X I b s) : a_o j X J b s = a_o j I J b s := by
  unfold a_o p_so
  rw [aag_eq hb h, ag_eq hb hj h, h.1 11 (by omega)]
theorem au_eq {X I : zI} {J : zJ} {b e s : Nat} (hb : 16 ≤ b) (h : a_eq X I b s) : a_u X J b e s = a_u I J b e s := by
  unfold a_u a_us
  rw [ao_eq hb (Or.inl rfl) h, ao_eq hb (Or.inr (Or.inr rfl)) h, h.1 14 (by omega), h.1 1 (by omega), h.2.2.2.2 (b + 14) (by omega)]
/-- the first half of a round, done for the slots below n -/
def D1 (n : Nat) (X I : zI) (J : zJ) (b : Nat) : Prop :=
  (∀ c, (c < b ∨ c = b + 1 ∨ (b + 5 ≤ c ∧ c < b + 10) ∨ b + 15 ≤ c) → X c = I c) ∧ (∀ k, k ≠ 14 → X b k = I b k) ∧
  (∀ s, s < 64 → s < n → f_wh I b (s / 4) = true → (∀ j, j = 1 ∨ j = 2 ∨ j = 3 → X (b + 1 + j) s = a_g j I J b s ∧ X (b + 9 + j) s = a_o j I J b s) ∧ X (b + 13) s = a_ag I J b s ∧ X (b + 14) s = a_u I J b (s / 4) s) ∧
  (∀ s, s < 64 → (n ≤ s ∨ f_wh I b (s / 4) = false) → ∀ c, (c = b + 2 ∨ c = b + 3 ∨ c = b + 4 ∨ c = b + 13 ∨ c = b + 14) → X c s = I c s)
theorem D1_wh {n : Nat} {X I : zI} {J : zJ} {b e : Nat} (hb : 16 ≤ b) (h : D1 n X I J b) : f_wh X b e = f_wh I b e := by
  unfold f_wh
  rw [h.1 2 (by omega), h.2.1 11 (by decide)]
theorem D1_s {n : Nat} {X I : zI} {J : zJ} {b e : Nat} (hb : 16 ≤ b) (hn : n < 64) (he : n / 4 = e) (hw : f_wh I b e = true) (h : D1 n X I J b) : D1 (n + 1) (f_lp X J b e n) I J b := by
  have hq : a_eq X I b n := ⟨fun c hc => h.1 c (Or.inl hc), fun j hj => h.1 (b + 5 + j) (by omega), h.2.1 11 (by decide), h.2.1 12 (by decide), fun c hc => h.2.2.2 n hn (Or.inl (Nat.le_refl _)) c hc⟩
  refine ⟨fun c hc => ?_, fun k hk => ?_, fun s hs hsn hws => ?_, fun s hs hsn c hc => ?_⟩
  · funext k
    rw [lp_n hb (by omega) (by omega), h.1 c hc]
  · rw [lp_n hb (Or.inr hk) (by omega), h.2.1 k hk]
  · by_cases hsx : s = n
    · subst hsx
      subst he
      refine ⟨fun j hj => ⟨?_, ?_⟩, ?_, ?_⟩
      · rw [lp_g hb hj, ag_eq hb hj hq]
      · rw [lp_o hb hj, ao_eq hb hj hq]
      · rw [lp_a hb, aag_eq hb hq]
      · rw [lp_u hb, au_eq hb hq]
    · obtain ⟨h1, h2, h3⟩ := h.2.2.1 s hs (by omega) hws
      refine ⟨fun j hj => ⟨?_, ?_⟩, ?_, ?_⟩
      · rw [lp_n hb (by omega) (Or.inl hsx), (h1 j hj).1]
      · rw [lp_n hb (by omega) (Or.inl hsx), (h1 j hj).2]
      · rw [lp_n hb (by omega) (Or.inl hsx), h2]
      · rw [lp_n hb (by omega) (Or.inl hsx), h3]
  · have hsx : s ≠ n := by
      rintro rfl
      rcases hsn with q | q
      · omega
      · rw [he, hw] at q; cases q
    rw [lp_n hb (by omega) (Or.inl hsx), h.2.2.2 s hs (hsn.imp (by omega) id) c hc]
theorem D1_skip {n m : Nat} {X I : zI} {J : zJ} {b e : Nat} (hn : n = 4 * e) (hm : m = 4 * e + 4) (hw : f_wh I b e = false) (h : D1 n X I J b) : D1 m X I J b := by
  refine ⟨h.1, h.2.1, fun s hs hsm hws => ?_, fun s hs hsn c hc => ?_⟩
  · by_cases hsx : s < n
    · exact h.2.2.1 s hs hsx hws
    · have : s / 4 = e := by omega
      rw [this, hw] at hws; cases hws
  · exact h.2.2.2 s hs (hsn.imp (by omega) id) c hc
theorem D1_li {X I : zI} {J : zJ} {b e : Nat} (hb : 16 ≤ b) (he : e < 16) (hw : f_wh I b e = true) (h : D1 (4 * e) X I J b) : ∀ p, p ≤ 4 → D1 (4 * e + p) (f_li X J b e p) I J b
  | 0, _ => h
  | p + 1, hp => by
    have h9 := D1_s (n := 4 * e + p) hb (by omega) (by omega) hw (D1_li hb he hw h p (by omega))
    unfold f_li
    exact h9
theorem D1_r1 {X I : zI} {J : zJ} {b : Nat} (hb : 16 ≤ b) (h : D1 0 X I J b) : ∀ e, e ≤ 16 → D1 (4 * e) (f_r1 X J b e) I J b
  | 0, _ => h
  | e + 1, he => by
    have ih := D1_r1 hb h e (by omega)
    by_cases hw : f_wh I b e = true
    · rw [f_r1_t (by rw [D1_wh hb ih]; exact hw), show 4 * (e + 1) = 4 * e + 4 by omega]
      exact D1_li hb (by omega) hw ih 4 (Nat.le_refl _)
    · have hw : f_wh I b e = false := by simpa using hw
      rw [f_r1_f (by rw [D1_wh hb ih]; exact hw)]
      exact D1_skip rfl (by omega) hw ih
theorem D1_0 {I : zI} {J : zJ} {b : Nat} : D1 0 (zup I b 14 0) I J b := by
  refine ⟨fun c hc => zup_ne (by omega), fun k hk => zz_k hk, fun s hs hsn => absurd hsn (by omega), fun s hs hsn c hc => zz_c (by omega)⟩
theorem D1_all {I : zI} {J : zJ} {b : Nat} (hb : 16 ≤ b) : D1 64 (f_r1 (zup I b 14 0) J b 16) I J b := D1_r1 hb D1_0 16 (Nat.le_refl _)
