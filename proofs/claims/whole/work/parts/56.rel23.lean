/-! Rounds of a trial that end early: what stays, stays for good. -/
def EQ (b : Nat) (X : zI) (JX : zJ) (Y : zI) (JY : zJ) : Prop := (∀ c, c < b → X c = Y c) ∧ (X b 11 = Y b 11) ∧ (X b 12 = Y b 12) ∧ (∀ e, e < 16 → f_bit (X b 10) (nI e) = f_bit (Y b 10) (nI e)) ∧ (JX b 13 = JY b 13) ∧ (∀ s c, s < 64 → (c = b + 2 ∨ c = b + 3 ∨ c = b + 4 ∨ c = b + 6 ∨ c = b + 7 ∨ c = b + 8 ∨ c = b + 13 ∨ c = b + 14) → X c s = Y c s) ∧ (∀ e c, e < 16 → (b + 15 ≤ c ∧ c < b + 19) → X c e = Y c e)
theorem EQ.c {b : Nat} {X : zI} {JX : zJ} {Y : zI} {JY : zJ} (h : EQ b X JX Y JY) : ∀ c, c < b → X c = Y c := h.1
theorem EQ.f {b : Nat} {X : zI} {JX : zJ} {Y : zI} {JY : zJ} (h : EQ b X JX Y JY) : X b 11 = Y b 11 := h.2.1
theorem EQ.l {b : Nat} {X : zI} {JX : zJ} {Y : zI} {JY : zJ} (h : EQ b X JX Y JY) : X b 12 = Y b 12 := h.2.2.1
theorem EQ.e {b : Nat} {X : zI} {JX : zJ} {Y : zI} {JY : zJ} (h : EQ b X JX Y JY) : ∀ e, e < 16 → f_bit (X b 10) (nI e) = f_bit (Y b 10) (nI e) := h.2.2.2.1
theorem EQ.j {b : Nat} {X : zI} {JX : zJ} {Y : zI} {JY : zJ} (h : EQ b X JX Y JY) : JX b 13 = JY b 13 := h.2.2.2.2.1
theorem EQ.s {b : Nat} {X : zI} {JX : zJ} {Y : zI} {JY : zJ} (h : EQ b X JX Y JY) : ∀ s c, s < 64 → (c = b + 2 ∨ c = b + 3 ∨ c = b + 4 ∨ c = b + 6 ∨ c = b + 7 ∨ c = b + 8 ∨ c = b + 13 ∨ c = b + 14) → X c s = Y c s := h.2.2.2.2.2.1
theorem EQ.k {b : Nat} {X : zI} {JX : zJ} {Y : zI} {JY : zJ} (h : EQ b X JX Y JY) : ∀ e c, e < 16 → (b + 15 ≤ c ∧ c < b + 19) → X c e = Y c e := h.2.2.2.2.2.2
section R23
variable {X Y Z : zI} {JX JY JZ : zJ} {b : Nat}
theorem zB_eq' {x : Bool} (h : zB x = 0) : x = false := by
  cases x
  · rfl
  · exact absurd h (by decide)
theorem EQ_refl : EQ b X JX X JX := ⟨fun _ _ => rfl, rfl, rfl, fun _ _ => rfl, rfl, fun _ _ _ _ => rfl, fun _ _ _ _ => rfl⟩
theorem EQ_trans (h : EQ b X JX Y JY) (h2 : EQ b Y JY Z JZ) : EQ b X JX Z JZ :=
  ⟨fun c hc => (h.c c hc).trans (h2.c c hc), h.f.trans h2.f, h.l.trans h2.l, fun e he => (h.e e he).trans (h2.e e he), h.j.trans h2.j, fun s c hs hc => (h.s s c hs hc).trans (h2.s s c hs hc), fun e c he hc => (h.k e c he hc).trans (h2.k e c he hc)⟩
theorem EQ_wh {e : Nat} (hb : 16 ≤ b) (h : EQ b X JX Y JY) : f_wh X b e = f_wh Y b e := by
  unfold f_wh
  rw [h.c 2 (by omega), h.f]
theorem EQ_co {s : Nat} (hb : 16 ≤ b) (hL : okL Y) (h : EQ b X JX Y JY) (hs : s < 64) : a_co X JX b s = a_co Y JY b s := by
  unfold a_co
  rw [h.c 9 (by omega)]
  by_cases h9 : Y 9 s = -1
  · rw [h9, d_n rfl, Bool.false_and, Bool.false_and]
  · obtain ⟨-, hq⟩ := okL_pe hL hs h9
    have ep : pe X s = pe Y s := by unfold pe; rw [h.c 10 (by omega)]
    have el : f_ls JX b (pe Y s) = f_ls JY b (pe Y s) := by unfold f_ls; rw [h.j]
    unfold f_co f_lw
    rw [ep, el, EQ_wh hb h, h.l, h.c 9 (by omega), h.s (pe Y s) (b + 6) hq (by omega)]
theorem EQ_g {s j : Nat} (hb : 16 ≤ b) (hL : okL Y) (h : EQ b X JX Y JY) (hs : s < 64) (hj : j = 1 ∨ j = 2 ∨ j = 3) : a_g j X JX b s = a_g j Y JY b s := by
  unfold a_g
  rw [EQ_co hb hL h hs]
  have ep : pe X s = pe Y s := by unfold pe; rw [h.c 10 (by omega)]
  cases hc : a_co Y JY b s with
  | false =>
    rw [if_neg (by decide), if_neg (by decide)]
    exact h.s s _ hs (by omega)
  | true =>
    have h9 : ¬ Y 9 s = -1 := by unfold a_co at hc; simp at hc; exact hc.1
    obtain ⟨-, hq⟩ := okL_pe hL hs h9
    rw [if_pos rfl, if_pos rfl, ep]
    exact h.s _ _ hq (by omega)
theorem EQ_ag {s : Nat} (hb : 16 ≤ b) (hL : okL Y) (h : EQ b X JX Y JY) (hs : s < 64) : a_ag X JX b s = a_ag Y JY b s := by
  unfold a_ag
  rw [EQ_co hb hL h hs, h.c 9 (by omega), h.s s (b + 13) hs (by omega)]
theorem EQ_o {s j : Nat} (hb : 16 ≤ b) (hL : okL Y) (h : EQ b X JX Y JY) (hs : s < 64) (hj : j = 1 ∨ j = 2 ∨ j = 3) : a_o j X JX b s = a_o j Y JY b s := by
  unfold a_o p_so
  rw [EQ_ag hb hL h hs, EQ_g hb hL h hs hj, h.c 11 (by omega)]
theorem EQ_u {s e : Nat} (hb : 16 ≤ b) (hL : okL Y) (h : EQ b X JX Y JY) (hs : s < 64) : a_u X JX b e s = a_u Y JY b e s := by
  unfold a_u a_us
  rw [EQ_o hb hL h hs (Or.inl rfl), EQ_o hb hL h hs (Or.inr (Or.inr rfl)), h.c 14 (by omega), h.c 1 (by omega), h.s s (b + 14) hs (by omega)]
/-- what an element's choice looks at -/
def PQ (b : Nat) (P Q : zI) (e : Nat) : Prop := (∀ c, c < b → P c = Q c) ∧ (∀ p c, p < 4 → (c = b + 10 ∨ c = b + 11 ∨ c = b + 12 ∨ c = b + 14) → P c (4 * e + p) = Q c (4 * e + p))
theorem PQ.c {b : Nat} {P Q : zI} {e : Nat} (h : PQ b P Q e) : ∀ c, c < b → P c = Q c := h.1
theorem PQ.o {b : Nat} {P Q : zI} {e : Nat} (h : PQ b P Q e) : ∀ p c, p < 4 → (c = b + 10 ∨ c = b + 11 ∨ c = b + 12 ∨ c = b + 14) → P c (4 * e + p) = Q c (4 * e + p) := h.2
theorem PQ_bp {P Q : zI} {e : Nat} {t : Int32} (hb : 16 ≤ b) (h : PQ b P Q e) : ∀ n, n ≤ 4 → f_bp P b e t n = f_bp Q b e t n
  | 0, _ => rfl
  | n + 1, hn => by
    have ih := PQ_bp (t := t) hb h n (by omega)
    unfold f_bp
    rw [ih, h.o n (b + 14) (by omega) (by omega)]
    cases hk : f_bp Q b e t n with
    | none => rfl
    | some k =>
      have := f_bp_lt n k hk
      have hbt : f_bt P b (4 * e + n) (4 * e + k) = f_bt Q b (4 * e + n) (4 * e + k) := by
        unfold f_bt
        rw [h.o n (b + 10) (by omega) (by omega), h.o k (b + 10) (by omega) (by omega), h.o n (b + 11) (by omega) (by omega), h.o k (b + 11) (by omega) (by omega), h.c 13 (by omega)]
      simp only [hbt]
theorem okQ_cl {x : Int32} (h : okQ x) : x.toNatClampNeg < 4 := by
  rcases h with h | ⟨k, hk, h⟩
  · rw [h]; decide
  · rw [h, nI_clamp (by omega)]; exact hk
theorem PQ_ch {P Q : zI} {e : Nat} (hb : 16 ≤ b) (h : PQ b P Q e) (hQ : okQ (Q 8 e)) : f_ch P b e = f_ch Q b e := by
  unfold f_ch
  rw [h.c 7 (by omega), h.c 8 (by omega), h.c 6 (by omega), h.o _ (b + 14) (okQ_cl hQ) (by omega), PQ_bp hb h 4 (Nat.le_refl _), PQ_bp hb h 4 (Nat.le_refl _)]
theorem PQ_d {P Q : zI} {e : Nat} (hb : 16 ≤ b) (h : PQ b P Q e) (hQ : okQ (Q 7 e) ∧ okQ (Q 8 e)) : f_ch P b e = f_ch Q b e ∧ d_k P b e = d_k Q b e ∧ d_lk P b e = d_lk Q b e ∧ d_ho P b e = d_ho Q b e ∧ d_qu P b e = d_qu Q b e ∧ P (b + 12) (4 * e + d_k P b e) = Q (b + 12) (4 * e + d_k Q b e) := by
  have hch := PQ_ch hb h hQ.2
  have hk : d_k P b e = d_k Q b e := by unfold d_k; rw [hch]
  have hlt : d_k Q b e < 4 := okQ_cl (f_ch_ok hQ.1 hQ.2)
  have hlk : d_lk P b e = d_lk Q b e := by unfold d_lk; rw [hch, hk, h.o _ (b + 14) hlt (by omega)]
  refine ⟨hch, hk, hlk, ?_, ?_, ?_⟩
  · unfold d_ho; rw [hlk, hk, h.o _ (b + 11) hlt (by omega)]
  · unfold d_qu; rw [hlk, hk, h.o _ (b + 10) hlt (by omega)]
  · rw [hk, h.o _ (b + 12) hlt (by omega)]
theorem PQ_s {P Q : zI} {e p j : Nat} (hb : 16 ≤ b) (h : PQ b P Q e) (hQ : okQ (Q 7 e) ∧ okQ (Q 8 e)) (hj : P (b + 5 + j) (4 * e + p) = Q (b + 5 + j) (4 * e + p)) : d_s j P b e p = d_s j Q b e p := by
  obtain ⟨h1, h2, h3, h4, h5, h6⟩ := PQ_d hb h hQ
  unfold d_s
  rw [h1, h3, h4, h5, h6, h.c 9 (by omega), h.c 3 (by omega), hj]
/-- a round makes the same of the same -/
theorem EQ_ro (hb : 16 ≤ b) (hP : okP Y) (h : EQ b X JX Y JY) : EQ b (f_ro X JX b) (zupL JX b 13 0) (f_ro Y JY b) (zupL JY b 13 0) := by
  have hL := hP.1
  have x1 := R_D1 (A := X) (JA := JX) hb
  have y1 := R_D1 (A := Y) (JA := JY) hb
  have x2 := R_D2 (A := X) (JA := JX) hb
  have y2 := R_D2 (A := Y) (JA := JY) hb
  have wX : ∀ e, f_wh (r_P X JX b) b e = f_wh X b e := fun e => R_Pw hb
  have wY : ∀ e, f_wh (r_P Y JY b) b e = f_wh Y b e := fun e => R_Pw hb
  generalize f_ro X JX b = X' at *
  generalize f_ro Y JY b = Y' at *
  generalize r_P X JX b = P at *
  generalize r_P Y JY b = Q at *
  have wXY : ∀ e, f_wh X b e = f_wh Y b e := fun e => EQ_wh hb h
  have sl : ∀ s, s < 64 → 4 * (s / 4) + s % 4 = s := fun s _ => by omega
  have pq : ∀ e, e < 16 → f_wh Y b e = true → PQ b P Q e := by
    intro e he hw
    refine ⟨fun c hc => by rw [x1.1 c (Or.inl hc), y1.1 c (Or.inl hc), h.c c hc], fun p c hp hc => ?_⟩
    have e4 : (4 * e + p) / 4 = e := by omega
    obtain ⟨g1, g2, g3⟩ := x1.2.2.1 (4 * e + p) (by omega) (by omega) (by rw [e4, wXY]; exact hw)
    obtain ⟨k1, k2, k3⟩ := y1.2.2.1 (4 * e + p) (by omega) (by omega) (by rw [e4]; exact hw)
    rcases hc with rfl | rfl | rfl | rfl
    · exact ((g1 1 (Or.inl rfl)).2.trans (EQ_o hb hL h (by omega) (Or.inl rfl))).trans (k1 1 (Or.inl rfl)).2.symm
    · exact ((g1 2 (Or.inr (Or.inl rfl))).2.trans (EQ_o hb hL h (by omega) (Or.inr (Or.inl rfl)))).trans (k1 2 (Or.inr (Or.inl rfl))).2.symm
    · exact ((g1 3 (Or.inr (Or.inr rfl))).2.trans (EQ_o hb hL h (by omega) (Or.inr (Or.inr rfl)))).trans (k1 3 (Or.inr (Or.inr rfl))).2.symm
    · rw [g3, k3, e4]; exact EQ_u hb hL h (by omega)
  have ps : ∀ s c, s < 64 → (c = b + 2 ∨ c = b + 3 ∨ c = b + 4 ∨ c = b + 13 ∨ c = b + 14) → P c s = Q c s := by
    intro s c hs hc
    cases hw : f_wh Y b (s / 4) with
    | true =>
      obtain ⟨g1, g2, g3⟩ := x1.2.2.1 s hs hs (by rw [wXY]; exact hw)
      obtain ⟨k1, k2, k3⟩ := y1.2.2.1 s hs hs hw
      rcases hc with rfl | rfl | rfl | rfl | rfl
      · exact ((g1 1 (Or.inl rfl)).1.trans (EQ_g hb hL h hs (Or.inl rfl))).trans (k1 1 (Or.inl rfl)).1.symm
      · exact ((g1 2 (Or.inr (Or.inl rfl))).1.trans (EQ_g hb hL h hs (Or.inr (Or.inl rfl)))).trans (k1 2 (Or.inr (Or.inl rfl))).1.symm
      · exact ((g1 3 (Or.inr (Or.inr rfl))).1.trans (EQ_g hb hL h hs (Or.inr (Or.inr rfl)))).trans (k1 3 (Or.inr (Or.inr rfl))).1.symm
      · rw [g2, k2]; exact EQ_ag hb hL h hs
      · rw [g3, k3]; exact EQ_u hb hL h hs
    | false =>
      rw [x1.2.2.2 s hs (Or.inr (by rw [wXY]; exact hw)) c hc, y1.2.2.2 s hs (Or.inr hw) c hc]
      exact h.s s c hs (by omega)
  have qQ : ∀ e, e < 16 → okQ (Q 7 e) ∧ okQ (Q 8 e) := fun e he => by
    rw [y1.1 7 (by omega), y1.1 8 (by omega)]; exact hP.2 e he
  have bP : ∀ e, e < 16 → f_bit (P b 10) (nI e) = f_bit (Q b 10) (nI e) := fun e he => by
    rw [x1.2.1 10 (by decide), y1.2.1 10 (by decide)]; exact h.e e he
  refine ⟨fun c hc => ?_, ?_, ?_, fun e he => ?_, ?_, fun s c hs hc => ?_, fun e c he hc => ?_⟩
  · rw [x2.1 c (by omega) (by omega), y2.1 c (by omega) (by omega), x1.1 c (Or.inl hc), y1.1 c (Or.inl hc), h.c c hc]
  · rw [x2.2.1 11 (by decide), y2.2.1 11 (by decide), x1.2.1 11 (by decide), y1.2.1 11 (by decide), h.f]
  · rw [x2.2.1 12 (by decide), y2.2.1 12 (by decide), x1.2.1 12 (by decide), y1.2.1 12 (by decide), h.l]
  · cases hw : f_wh Y b e with
    | true =>
      obtain ⟨g1, g2, g3, g4, g5, g6⟩ := x2.2.2.1 e he he (by rw [wX, wXY]; exact hw)
      obtain ⟨k1, k2, k3, k4, k5, k6⟩ := y2.2.2.1 e he he (by rw [wY]; exact hw)
      obtain ⟨d1, d2, d3, d4, d5, d6⟩ := PQ_d hb (pq e he hw) (qQ e he)
      rw [g5, k5]
      unfold d_ev
      rw [d3, bP e he]
    | false =>
      rw [(x2.2.2.2 e he (Or.inr (by rw [wX, wXY]; exact hw))).2.1, (y2.2.2.2 e he (Or.inr (by rw [wY]; exact hw))).2.1]
      exact bP e he
  · rw [zupL_same, zupL_same, pk_uLs, pk_uLs]
  · by_cases hc2 : c = b + 6 ∨ c = b + 7 ∨ c = b + 8
    · have : ∃ j, (j = 1 ∨ j = 2 ∨ j = 3) ∧ c = b + 5 + j := by
        rcases hc2 with rfl | rfl | rfl
        · exact ⟨1, by omega, by omega⟩
        · exact ⟨2, by omega, by omega⟩
        · exact ⟨3, by omega, by omega⟩
      obtain ⟨j, hj, rfl⟩ := this
      have old : P (b + 5 + j) s = Q (b + 5 + j) s := by
        rw [x1.1 _ (by omega), y1.1 _ (by omega)]
        exact h.s s _ hs (by omega)
      have old2 : P (b + 5 + j) (4 * (s / 4) + s % 4) = Q (b + 5 + j) (4 * (s / 4) + s % 4) := by rw [sl s hs]; exact old
      cases hw : f_wh Y b (s / 4) with
      | true =>
        obtain ⟨g1, g2, g3, g4, g5, g6⟩ := x2.2.2.1 (s / 4) (by omega) (by omega) (by rw [wX, wXY]; exact hw)
        obtain ⟨k1, k2, k3, k4, k5, k6⟩ := y2.2.2.1 (s / 4) (by omega) (by omega) (by rw [wY]; exact hw)
        have a1 := g6 (s % 4) j (by omega) hj
        have a2 := k6 (s % 4) j (by omega) hj
        rw [sl s hs] at a1 a2
        rw [a1, a2]
        exact PQ_s hb (pq _ (by omega) hw) (qQ _ (by omega)) old2
      | false =>
        have a1 := (x2.2.2.2 (s / 4) (by omega) (Or.inr (by rw [wX, wXY]; exact hw))).2.2 (s % 4) j (by omega) hj
        have a2 := (y2.2.2.2 (s / 4) (by omega) (Or.inr (by rw [wY]; exact hw))).2.2 (s % 4) j (by omega) hj
        rw [sl s hs] at a1 a2
        rw [a1, a2]
        exact old
    · rw [x2.1 c (by omega) (by omega), y2.1 c (by omega) (by omega)]
      exact ps s c hs (by omega)
  · cases hw : f_wh Y b e with
    | true =>
      obtain ⟨g1, g2, g3, g4, g5, g6⟩ := x2.2.2.1 e he he (by rw [wX, wXY]; exact hw)
      obtain ⟨k1, k2, k3, k4, k5, k6⟩ := y2.2.2.1 e he he (by rw [wY]; exact hw)
      obtain ⟨d1, d2, d3, d4, d5, d6⟩ := PQ_d hb (pq e he hw) (qQ e he)
      have hc9 : c = b + 15 ∨ c = b + 16 ∨ c = b + 17 ∨ c = b + 18 := by omega
      rcases hc9 with rfl | rfl | rfl | rfl
      · rw [g2, k2]; unfold d_co; rw [d3, bP e he]
      · rw [g1, k1, d1]
      · rw [g3, k3, d4]
      · rw [g4, k4, d5]
    | false =>
      rw [(x2.2.2.2 e he (Or.inr (by rw [wX, wXY]; exact hw))).1 c hc.1 hc.2, (y2.2.2.2 e he (Or.inr (by rw [wY]; exact hw))).1 c hc.1 hc.2, x1.1 c (by omega), y1.1 c (by omega)]
      exact h.k e c he hc
/-! nothing moved -/
theorem mo_0 {I : zI} {x : Bool} (h : f_mo I b x b 14 = 0) : I b 14 = 0 ∧ x = false := by
  unfold f_mo at h
  rw [zz_e] at h
  have h1 := zB_eq' h
  simp only [Bool.or_eq_false_iff, decide_eq_false_iff_not] at h1
  exact ⟨by
    by_cases hz : I b 14 = 0
    · exact hz
    · exact absurd hz h1.1, h1.2⟩
theorem lp_0 {I : zI} {J : zJ} {e s : Nat} (hb : 16 ≤ b) (hs : s ≠ 14 ∨ True) (h : f_lp I J b e s b 14 = 0) : I b 14 = 0 ∧ a_ag I J b s = I (b + 13) s ∧ a_u I J b e s = I (b + 14) s ∧ ∀ j, (j = 1 ∨ j = 2 ∨ j = 3) → a_g j I J b s = I (b + 1 + j) s := by
  have hu := lp_u (I := I) (J := J) (b := b) (e := e) (s := s) hb
  unfold f_lp at h hu
  have hb2 : f_cu (f_we (a_H I J b s) b s) b e s b 14 = 0 := h
  have hu2 : f_cu (f_we (a_H I J b s) b s) b e s (b + 14) s = a_u I J b e s := hu
  unfold f_cu at hb2
  rw [zz_c (by omega)] at hb2
  obtain ⟨c1, c2⟩ := mo_0 hb2
  rw [cu_v] at hu2
  have c3 : f_we (a_H I J b s) b s (b + 14) s = I (b + 14) s := by rw [we_n (by omega), aH_n (by omega) (by omega)]
  have c4 : f_cn (f_we (a_H I J b s) b s) b e s = I (b + 14) s := by
    rw [c3] at c2
    simpa using c2
  have c5 : a_H I J b s b 14 = 0 := by
    have : f_we (a_H I J b s) b s b 14 = a_H I J b s b 14 := we_n (by omega)
    rw [this] at c1
    exact c1
  have key : I b 14 = 0 ∧ a_ag I J b s = I (b + 13) s ∧ ∀ j, (j = 1 ∨ j = 2 ∨ j = 3) → a_g j I J b s = I (b + 1 + j) s := by
    unfold a_H at c5
    by_cases h9 : I 9 s = -1
    · rw [if_pos h9] at c5
      refine ⟨c5, ?_, fun j hj => ?_⟩
      · unfold a_ag; rw [if_pos h9]
      · unfold a_g a_co; rw [if_neg (by simp [h9])]
    · rw [if_neg h9] at c5
      unfold f_he at c5
      unfold a_ag a_g a_co
      by_cases hc : f_co I J b s (pe I s) = true
      · rw [if_pos hc] at c5
        unfold f_h3 at c5
        rw [zz_c (by omega)] at c5
        obtain ⟨d1, d2⟩ := mo_0 c5
        unfold f_h2 at d1 d2
        rw [wr_n (by omega)] at d1 d2
        unfold f_h1 at d1 d2
        obtain ⟨d3, d4⟩ := mo_0 d1
        rw [mo_n (by omega)] at d2
        have d5 : I (b + 13) s = 0 := by
          have : (0 : Int32) = I (b + 13) s := by simpa using d2
          exact this.symm
        have d6 : w_eq I (b + 1) s (b + 5) (pe I s) = true := by simpa using d4
        unfold w_eq at d6
        simp only [Bool.and_eq_true, decide_eq_true_eq] at d6
        have hcc : (decide (¬ I 9 s = -1) && f_co I J b s (pe I s)) = true := by simp [h9, hc]
        refine ⟨d3, ?_, fun j hj => ?_⟩
        · rw [if_neg h9, if_pos hcc, d5]
        · rw [if_pos hcc]
          rcases hj with rfl | rfl | rfl
          · exact d6.1.1.symm
          · exact d6.1.2.symm
          · exact d6.2.symm
      · rw [if_neg hc] at c5
        unfold f_h3 at c5
        rw [zz_c (by omega)] at c5
        obtain ⟨d1, d2⟩ := mo_0 c5
        have hcc : ¬ (decide (¬ I 9 s = -1) && f_co I J b s (pe I s)) = true := by simp [hc]
        refine ⟨d1, ?_, fun j hj => ?_⟩
        · rw [if_neg h9, if_neg hcc]
          simpa using d2
        · rw [if_neg hcc]
  exact ⟨key.1, key.2.1, by rw [← hu2]; exact c4, key.2.2⟩
/-- nothing moved in the slots below n -/
def M0 (n : Nat) (Xn I : zI) (J : zJ) (b : Nat) : Prop := Xn b 14 = 0 → ∀ s, s < 64 → s < n → f_wh I b (s / 4) = true → a_ag I J b s = I (b + 13) s ∧ a_u I J b (s / 4) s = I (b + 14) s ∧ ∀ j, (j = 1 ∨ j = 2 ∨ j = 3) → a_g j I J b s = I (b + 1 + j) s
theorem M0_s {n e : Nat} {Xn I : zI} {J : zJ} (hb : 16 ≤ b) (hn : n < 64) (he : n / 4 = e) (hD : D1 n Xn I J b) (h : M0 n Xn I J b) : M0 (n + 1) (f_lp Xn J b e n) I J b := by
  intro h0 s hs hsn hw
  obtain ⟨k1, k2, k3, k4⟩ := lp_0 hb (Or.inr trivial) h0
  have hq : a_eq Xn I b n := ⟨fun c hc => hD.1 c (Or.inl hc), fun j hj => hD.1 (b + 5 + j) (by omega), hD.2.1 11 (by decide), hD.2.1 12 (by decide), fun c hc => hD.2.2.2 n hn (Or.inl (Nat.le_refl _)) c hc⟩
  by_cases hx : s = n
  · subst hx
    subst he
    refine ⟨?_, ?_, fun j hj => ?_⟩
    · rw [← aag_eq hb hq, k2, hq.2.2.2.2 _ (by omega)]
    · rw [← au_eq hb hq, k3, hq.2.2.2.2 _ (by omega)]
    · rw [← ag_eq hb hj hq, k4 j hj, hq.2.2.2.2 _ (by omega)]
  · exact h k1 s hs (by omega) hw
theorem M0_skip {n k e : Nat} {Xn I : zI} {J : zJ} (hn : n = 4 * e) (hk : k = 4 * e + 4) (hw : f_wh I b e = false) (h : M0 n Xn I J b) : M0 k Xn I J b := by
  intro h0 s hs hsn hws
  by_cases hx : s < n
  · exact h h0 s hs hx hws
  · have : s / 4 = e := by omega
    rw [this, hw] at hws; cases hws
theorem M0_li {Xn I : zI} {J : zJ} {e : Nat} (hb : 16 ≤ b) (he : e < 16) (hw : f_wh I b e = true) (hD : D1 (4 * e) Xn I J b) (h : M0 (4 * e) Xn I J b) : ∀ p, p ≤ 4 → M0 (4 * e + p) (f_li Xn J b e p) I J b
  | 0, _ => h
  | p + 1, hp => by
    have h9 := M0_s (n := 4 * e + p) (e := e) hb (by omega) (by omega) (D1_li hb he hw hD p (by omega)) (M0_li hb he hw hD h p (by omega))
    unfold f_li
    exact h9
theorem M0_r1 {Xn I : zI} {J : zJ} (hb : 16 ≤ b) (hD : D1 0 Xn I J b) (h : M0 0 Xn I J b) : ∀ e, e ≤ 16 → M0 (4 * e) (f_r1 Xn J b e) I J b
  | 0, _ => h
  | e + 1, he => by
    have ih := M0_r1 hb hD h e (by omega)
    have iD := D1_r1 hb hD e (by omega)
    by_cases hw : f_wh I b e = true
    · rw [f_r1_t (by rw [D1_wh hb iD]; exact hw), show 4 * (e + 1) = 4 * e + 4 by omega]
      exact M0_li hb (by omega) hw iD ih 4 (Nat.le_refl _)
    · have hw : f_wh I b e = false := by simpa using hw
      rw [f_r1_f (by rw [D1_wh hb iD]; exact hw)]
      exact M0_skip rfl (by omega) hw ih
theorem M0_all {I : zI} {J : zJ} (hb : 16 ≤ b) : M0 64 (r_P I J b) I J b := M0_r1 hb D1_0 (fun _ s _ h => absurd h (by omega)) 16 (Nat.le_refl _)
/-- a round in which nothing moves, behind another one, changes nothing -/
theorem EQ_st {I : zI} {J : zJ} (hb : 16 ≤ b) (hP : okP I) (h0 : f_ro (f_ro I J b) (zupL J b 13 0) b b 14 = 0) : EQ b (f_ro (f_ro I J b) (zupL J b 13 0) b) (zupL (zupL J b 13 0) b 13 0) (f_ro I J b) (zupL J b 13 0) := by
  have y1 := R_D1 (A := I) (JA := J) hb
  have y2 := R_D2 (A := I) (JA := J) hb
  have wY : ∀ e, f_wh (r_P I J b) b e = f_wh I b e := fun e => R_Pw hb
  have wYX : ∀ e, f_wh (f_ro I J b) b e = f_wh I b e := fun e => R_Xw hb
  generalize f_ro I J b = X1 at *
  generalize r_P I J b = Q at *
  generalize hJ1 : zupL J b 13 0 = J1 at *
  have x1 := R_D1 (A := X1) (JA := J1) hb
  have x2 := R_D2 (A := X1) (JA := J1) hb
  have m0 := M0_all (I := X1) (J := J1) hb
  have wX : ∀ e, f_wh (r_P X1 J1 b) b e = f_wh X1 b e := fun e => R_Pw hb
  generalize f_ro X1 J1 b = X2 at *
  generalize r_P X1 J1 b = P at *
  have hP0 : P b 14 = 0 := by rw [← x2.2.1 14 (by decide)]; exact h0
  have mv := m0 hP0
  have sl : ∀ s, s < 64 → 4 * (s / 4) + s % 4 = s := fun s _ => by omega
  have xq : ∀ c, c ≠ b → (c < b + 6 ∨ (b + 9 ≤ c ∧ c < b + 15) ∨ b + 19 ≤ c) → X1 c = Q c := y2.1
  have ps : ∀ s c, s < 64 → (c = b + 2 ∨ c = b + 3 ∨ c = b + 4 ∨ c = b + 13 ∨ c = b + 14) → P c s = X1 c s := by
    intro s c hs hc
    cases hw : f_wh X1 b (s / 4) with
    | true =>
      obtain ⟨g1, g2, g3⟩ := x1.2.2.1 s hs hs hw
      obtain ⟨k1, k2, k3⟩ := mv s hs hs hw
      rcases hc with rfl | rfl | rfl | rfl | rfl
      · exact (g1 1 (Or.inl rfl)).1.trans (k3 1 (Or.inl rfl))
      · exact (g1 2 (Or.inr (Or.inl rfl))).1.trans (k3 2 (Or.inr (Or.inl rfl)))
      · exact (g1 3 (Or.inr (Or.inr rfl))).1.trans (k3 3 (Or.inr (Or.inr rfl)))
      · rw [g2, k1]
      · rw [g3, k2]
    | false => exact x1.2.2.2 s hs (Or.inr hw) c hc
  have pq : ∀ e, e < 16 → f_wh I b e = true → PQ b P Q e := by
    intro e he hw
    have c0 : ∀ c, c < b → P c = Q c := fun c hc => by rw [x1.1 c (Or.inl hc), xq c (by omega) (by omega)]
    refine ⟨c0, fun p c hp hc => ?_⟩
    have e4 : (4 * e + p) / 4 = e := by omega
    have hw1 : f_wh X1 b ((4 * e + p) / 4) = true := by rw [e4, wYX]; exact hw
    have hw0 : f_wh I b ((4 * e + p) / 4) = true := by rw [e4]; exact hw
    have off : ∀ j, (j = 1 ∨ j = 2 ∨ j = 3) → P (b + 9 + j) (4 * e + p) = Q (b + 9 + j) (4 * e + p) := by
      intro j hj
      rw [((x1.2.2.1 (4 * e + p) (by omega) (by omega) hw1).1 j hj).2, ((y1.2.2.1 (4 * e + p) (by omega) (by omega) hw0).1 j hj).2]
      rw [ao_P x1 (by omega) hw1 hj, ao_P y1 (by omega) hw0 hj]
      have es : p_so X1 (4 * e + p) = p_so I (4 * e + p) := by unfold p_so; rw [xq 11 (by omega) (by omega), y1.1 11 (Or.inl (by omega))]
      rw [es, ps (4 * e + p) (b + 13) (by omega) (by omega), ps (4 * e + p) (b + 1 + j) (by omega) (by omega), xq (b + 13) (by omega) (by omega), xq (b + 1 + j) (by omega) (by omega), xq 11 (by omega) (by omega), y1.1 11 (Or.inl (by omega))]
    rcases hc with rfl | rfl | rfl | rfl
    · exact off 1 (Or.inl rfl)
    · exact off 2 (Or.inr (Or.inl rfl))
    · exact off 3 (Or.inr (Or.inr rfl))
    · rw [ps (4 * e + p) (b + 14) (by omega) (by omega), xq (b + 14) (by omega) (by omega)]
  have qQ : ∀ e, e < 16 → okQ (Q 7 e) ∧ okQ (Q 8 e) := fun e he => by
    rw [y1.1 7 (by omega), y1.1 8 (by omega)]; exact hP.2 e he
  refine ⟨fun c hc => ?_, ?_, ?_, fun e he => ?_, ?_, fun s c hs hc => ?_, fun e c he hc => ?_⟩
  · rw [x2.1 c (by omega) (by omega), x1.1 c (Or.inl hc)]
  · rw [x2.2.1 11 (by decide), x1.2.1 11 (by decide)]
  · rw [x2.2.1 12 (by decide), x1.2.1 12 (by decide)]
  · cases hw : f_wh I b e with
    | true =>
      obtain ⟨g1, g2, g3, g4, g5, g6⟩ := x2.2.2.1 e he he (by rw [wX, wYX]; exact hw)
      obtain ⟨k1, k2, k3, k4, k5, k6⟩ := y2.2.2.1 e he he (by rw [wY]; exact hw)
      obtain ⟨d1, d2, d3, d4, d5, d6⟩ := PQ_d hb (pq e he hw) (qQ e he)
      rw [g5]
      unfold d_ev
      rw [x1.2.1 10 (by decide), d3, k5]
      unfold d_ev
      cases d_lk Q b e <;> rfl
    | false =>
      rw [(x2.2.2.2 e he (Or.inr (by rw [wX, wYX]; exact hw))).2.1, x1.2.1 10 (by decide)]
  · rw [zupL_same, pk_uLs, ← hJ1, zupL_same, pk_uLs]
  · by_cases hc2 : c = b + 6 ∨ c = b + 7 ∨ c = b + 8
    · have : ∃ j, (j = 1 ∨ j = 2 ∨ j = 3) ∧ c = b + 5 + j := by
        rcases hc2 with rfl | rfl | rfl
        · exact ⟨1, by omega, by omega⟩
        · exact ⟨2, by omega, by omega⟩
        · exact ⟨3, by omega, by omega⟩
      obtain ⟨j, hj, rfl⟩ := this
      have old : P (b + 5 + j) s = X1 (b + 5 + j) s := by rw [x1.1 _ (by omega)]
      cases hw : f_wh I b (s / 4) with
      | true =>
        obtain ⟨g1, g2, g3, g4, g5, g6⟩ := x2.2.2.1 (s / 4) (by omega) (by omega) (by rw [wX, wYX]; exact hw)
        obtain ⟨k1, k2, k3, k4, k5, k6⟩ := y2.2.2.1 (s / 4) (by omega) (by omega) (by rw [wY]; exact hw)
        have a1 := g6 (s % 4) j (by omega) hj
        have a2 := k6 (s % 4) j (by omega) hj
        obtain ⟨h1, h2, h3, h4, h5, h6⟩ := PQ_d hb (pq _ (by omega) hw) (qQ (s / 4) (by omega))
        have c9 : P 9 = Q 9 := (pq _ (by omega) hw).c 9 (by omega)
        have c3 : P 3 = Q 3 := (pq _ (by omega) hw).c 3 (by omega)
        rw [sl s hs] at a1
        rw [a1]
        unfold d_s
        rw [h1, h3, h4, h5, h6, c9, c3, sl s hs, old]
        by_cases h9 : Q 9 s = -1
        · rw [if_pos h9]
        · rw [sl s hs] at a2
          rw [if_neg h9, a2]
          unfold d_s
          rw [sl s hs, if_neg h9]
      | false =>
        have a1 := (x2.2.2.2 (s / 4) (by omega) (Or.inr (by rw [wX, wYX]; exact hw))).2.2 (s % 4) j (by omega) hj
        rw [sl s hs] at a1
        rw [a1, old]
    · rw [x2.1 c (by omega) (by omega)]
      exact ps s c hs (by omega)
  · cases hw : f_wh I b e with
    | true =>
      obtain ⟨g1, g2, g3, g4, g5, g6⟩ := x2.2.2.1 e he he (by rw [wX, wYX]; exact hw)
      obtain ⟨k1, k2, k3, k4, k5, k6⟩ := y2.2.2.1 e he he (by rw [wY]; exact hw)
      obtain ⟨d1, d2, d3, d4, d5, d6⟩ := PQ_d hb (pq e he hw) (qQ e he)
      have hc9 : c = b + 15 ∨ c = b + 16 ∨ c = b + 17 ∨ c = b + 18 := by omega
      rcases hc9 with rfl | rfl | rfl | rfl
      · rw [g2, k2]
        unfold d_co
        rw [d3, x1.2.1 10 (by decide), k5]
        unfold d_ev
        cases d_lk Q b e <;> rfl
      · rw [g1, k1, d1]
      · rw [g3, k3, d4]
      · rw [g4, k4, d5]
    | false =>
      rw [(x2.2.2.2 e he (Or.inr (by rw [wX, wYX]; exact hw))).1 c hc.1 hc.2, x1.1 c (by omega)]
/-- rounds that end early come to the same as all of them -/
theorem rs_ex {b : Nat} {I : zI} {J : zJ} (k : Nat) : ∀ i, ∃ n, i ≤ n ∧ n ≤ i + k ∧ f_rs b k i (f_it b I J i).1 (f_it b I J i).2 = f_it b I J n ∧ (n = i + k ∨ (2 ≤ n ∧ (f_it b I J n).1 b 14 = 0)) := by
  induction k with
  | zero => intro i; exact ⟨i, Nat.le_refl _, Nat.le_refl _, rfl, Or.inl rfl⟩
  | succ k ih =>
    intro i
    by_cases h : i < 2 ∨ ¬ (f_it b I J i).1 b 14 = 0
    · obtain ⟨n, h1, h2, h3, h4⟩ := ih (i + 1)
      refine ⟨n, by omega, by omega, ?_, h4.imp (fun q => by omega) id⟩
      rw [f_rs_t h, ← f_it_1, ← f_it_2]
      exact h3
    · have hi : ¬ i < 2 := fun q => h (Or.inl q)
      have h0 : (f_it b I J i).1 b 14 = 0 := by
        by_cases hz : (f_it b I J i).1 b 14 = 0
        · exact hz
        · exact absurd (Or.inr hz) h
      exact ⟨i, Nat.le_refl _, by omega, f_rs_f hi h0, Or.inr ⟨by omega, h0⟩⟩
theorem okP_it {I : zI} {J : zJ} (hb : 16 ≤ b) (hP : okP I) (n : Nat) : okP (f_it b I J n).1 := okP_of (fun c hc => fr_fit (by omega) n) hP
theorem rs_all {I : zI} {J : zJ} (hb : 16 ≤ b) (hP : okP I) (k : Nat) : EQ b (f_it b I J k).1 (f_it b I J k).2 (f_rs b k 0 I J).1 (f_rs b k 0 I J).2 := by
  obtain ⟨n, -, h2, h3, h4⟩ := rs_ex (b := b) (I := I) (J := J) k 0
  have h3' : f_rs b k 0 I J = f_it b I J n := h3
  rw [h3']
  rw [Nat.zero_add] at h2 h4
  rcases h4 with h4 | ⟨h4, h5⟩
  · rw [h4]; exact EQ_refl
  · obtain ⟨p, rfl⟩ : ∃ p, n = p + 2 := ⟨n - 2, by omega⟩
    have st : EQ b (f_it b I J (p + 2)).1 (f_it b I J (p + 2)).2 (f_it b I J (p + 1)).1 (f_it b I J (p + 1)).2 := by
      have e1 : (f_it b I J (p + 2)).1 = f_ro (f_ro (f_it b I J p).1 (f_it b I J p).2 b) (zupL (f_it b I J p).2 b 13 0) b := by rw [f_it_1, f_it_1, f_it_2]
      have e2 : (f_it b I J (p + 2)).2 = zupL (zupL (f_it b I J p).2 b 13 0) b 13 0 := by rw [f_it_2, f_it_2]
      rw [e1] at h5
      rw [e1, e2, f_it_1, f_it_2]
      exact EQ_st hb (okP_it hb hP p) h5
    have go : ∀ t, EQ b (f_it b I J (p + 2 + t)).1 (f_it b I J (p + 2 + t)).2 (f_it b I J (p + 1 + t)).1 (f_it b I J (p + 1 + t)).2 := by
      intro t
      induction t with
      | zero => exact st
      | succ t ih =>
        have e1 : p + 2 + (t + 1) = (p + 2 + t) + 1 := by omega
        have e2 : p + 1 + (t + 1) = (p + 1 + t) + 1 := by omega
        rw [e1, e2, f_it_1, f_it_2, f_it_1, f_it_2]
        exact EQ_ro hb (okP_it hb hP _) ih
    have all : ∀ t, EQ b (f_it b I J (p + 2 + t)).1 (f_it b I J (p + 2 + t)).2 (f_it b I J (p + 2)).1 (f_it b I J (p + 2)).2 := by
      intro t
      induction t with
      | zero => exact EQ_refl
      | succ t ih =>
        have h9 := go (t + 1)
        have e2 : p + 1 + (t + 1) = p + 2 + t := by omega
        rw [e2] at h9
        exact EQ_trans h9 ih
    have h9 := all (k - (p + 2))
    rw [show p + 2 + (k - (p + 2)) = k by omega] at h9
    exact h9
end R23
