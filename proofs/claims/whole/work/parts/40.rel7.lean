/-! The relation of the class's memory A and the reference's memory B. -/
def RP (A B : zI) : Prop := (A 2 = B 65) ∧ (A 3 = B 66) ∧ (A 4 = B 67) ∧ (A 5 = B 68) ∧ (A 6 = B 69) ∧ (A 7 = B 70) ∧ (A 8 = B 71) ∧ (A 9 = B 74) ∧ (A 11 = B 72) ∧ (A 12 = B 73) ∧ (A 13 = B 75) ∧ (A 14 = B 76) ∧ (A 1 14 = B 64 14) ∧ (A 1 15 = B 64 1)
theorem RP.p2 {A B : zI} (h : RP A B) : A 2 = B 65 := h.1
theorem RP.p3 {A B : zI} (h : RP A B) : A 3 = B 66 := h.2.1
theorem RP.p4 {A B : zI} (h : RP A B) : A 4 = B 67 := h.2.2.1
theorem RP.p5 {A B : zI} (h : RP A B) : A 5 = B 68 := h.2.2.2.1
theorem RP.p6 {A B : zI} (h : RP A B) : A 6 = B 69 := h.2.2.2.2.1
theorem RP.p7 {A B : zI} (h : RP A B) : A 7 = B 70 := h.2.2.2.2.2.1
theorem RP.p8 {A B : zI} (h : RP A B) : A 8 = B 71 := h.2.2.2.2.2.2.1
theorem RP.p9 {A B : zI} (h : RP A B) : A 9 = B 74 := h.2.2.2.2.2.2.2.1
theorem RP.p11 {A B : zI} (h : RP A B) : A 11 = B 72 := h.2.2.2.2.2.2.2.2.1
theorem RP.p12 {A B : zI} (h : RP A B) : A 12 = B 73 := h.2.2.2.2.2.2.2.2.2.1
theorem RP.p13 {A B : zI} (h : RP A B) : A 13 = B 75 := h.2.2.2.2.2.2.2.2.2.2.1
theorem RP.p14 {A B : zI} (h : RP A B) : A 14 = B 76 := h.2.2.2.2.2.2.2.2.2.2.2.1
theorem RP.pL {A B : zI} (h : RP A B) : A 1 14 = B 64 14 := h.2.2.2.2.2.2.2.2.2.2.2.2.1
theorem RP.pT {A B : zI} (h : RP A B) : A 1 15 = B 64 1 := h.2.2.2.2.2.2.2.2.2.2.2.2.2
def RL (A B : zI) (m : Nat) : Prop := (m ≤ 24) ∧ (A 1 14 = nI m) ∧ (∀ l, l < m → ∃ x y, x < 64 ∧ y < 64 ∧ x ≠ y ∧ B 77 l = nI x ∧ B 78 l = nI y ∧ A 15 l = nI x ∧ A 9 x = nI l ∧ A 9 y = nI l ∧ A 10 x = nI y ∧ A 10 y = nI x) ∧ (∀ s, s < 64 → A 9 s = -1 ∨ ∃ l, l < m ∧ A 9 s = nI l ∧ (B 77 l = nI s ∨ B 78 l = nI s)) ∧ (∀ s, s < 64 → A 11 s = -1 ∨ ∃ q, q ≤ 6 ∧ A 11 s = nI q) ∧ (∀ s, s < 64 → ¬ A 9 s = -1 → A 11 s = -1) ∧ (∀ s, s < 64 → A 14 s = 0 ∨ A 14 s = 1) ∧ (∀ s, s < 64 → A 2 (s / 4) = 0 → A 9 s = -1) ∧ (∀ e, e < 16 → okQ (A 7 e) ∧ okQ (A 8 e)) ∧ (∀ e, e < 16 → ∃ q, q ≤ 6 ∧ A 3 e = nI q) ∧ (∀ e, e < 16 → ∃ n, n ≤ 10 ∧ A 6 e = nI n) ∧ (∀ e, e < 16 → A 2 e = 0 → A 6 e = 0) ∧ (∀ e, e < 16 → A 2 e = 0 ∨ A 2 e = 1) ∧ (A 1 15 = 0 ∨ A 1 15 = 1)
theorem RL.m24 {A B : zI} {m : Nat} (h : RL A B m) : m ≤ 24 := h.1
theorem RL.cnt {A B : zI} {m : Nat} (h : RL A B m) : A 1 14 = nI m := h.2.1
theorem RL.lk {A B : zI} {m : Nat} (h : RL A B m) : ∀ l, l < m → ∃ x y, x < 64 ∧ y < 64 ∧ x ≠ y ∧ B 77 l = nI x ∧ B 78 l = nI y ∧ A 15 l = nI x ∧ A 9 x = nI l ∧ A 9 y = nI l ∧ A 10 x = nI y ∧ A 10 y = nI x := h.2.2.1
theorem RL.sl {A B : zI} {m : Nat} (h : RL A B m) : ∀ s, s < 64 → A 9 s = -1 ∨ ∃ l, l < m ∧ A 9 s = nI l ∧ (B 77 l = nI s ∨ B 78 l = nI s) := h.2.2.2.1
theorem RL.src {A B : zI} {m : Nat} (h : RL A B m) : ∀ s, s < 64 → A 11 s = -1 ∨ ∃ q, q ≤ 6 ∧ A 11 s = nI q := h.2.2.2.2.1
theorem RL.ls {A B : zI} {m : Nat} (h : RL A B m) : ∀ s, s < 64 → ¬ A 9 s = -1 → A 11 s = -1 := h.2.2.2.2.2.1
theorem RL.lo {A B : zI} {m : Nat} (h : RL A B m) : ∀ s, s < 64 → A 14 s = 0 ∨ A 14 s = 1 := h.2.2.2.2.2.2.1
theorem RL.ab {A B : zI} {m : Nat} (h : RL A B m) : ∀ s, s < 64 → A 2 (s / 4) = 0 → A 9 s = -1 := h.2.2.2.2.2.2.2.1
theorem RL.q7 {A B : zI} {m : Nat} (h : RL A B m) : ∀ e, e < 16 → okQ (A 7 e) ∧ okQ (A 8 e) := h.2.2.2.2.2.2.2.2.1
theorem RL.q3 {A B : zI} {m : Nat} (h : RL A B m) : ∀ e, e < 16 → ∃ q, q ≤ 6 ∧ A 3 e = nI q := h.2.2.2.2.2.2.2.2.2.1
theorem RL.q6 {A B : zI} {m : Nat} (h : RL A B m) : ∀ e, e < 16 → ∃ n, n ≤ 10 ∧ A 6 e = nI n := h.2.2.2.2.2.2.2.2.2.2.1
theorem RL.q6z {A B : zI} {m : Nat} (h : RL A B m) : ∀ e, e < 16 → A 2 e = 0 → A 6 e = 0 := h.2.2.2.2.2.2.2.2.2.2.2.1
theorem RL.th {A B : zI} {m : Nat} (h : RL A B m) : ∀ e, e < 16 → A 2 e = 0 ∨ A 2 e = 1 := h.2.2.2.2.2.2.2.2.2.2.2.2.1
theorem RL.tr {A B : zI} {m : Nat} (h : RL A B m) : A 1 15 = 0 ∨ A 1 15 = 1 := h.2.2.2.2.2.2.2.2.2.2.2.2.2
/-- the word of a slot and its age -/
def RW (b : Nat) (A B : zI) (r s : Nat) : Prop := (A (b + 13) s = 3 ∧ B 79 s < 0) ∨ ∃ w, w ≤ r ∧ ¬ B 79 s < 0 ∧ B 79 (192 + s) = nI w ∧ ((w + 3 ≤ r ∧ A (b + 13) s = 3) ∨ (r < w + 3 ∧ A (b + 13) s = nI (r - w) ∧ A (b + 2) s = B 79 s ∧ A (b + 3) s = B 79 (64 + s) ∧ A (b + 4) s = B 79 (128 + s)))
def RF (b : Nat) (A : zI) (JA : zJ) (B : zI) (r : Nat) : Prop := (∀ e, e < 16 → f_bit (A b 11) (nI e) = B 79 (672 + e)) ∧ (∀ l, l < 24 → f_bit (A b 12) (nI l) = B 79 (688 + l)) ∧ (∀ s l, s < 64 → l < 24 → A 9 s = nI l → f_ls JA b s = !decide (B 79 (712 + 2 * l + (if B 77 l = nI s then 0 else 1)) = 1)) ∧ (B 79 760 = nI r) ∧ (∀ e, e < 16 → f_wh A b e = true → A (b + 15) e = B 79 (512 + e) ∧ A (b + 16) e = B 79 (528 + e) ∧ A (b + 17) e = B 79 (608 + e) ∧ A (b + 18) e = B 79 (624 + e) ∧ f_bit (A b 10) (nI e) = B 79 (544 + e)) ∧ (∀ e, e < 16 → f_wh A b e = true → (A (b + 15) e = 1 → ∃ k, k < 4 ∧ A (b + 16) e = nI k) ∧ (¬ A (b + 15) e = 1 → A (b + 17) e = -1 ∧ A (b + 18) e = -1)) ∧ (∀ s, s < 64 → f_wh A b (s / 4) = true → ∃ u, u ≤ r ∧ B 79 (448 + s) = nI u ∧ A (b + 14) s = nI (min u 11)) ∧ (∀ s, s < 64 → f_wh A b (s / 4) = true → RW b A B r s) ∧ (∀ e, e < 16 → f_wh A b e = false → A (b + 15) e = 0 ∧ A (b + 16) e = -1 ∧ A (b + 17) e = -1 ∧ A (b + 18) e = -1 ∧ f_bit (A b 10) (nI e) = 0) ∧ (∀ s, s < 64 → f_wh A b (s / 4) = false → A (b + 13) s = 3 ∧ A (b + 14) s = 0 ∧ A (b + 6) s = -1) ∧ (∀ e, e < 16 → A 2 e = 0 → B 79 (512 + e) = 0 ∧ B 79 (528 + e) = -1 ∧ B 79 (544 + e) = 0 ∧ B 79 (672 + e) = 0 ∧ ∀ p, p < 4 → B 79 (448 + (4 * e + p)) = 0) ∧ (∀ s, s < 64 → A 9 s = -1 → B 79 s < 0 ∧ A (b + 13) s = 3 ∧ A (b + 6) s = -1) ∧ (∀ s, s < 64 → A (b + 6) s = B 79 (256 + s) ∧ (A (b + 6) s = -1 ∨ (0 ≤ A (b + 6) s ∧ A (b + 7) s = B 79 (320 + s) ∧ A (b + 8) s = B 79 (384 + s)))) ∧ (∀ s, s < 64 → A 9 s = -1 → f_ls JA b s = true) ∧ (∀ l, l < 24 → (∀ s, s < 64 → ¬ A 9 s = nI l) → B 79 (712 + 2 * l) = 0 ∧ B 79 (712 + 2 * l + 1) = 0) ∧ (∀ e, e < 16 → B 79 (512 + e) = 1 → ∃ k, k < 4 ∧ B 79 (528 + e) = nI k)
theorem RF.fe {b : Nat} {A : zI} {JA : zJ} {B : zI} {r : Nat} (h : RF b A JA B r) : ∀ e, e < 16 → f_bit (A b 11) (nI e) = B 79 (672 + e) := h.1
theorem RF.fl {b : Nat} {A : zI} {JA : zJ} {B : zI} {r : Nat} (h : RF b A JA B r) : ∀ l, l < 24 → f_bit (A b 12) (nI l) = B 79 (688 + l) := h.2.1
theorem RF.lo {b : Nat} {A : zI} {JA : zJ} {B : zI} {r : Nat} (h : RF b A JA B r) : ∀ s l, s < 64 → l < 24 → A 9 s = nI l → f_ls JA b s = !decide (B 79 (712 + 2 * l + (if B 77 l = nI s then 0 else 1)) = 1) := h.2.2.1
theorem RF.ro {b : Nat} {A : zI} {JA : zJ} {B : zI} {r : Nat} (h : RF b A JA B r) : B 79 760 = nI r := h.2.2.2.1
theorem RF.wh {b : Nat} {A : zI} {JA : zJ} {B : zI} {r : Nat} (h : RF b A JA B r) : ∀ e, e < 16 → f_wh A b e = true → A (b + 15) e = B 79 (512 + e) ∧ A (b + 16) e = B 79 (528 + e) ∧ A (b + 17) e = B 79 (608 + e) ∧ A (b + 18) e = B 79 (624 + e) ∧ f_bit (A b 10) (nI e) = B 79 (544 + e) := h.2.2.2.2.1
theorem RF.wk {b : Nat} {A : zI} {JA : zJ} {B : zI} {r : Nat} (h : RF b A JA B r) : ∀ e, e < 16 → f_wh A b e = true → (A (b + 15) e = 1 → ∃ k, k < 4 ∧ A (b + 16) e = nI k) ∧ (¬ A (b + 15) e = 1 → A (b + 17) e = -1 ∧ A (b + 18) e = -1) := h.2.2.2.2.2.1
theorem RF.us {b : Nat} {A : zI} {JA : zJ} {B : zI} {r : Nat} (h : RF b A JA B r) : ∀ s, s < 64 → f_wh A b (s / 4) = true → ∃ u, u ≤ r ∧ B 79 (448 + s) = nI u ∧ A (b + 14) s = nI (min u 11) := h.2.2.2.2.2.2.1
theorem RF.ag {b : Nat} {A : zI} {JA : zJ} {B : zI} {r : Nat} (h : RF b A JA B r) : ∀ s, s < 64 → f_wh A b (s / 4) = true → RW b A B r s := h.2.2.2.2.2.2.2.1
theorem RF.nw {b : Nat} {A : zI} {JA : zJ} {B : zI} {r : Nat} (h : RF b A JA B r) : ∀ e, e < 16 → f_wh A b e = false → A (b + 15) e = 0 ∧ A (b + 16) e = -1 ∧ A (b + 17) e = -1 ∧ A (b + 18) e = -1 ∧ f_bit (A b 10) (nI e) = 0 := h.2.2.2.2.2.2.2.2.1
theorem RF.ns {b : Nat} {A : zI} {JA : zJ} {B : zI} {r : Nat} (h : RF b A JA B r) : ∀ s, s < 64 → f_wh A b (s / 4) = false → A (b + 13) s = 3 ∧ A (b + 14) s = 0 ∧ A (b + 6) s = -1 := h.2.2.2.2.2.2.2.2.2.1
theorem RF.ab {b : Nat} {A : zI} {JA : zJ} {B : zI} {r : Nat} (h : RF b A JA B r) : ∀ e, e < 16 → A 2 e = 0 → B 79 (512 + e) = 0 ∧ B 79 (528 + e) = -1 ∧ B 79 (544 + e) = 0 ∧ B 79 (672 + e) = 0 ∧ ∀ p, p < 4 → B 79 (448 + (4 * e + p)) = 0 := h.2.2.2.2.2.2.2.2.2.2.1
theorem RF.un {b : Nat} {A : zI} {JA : zJ} {B : zI} {r : Nat} (h : RF b A JA B r) : ∀ s, s < 64 → A 9 s = -1 → B 79 s < 0 ∧ A (b + 13) s = 3 ∧ A (b + 6) s = -1 := h.2.2.2.2.2.2.2.2.2.2.2.1
theorem RF.se {b : Nat} {A : zI} {JA : zJ} {B : zI} {r : Nat} (h : RF b A JA B r) : ∀ s, s < 64 → A (b + 6) s = B 79 (256 + s) ∧ (A (b + 6) s = -1 ∨ (0 ≤ A (b + 6) s ∧ A (b + 7) s = B 79 (320 + s) ∧ A (b + 8) s = B 79 (384 + s))) := h.2.2.2.2.2.2.2.2.2.2.2.2.1
theorem RF.lu {b : Nat} {A : zI} {JA : zJ} {B : zI} {r : Nat} (h : RF b A JA B r) : ∀ s, s < 64 → A 9 s = -1 → f_ls JA b s = true := h.2.2.2.2.2.2.2.2.2.2.2.2.2.1
theorem RF.lz {b : Nat} {A : zI} {JA : zJ} {B : zI} {r : Nat} (h : RF b A JA B r) : ∀ l, l < 24 → (∀ s, s < 64 → ¬ A 9 s = nI l) → B 79 (712 + 2 * l) = 0 ∧ B 79 (712 + 2 * l + 1) = 0 := h.2.2.2.2.2.2.2.2.2.2.2.2.2.2.1
theorem RF.mk {b : Nat} {A : zI} {JA : zJ} {B : zI} {r : Nat} (h : RF b A JA B r) : ∀ e, e < 16 → B 79 (512 + e) = 1 → ∃ k, k < 4 ∧ B 79 (528 + e) = nI k := h.2.2.2.2.2.2.2.2.2.2.2.2.2.2.2
section RR
variable {A B : zI} {JA : zJ} {b m r : Nat}
theorem neg1_lt : (-1 : Int32) < 0 := by decide
theorem R9_lt {s : Nat} (hL : RL A B m) (hs : s < 64) : (A 9 s < 0) ↔ A 9 s = -1 := by
  rcases hL.sl s hs with h | ⟨l, hl, h, -⟩
  · rw [h]; exact ⟨fun _ => rfl, fun _ => neg1_lt⟩
  · rw [h]
    have := hL.m24
    exact ⟨fun q => absurd q (nI_pos (by omega)), fun q => absurd q (nI_neg1 (by omega))⟩
theorem R11_lt {s : Nat} (hL : RL A B m) (hs : s < 64) : (A 11 s < 0) ↔ A 11 s = -1 := by
  rcases hL.src s hs with h | ⟨l, hl, h⟩
  · rw [h]; exact ⟨fun _ => rfl, fun _ => neg1_lt⟩
  · rw [h]
    exact ⟨fun q => absurd q (nI_pos (by omega)), fun q => absurd q (nI_neg1 (by omega))⟩
/-- the far end of a link -/
theorem RL_at {s : Nat} (hP : RP A B) (hL : RL A B m) (hs : s < 64) (h9 : ¬ A 9 s = -1) : ∃ l q, l < m ∧ q < 64 ∧ q ≠ s ∧ A 9 s = nI l ∧ B 74 s = nI l ∧ A 9 q = nI l ∧ A 10 s = nI q ∧ A 10 q = nI s ∧ pe A s = q ∧ m_lk B s = l ∧ m_ax B l s = nI q ∧ ((B 77 l = nI s ∧ B 78 l = nI q) ∨ (B 77 l = nI q ∧ B 78 l = nI s)) := by
  obtain ⟨l, hl, e9, he⟩ := (hL.sl s hs).resolve_left h9
  obtain ⟨x, y, hx, hy, hxy, e77, e78, -, h9x, h9y, h10x, h10y⟩ := hL.lk l hl
  have h24 := hL.m24
  have e74 : B 74 s = nI l := by rw [← hP.p9]; exact e9
  have elk : m_lk B s = l := by unfold m_lk; rw [e74, nI_clamp (by omega)]
  by_cases hsx : s = x
  · subst hsx
    refine ⟨l, y, hl, hy, fun q => hxy q.symm, e9, e74, h9y, h10x, h10y, ?_, elk, ?_, Or.inl ⟨e77, e78⟩⟩
    · unfold pe; rw [h10x, nI_clamp (by omega)]
    · unfold m_ax; rw [if_pos e77, e78]
  · have hsy : s = y := by
      rcases he with q | q
      · rw [e77, nI_eq (by omega) (by omega)] at q; exact absurd q.symm hsx
      · rw [e78, nI_eq (by omega) (by omega)] at q; exact q.symm
    subst hsy
    refine ⟨l, x, hl, hx, hxy, e9, e74, h9x, h10y, h10x, ?_, elk, ?_, Or.inr ⟨e77, e78⟩⟩
    · unfold pe; rw [h10y, nI_clamp (by omega)]
    · unfold m_ax
      rw [if_neg, e77]
      rw [e77, nI_eq (by omega) (by omega)]; exact fun q => hsx q.symm
theorem RF_wh {e : Nat} (hP : RP A B) (hF : RF b A JA B r) (he : e < 16) : m_wh B e = f_wh A b e := by
  unfold m_wh f_wh
  rw [← hP.p2, hF.fe e he]
theorem B1_n {k : Nat} {v : Int32} (h : k ≠ 760) : zup B 79 760 v 79 k = B 79 k := zz_k h
theorem B1_c {c : Nat} {v : Int32} (h : c ≠ 79) : zup B 79 760 v c = B c := zup_ne h
/-- over a link comes the same -/
theorem R_co {s : Nat} {v : Int32} (hP : RP A B) (hL : RL A B m) (hF : RF b A JA B r) (hs : s < 64) : g_c (zup B 79 760 v) s = a_co A JA b s := by
  unfold g_c a_co
  rw [B1_c (c := 74) (by decide), ← hP.p9]
  by_cases h9 : A 9 s = -1
  · rw [h9]; rfl
  · have hn : ¬ A 9 s < 0 := fun q => h9 ((R9_lt hL hs).mp q)
    have h24 := hL.m24
    obtain ⟨l, q, hl, hq, hqs, e9, e74, h9q, h10, h10q, epe, elk, eax, hends⟩ := RL_at hP hL hs h9
    have elk2 : m_lk (zup B 79 760 v) s = l := by unfold m_lk at elk ⊢; rw [B1_c (by decide)]; exact elk
    have eax2 : m_ax (zup B 79 760 v) l s = nI q := by unfold m_ax at eax ⊢; rw [B1_c (by decide), B1_c (by decide)]; exact eax
    rw [decide_eq_true hn, decide_eq_true h9, Bool.true_and, Bool.true_and, elk2, m_co_o hq eax2, epe]
    unfold f_co
    have w1 : m_wh (zup B 79 760 v) (q / 4) = f_wh A b (q / 4) := by
      rw [← RF_wh hP hF (by omega)]
      unfold m_wh
      rw [B1_c (by decide), B1_n (by omega)]
    have w2 : decide (¬ zup B 79 760 v 79 (688 + l) = 1) = f_lw A b (A 9 s) := by
      rw [B1_n (by omega), ← hF.fl l (by omega)]
      unfold f_lw
      rw [e9]
      rcases b_01 (A b 12) (e := l) (by omega) with q | q <;> rw [q] <;> rfl
    have w3 : (!m_lo (zup B 79 760 v) l s) = f_ls JA b q := by
      rw [hF.lo q l hq (by omega) h9q]
      unfold m_lo m_li
      rw [B1_c (c := 78) (by decide)]
      have : (if B 78 l = nI s then 0 else 1) = if B 77 l = nI q then 0 else 1 := by
        rcases hends with ⟨q1, q2⟩ | ⟨q1, q2⟩
        · rw [q1, q2, if_neg, if_neg]
          · rw [nI_eq (by omega) (by omega)]; omega
          · rw [nI_eq (by omega) (by omega)]; omega
        · rw [q1, q2, if_pos rfl, if_pos rfl]
      rw [this, B1_n]
      split <;> omega
    have w4 : decide (0 ≤ zup B 79 760 v 79 (256 + q)) = decide (¬ A (b + 6) q = -1) := by
      rw [B1_n (by omega)]
      obtain ⟨h1, h2⟩ := hF.se q hq
      rw [← h1]
      rcases h2 with h2 | ⟨h2, -⟩
      · rw [h2]; decide
      · rw [decide_eq_true h2]
        refine (decide_eq_true ?_).symm
        intro h3; rw [h3] at h2; exact absurd h2 (by decide)
    rw [w1, w2, w3, w4]
    cases f_lw A b (A 9 s) <;> cases f_wh A b (q / 4) <;> cases f_ls JA b q <;> cases (decide (¬ A (b + 6) q = -1)) <;> rfl
end RR
