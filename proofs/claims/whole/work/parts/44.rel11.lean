/-! A round of both. -/
section R11
variable {A B : zI} {JA : zJ} {b m r : Nat}
theorem f_ls_0 {J : zJ} {s : Nat} : f_ls (zupL J b 13 0) b s = true := by
  unfold f_ls
  rw [zupL_same, pk_uLs]
  have h : (0 : Int64) >>> ((nI s).toInt64 &&& 63) = 0 := by
    apply Int64.toBitVec_inj.mp
    rw [Int64.toBitVec_shiftRight]
    exact BitVec.zero_sshiftRight
  rw [h]
  decide
theorem ro_v {k : Nat} (h : k < 576 ∨ (608 ≤ k ∧ k < 640) ∨ (672 ≤ k ∧ k ≠ 761)) : m_ro B 79 k = m_rA B 79 k := by
  unfold m_ro
  rw [zz_k (by omega), r5_n 16 (Nat.le_refl _) (by omega)]
/-- the reference's memory before it chooses, and behind it -/
def r_M (B : zI) : zI := m_r1 (zup B 79 760 (B 79 760 + 1)) 64
def r_Y (B : zI) : zI := m_r2 (r_M B) 16
theorem rA_Y : m_rA B = m_r4 (m_r3 (r_Y B) 64) 48 := rfl
theorem rA_lo {k : Nat} (h : k < 256 ∨ (448 ≤ k ∧ k < 712) ∨ 760 ≤ k) : m_rA B 79 k = r_Y B 79 k := by
  rw [rA_Y, r4_n 48 (by omega), r3_n (by omega) 64 (Nat.le_refl _)]
theorem rA_s {s j : Nat} (hs : s < 64) (hj : j < 3) : m_rA B 79 (256 + 64 * j + s) = r_Y B 83 (64 * j + s) := by
  rw [rA_Y, r4_n 48 (by omega), r3_v hj 64 s (Nat.le_refl _) hs, if_pos hs]
theorem rA_l {k : Nat} (h : k < 48) : m_rA B 79 (712 + k) = 0 := by
  rw [rA_Y, r4_v 48 k h]
theorem R_A (hP : RP A B) (hL : RL A B m) : ∀ s, s < 64 → ¬ r_M B 74 s < 0 → (m_ax (r_M B) (m_lk (r_M B) s) s).toNatClampNeg < 64 := by
  intro s hs h
  have c : ∀ y, y ≠ 79 → y ≠ 83 → r_M B y = B y := fun y h1 h2 => by unfold r_M; rw [fr_mr1 h1 h2, B1_c h1]
  rw [c 74 (by decide) (by decide), ← hP.p9] at h
  have h9 : ¬ A 9 s = -1 := fun q => h ((R9_lt hL hs).mpr q)
  obtain ⟨l, q, hl, hq, hqs, e9, e74, h9q, h10, h10q, epe, elk, eax, hends⟩ := RL_at hP hL hs h9
  have elk2 : m_lk (r_M B) s = l := by unfold m_lk at elk ⊢; rw [c 74 (by decide) (by decide)]; exact elk
  have eax2 : m_ax (r_M B) l s = nI q := by unfold m_ax at eax ⊢; rw [c 77 (by decide) (by decide), c 78 (by decide) (by decide)]; exact eax
  rw [elk2, eax2, nI_clamp (by omega)]
  exact hq
theorem R_E2 (hP : RP A B) (hL : RL A B m) : E2 16 (r_Y B) (r_M B) := by
  refine E2_all (fun e he => ?_) (R_A hP hL) 16 (Nat.le_refl _)
  have c : ∀ y, y ≠ 79 → y ≠ 83 → r_M B y = B y := fun y h1 h2 => by unfold r_M; rw [fr_mr1 h1 h2, B1_c h1]
  rw [c 70 (by decide) (by decide), c 71 (by decide) (by decide), ← hP.p7, ← hP.p8]
  exact hL.q7 e he
theorem R_E1 (hF : RF b A JA B r) : E1 64 (r_M B) (zup B 79 760 (nI (r + 1))) := by
  unfold r_M
  rw [hF.ro, nI_1]
  exact E1_all 64 (Nat.le_refl _)
theorem R_Mw {e : Nat} (hP : RP A B) (hF : RF b A JA B r) (he : e < 16) : m_wh (r_M B) e = f_wh A b e := by
  rw [← RF_wh hP hF he, ← B1_wh (B := B) (v := nI (r + 1)) he]
  exact gwh_eq (R_E1 hF).1
theorem R_Mn {k : Nat} (hF : RF b A JA B r) (h : 256 ≤ k) (h2 : k ≠ 760) : r_M B 79 k = B 79 k := by
  rw [(R_E1 hF).1.2 k h, B1_n h2]
theorem R_Mc {c : Nat} (h1 : c ≠ 79) (h2 : c ≠ 83) : r_M B c = B c := by
  unfold r_M
  rw [fr_mr1 h1 h2, B1_c h1]
/-- the class's memory behind the first half, and behind the second -/
def r_P (A : zI) (JA : zJ) (b : Nat) : zI := f_r1 (zup A b 14 0) JA b 16
theorem R_D1 (hb : 16 ≤ b) : D1 64 (r_P A JA b) A JA b := D1_all hb
theorem R_D2 (hb : 16 ≤ b) : D2 16 (f_ro A JA b) (r_P A JA b) b := by
  unfold f_ro r_P
  exact D2_r2 hb 16 (Nat.le_refl _)
theorem R_Xw {e : Nat} (hb : 16 ≤ b) : f_wh (f_ro A JA b) b e = f_wh A b e := by
  rw [D2_wh hb (R_D2 hb), D1_wh hb (R_D1 hb)]
theorem R_Pw {e : Nat} (hb : 16 ≤ b) : f_wh (r_P A JA b) b e = f_wh A b e := D1_wh hb (R_D1 hb)
theorem R_2 {e : Nat} (hb : 16 ≤ b) (hr : r + 1 < 2 ^ 20) (hP : RP A B) (hL : RL A B m) (hF : RF b A JA B r) (he : e < 16) (hw : f_wh A b e = true) : R2 b (r_P A JA b) (r_M B) e := R2_of hb hr hP hL hF (R_D1 hb) (R_E1 hF) he hw
theorem R_ev {e : Nat} (hb : 16 ≤ b) (hF : RF b A JA B r) (he : e < 16) (hw : f_wh A b e = true) : f_bit (r_P A JA b b 10) (nI e) = r_M B 79 (544 + e) := by
  rw [(R_D1 hb).2.1 10 (by decide), R_Mn hF (by omega) (by omega)]
  exact (hF.wh e he hw).2.2.2.2
theorem rf_1 {Y : zI} {e i : Nat} {q : Option Nat} {lk : Bool} : r_f (1 - 1) Y e q lk i = m_q0 Y e q lk i := rfl
theorem rf_2 {Y : zI} {e i : Nat} {q : Option Nat} {lk : Bool} : r_f (2 - 1) Y e q lk i = m_h0 Y e q lk i := rfl
theorem rf_3 {Y : zI} {e i : Nat} {q : Option Nat} {lk : Bool} : r_f (3 - 1) Y e q lk i = m_t0 Y e q lk i := rfl
/-- what is sent -/
theorem R_se {e p : Nat} (hb : 16 ≤ b) (hr : r + 1 < 2 ^ 20) (hP : RP A B) (hL : RL A B m) (hF : RF b A JA B r) (he : e < 16) (hp : p < 4) (hw : f_wh A b e = true) (h9 : ¬ A 9 (4 * e + p) = -1) :
    (0 ≤ d_s 1 (r_P A JA b) b e p) ∧ ∀ j, j = 1 ∨ j = 2 ∨ j = 3 → d_s j (r_P A JA b) b e p = r_f (j - 1) (r_M B) e (r_k (r_M B) e) (r_lk (r_M B) e) p := by
  have h2 := R_2 hb hr hP hL hF he hw
  have hlk := R2_lk he h2
  have e9 : r_P A JA b 9 = A 9 := (R_D1 hb).1 9 (by omega)
  have e3 : r_P A JA b 3 = A 3 := (R_D1 hb).1 3 (by omega)
  have m74 : r_M B 74 = A 9 := by rw [R_Mc (by decide) (by decide), hP.p9]
  have m66 : r_M B 66 = A 3 := by rw [R_Mc (by decide) (by decide), hP.p3]
  have hch := R2_ch he h2
  have hge : 0 ≤ A 9 (4 * e + p) := by
    have : ¬ A 9 (4 * e + p) < 0 := fun q => h9 ((R9_lt hL (by omega)).mp q)
    exact Int32.not_lt.mp this
  have hpk : (nI p = f_ch (r_P A JA b) b e) ↔ r_k (r_M B) e = some p := by
    rw [hch]
    cases hk : r_k (r_M B) e with
    | none => exact ⟨fun q => absurd q (nI_neg1 (by omega)), fun q => by cases q⟩
    | some k =>
      have := R2_lt h2 hk
      show (nI p = nI k) ↔ _
      rw [nI_eq (by omega) (by omega)]
      exact ⟨fun q => by rw [q], fun q => by cases q; rfl⟩
  have d1 : ∀ j, d_s j (r_P A JA b) b e p = if nI p = f_ch (r_P A JA b) b e then (if j = 1 then 7 else 0) else if d_lk (r_P A JA b) b e = true then (if j = 1 then d_qu (r_P A JA b) b e else if j = 2 then d_ho (r_P A JA b) b e + 1 else r_P A JA b (b + 12) (4 * e + d_k (r_P A JA b) b e) ||| 1 <<< (nI e &&& 31)) else (if j = 1 then 8 + r_P A JA b 3 e else 0) := by
    intro j
    unfold d_s
    rw [e9, if_neg h9]
  have q0 : ∀ r lk, m_q0 (r_M B) e r lk p = if r = some p then 7 else if lk = true then m_qu (r_M B) (4 * e + r.getD 0) else 8 + A 3 e := by
    intro r lk
    unfold m_q0
    rw [m74, if_pos hge, m66]
  by_cases hk : r_k (r_M B) e = some p
  · have hc := hpk.mpr hk
    refine ⟨?_, fun j hj => ?_⟩
    · rw [d1, if_pos hc]; decide
    · rw [d1, if_pos hc]
      rcases hj with rfl | rfl | rfl
      · rw [if_pos rfl, rf_1, q0, if_pos hk]
      · rw [if_neg (by decide), rf_2]
        unfold m_h0 m_pl
        rw [hk]; simp
      · rw [if_neg (by decide), rf_3]
        unfold m_t0 m_pl
        rw [hk]; simp
  · have hc : ¬ nI p = f_ch (r_P A JA b) b e := fun q => hk (hpk.mp q)
    cases hl : r_lk (r_M B) e with
    | true =>
      obtain ⟨k, hk4, hk1, hk2, hk3, hk5, hk6⟩ := R2_l he h2 hl
      obtain ⟨o1, o2, o3, q, hq, o4⟩ := h2.o k hk4 hk6
      have hd : d_lk (r_P A JA b) b e = true := by rw [hlk, hl]
      have npl : m_pl (r_k (r_M B) e) true p = false := by unfold m_pl; simp [hk]
      have hgd : (r_k (r_M B) e).getD 0 = k := by rw [hk1]; rfl
      have dq : d_qu (r_P A JA b) b e = m_qu (r_M B) (4 * e + k) := by unfold d_qu; rw [if_pos hd, hk3, o1]
      have dh : d_ho (r_P A JA b) b e = m_ho (r_M B) (4 * e + k) := by unfold d_ho; rw [if_pos hd, hk3, o2]
      refine ⟨?_, fun j hj => ?_⟩
      · rw [d1, if_neg hc, if_pos hd, if_pos rfl, dq, o4]
        exact nI_pos' (by omega)
      · rw [d1, if_neg hc, if_pos hd, dq, dh, hk3, o3]
        rcases hj with rfl | rfl | rfl
        · rw [if_pos rfl, rf_1, q0, if_neg hk, if_pos rfl, hgd]
        · rw [if_neg (by decide), if_pos rfl, rf_2]
          unfold m_h0
          rw [npl, hgd, if_neg (by decide)]
        · rw [if_neg (by decide), if_neg (by decide), rf_3]
          unfold m_t0
          rw [npl, hgd, if_neg (show ¬ (false = true) by decide)]
    | false =>
      have hd : ¬ d_lk (r_P A JA b) b e = true := by rw [hlk, hl]; decide
      refine ⟨?_, fun j hj => ?_⟩
      · obtain ⟨q, hq, e9⟩ := hL.q3 e he
        rw [d1, if_neg hc, if_neg hd, if_pos rfl, e3, e9, show (8 : Int32) = nI 8 from rfl, nI_add]
        exact nI_pos' (by omega)
      · rw [d1, if_neg hc, if_neg hd, e3]
        rcases hj with rfl | rfl | rfl
        · rw [if_pos rfl, rf_1, q0, if_neg hk, if_neg (by decide)]
        · rw [if_neg (by decide), rf_2]
          unfold m_h0
          rw [m_pl_f, if_pos rfl]
        · rw [if_neg (by decide), rf_3]
          unfold m_t0
          rw [m_pl_f, if_pos rfl]
theorem R2_el {P M : zI} {e : Nat} (he : e < 16) (h2 : R2 b P M e) (hev : f_bit (P b 10) (nI e) = M 79 (544 + e)) : d_co P b e = r_st M e ∧ d_ho P b e = r_ho M e ∧ d_qu P b e = r_qu M e ∧ d_ev P b e = r_ev M e ∧ (d_co P b e = 1 → ∃ k, k < 4 ∧ f_ch P b e = nI k) ∧ (¬ d_co P b e = 1 → d_ho P b e = -1 ∧ d_qu P b e = -1) := by
  have hlk := R2_lk he h2
  unfold d_co r_st d_ho r_ho d_qu r_qu d_ev r_ev
  rw [hlk, hev]
  cases hl : r_lk M e with
  | false =>
    simp only [Bool.false_eq_true, if_false]
    refine ⟨trivial, trivial, trivial, trivial, fun q => ?_, fun _ => ⟨trivial, trivial⟩⟩
    split at q <;> exact absurd q (by decide)
  | true =>
    obtain ⟨k, hk4, hk1, hk2, hk3, hk5, hk6⟩ := R2_l he h2 hl
    simp only [if_true]
    rw [hk3, hk5, (h2.o k hk4 hk6).1, (h2.o k hk4 hk6).2.1]
    exact ⟨trivial, rfl, rfl, trivial, fun _ => ⟨k, hk4, hk2⟩, fun q => absurd trivial q⟩
/-- a round keeps the relation of the flows -/
theorem R_round (hb : 16 ≤ b) (hr : r + 1 < 2 ^ 20) (hP : RP A B) (hL : RL A B m) (hF : RF b A JA B r) : RF b (f_ro A JA b) (zupL JA b 13 0) (m_ro B) (r + 1) := by
  have hD1 := R_D1 (A := A) (JA := JA) hb
  have hD2 := R_D2 (A := A) (JA := JA) hb
  have hE1 := R_E1 hF
  have hE2 := R_E2 hP hL
  have mc : ∀ c, c ≠ 79 → c ≠ 83 → m_ro B c = B c := fun c h1 h2 => fr_mro h1 h2
  have xc : ∀ c, c < b → f_ro A JA b c = A c := fun c h => fr_ro (Or.inl h)
  have xP : ∀ c, c ≠ b → (c < b + 6 ∨ (b + 9 ≤ c ∧ c < b + 15) ∨ b + 19 ≤ c) → f_ro A JA b c = r_P A JA b c := hD2.1
  have lo : ∀ k, k < 256 → m_ro B 79 k = r_M B 79 k := fun k h => by rw [ro_v (by omega), rA_lo (by omega), hE2.2.1 k (by omega)]
  have hi : ∀ k, (640 + 32 ≤ k ∧ k < 712) → m_ro B 79 k = B 79 k := fun k h => by rw [ro_v (by omega), rA_lo (by omega), hE2.2.1 k (by omega), R_Mn hF (by omega) (by omega)]
  have ow : ∀ k, (448 ≤ k ∧ k < 576) ∨ (608 ≤ k ∧ k < 640) → m_ro B 79 k = r_Y B 79 k := fun k h => by rw [ro_v (by omega), rA_lo (by omega)]
  have nwB : ∀ e k, e < 16 → f_wh A b e = false → r_own e k → r_Y B 79 k = B 79 k := by
    intro e k he hw ho
    rw [(hE2.2.2.2 e he (Or.inr (by rw [R_Mw hP hF he]; exact hw))).1 k ho]
    refine R_Mn hF ?_ ?_ <;> (unfold r_own at ho; omega)
  have sl : ∀ s, s < 64 → 4 * (s / 4) + s % 4 = s := fun s _ => by omega
  refine ⟨fun e he => ?_, fun l hl => ?_, fun s l hs hl h9 => ?_, ?_, fun e he hw => ?_, fun e he hw => ?_, fun s hs hw => ?_, fun s hs hw => ?_, fun e he hw => ?_, fun s hs hw => ?_, fun e he h2 => ?_, fun s hs h9 => ?_, fun s hs => ?_, fun s hs h9 => f_ls_0, fun l hl h9 => ?_, fun y hy h5 => ?_⟩
  · rw [hD2.2.1 11 (by decide), hD1.2.1 11 (by decide), hi _ (by omega), hF.fe e he]
  · rw [hD2.2.1 12 (by decide), hD1.2.1 12 (by decide), hi _ (by omega), hF.fl l hl]
  · rw [f_ls_0, mc 77 (by decide) (by decide)]
    have : m_ro B 79 (712 + 2 * l + if B 77 l = nI s then 0 else 1) = 0 := by
      rw [ro_v (by split <;> omega), Nat.add_assoc, rA_l (by split <;> omega)]
    rw [this]
    decide
  · rw [ro_v (by omega), rA_lo (by omega), hE2.2.1 760 (by omega), hE1.1.2 760 (by decide), zz_e]
  · rw [R_Xw hb] at hw
    have h2 := R_2 hb hr hP hL hF he hw
    obtain ⟨y1, y2, y3, y4, y5, y6, y7, y8⟩ := hE2.2.2.1 e he he (by rw [R_Mw hP hF he]; exact hw)
    obtain ⟨x1, x2, x3, x4, x5, x6⟩ := hD2.2.2.1 e he he (by rw [R_Pw hb]; exact hw)
    obtain ⟨k1, k2, k3, k4, k5, k6⟩ := R2_el he h2 (R_ev hb hF he hw)
    rw [x1, x2, x3, x4, x5, ow _ (by omega), ow _ (by omega), ow _ (by omega), ow _ (by omega), ow _ (by omega), y1, y2, y3, y4, y5]
    exact ⟨k1, R2_ch he h2, k2, k3, k4⟩
  · rw [R_Xw hb] at hw
    have h2 := R_2 hb hr hP hL hF he hw
    obtain ⟨x1, x2, x3, x4, x5, x6⟩ := hD2.2.2.1 e he he (by rw [R_Pw hb]; exact hw)
    obtain ⟨k1, k2, k3, k4, k5, k6⟩ := R2_el he h2 (R_ev hb hF he hw)
    rw [x1, x2, x3, x4]
    exact ⟨k5, k6⟩
  · rw [R_Xw hb] at hw
    obtain ⟨u, u1, u2, u3, -⟩ := R_u hr hP hL hF hD1 hE1 hs hw
    obtain ⟨y1, y2, y3, y4, y5, y6, y7, y8⟩ := hE2.2.2.1 (s / 4) (by omega) (by omega) (by rw [R_Mw hP hF (by omega)]; exact hw)
    have y9 := y7 (s % 4) (by omega)
    rw [sl s hs] at y9
    exact ⟨u, u1, by rw [ow _ (by omega), y9, u2], by rw [xP _ (by omega) (by omega), u3]⟩
  · rw [R_Xw hb] at hw
    have h1 := R_w hr hP hL hF hD1 hE1 hs hw
    unfold RW at h1 ⊢
    rw [lo s (by omega), lo _ (by omega), lo _ (by omega), lo _ (by omega), xP _ (by omega) (by omega), xP _ (by omega) (by omega), xP _ (by omega) (by omega), xP _ (by omega) (by omega)]
    exact h1
  · rw [R_Xw hb] at hw
    obtain ⟨x1, x2, x3⟩ := hD2.2.2.2 e he (Or.inr (by rw [R_Pw hb]; exact hw))
    have o := hF.nw e he hw
    rw [x1 _ (by omega) (by omega), x1 _ (by omega) (by omega), x1 _ (by omega) (by omega), x1 _ (by omega) (by omega), x2, hD1.1 (b + 15) (by omega), hD1.1 (b + 16) (by omega), hD1.1 (b + 17) (by omega), hD1.1 (b + 18) (by omega), hD1.2.1 10 (by decide)]
    exact o
  · rw [R_Xw hb] at hw
    obtain ⟨x1, x2, x3⟩ := hD2.2.2.2 (s / 4) (by omega) (Or.inr (by rw [R_Pw hb]; exact hw))
    have x4 := x3 (s % 4) 1 (by omega) (Or.inl rfl)
    rw [sl s hs] at x4
    rw [xP _ (by omega) (by omega), xP _ (by omega) (by omega), show b + 6 = b + 5 + 1 by omega, x4, hD1.2.2.2 s hs (Or.inr hw) _ (by omega), hD1.2.2.2 s hs (Or.inr hw) _ (by omega), hD1.1 (b + 5 + 1) (by omega)]
    exact hF.ns s hs hw
  · rw [xc 2 (by omega)] at h2
    have hw : f_wh A b e = false := by unfold f_wh; rw [h2]; rfl
    have o := hF.ab e he h2
    refine ⟨?_, ?_, ?_, ?_, fun p hp => ?_⟩
    · rw [ow _ (by omega), nwB e _ he hw (by unfold r_own; omega)]; exact o.1
    · rw [ow _ (by omega), nwB e _ he hw (by unfold r_own; omega)]; exact o.2.1
    · rw [ow _ (by omega), nwB e _ he hw (by unfold r_own; omega)]; exact o.2.2.1
    · rw [hi _ (by omega)]; exact o.2.2.2.1
    · rw [ow _ (by omega), nwB e _ he hw (by unfold r_own; exact Or.inr (Or.inr (Or.inr (Or.inr (Or.inr (Or.inr ⟨p, hp, rfl⟩))))))]; exact o.2.2.2.2 p hp
  · rw [xc 9 (by omega)] at h9
    obtain ⟨u1, u2, u3⟩ := hF.un s hs h9
    rw [lo s (by omega), xP (b + 13) (by omega) (by omega)]
    have hcf : a_co A JA b s = false := by unfold a_co; rw [h9]; rfl
    cases hw : f_wh A b (s / 4) with
    | true =>
      obtain ⟨m0, -⟩ := E1_v hE1 hs (by rw [B1_wh (by omega), RF_wh hP hF (by omega)]; exact hw)
      obtain ⟨-, ha, -⟩ := hD1.2.2.1 s hs hs hw
      obtain ⟨x1, x2, x3, x4, x5, x6⟩ := hD2.2.2.1 (s / 4) (by omega) (by omega) (by rw [R_Pw hb]; exact hw)
      have x7 := x6 (s % 4) 1 (by omega) (Or.inl rfl)
      unfold d_s at x7
      rw [sl s hs, hD1.1 9 (by omega), if_pos h9, hD1.1 (b + 5 + 1) (by omega)] at x7
      unfold a_ag at ha
      unfold g_w at m0
      rw [R_co hP hL hF hs, hcf, if_neg (by decide), show 64 * 0 + s = s by omega, B1_n (by omega)] at m0
      rw [if_pos h9] at ha
      rw [m0, ha, show b + 6 = b + 5 + 1 by omega, x7]
      exact ⟨u1, u2, u3⟩
    | false =>
      obtain ⟨x1, x2, x3⟩ := hD2.2.2.2 (s / 4) (by omega) (Or.inr (by rw [R_Pw hb]; exact hw))
      have x4 := x3 (s % 4) 1 (by omega) (Or.inl rfl)
      rw [sl s hs] at x4
      have m0 := hE1.2.2.1 s 0 hs (by decide) (Or.inr (by rw [B1_wh (by omega), RF_wh hP hF (by omega)]; exact hw))
      rw [show 64 * 0 + s = s by omega, B1_n (by omega)] at m0
      rw [m0, hD1.2.2.2 s hs (Or.inr hw) _ (by omega), show b + 6 = b + 5 + 1 by omega, x4, hD1.1 (b + 5 + 1) (by omega)]
      exact ⟨u1, u2, u3⟩
  · have t1 := ro_v (B := B) (k := 256 + s) (by omega)
    have t2 := ro_v (B := B) (k := 320 + s) (by omega)
    have t3 := ro_v (B := B) (k := 384 + s) (by omega)
    have t4 := rA_s (B := B) (j := 0) hs (by decide)
    have t5 := rA_s (B := B) (j := 1) hs (by decide)
    have t6 := rA_s (B := B) (j := 2) hs (by decide)
    rw [show 256 + 64 * 0 + s = 256 + s by omega] at t4
    rw [show 256 + 64 * 1 + s = 320 + s by omega] at t5
    rw [show 256 + 64 * 2 + s = 384 + s by omega] at t6
    rw [t1, t2, t3, t4, t5, t6]
    cases hw : f_wh A b (s / 4) with
    | true =>
      obtain ⟨y1, y2, y3, y4, y5, y6, y7, y8⟩ := hE2.2.2.1 (s / 4) (by omega) (by omega) (by rw [R_Mw hP hF (by omega)]; exact hw)
      obtain ⟨x1, x2, x3, x4, x5, x6⟩ := hD2.2.2.1 (s / 4) (by omega) (by omega) (by rw [R_Pw hb]; exact hw)
      have a0 := y8 (s % 4) 0 (by omega) (by decide)
      have a1 := y8 (s % 4) 1 (by omega) (by decide)
      have a2 := y8 (s % 4) 2 (by omega) (by decide)
      have b0 := x6 (s % 4) 1 (by omega) (Or.inl rfl)
      have b1 := x6 (s % 4) 2 (by omega) (Or.inr (Or.inl rfl))
      have b2 := x6 (s % 4) 3 (by omega) (Or.inr (Or.inr rfl))
      rw [sl s hs] at a0 a1 a2 b0 b1 b2
      rw [a0, a1, a2, show b + 6 = b + 5 + 1 by omega, show b + 7 = b + 5 + 2 by omega, show b + 8 = b + 5 + 3 by omega, b0, b1, b2]
      by_cases h9 : A 9 s = -1
      · have u3 := (hF.un s hs h9).2.2
        have e1 : d_s 1 (r_P A JA b) b (s / 4) (s % 4) = -1 := by
          unfold d_s
          rw [sl s hs, hD1.1 9 (by omega), if_pos h9, hD1.1 (b + 5 + 1) (by omega)]
          exact u3
        have e2 : r_f 0 (r_M B) (s / 4) (r_k (r_M B) (s / 4)) (r_lk (r_M B) (s / 4)) (s % 4) = -1 := by
          unfold r_f m_q0
          rw [if_pos rfl, sl s hs, R_Mc (by decide) (by decide), ← hP.p9, h9]
          rfl
        rw [e1, e2]
        exact ⟨rfl, Or.inl rfl⟩
      · obtain ⟨k1, k2⟩ := R_se (e := s / 4) (p := s % 4) hb hr hP hL hF (by omega) (by omega) hw (by rw [sl s hs]; exact h9)
        exact ⟨k2 1 (Or.inl rfl), Or.inr ⟨k1, k2 2 (Or.inr (Or.inl rfl)), k2 3 (Or.inr (Or.inr rfl))⟩⟩
    | false =>
      obtain ⟨x1, x2, x3⟩ := hD2.2.2.2 (s / 4) (by omega) (Or.inr (by rw [R_Pw hb]; exact hw))
      have x4 := x3 (s % 4) 1 (by omega) (Or.inl rfl)
      rw [sl s hs] at x4
      obtain ⟨y1, y2⟩ := hE2.2.2.2 (s / 4) (by omega) (Or.inr (by rw [R_Mw hP hF (by omega)]; exact hw))
      have y3 := y2 (s % 4) 0 (by omega) (by decide)
      rw [sl s hs, show 64 * 0 + s = s by omega, hE1.2.2.2 s hs] at y3
      have n3 := (hF.ns s hs hw).2.2
      have e1 : f_ro A JA b (b + 6) s = -1 := by rw [show b + 6 = b + 5 + 1 by omega, x4, hD1.1 (b + 5 + 1) (by omega)]; exact n3
      rw [show 64 * 0 + s = s by omega, y3, e1]
      exact ⟨rfl, Or.inl rfl⟩
  · rw [ro_v (by omega), ro_v (by omega), rA_l (by omega), Nat.add_assoc, rA_l (by omega)]
    exact ⟨rfl, rfl⟩
  · cases hw : f_wh A b y with
    | true =>
      have h2 := R_2 hb hr hP hL hF hy hw
      obtain ⟨y1, y2, y3, y4, y5, y6, y7, y8⟩ := hE2.2.2.1 y hy hy (by rw [R_Mw hP hF hy]; exact hw)
      obtain ⟨k1, k2, k3, k4, k5, k6⟩ := R2_el hy h2 (R_ev hb hF hy hw)
      rw [ow _ (by omega), y1, ← k1] at h5
      rw [ow _ (by omega), y2, ← R2_ch hy h2]
      exact k5 h5
    | false =>
      rw [ow _ (by omega), nwB y _ hy hw (by unfold r_own; omega)] at h5
      rw [ow _ (by omega), nwB y _ hy hw (by unfold r_own; omega)]
      exact hF.mk y hy h5
end R11
