/-! A round of the class, element by element: what is decided and what is sent. -/
theorem f_bt_eq {X P : zI} {b s t : Nat} (h10 : X (b + 10) = P (b + 10)) (h11 : X (b + 11) = P (b + 11)) (h13 : X 13 = P 13) : f_bt X b s t = f_bt P b s t := by
  unfold f_bt
  rw [h10, h11, h13]
theorem f_bp_eq {X P : zI} {b e : Nat} {m : Int32} (h10 : X (b + 10) = P (b + 10)) (h11 : X (b + 11) = P (b + 11)) (h14 : X (b + 14) = P (b + 14)) (h13 : X 13 = P 13) : ∀ n, f_bp X b e m n = f_bp P b e m n
  | 0 => rfl
  | n + 1 => by
    unfold f_bp
    rw [f_bp_eq h10 h11 h14 h13 n, h14]
    cases f_bp P b e m n with
    | none => rfl
    | some k => simp only [f_bt_eq h10 h11 h13]
theorem f_ch_eq {X P : zI} {b e : Nat} (h6 : X 6 = P 6) (h7 : X 7 = P 7) (h8 : X 8 = P 8) (h10 : X (b + 10) = P (b + 10)) (h11 : X (b + 11) = P (b + 11)) (h14 : X (b + 14) = P (b + 14)) (h13 : X 13 = P 13) : f_ch X b e = f_ch P b e := by
  unfold f_ch
  rw [f_bp_eq h10 h11 h14 h13 4, f_bp_eq h10 h11 h14 h13 4, h6, h7, h8, h14]
def d_k (P : zI) (b e : Nat) : Nat := (f_ch P b e).toNatClampNeg
def d_lk (P : zI) (b e : Nat) : Bool := decide (¬ f_ch P b e = -1) && decide (¬ P (b + 14) (4 * e + d_k P b e) ≤ 0)
def d_co (P : zI) (b e : Nat) : Int32 := if d_lk P b e = true then 1 else if f_bit (P b 10) (nI e) = 1 then 2 else 0
def d_ho (P : zI) (b e : Nat) : Int32 := if d_lk P b e = true then P (b + 11) (4 * e + d_k P b e) else -1
def d_qu (P : zI) (b e : Nat) : Int32 := if d_lk P b e = true then P (b + 10) (4 * e + d_k P b e) else -1
def d_ev (P : zI) (b e : Nat) : Int32 := if d_lk P b e = true then 1 else f_bit (P b 10) (nI e)
section DE
variable {X : zI} {b e : Nat}
theorem de_c (h : d_lk X b e = false) : f_de X b e = f_de0 (zup X (b + 16) e (f_ch X b e)) b e := by
  unfold f_de
  refine if_pos ?_
  unfold d_lk d_k at h
  by_cases h1 : f_ch X b e = -1
  · exact Or.inl h1
  · right
    rw [zz_c (by omega)]
    simpa [h1] using h
theorem de_t (h : d_lk X b e = true) : f_de X b e = f_de1 (zup X (b + 16) e (f_ch X b e)) b e (d_k X b e) := by
  unfold f_de
  refine if_neg ?_
  unfold d_lk d_k at h
  simp only [Bool.and_eq_true, decide_eq_true_eq] at h
  rintro (h1 | h1)
  · exact h.1 h1
  · rw [zz_c (by omega)] at h1
    exact h.2 h1
theorem de_16 : f_de X b e (b + 16) e = f_ch X b e := by
  cases h : d_lk X b e with
  | false =>
    rw [de_c h]; unfold f_de0
    rw [zz_c (by omega), zz_c (by omega), zz_c (by omega), zz_e]
  | true =>
    rw [de_t h]; unfold f_de1
    try simp only
    rw [zz_c (by omega), zz_c (by omega), zz_c (by omega), zz_c (by omega), zz_e]
theorem de_15 : f_de X b e (b + 15) e = d_co X b e := by
  unfold d_co
  cases h : d_lk X b e with
  | false =>
    rw [de_c h]; unfold f_de0
    rw [zz_c (by omega), zz_c (by omega), zz_e, if_neg (by decide : ¬ (false = true)), zz_c (by omega)]
  | true =>
    rw [de_t h]; unfold f_de1
    try simp only
    rw [zz_c (by omega), zz_c (by omega), zz_c (by omega), zz_e, if_pos trivial]
theorem de_17 : f_de X b e (b + 17) e = d_ho X b e := by
  unfold d_ho
  cases h : d_lk X b e with
  | false =>
    rw [de_c h]; unfold f_de0
    rw [zz_e, if_neg (by decide : ¬ (false = true))]
  | true =>
    rw [de_t h]; unfold f_de1
    try simp only
    rw [zz_e, if_pos trivial, zz_c (by omega), zz_c (by omega), zz_c (by omega), zz_c (by omega)]
theorem de_18 : f_de X b e (b + 18) e = d_qu X b e := by
  unfold d_qu
  cases h : d_lk X b e with
  | false =>
    rw [de_c h]; unfold f_de0
    rw [zz_c (by omega), zz_e, if_neg (by decide : ¬ (false = true))]
  | true =>
    rw [de_t h]; unfold f_de1
    try simp only
    rw [zz_c (by omega), zz_e, if_pos trivial, zz_c (by omega), zz_c (by omega), zz_c (by omega)]
theorem de_ev {i : Nat} (he : e < 32) (hi : i < 32) : f_bit (f_de X b e b 10) (nI i) = if e = i then d_ev X b e else f_bit (X b 10) (nI i) := by
  unfold d_ev
  cases h : d_lk X b e with
  | false =>
    rw [de_c h]; unfold f_de0
    rw [zz_c (by omega), zz_c (by omega), zz_c (by omega), zz_c (by omega), if_neg (by decide : ¬ (false = true))]
    split
    · rename_i q; rw [q]
    · rfl
  | true =>
    rw [de_t h]; unfold f_de1
    try simp only
    rw [zz_c (by omega), zz_c (by omega), zz_e, b_set _ he hi, if_pos trivial, zz_c (by omega), zz_c (by omega)]
theorem de_n {c k : Nat} (h : c ≠ b ∨ k ≠ 10) (h2 : k ≠ e ∨ c < b + 15 ∨ b + 19 ≤ c) : f_de X b e c k = X c k := by
  cases h9 : d_lk X b e with
  | false =>
    rw [de_c h9]; unfold f_de0
    rw [zz_n (by omega), zz_n (by omega), zz_n (by omega), zz_n (by omega)]
  | true =>
    rw [de_t h9]; unfold f_de1
    try simp only
    rw [zz_n (by omega), zz_n (by omega), zz_n (by omega), zz_n (by omega), zz_n (by omega)]
end DE
def s_v (j : Nat) (Y : zI) (b e p : Nat) : Int32 := if Y 9 (4 * e + p) = -1 then Y (b + 5 + j) (4 * e + p) else if nI p = Y (b + 16) e then (if j = 1 then 7 else 0) else if f_lo Y b e = true then (if j = 1 then Y (b + 18) e else if j = 2 then Y (b + 17) e + 1 else Y (b + 12) (4 * e + (Y (b + 16) e).toNatClampNeg) ||| 1 <<< (nI e &&& 31)) else (if j = 1 then 8 + Y 3 e else 0)
theorem sp1_n {Y : zI} {b e p c k : Nat} (h : k ≠ 4 * e + p) : f_sp1 Y b e p c k = Y c k := by
  unfold f_sp1
  split
  · rfl
  · split
    · exact wr_n (Or.inl h)
    · split
      · exact wr_n (Or.inl h)
      · exact wr_n (Or.inl h)
theorem sp1_v {Y : zI} {b e p j : Nat} (hj : j = 1 ∨ j = 2 ∨ j = 3) : f_sp1 Y b e p (b + 5 + j) (4 * e + p) = s_v j Y b e p := by
  unfold f_sp1 s_v
  split
  · rfl
  · split
    · rcases hj with rfl | rfl | rfl
      · exact wr_1
      · exact wr_2
      · exact wr_3
    · split
      · rcases hj with rfl | rfl | rfl
        · exact wr_1
        · exact wr_2
        · exact wr_3
      · rcases hj with rfl | rfl | rfl
        · exact wr_1
        · exact wr_2
        · exact wr_3
theorem s_v_eq {X Y : zI} {b e p j : Nat} (h9 : X 9 = Y 9) (h3 : X 3 = Y 3) (h : ∀ c, b + 12 = c ∨ (b + 15 ≤ c ∧ c < b + 19) → X c = Y c) (hs : X (b + 5 + j) (4 * e + p) = Y (b + 5 + j) (4 * e + p)) : s_v j X b e p = s_v j Y b e p := by
  unfold s_v f_lo
  rw [h9, h3, h (b + 12) (Or.inl rfl), h (b + 15) (by omega), h (b + 16) (by omega), h (b + 17) (by omega), h (b + 18) (by omega), hs]
theorem sp_v {Y : zI} {b e j : Nat} (hb : 16 ≤ b) (hj : j = 1 ∨ j = 2 ∨ j = 3) : ∀ n p, f_sp Y b e n (b + 5 + j) (4 * e + p) = if p < n then s_v j Y b e p else Y (b + 5 + j) (4 * e + p)
  | 0, p => by
    rw [if_neg (by omega)]
    rfl
  | n + 1, p => by
    have ih := sp_v (Y := Y) (e := e) hb hj n
    unfold f_sp
    by_cases hp : p = n
    · subst hp
      rw [sp1_v hj, if_pos (by omega)]
      refine s_v_eq (fr_sp (by omega) p) (fr_sp (by omega) p) (fun c hc => fr_sp (by omega) p) ?_
      rw [ih p, if_neg (by omega)]
    · rw [sp1_n (by omega), ih p]
      by_cases h2 : p < n
      · rw [if_pos h2, if_pos (by omega)]
      · rw [if_neg h2, if_neg (by omega)]
theorem sp_n {Y : zI} {b e c k : Nat} : ∀ n, (∀ p, p < n → k ≠ 4 * e + p) → f_sp Y b e n c k = Y c k
  | 0, _ => rfl
  | n + 1, h => by
    unfold f_sp
    rw [sp1_n (h n (by omega)), sp_n n (fun p hp => h p (by omega))]
def d_s (j : Nat) (P : zI) (b e p : Nat) : Int32 := if P 9 (4 * e + p) = -1 then P (b + 5 + j) (4 * e + p) else if nI p = f_ch P b e then (if j = 1 then 7 else 0) else if d_lk P b e = true then (if j = 1 then d_qu P b e else if j = 2 then d_ho P b e + 1 else P (b + 12) (4 * e + d_k P b e) ||| 1 <<< (nI e &&& 31)) else (if j = 1 then 8 + P 3 e else 0)
theorem lo_de {X : zI} {b e : Nat} : f_lo (f_de X b e) b e = d_lk X b e := by
  unfold f_lo
  rw [de_15]
  unfold d_co
  cases d_lk X b e with
  | true => rfl
  | false =>
    rw [if_neg (by decide : ¬ (false = true))]
    split <;> rfl
theorem s_v_de {X : zI} {b e p j : Nat} (hb : 16 ≤ b) (hj : j = 1 ∨ j = 2 ∨ j = 3) : s_v j (f_de X b e) b e p = d_s j X b e p := by
  unfold s_v d_s
  rw [lo_de, de_16, de_17, de_18, de_n (c := 9) (by omega) (by omega), de_n (c := 3) (by omega) (by omega), de_n (c := b + 5 + j) (by omega) (by omega)]
  have e1 : f_de X b e (b + 12) (4 * e + (f_ch X b e).toNatClampNeg) = X (b + 12) (4 * e + d_k X b e) := by
    rw [de_n (by omega) (by omega)]
    rfl
  rw [e1]
/-- the second half of a round, done for the elements below n -/
def D2 (n : Nat) (X P : zI) (b : Nat) : Prop :=
  (∀ c, c ≠ b → (c < b + 6 ∨ (b + 9 ≤ c ∧ c < b + 15) ∨ b + 19 ≤ c) → X c = P c) ∧ (∀ k, k ≠ 10 → X b k = P b k) ∧
  (∀ e, e < 16 → e < n → f_wh P b e = true → X (b + 16) e = f_ch P b e ∧ X (b + 15) e = d_co P b e ∧ X (b + 17) e = d_ho P b e ∧ X (b + 18) e = d_qu P b e ∧ f_bit (X b 10) (nI e) = d_ev P b e ∧ ∀ p j, p < 4 → (j = 1 ∨ j = 2 ∨ j = 3) → X (b + 5 + j) (4 * e + p) = d_s j P b e p) ∧
  (∀ e, e < 16 → (n ≤ e ∨ f_wh P b e = false) → (∀ c, b + 15 ≤ c → c < b + 19 → X c e = P c e) ∧ f_bit (X b 10) (nI e) = f_bit (P b 10) (nI e) ∧ ∀ p j, p < 4 → (j = 1 ∨ j = 2 ∨ j = 3) → X (b + 5 + j) (4 * e + p) = P (b + 5 + j) (4 * e + p))
theorem D2_wh {n : Nat} {X P : zI} {b e : Nat} (hb : 16 ≤ b) (h : D2 n X P b) : f_wh X b e = f_wh P b e := by
  unfold f_wh
  rw [h.1 2 (by omega) (by omega), h.2.1 11 (by decide)]
theorem D2_s {n : Nat} {X P : zI} {b : Nat} (hb : 16 ≤ b) (hn : n < 16) (hw : f_wh P b n = true) (h : D2 n X P b) : D2 (n + 1) (f_sp (f_de X b n) b n 4) P b := by
  have hc : ∀ c, c ≠ b → (c < b + 6 ∨ (b + 9 ≤ c ∧ c < b + 15) ∨ b + 19 ≤ c) → X c = P c := h.1
  have old := h.2.2.2 n hn (Or.inl (Nat.le_refl _))
  have hch : f_ch X b n = f_ch P b n := f_ch_eq (hc 6 (by omega) (by omega)) (hc 7 (by omega) (by omega)) (hc 8 (by omega) (by omega)) (hc _ (by omega) (by omega)) (hc _ (by omega) (by omega)) (hc _ (by omega) (by omega)) (hc 13 (by omega) (by omega))
  have hdk : d_k X b n = d_k P b n := by unfold d_k; rw [hch]
  have hlk : d_lk X b n = d_lk P b n := by unfold d_lk; rw [hch, hdk, hc (b + 14) (by omega) (by omega)]
  have hco : d_co X b n = d_co P b n := by unfold d_co; rw [hlk, old.2.1]
  have hho : d_ho X b n = d_ho P b n := by unfold d_ho; rw [hlk, hdk, hc (b + 11) (by omega) (by omega)]
  have hqu : d_qu X b n = d_qu P b n := by unfold d_qu; rw [hlk, hdk, hc (b + 10) (by omega) (by omega)]
  have hev : d_ev X b n = d_ev P b n := by unfold d_ev; rw [hlk, old.2.1]
  refine ⟨fun c hcb hcc => ?_, fun k hk => ?_, fun e he hen hwe => ?_, fun e he hen => ?_⟩
  · rw [fr_sp (by omega) 4]
    funext k
    rw [de_n (Or.inl hcb) (by omega), hc c hcb hcc]
  · rw [fr_sp (by omega) 4, de_n (Or.inr hk) (by omega), h.2.1 k hk]
  · by_cases hx : e = n
    · subst hx
      refine ⟨?_, ?_, ?_, ?_, ?_, fun p j hp hj => ?_⟩
      · rw [fr_sp (by omega) 4, de_16, hch]
      · rw [fr_sp (by omega) 4, de_15, hco]
      · rw [fr_sp (by omega) 4, de_17, hho]
      · rw [fr_sp (by omega) 4, de_18, hqu]
      · rw [fr_sp (by omega) 4, de_ev (by omega) (by omega), if_pos rfl, hev]
      · rw [sp_v hb hj 4 p, if_pos hp, s_v_de hb hj]
        unfold d_s
        rw [hch, hlk, hqu, hho, hdk, hc 9 (by omega) (by omega), hc 3 (by omega) (by omega), hc (b + 12) (by omega) (by omega), old.2.2 p j hp hj]
    · obtain ⟨g1, g2, g3, g4, g5, g6⟩ := h.2.2.1 e he (by omega) hwe
      refine ⟨?_, ?_, ?_, ?_, ?_, fun p j hp hj => ?_⟩
      · rw [fr_sp (by omega) 4, de_n (by omega) (by omega), g1]
      · rw [fr_sp (by omega) 4, de_n (by omega) (by omega), g2]
      · rw [fr_sp (by omega) 4, de_n (by omega) (by omega), g3]
      · rw [fr_sp (by omega) 4, de_n (by omega) (by omega), g4]
      · rw [fr_sp (by omega) 4, de_ev (by omega) (by omega), if_neg (by omega), g5]
      · rw [sp_n 4 (by omega), de_n (by omega) (by omega), g6 p j hp hj]
  · have hx : e ≠ n := by
      rintro rfl
      rcases hen with q | q
      · omega
      · rw [hw] at q; cases q
    obtain ⟨g1, g2, g3⟩ := h.2.2.2 e he (hen.imp (by omega) id)
    refine ⟨fun c h1 h2 => ?_, ?_, fun p j hp hj => ?_⟩
    · rw [fr_sp (by omega) 4, de_n (by omega) (by omega), g1 c h1 h2]
    · rw [fr_sp (by omega) 4, de_ev (by omega) (by omega), if_neg (by omega), g2]
    · rw [sp_n 4 (by omega), de_n (by omega) (by omega), g3 p j hp hj]
theorem D2_r2 {P : zI} {b : Nat} (hb : 16 ≤ b) : ∀ e, e ≤ 16 → D2 e (f_r2 P b e) P b
  | 0, _ => ⟨fun _ _ _ => rfl, fun _ _ => rfl, fun e he hen => absurd hen (by omega), fun e he hen => ⟨fun _ _ _ => rfl, rfl, fun _ _ _ _ => rfl⟩⟩
  | e + 1, he => by
    have ih := D2_r2 (P := P) hb e (by omega)
    by_cases hw : f_wh P b e = true
    · rw [f_r2_t (by rw [D2_wh hb ih]; exact hw)]
      exact D2_s hb (by omega) hw ih
    · have hw : f_wh P b e = false := by simpa using hw
      rw [f_r2_f (by rw [D2_wh hb ih]; exact hw)]
      refine ⟨ih.1, ih.2.1, fun e2 he2 hen hwe => ?_, fun e2 he2 hen => ih.2.2.2 e2 he2 (hen.imp (by omega) id)⟩
      by_cases hx : e2 = e
      · subst hx; rw [hw] at hwe; cases hwe
      · exact ih.2.2.1 e2 he2 (by omega) hwe
