/-! The check. -/
section R24
variable {A B X Y T V : zI} {JA JB JX JY JT : zJ} {b m r rn : Nat}
theorem RF_EQ (hb : 16 ≤ b) (q : EQ b X JX Y JY) (h : RF b X JX B r) : RF b Y JY B r := by
  have c2 : Y 2 = X 2 := (q.c 2 (by omega)).symm
  have c9 : Y 9 = X 9 := (q.c 9 (by omega)).symm
  have ls : ∀ s, f_ls JY b s = f_ls JX b s := fun s => by unfold f_ls; rw [q.j]
  have w : ∀ e, f_wh Y b e = f_wh X b e := fun e => (EQ_wh hb q).symm
  have s : ∀ s c, s < 64 → (c = b + 2 ∨ c = b + 3 ∨ c = b + 4 ∨ c = b + 6 ∨ c = b + 7 ∨ c = b + 8 ∨ c = b + 13 ∨ c = b + 14) → Y c s = X c s := fun s c h1 h2 => (q.s s c h1 h2).symm
  have k : ∀ e c, e < 16 → (b + 15 ≤ c ∧ c < b + 19) → Y c e = X c e := fun e c h1 h2 => (q.k e c h1 h2).symm
  have be : ∀ e, e < 16 → f_bit (Y b 10) (nI e) = f_bit (X b 10) (nI e) := fun e he => (q.e e he).symm
  refine ⟨fun x hx => ?_, fun l hl => ?_, fun x l hx hl h9 => ?_, h.ro, fun x hx hw => ?_, fun x hx hw => ?_, fun x hx hw => ?_, fun x hx hw => ?_, fun x hx hw => ?_, fun x hx hw => ?_, fun x hx h2 => ?_, fun x hx h9 => ?_, fun x hx => ?_, fun x hx h9 => ?_, fun l hl h9 => ?_, h.mk⟩
  · rw [← q.f]; exact h.fe x hx
  · rw [← q.l]; exact h.fl l hl
  · rw [c9] at h9; rw [ls]; exact h.lo x l hx hl h9
  · rw [w] at hw
    rw [be x hx, k x _ hx (by omega), k x _ hx (by omega), k x _ hx (by omega), k x _ hx (by omega)]; exact h.wh x hx hw
  · rw [w] at hw
    rw [k x _ hx (by omega), k x _ hx (by omega), k x _ hx (by omega), k x _ hx (by omega)]; exact h.wk x hx hw
  · rw [w] at hw
    rw [s x _ hx (by omega)]; exact h.us x hx hw
  · rw [w] at hw
    unfold RW
    rw [s x (b + 13) hx (by omega), s x (b + 2) hx (by omega), s x (b + 3) hx (by omega), s x (b + 4) hx (by omega)]; exact h.ag x hx hw
  · rw [w] at hw
    rw [be x hx, k x _ hx (by omega), k x _ hx (by omega), k x _ hx (by omega), k x _ hx (by omega)]; exact h.nw x hx hw
  · rw [w] at hw
    rw [s x (b + 13) hx (by omega), s x (b + 14) hx (by omega), s x (b + 6) hx (by omega)]; exact h.ns x hx hw
  · rw [c2] at h2; exact h.ab x hx h2
  · rw [c9] at h9
    rw [s x (b + 13) hx (by omega), s x (b + 6) hx (by omega)]; exact h.un x hx h9
  · rw [s x (b + 6) hx (by omega), s x (b + 7) hx (by omega), s x (b + 8) hx (by omega)]; exact h.se x hx
  · rw [c9] at h9; rw [ls]; exact h.lu x hx h9
  · rw [c9] at h9; exact h.lz l hl h9
/-- starved or not -/
theorem st_gc {i : Nat} (hb : 16 ≤ b) (hP : RP A B) (hL : RL A B m) (hF : RF b A JA B r) (hi : i < 16) : m_gc B m i = (f_st A b m i && !decide (100 ≤ B 64 22)) := by
  have hx := m_rx_ok (okME_R hP hL) hi
  unfold m_gc f_st
  rw [← br_eq hP hL hF hi hx, RF_wh hP hF hi]
  cases hw : f_wh A b i with
  | false => rfl
  | true =>
    have h1 := (hF.wh i hi hw).1
    have h2 : f_lo A b i = decide (B 79 (512 + i) = 1) := by unfold f_lo; rw [h1]
    have h3 : decide (¬ 7 ≤ f_br A b m i) = !decide (7 ≤ f_br A b m i) := by
      by_cases h : 7 ≤ f_br A b m i
      · rw [d_n h, decide_eq_true h]; rfl
      · rw [decide_eq_true h, decide_eq_false h]; rfl
    rw [h2, h3]
    cases decide (B 79 (512 + i) = 1) <;> cases decide (7 ≤ f_br A b m i) <;> cases decide (100 ≤ B 64 22) <;> rfl
theorem RN_add {f : Int32} {i c : Nat} (hc : c < 100) (c1 : A 0 7 = nI c) (c2 : B 64 22 = nI c) (c3 : ∀ i, i < c → A 62 i = B 84 i ∧ A 63 i = B 85 i) : RN (s_1 A f i) (m_g1 B f i) := by
  rw [okN_s1 hc c1, m_g1_c hc c2]
  refine ⟨c + 1, by omega, by rw [zz_e], by rw [zz_e], fun j hj => ?_⟩
  by_cases hjc : j = c
  · subst hjc
    refine ⟨?_, ?_⟩
    · rw [zz_c (by decide), zz_c (by decide), zz_e, zz_c (by decide), zz_c (by decide), zz_e]
    · rw [zz_c (by decide), zz_e, zz_c (by decide), zz_e]
  · obtain ⟨d1, d2⟩ := c3 j (by omega)
    refine ⟨?_, ?_⟩
    · rw [zz_c (by decide), zz_c (by decide), zz_k hjc, zz_c (by decide), zz_c (by decide), zz_k hjc, d1]
    · rw [zz_c (by decide), zz_k hjc, zz_c (by decide), zz_c (by decide), zz_k hjc, zz_c (by decide), d2]
theorem sf_R {f : Int32} {n : Nat} (hP : RP X Y) (hL : RL X Y m) (hF : RF 35 X JX Y r) : RP (s_f m f X n) (m_gs m f Y n) ∧ RL (s_f m f X n) (m_gs m f Y n) m ∧ RF 35 (s_f m f X n) JX (m_gs m f Y n) r := by
  have a : ∀ c, c ≠ 0 → c ≠ 62 → c ≠ 63 → s_f m f X n c = X c := fun c h1 h2 h3 => fr_sf ⟨h1, h2, h3⟩ n
  have y : ∀ c, c ≠ 64 → c ≠ 84 → c ≠ 85 → m_gs m f Y n c = Y c := fun c h1 h2 h3 => fr_gs ⟨h1, h2, h3⟩ n
  exact ⟨RP_of hP (fun c h1 h2 => a c (by omega) (by omega) (by omega)) (fun c h1 h2 => y c (by omega) (by omega) (by omega)) (fr_gsn (by decide) n) (fr_gsn (by decide) n), RL_of hL (fun c h1 h2 => a c (by omega) (by omega) (by omega)) (y 77 (by decide) (by decide) (by decide)) (y 78 (by decide) (by decide) (by decide)), RF_of hF (fun c h1 => a c (by omega) (by omega) (by omega)) rfl (y 79 (by decide) (by decide) (by decide)) (y 77 (by decide) (by decide) (by decide))⟩
/-- the findings of a trial -/
theorem RN_sf {f : Int32} (hP : RP X Y) (hL : RL X Y m) (hF : RF 35 X JX Y r) (hN : RN X Y) (n : Nat) : n ≤ 16 → RN (s_f m f X n) (m_gs m f Y n) := by
  induction n with
  | zero => intro _; exact hN
  | succ n ih =>
    intro hn
    have i0 := ih (by omega)
    obtain ⟨i1, i2, i3⟩ := sf_R (f := f) (n := n) hP hL hF
    have hg := st_gc (i := n) (by decide) i1 i2 i3 (by omega)
    unfold s_f m_gs
    rw [hg]
    generalize s_f m f X n = X' at *
    generalize m_gs m f Y n = Y' at *
    obtain ⟨c, hc, c1, c2, c3⟩ := i0
    by_cases h100 : c = 100
    · have e1 : (100 : Int32) ≤ X' 0 7 := by rw [c1, h100]; decide
      have e2 : (100 : Int32) ≤ Y' 64 22 := by rw [c2, h100]; decide
      rw [if_pos e1, decide_eq_true e2, Bool.not_true, Bool.and_false, if_neg (by decide)]
      exact ⟨c, hc, c1, c2, c3⟩
    · have e1 : ¬ (100 : Int32) ≤ X' 0 7 := by rw [c1, show (100 : Int32) = nI 100 from rfl, nI_leI (by omega) (by omega)]; omega
      have e2 : ¬ (100 : Int32) ≤ Y' 64 22 := by rw [c2, show (100 : Int32) = nI 100 from rfl, nI_leI (by omega) (by omega)]; omega
      rw [if_neg e1, decide_eq_false e2, Bool.not_false, Bool.and_true]
      cases f_st X' 35 m n with
      | false => rw [if_neg (by decide), if_neg (by decide)]; exact ⟨c, hc, c1, c2, c3⟩
      | true => rw [if_pos rfl, if_pos rfl]; exact RN_add (by omega) c1 c2 c3
theorem kI_t {I : zI} {k : Nat} : ∀ n, m_kI I true n 79 k = if k < n then I 80 k else I 79 k
  | 0 => by rw [if_neg (by omega)]; rfl
  | n + 1 => by
    have ih := kI_t (I := I) (k := k) n
    have h80 : ∀ n, m_kI I true n 80 = I 80 := by
      intro n
      induction n with
      | zero => rfl
      | succ n ih => unfold m_kI; simp only; rw [zup_ne (by decide), ih]
    unfold m_kI
    simp only
    by_cases hk : k = n
    · subst hk; rw [zz_e, h80, if_pos (by omega)]
    · rw [zz_k hk, ih, ls_eq hk]
theorem kI_t80 {I : zI} : ∀ n, m_kI I true n 80 = I 80
  | 0 => rfl
  | n + 1 => by unfold m_kI; simp only; rw [zup_ne (by decide), kI_t80 n]
theorem kI_f79 {I : zI} : ∀ n, m_kI I false n 79 = I 79
  | 0 => rfl
  | n + 1 => by unfold m_kI; simp only; rw [zup_ne (by decide), kI_f79 n]
theorem kI_f {I : zI} {k : Nat} : ∀ n, m_kI I false n 80 k = if k < n then I 79 k else I 80 k
  | 0 => by rw [if_neg (by omega)]; rfl
  | n + 1 => by
    have ih := kI_f (I := I) (k := k) n
    unfold m_kI
    simp only
    by_cases hk : k = n
    · subst hk; rw [zz_e, kI_f79, if_pos (by omega)]
    · rw [zz_k hk, ih, ls_eq hk]
theorem kJ_n {J : zJ} {c : Nat} {t : Bool} (h : c ≠ 81) (h2 : c ≠ 82) : ∀ n, m_kJ J t n c = J c
  | 0 => rfl
  | n + 1 => by
    unfold m_kJ
    cases t
    · simp only; rw [zupL_ne h2, kJ_n h h2 n]
    · simp only; rw [zupL_ne h, kJ_n h h2 n]
theorem kJ_t82 {J : zJ} : ∀ n, m_kJ J true n 82 = J 82
  | 0 => rfl
  | n + 1 => by unfold m_kJ; simp only; rw [zupL_ne (by decide), kJ_t82 n]
theorem kJ_f81 {J : zJ} : ∀ n, m_kJ J false n 81 = J 81
  | 0 => rfl
  | n + 1 => by unfold m_kJ; simp only; rw [zupL_ne (by decide), kJ_f81 n]
theorem kJ_t {J : zJ} {k : Nat} : ∀ n, m_kJ J true n 81 k = if k < n then J 82 k else J 81 k
  | 0 => by rw [if_neg (by omega)]; rfl
  | n + 1 => by
    have ih := kJ_t (J := J) (k := k) n
    unfold m_kJ
    simp only
    by_cases hk : k = n
    · subst hk; rw [zupL_same, pk_uLs, kJ_t82, if_pos (by omega)]
    · rw [zupL_same, pk_uLn hk, ih, ls_eq hk]
theorem kJ_f {J : zJ} {k : Nat} : ∀ n, m_kJ J false n 82 k = if k < n then J 81 k else J 82 k
  | 0 => by rw [if_neg (by omega)]; rfl
  | n + 1 => by
    have ih := kJ_f (J := J) (k := k) n
    unfold m_kJ
    simp only
    by_cases hk : k = n
    · subst hk; rw [zupL_same, pk_uLs, kJ_f81, if_pos (by omega)]
    · rw [zupL_same, pk_uLn hk, ih, ls_eq hk]
/-- what holds between the trials of a check -/
def KI (X : zI) (JX : zJ) (Y : zI) (JY : zJ) (m r : Nat) : Prop := (RA X JX Y JY m r) ∧ (RN X Y) ∧ (∀ k, k < 762 → Y 80 k = Y 79 k) ∧ (∀ e, e < 16 → JY 82 e = JY 81 e)
theorem KI.R {X : zI} {JX : zJ} {Y : zI} {JY : zJ} {m r : Nat} (h : KI X JX Y JY m r) : RA X JX Y JY m r := h.1
theorem KI.N {X : zI} {JX : zJ} {Y : zI} {JY : zJ} {m r : Nat} (h : KI X JX Y JY m r) : RN X Y := h.2.1
theorem KI.k {X : zI} {JX : zJ} {Y : zI} {JY : zJ} {m r : Nat} (h : KI X JX Y JY m r) : ∀ k, k < 762 → Y 80 k = Y 79 k := h.2.2.1
theorem KI.j {X : zI} {JX : zJ} {Y : zI} {JY : zJ} {m r : Nat} (h : KI X JX Y JY m r) : ∀ e, e < 16 → JY 82 e = JY 81 e := h.2.2.2
theorem rs_J {b c : Nat} (hc : c ≠ b) : ∀ (k i : Nat) (I : zI) (J : zJ), (f_rs b k i I J).2 c = J c
  | 0, _, _, _ => rfl
  | k + 1, i, I, J => by
    unfold f_rs
    split
    · rw [rs_J hc k, zupL_ne hc]
    · rfl
/-- a trial -/
theorem KI_try {f : Int32} (h : KI X JX Y JY m r) (hr : r + rn < 2 ^ 20) (hP : RP T V) (hL : RL T V m) (hF : RF 35 T JT V r) (hT : ∀ c, c < 35 ∨ 54 ≤ c → T c = X c) (hJ : ∀ c, c ≠ 35 → JT c = JX c) (hV : ∀ c, c ≠ 79 → V c = Y c) (hV2 : ∀ k, 762 ≤ k → V 79 k = Y 79 k) : KI (c_try m rn f T JT).1 (c_try m rn f T JT).2 (m_gn m rn f V) (m_gnJ rn V JY) m r := by
  obtain ⟨i1, i2, i3⟩ := R_it (b := 35) (by decide) hP hL hF rn hr
  have hEQ := rs_all (b := 35) (I := T) (J := JT) (by decide) (okP_R hP hL) rn
  have i3' := RF_EQ (by decide) hEQ i3
  have hi := it_hi (b := 35) hP hL hF (by decide) rn hr
  have x1 : ∀ c, c < 35 ∨ 54 ≤ c → (f_rs 35 rn 0 T JT).1 c = X c := fun c hc => by rw [fr_rs (by omega), hT c hc]
  have y1 : ∀ c, c ≠ 79 → c ≠ 83 → m_itI V rn c = Y c := fun c h1 h2 => by rw [fr_it h1 h2, hV c h1]
  have jx : ∀ c, c ≠ 35 → (f_rs 35 rn 0 T JT).2 c = JX c := fun c hc => by rw [rs_J hc, hJ c hc]
  have i1' : RP (f_rs 35 rn 0 T JT).1 (m_itI V rn) := RP_of i1 (fun c h1 h2 => (hEQ.c c (by omega)).symm) (fun _ _ _ => rfl) rfl rfl
  have i2' : RL (f_rs 35 rn 0 T JT).1 (m_itI V rn) m := RL_of i2 (fun c h1 h2 => (hEQ.c c (by omega)).symm) rfl rfl
  rw [c_try_1, c_try_2]
  unfold m_gn m_gnJ
  generalize (f_rs 35 rn 0 T JT).1 = X1 at *
  generalize (f_rs 35 rn 0 T JT).2 = JX1 at *
  have jy81 : ∀ e, 16 ≤ e → m_itJ V JY rn 81 e = JY 81 e := fun e he => itJ_hi he rn
  have jyn : ∀ c, c ≠ 81 → m_itJ V JY rn c = JY c := fun c hc => itJ_n hc rn
  generalize m_itI V rn = Y1 at *
  generalize m_itJ V JY rn = JY1 at *
  have hN1 : RN X1 Y1 := RN_of h.N (by rw [x1 0 (by decide)]) (x1 62 (by decide)) (x1 63 (by decide)) (by rw [y1 64 (by decide) (by decide)]) (y1 84 (by decide) (by decide)) (y1 85 (by decide) (by decide))
  have hN2 := RN_sf (f := f) i1' i2' i3' hN1 16 (Nat.le_refl _)
  have a : ∀ c, c ≠ 0 → c ≠ 62 → c ≠ 63 → (c < 35 ∨ 54 ≤ c) → s_f m f X1 16 c = X c := fun c h1 h2 h3 h4 => by rw [fr_sf ⟨h1, h2, h3⟩ 16, x1 c h4]
  have y : ∀ c, c ≠ 64 → c ≠ 84 → c ≠ 85 → m_gs m f Y1 16 c = Y1 c := fun c h1 h2 h3 => fr_gs ⟨h1, h2, h3⟩ 16
  have y64 : ∀ k, k ≠ 22 → m_gs m f Y1 16 64 k = Y 64 k := fun k hk => by rw [fr_gsn hk 16, y1 64 (by decide) (by decide)]
  generalize s_f m f X1 16 = X2 at *
  generalize m_gs m f Y1 16 = Y2 at *
  have z : ∀ c, c ≠ 79 → c ≠ 80 → m_kI Y2 true 762 c = Y2 c := fun c h1 h2 => fr_kt h1 h2 762
  have z80 : m_kI Y2 true 762 80 = Y 80 := by rw [kI_t80, y 80 (by decide) (by decide) (by decide), y1 80 (by decide) (by decide)]
  have z79 : m_kI Y2 true 762 79 = Y 79 := by
    funext k
    rw [kI_t]
    by_cases hk : k < 762
    · rw [if_pos hk, y 80 (by decide) (by decide) (by decide), y1 80 (by decide) (by decide), h.k k hk]
    · rw [if_neg hk, y 79 (by decide) (by decide) (by decide), hi k (by omega), hV2 k (by omega)]
  have j81 : m_kJ JY1 true 16 81 = JY 81 := by
    funext e
    rw [kJ_t]
    by_cases he : e < 16
    · rw [if_pos he, jyn 82 (by decide), h.j e he]
    · rw [if_neg he, jy81 e (by omega)]
  have j82 : m_kJ JY1 true 16 82 = JY 82 := by rw [kJ_t82, jyn 82 (by decide)]
  refine ⟨RA_A (RA_B h.R (fun c h1 h2 => ?_) ?_ ?_ j81) (fun c h1 h2 => a c (by omega) (by omega) (by omega) (by omega)) (jx 16 (by decide)) (jx 58 (by decide)), RN_of hN2 rfl rfl rfl (by rw [z 64 (by decide) (by decide)]) (z 84 (by decide) (by decide)) (z 85 (by decide) (by decide)), fun k hk => ?_, fun e he => ?_⟩
  · by_cases hc : c = 79
    · rw [hc]; exact z79
    · rw [z c hc (by omega), y c (by omega) (by omega) (by omega), y1 c hc (by omega)]
  · rw [z 64 (by decide) (by decide)]; exact y64 14 (by decide)
  · rw [z 64 (by decide) (by decide)]; exact y64 1 (by decide)
  · rw [z80, z79]; exact h.k k hk
  · rw [j82, j81]; exact h.j e he
/-- a trial with no room for findings -/
theorem KI_full {f : Int32} (h : KI X JX Y JY m r) (h100 : 100 ≤ X 0 7) (hT : ∀ c, c < 35 ∨ 54 ≤ c → T c = X c) (hJ : ∀ c, c ≠ 35 → JT c = JX c) (h2 : KI (c_try m rn f T JT).1 (c_try m rn f T JT).2 V JB m r) : KI X JX V JB m r := by
  have e1 : (c_try m rn f T JT).1 = (f_rs 35 rn 0 T JT).1 := by
    rw [c_try_1]
    have h0 : s_f m f (f_rs 35 rn 0 T JT).1 0 = (f_rs 35 rn 0 T JT).1 := by rw [s_f]
    have h9 := s_f_stop (m := m) (f := f) (I := (f_rs 35 rn 0 T JT).1) (i := 0) (by rw [h0, fr_rs (by omega), hT 0 (by omega)]; exact h100) 16
    rw [Nat.zero_add, h0] at h9
    exact h9
  have x1 : ∀ c, c < 35 ∨ 54 ≤ c → X c = (c_try m rn f T JT).1 c := fun c hc => by rw [e1, fr_rs (by omega), hT c hc]
  have jx : ∀ c, c ≠ 35 → JX c = (c_try m rn f T JT).2 c := fun c hc => by rw [c_try_2, rs_J hc, hJ c hc]
  exact ⟨RA_A h2.R (fun c h1 h2 => x1 c (by omega)) (jx 16 (by decide)) (jx 58 (by decide)), RN_of h2.N (by rw [x1 0 (by omega)]) (x1 62 (by omega)) (x1 63 (by omega)) rfl rfl rfl, h2.k, h2.j⟩
end R24
