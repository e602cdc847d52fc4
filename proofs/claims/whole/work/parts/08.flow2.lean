/-! what a Flow's method leaves alone; what of the plan it needs -/
theorem fr_wr {I : zI} {w s c : Nat} {q h t : Int32} (hc : c < w + 1 ∨ w + 4 ≤ c) : w_wr I w s q h t c = I c := by
  unfold w_wr
  rw [zup_ne (by omega), zup_ne (by omega), zup_ne (by omega)]
theorem fr_mo {I : zI} {b c : Nat} {x : Bool} (hc : c ≠ b) : f_mo I b x c = I c := by
  unfold f_mo
  rw [zup_ne hc]
theorem fr_h3 {I : zI} {b s c : Nat} {a : Int32} (hc : c < b ∨ b + 19 ≤ c) : f_h3 I b s a c = I c := by
  unfold f_h3
  rw [zup_ne (by omega), fr_mo (by omega)]
theorem fr_he {I : zI} {J : zJ} {b s q c : Nat} (hc : c < b ∨ b + 19 ≤ c) : f_he I J b s q c = I c := by
  unfold f_he
  split
  · rw [fr_h3 hc]
    unfold f_h2
    rw [fr_wr (by omega)]
    unfold f_h1
    rw [fr_mo (by omega)]
  · exact fr_h3 hc
theorem fr_we {I : zI} {b s c : Nat} (hc : c < b ∨ b + 19 ≤ c) : f_we I b s c = I c := by
  unfold f_we
  split
  · exact fr_wr (by omega)
  · split
    · exact fr_wr (by omega)
    · exact fr_wr (by omega)
theorem fr_cu {I : zI} {b e s c : Nat} (hc : c < b ∨ b + 19 ≤ c) : f_cu I b e s c = I c := by
  unfold f_cu
  rw [zup_ne (by omega), fr_mo (by omega)]
theorem fr_lp {I : zI} {J : zJ} {b e s c : Nat} (hc : c < b ∨ b + 19 ≤ c) : f_lp I J b e s c = I c := by
  unfold f_lp
  rw [fr_cu hc, fr_we hc]
  split
  · rfl
  · exact fr_he hc
theorem fr_li {I : zI} {J : zJ} {b e c : Nat} (hc : c < b ∨ b + 19 ≤ c) : ∀ p, f_li I J b e p c = I c
  | 0 => rfl
  | p + 1 => by
    unfold f_li
    rw [fr_lp hc, fr_li hc p]
/-- the ends of links lie in the net -/
def okL (I : zI) : Prop := ∀ s, s < 64 → I 9 s = -1 ∨ ∃ q, q < 64 ∧ I 10 s = nI q
theorem okL_of {I I' : zI} (h9 : I' 9 = I 9) (h10 : I' 10 = I 10) (h : okL I) : okL I' := by
  intro s hs
  rw [h9, h10]
  exact h s hs
theorem okL_pe {I : zI} (h : okL I) {s : Nat} (hs : s < 64) (h9 : ¬ I 9 s = -1) : I 10 s = nI (pe I s) ∧ pe I s < 64 := by
  obtain ⟨q, hq, e⟩ := (h s hs).resolve_left h9
  unfold pe
  rw [e, nI_clamp (by omega)]
  exact ⟨rfl, hq⟩
theorem f_lp_0 {I : zI} {J : zJ} {b e s : Nat} (h : I 9 s = -1) : f_lp I J b e s = f_cu (f_we I b s) b e s := by
  unfold f_lp
  rw [if_pos h]
theorem f_lp_1 {I : zI} {J : zJ} {b e s : Nat} (h : ¬ I 9 s = -1) : f_lp I J b e s = f_cu (f_we (f_he I J b s (pe I s)) b s) b e s := by
  unfold f_lp
  rw [if_neg h]
theorem f_bp_lt {I : zI} {b e : Nat} {m : Int32} : ∀ (n k : Nat), f_bp I b e m n = some k → k < n
  | 0, k, h => by simp [f_bp] at h
  | n + 1, k, h => by
    unfold f_bp at h
    split at h
    · split at h
      · cases h
      · cases h
        omega
    · rename_i k0 h0
      have h1 := f_bp_lt n k0 h0
      split at h
      · cases h
        omega
      · split at h
        · cases h
          omega
        · cases h
          omega
theorem zO_m1 {r : Option Nat} (h : zO r = -1) (hr : ∀ k, r = some k → k < 64) : r = none := by
  cases r with
  | none => rfl
  | some k => exact absurd h (nI_neg1 (Nat.lt_trans (hr k rfl) (by decide)))
theorem zO_n1 {r : Option Nat} (h : ¬ zO r = -1) : ∃ k, r = some k := by
  cases r with
  | none => exact absurd rfl h
  | some k => exact ⟨k, rfl⟩
/-- a port that a command names -/
def okQ (x : Int32) : Prop := x = -1 ∨ ∃ k, k < 4 ∧ x = nI k
theorem okQ_O {I : zI} {b e : Nat} {m : Int32} : okQ (zO (f_bp I b e m 4)) := by
  cases h : f_bp I b e m 4 with
  | none => exact Or.inl rfl
  | some k => exact Or.inr ⟨k, f_bp_lt 4 k h, rfl⟩
theorem f_ch_ok {I : zI} {b e : Nat} (h7 : okQ (I 7 e)) (h8 : okQ (I 8 e)) : okQ (f_ch I b e) := by
  unfold f_ch
  split
  · split
    · split
      · exact okQ_O
      · rename_i k hk
        exact Or.inr ⟨k, f_bp_lt 4 k hk, rfl⟩
    · exact h8
  · exact h7
theorem f_de_0 {I : zI} {b e : Nat} (h : f_ch I b e = -1) : f_de I b e = f_de0 (zup I (b + 16) e (f_ch I b e)) b e := if_pos (Or.inl h)
theorem f_de_2 {I : zI} {b e k : Nat} (hk : k < 4) (h : f_ch I b e = nI k) (h2 : zup I (b + 16) e (f_ch I b e) (b + 14) (4 * e + k) ≤ 0) : f_de I b e = f_de0 (zup I (b + 16) e (f_ch I b e)) b e := by
  refine if_pos (Or.inr ?_)
  rw [h, nI_clamp (by omega), ← h]
  exact h2
theorem f_de_1 {I : zI} {b e k : Nat} (hk : k < 4) (h1 : ¬ f_ch I b e = -1) (h : f_ch I b e = nI k) (h2 : ¬ zup I (b + 16) e (f_ch I b e) (b + 14) (4 * e + k) ≤ 0) : f_de I b e = f_de1 (zup I (b + 16) e (f_ch I b e)) b e k := by
  have e1 : (f_ch I b e).toNatClampNeg = k := by rw [h, nI_clamp (by omega)]
  have h3 : ¬ (f_ch I b e = -1 ∨ zup I (b + 16) e (f_ch I b e) (b + 14) (4 * e + (f_ch I b e).toNatClampNeg) ≤ 0) := by
    rw [e1]
    exact fun h9 => h9.elim h1 h2
  have h4 : f_de I b e = f_de1 (zup I (b + 16) e (f_ch I b e)) b e (f_ch I b e).toNatClampNeg := if_neg h3
  rw [e1] at h4
  exact h4
theorem f_bp_a {I : zI} {b e i : Nat} {m : Int32} (h : I (b + 14) (4 * e + i) < m) : f_bp I b e m (i + 1) = f_bp I b e m i := by
  cases hz : f_bp I b e m i with
  | none => simp [f_bp, hz, h]
  | some k => simp [f_bp, hz, h]
theorem f_bp_b {I : zI} {b e i : Nat} {m : Int32} (h : ¬ I (b + 14) (4 * e + i) < m) (hr : f_bp I b e m i = none) : f_bp I b e m (i + 1) = some i := by
  simp only [f_bp, hr, if_neg h]
theorem f_bp_c {I : zI} {b e i r : Nat} {m : Int32} (h : ¬ I (b + 14) (4 * e + i) < m) (hr : f_bp I b e m i = some r) (hb : f_bt I b (4 * e + i) (4 * e + r) = true) : f_bp I b e m (i + 1) = some i := by
  simp only [f_bp, hr, if_neg h, if_pos hb]
theorem f_bp_d {I : zI} {b e i r : Nat} {m : Int32} (h : ¬ I (b + 14) (4 * e + i) < m) (hr : f_bp I b e m i = some r) (hb : f_bt I b (4 * e + i) (4 * e + r) = false) : f_bp I b e m (i + 1) = f_bp I b e m i := by
  simp [f_bp, hr, if_neg h, hb]
theorem f_ch_a {I : zI} {b e : Nat} (h : ¬ I 7 e = -1) : f_ch I b e = I 7 e := if_neg h
theorem f_ch_b {I : zI} {b e k : Nat} (h : I 7 e = -1) (h8 : ¬ I 8 e = -1) (hk : k < 4) (hk2 : I 8 e = nI k) (h2 : ¬ I (b + 14) (4 * e + k) ≤ 0) : f_ch I b e = I 8 e := by
  have e1 : (I 8 e).toNatClampNeg = k := by rw [hk2, nI_clamp (by omega)]
  have h3 : ¬ (I 8 e = -1 ∨ I (b + 14) (4 * e + (I 8 e).toNatClampNeg) ≤ 0) := by
    rw [e1]
    exact fun h9 => h9.elim h8 h2
  unfold f_ch
  rw [if_pos h, if_neg h3]
theorem f_ch_x {I : zI} {b e : Nat} (h : I 7 e = -1) (h8 : I 8 e = -1 ∨ ∃ k, k < 4 ∧ I 8 e = nI k ∧ I (b + 14) (4 * e + k) ≤ 0) : f_ch I b e = match f_bp I b e (I 6 e + 1) 4 with
    | none => zO (f_bp I b e 1 4)
    | some k => nI k := by
  have h3 : I 8 e = -1 ∨ I (b + 14) (4 * e + (I 8 e).toNatClampNeg) ≤ 0 := by
    rcases h8 with h8 | ⟨k, hk, hk2, h2⟩
    · exact Or.inl h8
    · right
      rw [hk2, nI_clamp (by omega)]
      exact h2
  unfold f_ch
  rw [if_pos h, if_pos h3]
  cases f_bp I b e (I 6 e + 1) 4 <;> rfl
theorem f_ch_x0 {I : zI} {b e : Nat} (h : I 7 e = -1) (h8 : I 8 e = -1 ∨ ∃ k, k < 4 ∧ I 8 e = nI k ∧ I (b + 14) (4 * e + k) ≤ 0) (hr : f_bp I b e (I 6 e + 1) 4 = none) : zO (f_bp I b e 1 4) = f_ch I b e := by
  rw [f_ch_x h h8, hr]
theorem f_ch_x1 {I : zI} {b e r : Nat} (h : I 7 e = -1) (h8 : I 8 e = -1 ∨ ∃ k, k < 4 ∧ I 8 e = nI k ∧ I (b + 14) (4 * e + k) ≤ 0) (hr : f_bp I b e (I 6 e + 1) 4 = some r) : zO (f_bp I b e (I 6 e + 1) 4) = f_ch I b e := by
  rw [f_ch_x h h8, hr]
  rfl
set_option maxRecDepth 100000 in
set_option maxHeartbeats 4000000 in
theorem c_Fl_listen {la : Launch} {G : zG} {I : zI} {J : zJ} {b : Nat} (hb : b = 16 ∨ b = 35) {e : Nat} (he : e < 16) (hP : okL I) : zCv la G y_Fl_listen (Cond.code y_Fl_listen prog_4_method_13_code 4 none :: TBL) (zR 4) [.ref (zad G b), .int (nI e)] I J (f_li I J b e 4) (J) := by
  refine zCv_of (by decide) (by simp [lg_sl, Value.category]) (fun X hla hX hR => ?_)
  subst hla
  refine Z_loc (l' := [(0, .ref (zad G b)), (1, .int (nI e))]) (by simp [lv_args, Value.category, List.lookup]) ?_
  refine Z_iconst (v := nI 0) hX d_Fl_listen_0 rfl ?_
  refine Z_istore_n (i := 2) hX d_Fl_listen_1 rfl (by decide) rfl ?_
  have hL2 : ∀ k i : Nat, k + i = 4 → Z X G 4 0 0 2 [(2, .int (nI i)), (1, .int (nI e)), (0, .ref (zad G b))] [] (f_li I J b e i) (J) := by
    intro k
    induction k with
    | zero =>
      intro i hi
      obtain rfl : i = 4 := by omega
      refine Z_iload_n (i := 2) hX d_Fl_listen_2 rfl rfl ?_
      refine Z_iconst (v := 4) hX d_Fl_listen_3 rfl ?_
      refine Z_icge (tgt := 48) hX d_Fl_listen_4 rfl (fun h4 => ?_) (fun h => absurd (by decide) h)
      exact Z_mem (by rfl) (by rfl) (hR _ _ d_Fl_listen_48)
    | succ k ih =>
      intro i hi
      have hi2 : i < 4 := by omega
      refine Z_iload_n (i := 2) hX d_Fl_listen_2 rfl rfl ?_
      refine Z_iconst (v := 4) hX d_Fl_listen_3 rfl ?_
      refine Z_icge (tgt := 48) hX d_Fl_listen_4 rfl (fun h => absurd h (nI_ge hi2 (by decide))) (fun h4 => ?_)
      refine Z_iload_n (i := 1) hX d_Fl_listen_7 rfl rfl ?_
      refine Z_iload_n (i := 2) hX d_Fl_listen_8 rfl rfl ?_
      refine Z_cNi2 hX d_Fl_listen_9 c_CT_slotOf m_CT_slotOf ne_Fl_91 ⟨by decide, by decide⟩ ⟨by decide, by decide⟩ (Nat.le_of_ble_eq_true rfl) ?_
      refine Z_istore_n (i := 3) hX d_Fl_listen_12 rfl (by decide) rfl ?_
      refine Z_aload_n (i := 0) hX d_Fl_listen_13 rfl rfl ?_
      refine Z_getR (k0 := 0) hX d_Fl_listen_14 (lF hb) rfl u_Fl (by decide) lk_Fl_61 rfl ?_
      refine Z_getR (k0 := 7) hX d_Fl_listen_17 rfl rfl u_Pl (by decide) lk_Fl_115 rfl ?_
      refine Z_iload_n (i := 3) hX d_Fl_listen_20 rfl rfl ?_
      refine Z_iald hX d_Fl_listen_21 rfl rfl (by omega) (by decide) ?_
      refine Z_iconst (v := (-1)) hX d_Fl_listen_22 rfl ?_
      refine Z_iceq (tgt := 31) hX d_Fl_listen_23 rfl (fun h23 => ?_) (fun h23 => ?_)
      · refine Z_aload_n (i := 0) hX d_Fl_listen_31 rfl rfl ?_
        refine Z_iload_n (i := 3) hX d_Fl_listen_32 rfl rfl ?_
        refine Z_cVv1 hX d_Fl_listen_33 (c_Fl_weigh hb (by omega)) m_Fl_weigh (lF hb) rfl lk_Fl_121 ⟨by decide, by decide⟩ ⟨by decide, by decide⟩ (Nat.le_of_ble_eq_true rfl) ?_
        refine Z_aload_n (i := 0) hX d_Fl_listen_36 rfl rfl ?_
        refine Z_iload_n (i := 1) hX d_Fl_listen_37 rfl rfl ?_
        refine Z_iload_n (i := 3) hX d_Fl_listen_38 rfl rfl ?_
        refine Z_cVv2 hX d_Fl_listen_39 (c_Fl_countUsable hb (by omega) (by omega)) m_Fl_countUsable (lF hb) rfl lk_Fl_124 ⟨by decide, by decide⟩ ⟨by decide, by decide⟩ (Nat.le_of_ble_eq_true rfl) ?_
        refine Z_iinc (v := nI (i + 1)) hX d_Fl_listen_42 rfl (by rw [nI_succ]; rfl) (by decide) rfl ?_
        refine Z_goto (tgt := 2) hX d_Fl_listen_45 rfl ?_
        refine Z_loc ?_ (Z_mem ?_ ?_ (ih (i + 1) (by omega)))
        · rfl
        · first | exact (f_lp_0 h23).symm | exact (f_lp_1 h23).symm
        · rfl
      · have hq := okL_pe (okL_of (fr_li (by omega) i) (fr_li (by omega) i) hP) (by omega) h23
        refine Z_aload_n (i := 0) hX d_Fl_listen_26 rfl rfl ?_
        refine Z_iload_n (i := 3) hX d_Fl_listen_27 rfl rfl ?_
        refine Z_cVv1 hX d_Fl_listen_28 (c_Fl_hear hb (by omega) hq.1 hq.2) m_Fl_hear (lF hb) rfl lk_Fl_118 ⟨by decide, by decide⟩ ⟨by decide, by decide⟩ (Nat.le_of_ble_eq_true rfl) ?_
        refine Z_aload_n (i := 0) hX d_Fl_listen_31 rfl rfl ?_
        refine Z_iload_n (i := 3) hX d_Fl_listen_32 rfl rfl ?_
        refine Z_cVv1 hX d_Fl_listen_33 (c_Fl_weigh hb (by omega)) m_Fl_weigh (lF hb) rfl lk_Fl_121 ⟨by decide, by decide⟩ ⟨by decide, by decide⟩ (Nat.le_of_ble_eq_true rfl) ?_
        refine Z_aload_n (i := 0) hX d_Fl_listen_36 rfl rfl ?_
        refine Z_iload_n (i := 1) hX d_Fl_listen_37 rfl rfl ?_
        refine Z_iload_n (i := 3) hX d_Fl_listen_38 rfl rfl ?_
        refine Z_cVv2 hX d_Fl_listen_39 (c_Fl_countUsable hb (by omega) (by omega)) m_Fl_countUsable (lF hb) rfl lk_Fl_124 ⟨by decide, by decide⟩ ⟨by decide, by decide⟩ (Nat.le_of_ble_eq_true rfl) ?_
        refine Z_iinc (v := nI (i + 1)) hX d_Fl_listen_42 rfl (by rw [nI_succ]; rfl) (by decide) rfl ?_
        refine Z_goto (tgt := 2) hX d_Fl_listen_45 rfl ?_
        refine Z_loc ?_ (Z_mem ?_ ?_ (ih (i + 1) (by omega)))
        · rfl
        · first | exact (f_lp_0 h23).symm | exact (f_lp_1 h23).symm
        · rfl
  refine Z_loc ?_ (Z_mem ?_ ?_ (hL2 4 0 (by omega)))
  · rfl
  · rfl
  · rfl

set_option maxRecDepth 100000 in
set_option maxHeartbeats 4000000 in
theorem c_Fl_isBetter {la : Launch} {G : zG} {I : zI} {J : zJ} {b : Nat} (hb : b = 16 ∨ b = 35) {s t : Nat} (hs : s < 64) (ht : t < 64) : zCi la G y_Fl_isBetter (Cond.code y_Fl_isBetter prog_4_method_22_code 3 (some .boolean) :: TBL) (zR 1) [.ref (zad G b), .int (nI s), .int (nI t)] I J (zB (f_bt I b s t)) (I) (J) := by
  refine zCi_of (by decide) (by simp [lg_sl, Value.category]) (zB_nar _) (fun X hla hX hR => ?_)
  subst hla
  refine Z_loc (l' := [(0, .ref (zad G b)), (1, .int (nI s)), (2, .int (nI t))]) (by simp [lv_args, Value.category, List.lookup]) ?_
  refine Z_aload_n (i := 0) hX d_Fl_isBetter_0 rfl rfl ?_
  refine Z_getR (k0 := 3) hX d_Fl_isBetter_1 (lF hb) rfl u_Fl (by decide) lk_Fl_21 rfl ?_
  refine Z_getR (k0 := 0) hX d_Fl_isBetter_4 (lF9 hb) rfl u_Wo (by decide) lk_Fl_144 rfl ?_
  refine Z_iload_n (i := 1) hX d_Fl_isBetter_7 rfl rfl ?_
  refine Z_iald hX d_Fl_isBetter_8 (lF10 hb) rfl (by omega) (by decide) ?_
  refine Z_aload_n (i := 0) hX d_Fl_isBetter_9 rfl rfl ?_
  refine Z_getR (k0 := 3) hX d_Fl_isBetter_10 (lF hb) rfl u_Fl (by decide) lk_Fl_21 rfl ?_
  refine Z_getR (k0 := 0) hX d_Fl_isBetter_13 (lF9 hb) rfl u_Wo (by decide) lk_Fl_144 rfl ?_
  refine Z_iload_n (i := 2) hX d_Fl_isBetter_16 rfl rfl ?_
  refine Z_iald hX d_Fl_isBetter_17 (lF10 hb) rfl (by omega) (by decide) ?_
  refine Z_iceq (tgt := 48) hX d_Fl_isBetter_18 rfl (fun h18 => ?_) (fun h18 => ?_)
  · refine Z_aload_n (i := 0) hX d_Fl_isBetter_48 rfl rfl ?_
    refine Z_getR (k0 := 3) hX d_Fl_isBetter_49 (lF hb) rfl u_Fl (by decide) lk_Fl_21 rfl ?_
    refine Z_getR (k0 := 1) hX d_Fl_isBetter_52 (lF9 hb) rfl u_Wo (by decide) lk_Fl_145 rfl ?_
    refine Z_iload_n (i := 1) hX d_Fl_isBetter_55 rfl rfl ?_
    refine Z_iald hX d_Fl_isBetter_56 (lF11 hb) rfl (by omega) (by decide) ?_
    refine Z_aload_n (i := 0) hX d_Fl_isBetter_57 rfl rfl ?_
    refine Z_getR (k0 := 3) hX d_Fl_isBetter_58 (lF hb) rfl u_Fl (by decide) lk_Fl_21 rfl ?_
    refine Z_getR (k0 := 1) hX d_Fl_isBetter_61 (lF9 hb) rfl u_Wo (by decide) lk_Fl_145 rfl ?_
    refine Z_iload_n (i := 2) hX d_Fl_isBetter_64 rfl rfl ?_
    refine Z_iald hX d_Fl_isBetter_65 (lF11 hb) rfl (by omega) (by decide) ?_
    refine Z_iceq (tgt := 96) hX d_Fl_isBetter_66 rfl (fun h66 => ?_) (fun h66 => ?_)
    · refine Z_aload_n (i := 0) hX d_Fl_isBetter_96 rfl rfl ?_
      refine Z_getR (k0 := 0) hX d_Fl_isBetter_97 (lF hb) rfl u_Fl (by decide) lk_Fl_61 rfl ?_
      refine Z_getR (k0 := 11) hX d_Fl_isBetter_100 rfl rfl u_Pl (by decide) lk_Fl_193 rfl ?_
      refine Z_iload_n (i := 1) hX d_Fl_isBetter_103 rfl rfl ?_
      refine Z_iald hX d_Fl_isBetter_104 rfl rfl (by omega) (by decide) ?_
      refine Z_aload_n (i := 0) hX d_Fl_isBetter_105 rfl rfl ?_
      refine Z_getR (k0 := 0) hX d_Fl_isBetter_106 (lF hb) rfl u_Fl (by decide) lk_Fl_61 rfl ?_
      refine Z_getR (k0 := 11) hX d_Fl_isBetter_109 rfl rfl u_Pl (by decide) lk_Fl_193 rfl ?_
      refine Z_iload_n (i := 2) hX d_Fl_isBetter_112 rfl rfl ?_
      refine Z_iald hX d_Fl_isBetter_113 rfl rfl (by omega) (by decide) ?_
      refine Z_icge (tgt := 121) hX d_Fl_isBetter_114 rfl (fun h114 => ?_) (fun h114 => ?_)
      · refine Z_iconst (v := 0) hX d_Fl_isBetter_121 rfl ?_
        exact Z_ri (hR _ _ d_Fl_isBetter_122) (by simp [f_bt, zB, *]) rfl rfl
      · refine Z_iconst (v := 1) hX d_Fl_isBetter_117 rfl ?_
        refine Z_goto (tgt := 122) hX d_Fl_isBetter_118 rfl ?_
        exact Z_ri (hR _ _ d_Fl_isBetter_122) (by simp [f_bt, zB, *]) rfl rfl
    · refine Z_aload_n (i := 0) hX d_Fl_isBetter_69 rfl rfl ?_
      refine Z_getR (k0 := 3) hX d_Fl_isBetter_70 (lF hb) rfl u_Fl (by decide) lk_Fl_21 rfl ?_
      refine Z_getR (k0 := 1) hX d_Fl_isBetter_73 (lF9 hb) rfl u_Wo (by decide) lk_Fl_145 rfl ?_
      refine Z_iload_n (i := 1) hX d_Fl_isBetter_76 rfl rfl ?_
      refine Z_iald hX d_Fl_isBetter_77 (lF11 hb) rfl (by omega) (by decide) ?_
      refine Z_aload_n (i := 0) hX d_Fl_isBetter_78 rfl rfl ?_
      refine Z_getR (k0 := 3) hX d_Fl_isBetter_79 (lF hb) rfl u_Fl (by decide) lk_Fl_21 rfl ?_
      refine Z_getR (k0 := 1) hX d_Fl_isBetter_82 (lF9 hb) rfl u_Wo (by decide) lk_Fl_145 rfl ?_
      refine Z_iload_n (i := 2) hX d_Fl_isBetter_85 rfl rfl ?_
      refine Z_iald hX d_Fl_isBetter_86 (lF11 hb) rfl (by omega) (by decide) ?_
      refine Z_icge (tgt := 94) hX d_Fl_isBetter_87 rfl (fun h87 => ?_) (fun h87 => ?_)
      · refine Z_iconst (v := 0) hX d_Fl_isBetter_94 rfl ?_
        exact Z_ri (hR _ _ d_Fl_isBetter_95) (by simp [f_bt, zB, *]) rfl rfl
      · refine Z_iconst (v := 1) hX d_Fl_isBetter_90 rfl ?_
        refine Z_goto (tgt := 95) hX d_Fl_isBetter_91 rfl ?_
        exact Z_ri (hR _ _ d_Fl_isBetter_95) (by simp [f_bt, zB, *]) rfl rfl
  · refine Z_aload_n (i := 0) hX d_Fl_isBetter_21 rfl rfl ?_
    refine Z_getR (k0 := 3) hX d_Fl_isBetter_22 (lF hb) rfl u_Fl (by decide) lk_Fl_21 rfl ?_
    refine Z_getR (k0 := 0) hX d_Fl_isBetter_25 (lF9 hb) rfl u_Wo (by decide) lk_Fl_144 rfl ?_
    refine Z_iload_n (i := 1) hX d_Fl_isBetter_28 rfl rfl ?_
    refine Z_iald hX d_Fl_isBetter_29 (lF10 hb) rfl (by omega) (by decide) ?_
    refine Z_aload_n (i := 0) hX d_Fl_isBetter_30 rfl rfl ?_
    refine Z_getR (k0 := 3) hX d_Fl_isBetter_31 (lF hb) rfl u_Fl (by decide) lk_Fl_21 rfl ?_
    refine Z_getR (k0 := 0) hX d_Fl_isBetter_34 (lF9 hb) rfl u_Wo (by decide) lk_Fl_144 rfl ?_
    refine Z_iload_n (i := 2) hX d_Fl_isBetter_37 rfl rfl ?_
    refine Z_iald hX d_Fl_isBetter_38 (lF10 hb) rfl (by omega) (by decide) ?_
    refine Z_icge (tgt := 46) hX d_Fl_isBetter_39 rfl (fun h39 => ?_) (fun h39 => ?_)
    · refine Z_iconst (v := 0) hX d_Fl_isBetter_46 rfl ?_
      exact Z_ri (hR _ _ d_Fl_isBetter_47) (by simp [f_bt, zB, *]) rfl rfl
    · refine Z_iconst (v := 1) hX d_Fl_isBetter_42 rfl ?_
      refine Z_goto (tgt := 47) hX d_Fl_isBetter_43 rfl ?_
      exact Z_ri (hR _ _ d_Fl_isBetter_47) (by simp [f_bt, zB, *]) rfl rfl

set_option maxRecDepth 100000 in
set_option maxHeartbeats 4000000 in
theorem c_Fl_bestPort {la : Launch} {G : zG} {I : zI} {J : zJ} {b : Nat} (hb : b = 16 ∨ b = 35) {e : Nat} (he : e < 16) {m : Int32} : zCi la G y_Fl_bestPort (Cond.code y_Fl_bestPort prog_4_method_21_code 6 (some .int) :: TBL) (zR 2) [.ref (zad G b), .int (nI e), .int m] I J (zO (f_bp I b e m 4)) (I) (J) := by
  refine zCi_of (by decide) (by simp [lg_sl, Value.category]) (rfl) (fun X hla hX hR => ?_)
  subst hla
  refine Z_loc (l' := [(0, .ref (zad G b)), (1, .int (nI e)), (2, .int m)]) (by simp [lv_args, Value.category, List.lookup]) ?_
  refine Z_iconst (v := (-1)) hX d_Fl_bestPort_0 rfl ?_
  refine Z_istore_n (i := 3) hX d_Fl_bestPort_1 rfl (by decide) rfl ?_
  refine Z_iconst (v := nI 0) hX d_Fl_bestPort_2 rfl ?_
  refine Z_istore hX d_Fl_bestPort_3 (by decide) rfl ?_
  have hL5 : ∀ k i : Nat, k + i = 4 → Z X G 6 0 0 5 [(4, .int (nI i)), (3, .int (zO (f_bp I b e m i))), (2, .int m), (1, .int (nI e)), (0, .ref (zad G b))] [] (I) (J) := by
    intro k
    induction k with
    | zero =>
      intro i hi
      obtain rfl : i = 4 := by omega
      refine Z_iload hX d_Fl_bestPort_5 rfl ?_
      refine Z_iconst (v := 4) hX d_Fl_bestPort_7 rfl ?_
      refine Z_icge (tgt := 58) hX d_Fl_bestPort_8 rfl (fun h8 => ?_) (fun h => absurd (by decide) h)
      refine Z_iload_n (i := 3) hX d_Fl_bestPort_58 rfl rfl ?_
      exact Z_ri (hR _ _ d_Fl_bestPort_59) (by rfl) rfl rfl
    | succ k ih =>
      intro i hi
      have hi2 : i < 4 := by omega
      refine Z_iload hX d_Fl_bestPort_5 rfl ?_
      refine Z_iconst (v := 4) hX d_Fl_bestPort_7 rfl ?_
      refine Z_icge (tgt := 58) hX d_Fl_bestPort_8 rfl (fun h => absurd h (nI_ge hi2 (by decide))) (fun h8 => ?_)
      refine Z_iload_n (i := 1) hX d_Fl_bestPort_11 rfl rfl ?_
      refine Z_iload hX d_Fl_bestPort_12 rfl ?_
      refine Z_cNi2 hX d_Fl_bestPort_14 c_CT_slotOf m_CT_slotOf ne_Fl_91 ⟨by decide, by decide⟩ ⟨by decide, by decide⟩ (Nat.le_of_ble_eq_true rfl) ?_
      refine Z_istore hX d_Fl_bestPort_17 (by decide) rfl ?_
      refine Z_aload_n (i := 0) hX d_Fl_bestPort_19 rfl rfl ?_
      refine Z_getR (k0 := 5) hX d_Fl_bestPort_20 (lF hb) rfl u_Fl (by decide) lk_Fl_28 rfl ?_
      refine Z_iload hX d_Fl_bestPort_23 rfl ?_
      refine Z_iald hX d_Fl_bestPort_25 (lF14 hb) rfl (by omega) (by decide) ?_
      refine Z_iload_n (i := 2) hX d_Fl_bestPort_26 rfl rfl ?_
      refine Z_iclt (tgt := 52) hX d_Fl_bestPort_27 rfl (fun h27 => ?_) (fun h27 => ?_)
      · refine Z_iinc (v := nI (i + 1)) hX d_Fl_bestPort_52 rfl (by rw [nI_succ]; rfl) (by decide) rfl ?_
        refine Z_goto (tgt := 5) hX d_Fl_bestPort_55 rfl ?_
        refine Z_loc ?_ (Z_mem ?_ ?_ (ih (i + 1) (by omega)))
        · first | (rw [f_bp_a h27]; rfl) | (rw [f_bp_b h27 hr]; rfl) | (rw [f_bp_c h27 hr h46]; rfl) | (rw [f_bp_d h27 hr h46]; rfl)
        · rfl
        · rfl
      · refine Z_iload_n (i := 3) hX d_Fl_bestPort_30 rfl rfl ?_
        refine Z_iconst (v := (-1)) hX d_Fl_bestPort_31 rfl ?_
        refine Z_iceq (tgt := 49) hX d_Fl_bestPort_32 rfl (fun h32 => ?_) (fun h32 => ?_)
        · have hr := zO_m1 h32 (fun k hk => Nat.lt_trans (f_bp_lt i k hk) (by omega))
          refine Z_iload hX d_Fl_bestPort_49 rfl ?_
          refine Z_istore_n (i := 3) hX d_Fl_bestPort_51 rfl (by decide) rfl ?_
          refine Z_iinc (v := nI (i + 1)) hX d_Fl_bestPort_52 rfl (by rw [nI_succ]; rfl) (by decide) rfl ?_
          refine Z_goto (tgt := 5) hX d_Fl_bestPort_55 rfl ?_
          refine Z_loc ?_ (Z_mem ?_ ?_ (ih (i + 1) (by omega)))
          · first | (rw [f_bp_a h27]; rfl) | (rw [f_bp_b h27 hr]; rfl) | (rw [f_bp_c h27 hr h46]; rfl) | (rw [f_bp_d h27 hr h46]; rfl)
          · rfl
          · rfl
        · obtain ⟨r, hr⟩ := zO_n1 h32
          have hr2 := f_bp_lt i r hr
          refine Z_aload_n (i := 0) hX d_Fl_bestPort_35 rfl rfl ?_
          refine Z_iload hX d_Fl_bestPort_36 rfl ?_
          refine Z_iload_n (i := 1) hX d_Fl_bestPort_38 rfl rfl ?_
          refine Z_iload_n (i := 3) hX d_Fl_bestPort_39 rfl rfl ?_
          refine Z_top (y := nI r) (by rw [hr]; rfl) ?_
          refine Z_cNi2 hX d_Fl_bestPort_40 c_CT_slotOf m_CT_slotOf ne_Fl_91 ⟨by decide, by decide⟩ ⟨by decide, by decide⟩ (Nat.le_of_ble_eq_true rfl) ?_
          refine Z_cVi2 hX d_Fl_bestPort_43 (c_Fl_isBetter hb (by omega) (by omega)) m_Fl_isBetter (lF hb) rfl lk_Fl_190 ⟨by decide, by decide⟩ ⟨by decide, by decide⟩ (Nat.le_of_ble_eq_true rfl) ?_
          refine Z_ifeqB (tgt := 52) hX d_Fl_bestPort_46 rfl (fun h46 => ?_) (fun h46 => ?_)
          · refine Z_iinc (v := nI (i + 1)) hX d_Fl_bestPort_52 rfl (by rw [nI_succ]; rfl) (by decide) rfl ?_
            refine Z_goto (tgt := 5) hX d_Fl_bestPort_55 rfl ?_
            refine Z_loc ?_ (Z_mem ?_ ?_ (ih (i + 1) (by omega)))
            · first | (rw [f_bp_a h27]; rfl) | (rw [f_bp_b h27 hr]; rfl) | (rw [f_bp_c h27 hr h46]; rfl) | (rw [f_bp_d h27 hr h46]; rfl)
            · rfl
            · rfl
          · refine Z_iload hX d_Fl_bestPort_49 rfl ?_
            refine Z_istore_n (i := 3) hX d_Fl_bestPort_51 rfl (by decide) rfl ?_
            refine Z_iinc (v := nI (i + 1)) hX d_Fl_bestPort_52 rfl (by rw [nI_succ]; rfl) (by decide) rfl ?_
            refine Z_goto (tgt := 5) hX d_Fl_bestPort_55 rfl ?_
            refine Z_loc ?_ (Z_mem ?_ ?_ (ih (i + 1) (by omega)))
            · first | (rw [f_bp_a h27]; rfl) | (rw [f_bp_b h27 hr]; rfl) | (rw [f_bp_c h27 hr h46]; rfl) | (rw [f_bp_d h27 hr h46]; rfl)
            · rfl
            · rfl
  refine Z_loc ?_ (Z_mem ?_ ?_ (hL5 4 0 (by omega)))
  · rfl
  · rfl
  · rfl

set_option maxRecDepth 100000 in
set_option maxHeartbeats 4000000 in
theorem c_Fl_choose {la : Launch} {G : zG} {I : zI} {J : zJ} {b : Nat} (hb : b = 16 ∨ b = 35) {e : Nat} (he : e < 16) (h7 : okQ (I 7 e)) (h8 : okQ (I 8 e)) : zCi la G y_Fl_choose (Cond.code y_Fl_choose prog_4_method_20_code 4 (some .int) :: TBL) (zR 3) [.ref (zad G b), .int (nI e)] I J (f_ch I b e) (I) (J) := by
  refine zCi_of (by decide) (by simp [lg_sl, Value.category]) (rfl) (fun X hla hX hR => ?_)
  subst hla
  refine Z_loc (l' := [(0, .ref (zad G b)), (1, .int (nI e))]) (by simp [lv_args, Value.category, List.lookup]) ?_
  refine Z_aload_n (i := 0) hX d_Fl_choose_0 rfl rfl ?_
  refine Z_getR (k0 := 0) hX d_Fl_choose_1 (lF hb) rfl u_Fl (by decide) lk_Fl_61 rfl ?_
  refine Z_getR (k0 := 5) hX d_Fl_choose_4 rfl rfl u_Pl (by decide) lk_Fl_178 rfl ?_
  refine Z_iload_n (i := 1) hX d_Fl_choose_7 rfl rfl ?_
  refine Z_iald hX d_Fl_choose_8 rfl rfl (by omega) (by decide) ?_
  refine Z_iconst (v := (-1)) hX d_Fl_choose_9 rfl ?_
  refine Z_iceq (tgt := 23) hX d_Fl_choose_10 rfl (fun h10 => ?_) (fun h10 => ?_)
  · refine Z_aload_n (i := 0) hX d_Fl_choose_23 rfl rfl ?_
    refine Z_getR (k0 := 0) hX d_Fl_choose_24 (lF hb) rfl u_Fl (by decide) lk_Fl_61 rfl ?_
    refine Z_getR (k0 := 6) hX d_Fl_choose_27 rfl rfl u_Pl (by decide) lk_Fl_181 rfl ?_
    refine Z_iload_n (i := 1) hX d_Fl_choose_30 rfl rfl ?_
    refine Z_iald hX d_Fl_choose_31 rfl rfl (by omega) (by decide) ?_
    refine Z_istore_n (i := 2) hX d_Fl_choose_32 rfl (by decide) rfl ?_
    refine Z_iload_n (i := 2) hX d_Fl_choose_33 rfl rfl ?_
    refine Z_iconst (v := (-1)) hX d_Fl_choose_34 rfl ?_
    refine Z_iceq (tgt := 53) hX d_Fl_choose_35 rfl (fun h35 => ?_) (fun h35 => ?_)
    · refine Z_aload_n (i := 0) hX d_Fl_choose_53 rfl rfl ?_
      refine Z_iload_n (i := 1) hX d_Fl_choose_54 rfl rfl ?_
      refine Z_aload_n (i := 0) hX d_Fl_choose_55 rfl rfl ?_
      refine Z_getR (k0 := 0) hX d_Fl_choose_56 (lF hb) rfl u_Fl (by decide) lk_Fl_61 rfl ?_
      refine Z_getR (k0 := 4) hX d_Fl_choose_59 rfl rfl u_Pl (by decide) lk_Fl_184 rfl ?_
      refine Z_iload_n (i := 1) hX d_Fl_choose_62 rfl rfl ?_
      refine Z_iald hX d_Fl_choose_63 rfl rfl (by omega) (by decide) ?_
      refine Z_iconst (v := 1) hX d_Fl_choose_64 rfl ?_
      refine Z_iadd hX d_Fl_choose_65 ?_
      refine Z_cVi2 hX d_Fl_choose_66 (c_Fl_bestPort hb (by omega)) m_Fl_bestPort (lF hb) rfl lk_Fl_187 ⟨by decide, by decide⟩ ⟨by decide, by decide⟩ (Nat.le_of_ble_eq_true rfl) ?_
      refine Z_istore_n (i := 3) hX d_Fl_choose_69 rfl (by decide) rfl ?_
      refine Z_iload_n (i := 3) hX d_Fl_choose_70 rfl rfl ?_
      refine Z_iconst (v := (-1)) hX d_Fl_choose_71 rfl ?_
      refine Z_iceq (tgt := 79) hX d_Fl_choose_72 rfl (fun h72 => ?_) (fun h72 => ?_)
      · have hr := zO_m1 h72 (fun k hk => Nat.lt_trans (f_bp_lt 4 k hk) (by omega))
        refine Z_aload_n (i := 0) hX d_Fl_choose_79 rfl rfl ?_
        refine Z_iload_n (i := 1) hX d_Fl_choose_80 rfl rfl ?_
        refine Z_iconst (v := 1) hX d_Fl_choose_81 rfl ?_
        refine Z_cVi2 hX d_Fl_choose_82 (c_Fl_bestPort hb (by omega)) m_Fl_bestPort (lF hb) rfl lk_Fl_187 ⟨by decide, by decide⟩ ⟨by decide, by decide⟩ (Nat.le_of_ble_eq_true rfl) ?_
        exact Z_ri (hR _ _ d_Fl_choose_85) (by exact f_ch_x0 h10 (Or.inl h35) hr) rfl rfl
      · obtain ⟨r, hr⟩ := zO_n1 h72
        refine Z_iload_n (i := 3) hX d_Fl_choose_75 rfl rfl ?_
        refine Z_goto (tgt := 85) hX d_Fl_choose_76 rfl ?_
        exact Z_ri (hR _ _ d_Fl_choose_85) (by exact f_ch_x1 h10 (Or.inl h35) hr) rfl rfl
    · obtain ⟨k, hk, hk2⟩ := h8.resolve_left h35
      refine Z_aload_n (i := 0) hX d_Fl_choose_38 rfl rfl ?_
      refine Z_getR (k0 := 5) hX d_Fl_choose_39 (lF hb) rfl u_Fl (by decide) lk_Fl_28 rfl ?_
      refine Z_iload_n (i := 1) hX d_Fl_choose_42 rfl rfl ?_
      refine Z_iload_n (i := 2) hX d_Fl_choose_43 rfl rfl ?_
      refine Z_top hk2 ?_
      refine Z_cNi2 hX d_Fl_choose_44 c_CT_slotOf m_CT_slotOf ne_Fl_91 ⟨by decide, by decide⟩ ⟨by decide, by decide⟩ (Nat.le_of_ble_eq_true rfl) ?_
      refine Z_iald hX d_Fl_choose_47 (lF14 hb) rfl (by omega) (by decide) ?_
      refine Z_ifle (tgt := 53) hX d_Fl_choose_48 rfl (fun h48 => ?_) (fun h48 => ?_)
      · refine Z_aload_n (i := 0) hX d_Fl_choose_53 rfl rfl ?_
        refine Z_iload_n (i := 1) hX d_Fl_choose_54 rfl rfl ?_
        refine Z_aload_n (i := 0) hX d_Fl_choose_55 rfl rfl ?_
        refine Z_getR (k0 := 0) hX d_Fl_choose_56 (lF hb) rfl u_Fl (by decide) lk_Fl_61 rfl ?_
        refine Z_getR (k0 := 4) hX d_Fl_choose_59 rfl rfl u_Pl (by decide) lk_Fl_184 rfl ?_
        refine Z_iload_n (i := 1) hX d_Fl_choose_62 rfl rfl ?_
        refine Z_iald hX d_Fl_choose_63 rfl rfl (by omega) (by decide) ?_
        refine Z_iconst (v := 1) hX d_Fl_choose_64 rfl ?_
        refine Z_iadd hX d_Fl_choose_65 ?_
        refine Z_cVi2 hX d_Fl_choose_66 (c_Fl_bestPort hb (by omega)) m_Fl_bestPort (lF hb) rfl lk_Fl_187 ⟨by decide, by decide⟩ ⟨by decide, by decide⟩ (Nat.le_of_ble_eq_true rfl) ?_
        refine Z_istore_n (i := 3) hX d_Fl_choose_69 rfl (by decide) rfl ?_
        refine Z_iload_n (i := 3) hX d_Fl_choose_70 rfl rfl ?_
        refine Z_iconst (v := (-1)) hX d_Fl_choose_71 rfl ?_
        refine Z_iceq (tgt := 79) hX d_Fl_choose_72 rfl (fun h72 => ?_) (fun h72 => ?_)
        · have hr := zO_m1 h72 (fun k hk => Nat.lt_trans (f_bp_lt 4 k hk) (by omega))
          refine Z_aload_n (i := 0) hX d_Fl_choose_79 rfl rfl ?_
          refine Z_iload_n (i := 1) hX d_Fl_choose_80 rfl rfl ?_
          refine Z_iconst (v := 1) hX d_Fl_choose_81 rfl ?_
          refine Z_cVi2 hX d_Fl_choose_82 (c_Fl_bestPort hb (by omega)) m_Fl_bestPort (lF hb) rfl lk_Fl_187 ⟨by decide, by decide⟩ ⟨by decide, by decide⟩ (Nat.le_of_ble_eq_true rfl) ?_
          exact Z_ri (hR _ _ d_Fl_choose_85) (by exact f_ch_x0 h10 (Or.inr ⟨k, hk, hk2, h48⟩) hr) rfl rfl
        · obtain ⟨r, hr⟩ := zO_n1 h72
          refine Z_iload_n (i := 3) hX d_Fl_choose_75 rfl rfl ?_
          refine Z_goto (tgt := 85) hX d_Fl_choose_76 rfl ?_
          exact Z_ri (hR _ _ d_Fl_choose_85) (by exact f_ch_x1 h10 (Or.inr ⟨k, hk, hk2, h48⟩) hr) rfl rfl
      · refine Z_iload_n (i := 2) hX d_Fl_choose_51 rfl rfl ?_
        exact Z_ri (hR _ _ d_Fl_choose_52) (by exact (f_ch_b h10 h35 hk hk2 h48).symm) rfl rfl
  · refine Z_aload_n (i := 0) hX d_Fl_choose_13 rfl rfl ?_
    refine Z_getR (k0 := 0) hX d_Fl_choose_14 (lF hb) rfl u_Fl (by decide) lk_Fl_61 rfl ?_
    refine Z_getR (k0 := 5) hX d_Fl_choose_17 rfl rfl u_Pl (by decide) lk_Fl_178 rfl ?_
    refine Z_iload_n (i := 1) hX d_Fl_choose_20 rfl rfl ?_
    refine Z_iald hX d_Fl_choose_21 rfl rfl (by omega) (by decide) ?_
    exact Z_ri (hR _ _ d_Fl_choose_22) (by exact (f_ch_a h10).symm) rfl rfl

set_option maxRecDepth 100000 in
set_option maxHeartbeats 4000000 in
theorem c_Fl_decide {la : Launch} {G : zG} {I : zI} {J : zJ} {b : Nat} (hb : b = 16 ∨ b = 35) {e : Nat} (he : e < 16) (h7 : okQ (I 7 e)) (h8 : okQ (I 8 e)) : zCv la G y_Fl_decide (Cond.code y_Fl_decide prog_4_method_19_code 4 none :: TBL) (zR 4) [.ref (zad G b), .int (nI e)] I J (f_de I b e) (J) := by
  refine zCv_of (by decide) (by simp [lg_sl, Value.category]) (fun X hla hX hR => ?_)
  subst hla
  refine Z_loc (l' := [(0, .ref (zad G b)), (1, .int (nI e))]) (by simp [lv_args, Value.category, List.lookup]) ?_
  refine Z_aload_n (i := 0) hX d_Fl_decide_0 rfl rfl ?_
  refine Z_iload_n (i := 1) hX d_Fl_decide_1 rfl rfl ?_
  refine Z_cVi1 hX d_Fl_decide_2 (c_Fl_choose hb (by omega) h7 h8) m_Fl_choose (lF hb) rfl lk_Fl_175 ⟨by decide, by decide⟩ ⟨by decide, by decide⟩ (Nat.le_of_ble_eq_true rfl) ?_
  refine Z_istore_n (i := 2) hX d_Fl_decide_5 rfl (by decide) rfl ?_
  refine Z_aload_n (i := 0) hX d_Fl_decide_6 rfl rfl ?_
  refine Z_getR (k0 := 7) hX d_Fl_decide_7 (lF hb) rfl u_Fl (by decide) lk_Fl_34 rfl ?_
  refine Z_iload_n (i := 1) hX d_Fl_decide_10 rfl rfl ?_
  refine Z_iload_n (i := 2) hX d_Fl_decide_11 rfl rfl ?_
  refine Z_iast hX d_Fl_decide_12 (lF16 hb) rfl (by omega) (by decide) ?_
  refine Z_iload_n (i := 2) hX d_Fl_decide_13 rfl rfl ?_
  refine Z_iconst (v := (-1)) hX d_Fl_decide_14 rfl ?_
  refine Z_iceq (tgt := 89) hX d_Fl_decide_15 rfl (fun h15 => ?_) (fun h15 => ?_)
  · refine Z_aload_n (i := 0) hX d_Fl_decide_89 rfl rfl ?_
    refine Z_getR (k0 := 6) hX d_Fl_decide_90 (lF hb) rfl u_Fl (by decide) lk_Fl_31 rfl ?_
    refine Z_iload_n (i := 1) hX d_Fl_decide_93 rfl rfl ?_
    refine Z_cut (pc' := 111) (P := fun v => v = (if f_bit (zup I (b + 16) e (f_ch I b e) b 10) (nI e) = 1 then 2 else 0)) ?_ (fun hJ111 => ?_)
    · intro v hv111
      subst hv111
      refine Z_iast hX d_Fl_decide_111 (lF15 hb) rfl (by omega) (by decide) ?_
      refine Z_aload_n (i := 0) hX d_Fl_decide_112 rfl rfl ?_
      refine Z_getR (k0 := 9) hX d_Fl_decide_113 (lF hb) rfl u_Fl (by decide) lk_Fl_40 rfl ?_
      refine Z_iload_n (i := 1) hX d_Fl_decide_116 rfl rfl ?_
      refine Z_iconst (v := (-1)) hX d_Fl_decide_117 rfl ?_
      refine Z_iast hX d_Fl_decide_118 (lF18 hb) rfl (by omega) (by decide) ?_
      refine Z_aload_n (i := 0) hX d_Fl_decide_119 rfl rfl ?_
      refine Z_getR (k0 := 8) hX d_Fl_decide_120 (lF hb) rfl u_Fl (by decide) lk_Fl_37 rfl ?_
      refine Z_iload_n (i := 1) hX d_Fl_decide_123 rfl rfl ?_
      refine Z_iconst (v := (-1)) hX d_Fl_decide_124 rfl ?_
      refine Z_iast hX d_Fl_decide_125 (lF17 hb) rfl (by omega) (by decide) ?_
      exact Z_mem (by exact (f_de_0 h15).symm) (by rfl) (hR _ _ d_Fl_decide_126)
    · refine Z_aload_n (i := 0) hX d_Fl_decide_94 rfl rfl ?_
      refine Z_getI (k0 := 10) hX d_Fl_decide_95 (lF hb) rfl u_Fl (by decide) lk_Fl_43 rfl ?_
      refine Z_iload_n (i := 1) hX d_Fl_decide_98 rfl rfl ?_
      refine Z_ishr hX d_Fl_decide_99 ?_
      refine Z_iconst (v := 1) hX d_Fl_decide_100 rfl ?_
      refine Z_iand hX d_Fl_decide_101 ?_
      refine Z_iconst (v := 1) hX d_Fl_decide_102 rfl ?_
      refine Z_icne (tgt := 110) hX d_Fl_decide_103 rfl (fun h103 => ?_) (fun h103 => ?_)
      · refine Z_iconst (v := 0) hX d_Fl_decide_110 rfl ?_
        exact hJ111 _ (by first | exact (if_pos h103).symm | exact (if_neg h103).symm)
      · refine Z_iconst (v := 2) hX d_Fl_decide_106 rfl ?_
        refine Z_goto (tgt := 111) hX d_Fl_decide_107 rfl ?_
        exact hJ111 _ (by first | exact (if_pos h103).symm | exact (if_neg h103).symm)
  · obtain ⟨k, hk, hk2⟩ := (f_ch_ok (b := b) h7 h8).resolve_left h15
    refine Z_aload_n (i := 0) hX d_Fl_decide_18 rfl rfl ?_
    refine Z_getR (k0 := 5) hX d_Fl_decide_19 (lF hb) rfl u_Fl (by decide) lk_Fl_28 rfl ?_
    refine Z_iload_n (i := 1) hX d_Fl_decide_22 rfl rfl ?_
    refine Z_iload_n (i := 2) hX d_Fl_decide_23 rfl rfl ?_
    refine Z_top hk2 ?_
    refine Z_cNi2 hX d_Fl_decide_24 c_CT_slotOf m_CT_slotOf ne_Fl_91 ⟨by decide, by decide⟩ ⟨by decide, by decide⟩ (Nat.le_of_ble_eq_true rfl) ?_
    refine Z_iald hX d_Fl_decide_27 (lF14 hb) rfl (by omega) (by decide) ?_
    refine Z_ifle (tgt := 89) hX d_Fl_decide_28 rfl (fun h28 => ?_) (fun h28 => ?_)
    · refine Z_aload_n (i := 0) hX d_Fl_decide_89 rfl rfl ?_
      refine Z_getR (k0 := 6) hX d_Fl_decide_90 (lF hb) rfl u_Fl (by decide) lk_Fl_31 rfl ?_
      refine Z_iload_n (i := 1) hX d_Fl_decide_93 rfl rfl ?_
      refine Z_cut (pc' := 111) (P := fun v => v = (if f_bit (zup I (b + 16) e (f_ch I b e) b 10) (nI e) = 1 then 2 else 0)) ?_ (fun hJ111 => ?_)
      · intro v hv111
        subst hv111
        refine Z_iast hX d_Fl_decide_111 (lF15 hb) rfl (by omega) (by decide) ?_
        refine Z_aload_n (i := 0) hX d_Fl_decide_112 rfl rfl ?_
        refine Z_getR (k0 := 9) hX d_Fl_decide_113 (lF hb) rfl u_Fl (by decide) lk_Fl_40 rfl ?_
        refine Z_iload_n (i := 1) hX d_Fl_decide_116 rfl rfl ?_
        refine Z_iconst (v := (-1)) hX d_Fl_decide_117 rfl ?_
        refine Z_iast hX d_Fl_decide_118 (lF18 hb) rfl (by omega) (by decide) ?_
        refine Z_aload_n (i := 0) hX d_Fl_decide_119 rfl rfl ?_
        refine Z_getR (k0 := 8) hX d_Fl_decide_120 (lF hb) rfl u_Fl (by decide) lk_Fl_37 rfl ?_
        refine Z_iload_n (i := 1) hX d_Fl_decide_123 rfl rfl ?_
        refine Z_iconst (v := (-1)) hX d_Fl_decide_124 rfl ?_
        refine Z_iast hX d_Fl_decide_125 (lF17 hb) rfl (by omega) (by decide) ?_
        exact Z_mem (by exact (f_de_2 hk hk2 h28).symm) (by rfl) (hR _ _ d_Fl_decide_126)
      · refine Z_aload_n (i := 0) hX d_Fl_decide_94 rfl rfl ?_
        refine Z_getI (k0 := 10) hX d_Fl_decide_95 (lF hb) rfl u_Fl (by decide) lk_Fl_43 rfl ?_
        refine Z_iload_n (i := 1) hX d_Fl_decide_98 rfl rfl ?_
        refine Z_ishr hX d_Fl_decide_99 ?_
        refine Z_iconst (v := 1) hX d_Fl_decide_100 rfl ?_
        refine Z_iand hX d_Fl_decide_101 ?_
        refine Z_iconst (v := 1) hX d_Fl_decide_102 rfl ?_
        refine Z_icne (tgt := 110) hX d_Fl_decide_103 rfl (fun h103 => ?_) (fun h103 => ?_)
        · refine Z_iconst (v := 0) hX d_Fl_decide_110 rfl ?_
          exact hJ111 _ (by first | exact (if_pos h103).symm | exact (if_neg h103).symm)
        · refine Z_iconst (v := 2) hX d_Fl_decide_106 rfl ?_
          refine Z_goto (tgt := 111) hX d_Fl_decide_107 rfl ?_
          exact hJ111 _ (by first | exact (if_pos h103).symm | exact (if_neg h103).symm)
    · refine Z_iload_n (i := 1) hX d_Fl_decide_31 rfl rfl ?_
      refine Z_iload_n (i := 2) hX d_Fl_decide_32 rfl rfl ?_
      refine Z_top hk2 ?_
      refine Z_cNi2 hX d_Fl_decide_33 c_CT_slotOf m_CT_slotOf ne_Fl_91 ⟨by decide, by decide⟩ ⟨by decide, by decide⟩ (Nat.le_of_ble_eq_true rfl) ?_
      refine Z_istore_n (i := 3) hX d_Fl_decide_36 rfl (by decide) rfl ?_
      refine Z_aload_n (i := 0) hX d_Fl_decide_37 rfl rfl ?_
      refine Z_getR (k0 := 6) hX d_Fl_decide_38 (lF hb) rfl u_Fl (by decide) lk_Fl_31 rfl ?_
      refine Z_iload_n (i := 1) hX d_Fl_decide_41 rfl rfl ?_
      refine Z_iconst (v := 1) hX d_Fl_decide_42 rfl ?_
      refine Z_iast hX d_Fl_decide_43 (lF15 hb) rfl (by omega) (by decide) ?_
      refine Z_aload_n (i := 0) hX d_Fl_decide_44 rfl rfl ?_
      refine Z_dup hX d_Fl_decide_45 rfl ?_
      refine Z_getI (k0 := 10) hX d_Fl_decide_46 (lF hb) rfl u_Fl (by decide) lk_Fl_43 rfl ?_
      refine Z_iconst (v := 1) hX d_Fl_decide_49 rfl ?_
      refine Z_iload_n (i := 1) hX d_Fl_decide_50 rfl rfl ?_
      refine Z_ishl hX d_Fl_decide_51 ?_
      refine Z_ior hX d_Fl_decide_52 ?_
      refine Z_putI (k0 := 10) hX d_Fl_decide_53 (lF hb) rfl u_Fl (by decide) lk_Fl_43 rfl t_Fl to_Fl n_Fl rfl rfl rfl rfl ?_
      refine Z_aload_n (i := 0) hX d_Fl_decide_56 rfl rfl ?_
      refine Z_getR (k0 := 9) hX d_Fl_decide_57 (lF hb) rfl u_Fl (by decide) lk_Fl_40 rfl ?_
      refine Z_iload_n (i := 1) hX d_Fl_decide_60 rfl rfl ?_
      refine Z_aload_n (i := 0) hX d_Fl_decide_61 rfl rfl ?_
      refine Z_getR (k0 := 3) hX d_Fl_decide_62 (lF hb) rfl u_Fl (by decide) lk_Fl_21 rfl ?_
      refine Z_getR (k0 := 0) hX d_Fl_decide_65 (lF9 hb) rfl u_Wo (by decide) lk_Fl_144 rfl ?_
      refine Z_iload_n (i := 3) hX d_Fl_decide_68 rfl rfl ?_
      refine Z_iald hX d_Fl_decide_69 (lF10 hb) rfl (by omega) (by decide) ?_
      refine Z_iast hX d_Fl_decide_70 (lF18 hb) rfl (by omega) (by decide) ?_
      refine Z_aload_n (i := 0) hX d_Fl_decide_71 rfl rfl ?_
      refine Z_getR (k0 := 8) hX d_Fl_decide_72 (lF hb) rfl u_Fl (by decide) lk_Fl_37 rfl ?_
      refine Z_iload_n (i := 1) hX d_Fl_decide_75 rfl rfl ?_
      refine Z_aload_n (i := 0) hX d_Fl_decide_76 rfl rfl ?_
      refine Z_getR (k0 := 3) hX d_Fl_decide_77 (lF hb) rfl u_Fl (by decide) lk_Fl_21 rfl ?_
      refine Z_getR (k0 := 1) hX d_Fl_decide_80 (lF9 hb) rfl u_Wo (by decide) lk_Fl_145 rfl ?_
      refine Z_iload_n (i := 3) hX d_Fl_decide_83 rfl rfl ?_
      refine Z_iald hX d_Fl_decide_84 (lF11 hb) rfl (by omega) (by decide) ?_
      refine Z_iast hX d_Fl_decide_85 (lF17 hb) rfl (by omega) (by decide) ?_
      refine Z_goto (tgt := 126) hX d_Fl_decide_86 rfl ?_
      exact Z_mem (by exact (f_de_1 hk h15 hk2 h28).symm) (by rfl) (hR _ _ d_Fl_decide_126)
