/-- what the reference chooses: a port, or none -/
def m_ch (I : zI) (e : Nat) : Option Nat := if I 70 e < 0 then (if I 71 e < 0 ∨ I 79 (448 + (4 * e + (I 71 e).toNatClampNeg)) ≤ 0 then (match m_bo I e (I 69 e) 4 with
    | none => m_bo I e 0 4
    | some k => some k) else some (I 71 e).toNatClampNeg) else some (I 70 e).toNatClampNeg
theorem okQ_pos {x : Int32} (h : okQ x) (h0 : ¬ x < 0) : ∃ k, k < 4 ∧ x = nI k := by
  rcases h with h | h
  · rw [h] at h0
    exact absurd (by decide) h0
  · exact h
theorem m_ch_a {I : zI} {e k : Nat} (h : ¬ I 70 e < 0) (hk : k < 4) (hk2 : I 70 e = nI k) : m_ch I e = some k := by
  unfold m_ch
  rw [if_neg h, hk2, nI_clamp (by omega)]
theorem m_ch_b {I : zI} {e k : Nat} (h : I 70 e < 0) (h8 : ¬ I 71 e < 0) (hk : k < 4) (hk2 : I 71 e = nI k) (h2 : ¬ I 79 (448 + (4 * e + k)) ≤ 0) : m_ch I e = some k := by
  have e1 : (I 71 e).toNatClampNeg = k := by rw [hk2, nI_clamp (by omega)]
  have h3 : ¬ (I 71 e < 0 ∨ I 79 (448 + (4 * e + (I 71 e).toNatClampNeg)) ≤ 0) := by
    rw [e1]
    exact fun h9 => h9.elim h8 h2
  unfold m_ch
  rw [if_pos h, if_neg h3, e1]
theorem m_ch_x {I : zI} {e : Nat} (h : I 70 e < 0) (h8 : I 71 e < 0 ∨ ∃ k, k < 4 ∧ I 71 e = nI k ∧ I 79 (448 + (4 * e + k)) ≤ 0) : m_ch I e = match m_bo I e (I 69 e) 4 with
    | none => m_bo I e 0 4
    | some k => some k := by
  have h3 : I 71 e < 0 ∨ I 79 (448 + (4 * e + (I 71 e).toNatClampNeg)) ≤ 0 := by
    rcases h8 with h8 | ⟨k, hk, hk2, h2⟩
    · exact Or.inl h8
    · right
      rw [hk2, nI_clamp (by omega)]
      exact h2
  unfold m_ch
  rw [if_pos h, if_pos h3]
theorem m_ch_x0 {I : zI} {e : Nat} (h : I 70 e < 0) (h8 : I 71 e < 0 ∨ ∃ k, k < 4 ∧ I 71 e = nI k ∧ I 79 (448 + (4 * e + k)) ≤ 0) (hr : m_bo I e (I 69 e) 4 = none) : mO e (m_bo I e 0 4) = mO e (m_ch I e) := by
  rw [m_ch_x h h8, hr]
theorem m_ch_x1 {I : zI} {e r : Nat} (h : I 70 e < 0) (h8 : I 71 e < 0 ∨ ∃ k, k < 4 ∧ I 71 e = nI k ∧ I 79 (448 + (4 * e + k)) ≤ 0) (hr : m_bo I e (I 69 e) 4 = some r) : mO e (m_bo I e (I 69 e) 4) = mO e (m_ch I e) := by
  rw [m_ch_x h h8, hr]
theorem m_ch_lt {I : zI} {e k : Nat} (h7 : okQ (I 70 e)) (h8 : okQ (I 71 e)) (h : m_ch I e = some k) : k < 4 := by
  unfold m_ch at h
  split at h
  · split at h
    · split at h
      · exact m_bo_lt 4 k h
      · rename_i q hq
        cases h
        exact m_bo_lt 4 k hq
    · rename_i hn
      obtain ⟨q, hq, hq2⟩ := okQ_pos h8 (fun z => hn (Or.inl z))
      rw [hq2, nI_clamp (by omega)] at h
      cases h
      exact hq
  · rename_i hn
    obtain ⟨q, hq, hq2⟩ := okQ_pos h7 hn
    rw [hq2, nI_clamp (by omega)] at h
    cases h
    exact hq
def m_c1 (I : zI) (e : Nat) : Nat → zI
  | 0 => I
  | i + 1 => zup (m_c1 I e i) 79 (448 + (4 * e + i)) (if m_us (m_c1 I e i) (4 * e + i) = true then m_c1 I e i 79 (448 + (4 * e + i)) + 1 else 0)
theorem fr_c1 {I : zI} {e c : Nat} (hc : c ≠ 79) : ∀ i, m_c1 I e i c = I c
  | 0 => rfl
  | i + 1 => by
    unfold m_c1
    rw [zup_ne hc, fr_c1 hc i]
theorem fr_c1n {I : zI} {e j : Nat} : ∀ i, (∀ q, q < i → j ≠ 448 + (4 * e + q)) → m_c1 I e i 79 j = I 79 j
  | 0, _ => rfl
  | i + 1, h => by
    unfold m_c1
    rw [zup_same, pk_un (h i (by omega)), fr_c1n i (fun q hq => h q (by omega))]
theorem m_us_of {I I' : zI} {p : Nat} (h : ∀ c, c ≠ 79 → I' c = I c) (h9 : ∀ j, j < 448 ∨ 512 ≤ j → I' 79 j = I 79 j) (hp : p < 64) : m_us I' p = m_us I p := by
  unfold m_us m_hw m_ow
  rw [h 76 (by decide), h 72 (by decide), h 74 (by decide), h 64 (by decide), h9 p (by omega), h9 760 (by omega), h9 (192 + p) (by omega), h9 (128 + p) (by omega)]
theorem m_us_c1 {I : zI} {e i p : Nat} (he : e < 16) (hi : i ≤ 4) (hp : p < 64) : m_us (m_c1 I e i) p = m_us I p := m_us_of (fun c hc => fr_c1 hc i) (fun j hj => fr_c1n i (fun q hq => by omega)) hp
theorem m_c1_used {I : zI} {e k : Nat} (hk : k < 4) : m_c1 I e 4 79 (448 + (4 * e + k)) = if m_us (m_c1 I e k) (4 * e + k) = true then m_c1 I e k 79 (448 + (4 * e + k)) + 1 else 0 := by
  have key : ∀ n, k + 1 + n ≤ 4 → m_c1 I e (k + 1 + n) 79 (448 + (4 * e + k)) = m_c1 I e (k + 1) 79 (448 + (4 * e + k)) := by
    intro n
    induction n with
    | zero => intro _; rfl
    | succ n ih =>
      intro h
      rw [show k + 1 + (n + 1) = (k + 1 + n) + 1 from rfl, m_c1, zup_same, pk_un (by omega), ih (by omega)]
  have h4 := key (3 - k) (by omega)
  rw [show k + 1 + (3 - k) = 4 by omega] at h4
  rw [h4, m_c1, zup_same, pk_us]
/-- a locked port that has no source has a link -/
theorem m_lk_link {I : zI} {e k : Nat} (he : e < 16) (hk : k < 4) (h : ¬ m_c1 I e 4 79 (448 + (4 * e + k)) ≤ 0) (hs : I 72 (4 * e + k) < 0) : ¬ I 74 (4 * e + k) < 0 := by
  rw [m_c1_used hk] at h
  split at h
  · rename_i hu
    rw [m_us_c1 he (by omega) (by omega)] at hu
    simp only [m_us, m_hw, Bool.and_eq_true, Bool.or_eq_true, decide_eq_true_eq] at hu
    rcases hu.2 with h2 | h2
    · exact absurd hs h2
    · exact h2.1.1.1.1
  · exact absurd (by decide) h
def m_pl (r : Option Nat) (lk : Bool) (i : Nat) : Bool := decide (r = some i) || !lk
theorem m_pl_f (r : Option Nat) (i : Nat) : m_pl r false i = true := by simp [m_pl]
def m_q0 (I : zI) (e : Nat) (r : Option Nat) (lk : Bool) (i : Nat) : Int32 := if 0 ≤ I 74 (4 * e + i) then (if r = some i then 7 else if lk = true then m_qu I (4 * e + r.getD 0) else 8 + I 66 e) else -1
def m_h0 (I : zI) (e : Nat) (r : Option Nat) (lk : Bool) (i : Nat) : Int32 := if m_pl r lk i = true then 0 else m_ho I (4 * e + r.getD 0) + 1
def m_t0 (I : zI) (e : Nat) (r : Option Nat) (lk : Bool) (i : Nat) : Int32 := if m_pl r lk i = true then 0 else (if I 72 (4 * e + r.getD 0) < 0 then I 79 (128 + (4 * e + r.getD 0)) else 0) ||| 1 <<< (nI e &&& 31)
theorem m_t0_p {I : zI} {e k i : Nat} (h : m_pl (some k) true i = false) (h2 : I 72 (4 * e + k) < 0) : I 79 (128 + (4 * e + k)) ||| 1 <<< (nI e &&& 31) = m_t0 I e (some k) true i := by
  have h3 : m_t0 I e (some k) true i = (if I 72 (4 * e + k) < 0 then I 79 (128 + (4 * e + k)) else 0) ||| 1 <<< (nI e &&& 31) := if_neg (by rw [h]; decide)
  rw [h3, if_pos h2]
theorem m_t0_n {I : zI} {e k i : Nat} (h : m_pl (some k) true i = false) (h2 : ¬ I 72 (4 * e + k) < 0) : (0 : Int32) ||| 1 <<< (nI e &&& 31) = m_t0 I e (some k) true i := by
  have h3 : m_t0 I e (some k) true i = (if I 72 (4 * e + k) < 0 then I 79 (128 + (4 * e + k)) else 0) ||| 1 <<< (nI e &&& 31) := if_neg (by rw [h]; decide)
  rw [h3, if_neg h2]
def m_f1 (I : zI) (e : Nat) (r : Option Nat) (lk : Bool) (i : Nat) : zI :=
  let I1 := zup I 83 (4 * e + i) (m_q0 I e r lk i)
  let I2 := zup I1 83 (64 + (4 * e + i)) (m_h0 I1 e r lk i)
  zup I2 83 (128 + (4 * e + i)) (m_t0 I2 e r lk i)
def m_fl (I : zI) (e : Nat) (r : Option Nat) (lk : Bool) : Nat → zI
  | 0 => I
  | i + 1 => m_f1 (m_fl I e r lk i) e r lk i
theorem fr_f1 {I : zI} {e : Nat} {r : Option Nat} {lk : Bool} {i c : Nat} (hc : c ≠ 83) : m_f1 I e r lk i c = I c := by
  unfold m_f1
  try dsimp only
  rw [zup_ne hc, zup_ne hc, zup_ne hc]
theorem fr_mfl {I : zI} {e : Nat} {r : Option Nat} {lk : Bool} {c : Nat} (hc : c ≠ 83) : ∀ i, m_fl I e r lk i c = I c
  | 0 => rfl
  | i + 1 => by
    unfold m_fl
    rw [fr_f1 hc, fr_mfl hc i]
def m_s0 (I : zI) (e : Nat) (r : Option Nat) : zI :=
  let A1 := zup I 79 (528 + e) (zO r)
  let A3 := zup A1 79 (512 + e) (if A1 79 (544 + e) = 1 then 2 else 0)
  zup (zup A3 79 (608 + e) (-1)) 79 (624 + e) (-1)
def m_s1 (I : zI) (e k : Nat) : zI :=
  let A1 := zup I 79 (528 + e) (nI k)
  let A3 := zup (zup A1 79 (544 + e) 1) 79 (512 + e) 1
  let A4 := zup A3 79 (608 + e) (m_ho A3 (4 * e + k))
  zup A4 79 (624 + e) (m_qu A4 (4 * e + k))
def m_o0 (I : zI) (e : Nat) : zI := zup I 79 (560 + e) (if I 79 (512 + e) = 2 then I 79 (560 + e) + I 68 e else I 67 e)
def m_o1 (I : zI) (e s : Nat) : zI := zup I 79 (560 + e) (if I 72 s < 0 then I 79 (592 + (m_ax I (m_lk I s) s).toNatClampNeg / 4) else I 73 s)
def m_cs (I : zI) (e : Nat) : zI := match m_ch (m_c1 I e 4) e with
  | none => m_o0 (m_fl (m_s0 (m_c1 I e 4) e none) e none false 4) e
  | some k => if m_c1 I e 4 79 (448 + (4 * e + k)) ≤ 0 then m_o0 (m_fl (m_s0 (m_c1 I e 4) e (some k)) e (some k) false 4) e else m_o1 (m_fl (m_s1 (m_c1 I e 4) e k) e (some k) true 4) e (4 * e + k)
theorem m_cs_0 {I : zI} {e : Nat} (h : m_ch (m_c1 I e 4) e = none) : m_cs I e = m_o0 (m_fl (m_s0 (m_c1 I e 4) e none) e none false 4) e := by
  unfold m_cs
  rw [h]
theorem m_cs_1 {I : zI} {e k : Nat} (h : m_ch (m_c1 I e 4) e = some k) (h2 : m_c1 I e 4 79 (448 + (4 * e + k)) ≤ 0) : m_cs I e = m_o0 (m_fl (m_s0 (m_c1 I e 4) e (some k)) e (some k) false 4) e := by
  unfold m_cs
  rw [h]
  exact if_pos h2
theorem m_cs_2 {I : zI} {e k : Nat} (h : m_ch (m_c1 I e 4) e = some k) (h2 : ¬ m_c1 I e 4 79 (448 + (4 * e + k)) ≤ 0) : m_cs I e = m_o1 (m_fl (m_s1 (m_c1 I e 4) e k) e (some k) true 4) e (4 * e + k) := by
  unfold m_cs
  rw [h]
  exact if_neg h2
theorem nI4_eq {e i k : Nat} (he : e < 16) (hi : i < 4) (hk : k < 4) : nI (4 * e + i) = nI (4 * e + k) ↔ k = i := by
  rw [nI_eq (by omega) (by omega)]
  omega
theorem p_rem4 {e k : Nat} (he : e < 16) (hk : k < 4) : nI (4 * e + k) - nI (4 * e + k) / 4 * 4 = nI k := by
  have h := pk_rem (a := 4 * e + k) (d := 4) (by omega) (by decide) (by decide)
  rw [show (4 * e + k) % 4 = k by omega] at h
  exact h
def m_so (I : zI) (e : Nat) : Int32 := if I 79 (672 + e) = 1 then 3 else I 79 (512 + e)
def m_po (I : zI) (e : Nat) : Int32 := if I 79 (672 + e) = 1 then -1 else I 79 (528 + e)
def m_sn (I : zI) (e : Nat) : Nat → zI
  | 0 => I
  | i + 1 => zup (m_sn I e i) 79 (256 + (4 * e + i)) (-1)
def m_bd (I : zI) (e : Nat) : zI := m_sn (zup I 79 (672 + e) 1) e 4
def m_cb0 (I : zI) (e : Nat) : zI := zup (zup (zup (zup (zup (m_sn (zup I 79 (672 + e) 0) e 4) 79 (512 + e) 0) 79 (528 + e) (-1)) 79 (544 + e) 0) 79 (608 + e) (-1)) 79 (624 + e) (-1)
def m_cbl (I : zI) (e : Nat) : Nat → zI
  | 0 => I
  | i + 1 => zup (zup (m_cbl I e i) 79 (4 * e + i) (-1)) 79 (448 + (4 * e + i)) 0
def m_cb (I : zI) (e : Nat) : zI := m_cbl (m_cb0 I e) e 4
def m_ne (I : zI) (e : Int32) : Bool := decide (e < 0) || (decide (15 < e) || decide (I 65 e.toNatClampNeg = 0))
def m_np (I : zI) (e p : Int32) : Bool := m_ne I e || (decide (p < 0) || decide (¬ p ≤ 3))
def m_nl (I : zI) (k : Int32) : Bool := decide (k < 0) || decide (¬ k < I 64 14)
set_option maxRecDepth 100000 in
set_option maxHeartbeats 4000000 in
theorem c_Mo_choice {la : Launch} {G : zG} {I : zI} {J : zJ} {e : Nat} (he : e < 16) (h7 : okQ (I 70 e)) (h8 : okQ (I 71 e)) : zCi la G y_Mo_choice (Cond.code y_Mo_choice prog_8_method_11_code 3 (some .int) :: TBL) (zR 4) [.ref (zad G 64), .int (nI e)] I J (mO e (m_ch I e)) (I) (J) := by
  refine zCi_of (by decide) (by simp [lg_sl, Value.category]) (rfl) (fun X hla hX hR => ?_)
  subst hla
  refine Z_loc (l' := [(0, .ref (zad G 64)), (1, .int (nI e))]) (by simp [lv_args, Value.category, List.lookup]) ?_
  refine Z_aload_n (i := 0) hX d_Mo_choice_0 rfl rfl ?_
  refine Z_getR (k0 := 7) hX d_Mo_choice_1 rfl rfl u_Mo (by decide) lk_Mo_34 rfl ?_
  refine Z_iload_n (i := 1) hX d_Mo_choice_4 rfl rfl ?_
  refine Z_iald hX d_Mo_choice_5 rfl rfl (by omega) (by decide) ?_
  refine Z_iflt (tgt := 20) hX d_Mo_choice_6 rfl (fun h6 => ?_) (fun h6 => ?_)
  · refine Z_aload_n (i := 0) hX d_Mo_choice_20 rfl rfl ?_
    refine Z_getR (k0 := 8) hX d_Mo_choice_21 rfl rfl u_Mo (by decide) lk_Mo_37 rfl ?_
    refine Z_iload_n (i := 1) hX d_Mo_choice_24 rfl rfl ?_
    refine Z_iald hX d_Mo_choice_25 rfl rfl (by omega) (by decide) ?_
    refine Z_iflt (tgt := 62) hX d_Mo_choice_26 rfl (fun h26 => ?_) (fun h26 => ?_)
    · refine Z_aload_n (i := 0) hX d_Mo_choice_62 rfl rfl ?_
      refine Z_iload_n (i := 1) hX d_Mo_choice_63 rfl rfl ?_
      refine Z_aload_n (i := 0) hX d_Mo_choice_64 rfl rfl ?_
      refine Z_getR (k0 := 6) hX d_Mo_choice_65 rfl rfl u_Mo (by decide) lk_Mo_31 rfl ?_
      refine Z_iload_n (i := 1) hX d_Mo_choice_68 rfl rfl ?_
      refine Z_iald hX d_Mo_choice_69 rfl rfl (by omega) (by decide) ?_
      refine Z_cVi2 hX d_Mo_choice_70 (c_Mo_bestOf (by omega)) m_Mo_bestOf rfl rfl lk_Mo_110 ⟨by decide, by decide⟩ ⟨by decide, by decide⟩ (Nat.le_of_ble_eq_true rfl) ?_
      refine Z_istore_n (i := 2) hX d_Mo_choice_73 rfl (by decide) rfl ?_
      refine Z_iload_n (i := 2) hX d_Mo_choice_74 rfl rfl ?_
      refine Z_iflt (tgt := 82) hX d_Mo_choice_75 rfl (fun h75 => ?_) (fun h75 => ?_)
      · have hr := mO_neg h75 he (fun k hk => Nat.lt_trans (m_bo_lt 4 k hk) (by omega))
        refine Z_aload_n (i := 0) hX d_Mo_choice_82 rfl rfl ?_
        refine Z_iload_n (i := 1) hX d_Mo_choice_83 rfl rfl ?_
        refine Z_iconst (v := 0) hX d_Mo_choice_84 rfl ?_
        refine Z_cVi2 hX d_Mo_choice_85 (c_Mo_bestOf (by omega)) m_Mo_bestOf rfl rfl lk_Mo_110 ⟨by decide, by decide⟩ ⟨by decide, by decide⟩ (Nat.le_of_ble_eq_true rfl) ?_
        exact Z_ri (hR _ _ d_Mo_choice_88) (by exact m_ch_x0 h6 (Or.inl h26) hr) rfl rfl
      · obtain ⟨r, hr⟩ := mO_pos h75
        refine Z_iload_n (i := 2) hX d_Mo_choice_78 rfl rfl ?_
        refine Z_goto (tgt := 88) hX d_Mo_choice_79 rfl ?_
        exact Z_ri (hR _ _ d_Mo_choice_88) (by exact m_ch_x1 h6 (Or.inl h26) hr) rfl rfl
    · obtain ⟨k, hk, hk2⟩ := okQ_pos h8 h26
      refine Z_aload_n (i := 0) hX d_Mo_choice_29 rfl rfl ?_
      refine Z_getR (k0 := 17) hX d_Mo_choice_30 rfl rfl u_Mo (by decide) lk_Mo_64 rfl ?_
      refine Z_sipush (v := nI 448) hX d_Mo_choice_33 rfl ?_
      refine Z_iconst (v := nI 4) hX d_Mo_choice_36 rfl ?_
      refine Z_iload_n (i := 1) hX d_Mo_choice_37 rfl rfl ?_
      refine Z_imulN hX d_Mo_choice_38 ?_
      refine Z_iaddN hX d_Mo_choice_39 ?_
      refine Z_aload_n (i := 0) hX d_Mo_choice_40 rfl rfl ?_
      refine Z_getR (k0 := 8) hX d_Mo_choice_41 rfl rfl u_Mo (by decide) lk_Mo_37 rfl ?_
      refine Z_iload_n (i := 1) hX d_Mo_choice_44 rfl rfl ?_
      refine Z_iald hX d_Mo_choice_45 rfl rfl (by omega) (by decide) ?_
      refine Z_top hk2 ?_
      refine Z_iaddN hX d_Mo_choice_46 ?_
      refine Z_iald (k0 := 448 + (4 * e + k)) hX d_Mo_choice_47 rfl (by rw [Nat.add_assoc]) (by omega) (by decide) ?_
      refine Z_ifle (tgt := 62) hX d_Mo_choice_48 rfl (fun h48 => ?_) (fun h48 => ?_)
      · refine Z_aload_n (i := 0) hX d_Mo_choice_62 rfl rfl ?_
        refine Z_iload_n (i := 1) hX d_Mo_choice_63 rfl rfl ?_
        refine Z_aload_n (i := 0) hX d_Mo_choice_64 rfl rfl ?_
        refine Z_getR (k0 := 6) hX d_Mo_choice_65 rfl rfl u_Mo (by decide) lk_Mo_31 rfl ?_
        refine Z_iload_n (i := 1) hX d_Mo_choice_68 rfl rfl ?_
        refine Z_iald hX d_Mo_choice_69 rfl rfl (by omega) (by decide) ?_
        refine Z_cVi2 hX d_Mo_choice_70 (c_Mo_bestOf (by omega)) m_Mo_bestOf rfl rfl lk_Mo_110 ⟨by decide, by decide⟩ ⟨by decide, by decide⟩ (Nat.le_of_ble_eq_true rfl) ?_
        refine Z_istore_n (i := 2) hX d_Mo_choice_73 rfl (by decide) rfl ?_
        refine Z_iload_n (i := 2) hX d_Mo_choice_74 rfl rfl ?_
        refine Z_iflt (tgt := 82) hX d_Mo_choice_75 rfl (fun h75 => ?_) (fun h75 => ?_)
        · have hr := mO_neg h75 he (fun k hk => Nat.lt_trans (m_bo_lt 4 k hk) (by omega))
          refine Z_aload_n (i := 0) hX d_Mo_choice_82 rfl rfl ?_
          refine Z_iload_n (i := 1) hX d_Mo_choice_83 rfl rfl ?_
          refine Z_iconst (v := 0) hX d_Mo_choice_84 rfl ?_
          refine Z_cVi2 hX d_Mo_choice_85 (c_Mo_bestOf (by omega)) m_Mo_bestOf rfl rfl lk_Mo_110 ⟨by decide, by decide⟩ ⟨by decide, by decide⟩ (Nat.le_of_ble_eq_true rfl) ?_
          exact Z_ri (hR _ _ d_Mo_choice_88) (by exact m_ch_x0 h6 (Or.inr ⟨k, hk, hk2, h48⟩) hr) rfl rfl
        · obtain ⟨r, hr⟩ := mO_pos h75
          refine Z_iload_n (i := 2) hX d_Mo_choice_78 rfl rfl ?_
          refine Z_goto (tgt := 88) hX d_Mo_choice_79 rfl ?_
          exact Z_ri (hR _ _ d_Mo_choice_88) (by exact m_ch_x1 h6 (Or.inr ⟨k, hk, hk2, h48⟩) hr) rfl rfl
      · refine Z_iconst (v := nI 4) hX d_Mo_choice_51 rfl ?_
        refine Z_iload_n (i := 1) hX d_Mo_choice_52 rfl rfl ?_
        refine Z_imulN hX d_Mo_choice_53 ?_
        refine Z_aload_n (i := 0) hX d_Mo_choice_54 rfl rfl ?_
        refine Z_getR (k0 := 8) hX d_Mo_choice_55 rfl rfl u_Mo (by decide) lk_Mo_37 rfl ?_
        refine Z_iload_n (i := 1) hX d_Mo_choice_58 rfl rfl ?_
        refine Z_iald hX d_Mo_choice_59 rfl rfl (by omega) (by decide) ?_
        refine Z_top hk2 ?_
        refine Z_iaddN hX d_Mo_choice_60 ?_
        exact Z_ri (hR _ _ d_Mo_choice_61) (by (rw [m_ch_b h6 h26 hk hk2 h48]; rfl)) rfl rfl
  · obtain ⟨k, hk, hk2⟩ := okQ_pos h7 h6
    refine Z_iconst (v := nI 4) hX d_Mo_choice_9 rfl ?_
    refine Z_iload_n (i := 1) hX d_Mo_choice_10 rfl rfl ?_
    refine Z_imulN hX d_Mo_choice_11 ?_
    refine Z_aload_n (i := 0) hX d_Mo_choice_12 rfl rfl ?_
    refine Z_getR (k0 := 7) hX d_Mo_choice_13 rfl rfl u_Mo (by decide) lk_Mo_34 rfl ?_
    refine Z_iload_n (i := 1) hX d_Mo_choice_16 rfl rfl ?_
    refine Z_iald hX d_Mo_choice_17 rfl rfl (by omega) (by decide) ?_
    refine Z_top hk2 ?_
    refine Z_iaddN hX d_Mo_choice_18 ?_
    exact Z_ri (hR _ _ d_Mo_choice_19) (by (rw [m_ch_a h6 hk hk2]; rfl)) rfl rfl

set_option maxRecDepth 100000 in
set_option maxHeartbeats 4000000 in
theorem c_Mo_chooses {la : Launch} {G : zG} {I : zI} {J : zJ} {e : Nat} (he : e < 16) (hM : okM I) (h7 : okQ (I 70 e)) (h8 : okQ (I 71 e)) : zCv la G y_Mo_chooses (Cond.code y_Mo_chooses prog_8_method_12_code 6 none :: TBL) (zR 5) [.ref (zad G 64), .int (nI e)] I J (m_cs I e) (J) := by
  refine zCv_of (by decide) (by simp [lg_sl, Value.category]) (fun X hla hX hR => ?_)
  subst hla
  refine Z_loc (l' := [(0, .ref (zad G 64)), (1, .int (nI e))]) (by simp [lv_args, Value.category, List.lookup]) ?_
  refine Z_iconst (v := nI 4) hX d_Mo_chooses_0 rfl ?_
  refine Z_iload_n (i := 1) hX d_Mo_chooses_1 rfl rfl ?_
  refine Z_imulN hX d_Mo_chooses_2 ?_
  refine Z_istore_n (i := 2) hX d_Mo_chooses_3 rfl (by decide) rfl ?_
  have hL4 : ∀ k i : Nat, k + i = 4 → Z X G 6 0 0 4 [(2, .int (nI (4 * e + i))), (1, .int (nI e)), (0, .ref (zad G 64))] [] (m_c1 I e i) (J) := by
    intro k
    induction k with
    | zero =>
      intro i hi
      obtain rfl : i = 4 := by omega
      refine Z_iload_n (i := 2) hX d_Mo_chooses_4 rfl rfl ?_
      refine Z_iconst (v := nI 4) hX d_Mo_chooses_5 rfl ?_
      refine Z_iload_n (i := 1) hX d_Mo_chooses_6 rfl rfl ?_
      refine Z_imulN hX d_Mo_chooses_7 ?_
      refine Z_iconst (v := nI 4) hX d_Mo_chooses_8 rfl ?_
      refine Z_iaddN hX d_Mo_chooses_9 ?_
      refine Z_icge (tgt := 53) hX d_Mo_chooses_10 rfl (fun h10 => ?_) (fun h => absurd (nI_le (Nat.le_refl _) (by omega)) h)
      refine Z_aload_n (i := 0) hX d_Mo_chooses_53 rfl rfl ?_
      refine Z_iload_n (i := 1) hX d_Mo_chooses_54 rfl rfl ?_
      refine Z_cVi1 hX d_Mo_chooses_55 (c_Mo_choice he (by rw [fr_c1 (by decide)]; exact h7) (by rw [fr_c1 (by decide)]; exact h8)) m_Mo_choice rfl rfl lk_Mo_117 ⟨by decide, by decide⟩ ⟨by decide, by decide⟩ (Nat.le_of_ble_eq_true rfl) ?_
      refine Z_istore_n (i := 2) hX d_Mo_chooses_58 rfl (by decide) rfl ?_
      refine Z_iload_n (i := 2) hX d_Mo_chooses_59 rfl rfl ?_
      refine Z_iflt (tgt := 80) hX d_Mo_chooses_60 rfl (fun h60 => ?_) (fun h60 => ?_)
      · have hr := mO_neg h60 he (fun k hk => Nat.lt_trans (m_ch_lt (by rw [fr_c1 (by decide)]; exact h7) (by rw [fr_c1 (by decide)]; exact h8) hk) (by decide))
        refine Z_loc (l' := [(2, .int (-1)), (1, .int (nI e)), (0, .ref (zad G 64))]) (by rw [hr]; rfl) ?_
        refine Z_iconst (v := 0) hX d_Mo_chooses_80 rfl ?_
        refine Z_istore_n (i := 3) hX d_Mo_chooses_81 rfl (by decide) rfl ?_
        refine Z_aload_n (i := 0) hX d_Mo_chooses_82 rfl rfl ?_
        refine Z_getR (k0 := 17) hX d_Mo_chooses_83 rfl rfl u_Mo (by decide) lk_Mo_64 rfl ?_
        refine Z_sipush (v := nI 528) hX d_Mo_chooses_86 rfl ?_
        refine Z_iload_n (i := 1) hX d_Mo_chooses_89 rfl rfl ?_
        refine Z_iaddN hX d_Mo_chooses_90 ?_
        refine Z_iload_n (i := 2) hX d_Mo_chooses_91 rfl rfl ?_
        refine Z_ifge (tgt := 99) hX d_Mo_chooses_92 rfl (fun h => absurd h (by decide)) (fun h92 => ?_)
        refine Z_iconst (v := (-1)) hX d_Mo_chooses_95 rfl ?_
        refine Z_goto (tgt := 102) hX d_Mo_chooses_96 rfl ?_
        refine Z_iast hX d_Mo_chooses_102 rfl rfl (by omega) (by decide) ?_
        refine Z_iload_n (i := 3) hX d_Mo_chooses_103 rfl rfl ?_
        refine Z_ifeq (tgt := 118) hX d_Mo_chooses_104 rfl (fun h104 => ?_) (fun h => absurd rfl h)
        refine Z_aload_n (i := 0) hX d_Mo_chooses_118 rfl rfl ?_
        refine Z_getR (k0 := 17) hX d_Mo_chooses_119 rfl rfl u_Mo (by decide) lk_Mo_64 rfl ?_
        refine Z_sipush (v := nI 512) hX d_Mo_chooses_122 rfl ?_
        refine Z_iload_n (i := 1) hX d_Mo_chooses_125 rfl rfl ?_
        refine Z_iaddN hX d_Mo_chooses_126 ?_
        refine Z_iload_n (i := 3) hX d_Mo_chooses_127 rfl rfl ?_
        refine Z_ifeq (tgt := 135) hX d_Mo_chooses_128 rfl (fun h128 => ?_) (fun h => absurd rfl h)
        refine Z_cut (pc' := 154) (P := fun v => v = (if (zup (m_c1 I e 4) 79 (528 + e) (zO none)) 79 (544 + e) = 1 then 2 else 0)) ?_ (fun hJ154 => ?_)
        · intro v hv154
          subst hv154
          refine Z_iast hX d_Mo_chooses_154 rfl rfl (by omega) (by decide) ?_
          refine Z_aload_n (i := 0) hX d_Mo_chooses_155 rfl rfl ?_
          refine Z_getR (k0 := 17) hX d_Mo_chooses_156 rfl rfl u_Mo (by decide) lk_Mo_64 rfl ?_
          refine Z_sipush (v := nI 608) hX d_Mo_chooses_159 rfl ?_
          refine Z_iload_n (i := 1) hX d_Mo_chooses_162 rfl rfl ?_
          refine Z_iaddN hX d_Mo_chooses_163 ?_
          refine Z_iload_n (i := 3) hX d_Mo_chooses_164 rfl rfl ?_
          refine Z_ifeq (tgt := 176) hX d_Mo_chooses_165 rfl (fun h165 => ?_) (fun h => absurd rfl h)
          refine Z_iconst (v := (-1)) hX d_Mo_chooses_176 rfl ?_
          refine Z_iast hX d_Mo_chooses_177 rfl rfl (by omega) (by decide) ?_
          refine Z_aload_n (i := 0) hX d_Mo_chooses_178 rfl rfl ?_
          refine Z_getR (k0 := 17) hX d_Mo_chooses_179 rfl rfl u_Mo (by decide) lk_Mo_64 rfl ?_
          refine Z_sipush (v := nI 624) hX d_Mo_chooses_182 rfl ?_
          refine Z_iload_n (i := 1) hX d_Mo_chooses_185 rfl rfl ?_
          refine Z_iaddN hX d_Mo_chooses_186 ?_
          refine Z_iload_n (i := 3) hX d_Mo_chooses_187 rfl rfl ?_
          refine Z_ifeq (tgt := 199) hX d_Mo_chooses_188 rfl (fun h188 => ?_) (fun h => absurd rfl h)
          refine Z_iconst (v := (-1)) hX d_Mo_chooses_199 rfl ?_
          refine Z_iast hX d_Mo_chooses_200 rfl rfl (by omega) (by decide) ?_
          refine Z_mem (I' := (m_s0 (m_c1 I e 4) e none)) rfl rfl ?_
          refine Z_iconst (v := nI 4) hX d_Mo_chooses_201 rfl ?_
          refine Z_iload_n (i := 1) hX d_Mo_chooses_202 rfl rfl ?_
          refine Z_imulN hX d_Mo_chooses_203 ?_
          refine Z_istore hX d_Mo_chooses_204 (by decide) rfl ?_
          have hL206 : ∀ k2 i : Nat, k2 + i = 4 → Z X G 6 0 0 206 [(4, .int (nI (4 * e + i))), (3, .int 0), (2, .int (-1)), (1, .int (nI e)), (0, .ref (zad G 64))] [] (m_fl (m_s0 (m_c1 I e 4) e none) e none false i) J := by
            intro k2
            induction k2 with
            | zero =>
              intro i hi
              obtain rfl : i = 4 := by omega
              refine Z_iload hX d_Mo_chooses_206 rfl ?_
              refine Z_iconst (v := nI 4) hX d_Mo_chooses_208 rfl ?_
              refine Z_iload_n (i := 1) hX d_Mo_chooses_209 rfl rfl ?_
              refine Z_imulN hX d_Mo_chooses_210 ?_
              refine Z_iconst (v := nI 4) hX d_Mo_chooses_211 rfl ?_
              refine Z_iaddN hX d_Mo_chooses_212 ?_
              refine Z_icge (tgt := 365) hX d_Mo_chooses_213 rfl (fun h213 => ?_) (fun h => absurd (nI_le (Nat.le_refl _) (by omega)) h)
              refine Z_iload_n (i := 3) hX d_Mo_chooses_365 rfl rfl ?_
              refine Z_ifeq (tgt := 416) hX d_Mo_chooses_366 rfl (fun h366 => ?_) (fun h => absurd rfl h)
              refine Z_aload_n (i := 0) hX d_Mo_chooses_416 rfl rfl ?_
              refine Z_getR (k0 := 17) hX d_Mo_chooses_417 rfl rfl u_Mo (by decide) lk_Mo_64 rfl ?_
              refine Z_sipush (v := nI 512) hX d_Mo_chooses_420 rfl ?_
              refine Z_iload_n (i := 1) hX d_Mo_chooses_423 rfl rfl ?_
              refine Z_iaddN hX d_Mo_chooses_424 ?_
              refine Z_iald hX d_Mo_chooses_425 rfl rfl (by omega) (by decide) ?_
              refine Z_iconst (v := 2) hX d_Mo_chooses_426 rfl ?_
              refine Z_icne (tgt := 460) hX d_Mo_chooses_427 rfl (fun h427 => ?_) (fun h427 => ?_)
              · refine Z_aload_n (i := 0) hX d_Mo_chooses_460 rfl rfl ?_
                refine Z_getR (k0 := 17) hX d_Mo_chooses_461 rfl rfl u_Mo (by decide) lk_Mo_64 rfl ?_
                refine Z_sipush (v := nI 560) hX d_Mo_chooses_464 rfl ?_
                refine Z_iload_n (i := 1) hX d_Mo_chooses_467 rfl rfl ?_
                refine Z_iaddN hX d_Mo_chooses_468 ?_
                refine Z_aload_n (i := 0) hX d_Mo_chooses_469 rfl rfl ?_
                refine Z_getR (k0 := 4) hX d_Mo_chooses_470 rfl rfl u_Mo (by decide) lk_Mo_25 rfl ?_
                refine Z_iload_n (i := 1) hX d_Mo_chooses_473 rfl rfl ?_
                refine Z_iald hX d_Mo_chooses_474 rfl rfl (by omega) (by decide) ?_
                refine Z_iast hX d_Mo_chooses_475 rfl rfl (by omega) (by decide) ?_
                exact Z_mem (by (rw [m_cs_0 hr, m_o0, if_neg h427])) (by rfl) (hR _ _ d_Mo_chooses_476)
              · refine Z_aload_n (i := 0) hX d_Mo_chooses_430 rfl rfl ?_
                refine Z_getR (k0 := 17) hX d_Mo_chooses_431 rfl rfl u_Mo (by decide) lk_Mo_64 rfl ?_
                refine Z_sipush (v := nI 560) hX d_Mo_chooses_434 rfl ?_
                refine Z_iload_n (i := 1) hX d_Mo_chooses_437 rfl rfl ?_
                refine Z_iaddN hX d_Mo_chooses_438 ?_
                refine Z_aload_n (i := 0) hX d_Mo_chooses_439 rfl rfl ?_
                refine Z_getR (k0 := 17) hX d_Mo_chooses_440 rfl rfl u_Mo (by decide) lk_Mo_64 rfl ?_
                refine Z_sipush (v := nI 560) hX d_Mo_chooses_443 rfl ?_
                refine Z_iload_n (i := 1) hX d_Mo_chooses_446 rfl rfl ?_
                refine Z_iaddN hX d_Mo_chooses_447 ?_
                refine Z_iald hX d_Mo_chooses_448 rfl rfl (by omega) (by decide) ?_
                refine Z_aload_n (i := 0) hX d_Mo_chooses_449 rfl rfl ?_
                refine Z_getR (k0 := 5) hX d_Mo_chooses_450 rfl rfl u_Mo (by decide) lk_Mo_28 rfl ?_
                refine Z_iload_n (i := 1) hX d_Mo_chooses_453 rfl rfl ?_
                refine Z_iald hX d_Mo_chooses_454 rfl rfl (by omega) (by decide) ?_
                refine Z_iadd hX d_Mo_chooses_455 ?_
                refine Z_iast hX d_Mo_chooses_456 rfl rfl (by omega) (by decide) ?_
                refine Z_goto (tgt := 476) hX d_Mo_chooses_457 rfl ?_
                exact Z_mem (by (rw [m_cs_0 hr, m_o0, if_pos h427])) (by rfl) (hR _ _ d_Mo_chooses_476)
            | succ k2 ih2 =>
              intro i hi
              have hi2 : i < 4 := by omega
              refine Z_iload hX d_Mo_chooses_206 rfl ?_
              refine Z_iconst (v := nI 4) hX d_Mo_chooses_208 rfl ?_
              refine Z_iload_n (i := 1) hX d_Mo_chooses_209 rfl rfl ?_
              refine Z_imulN hX d_Mo_chooses_210 ?_
              refine Z_iconst (v := nI 4) hX d_Mo_chooses_211 rfl ?_
              refine Z_iaddN hX d_Mo_chooses_212 ?_
              refine Z_icge (tgt := 365) hX d_Mo_chooses_213 rfl (fun h => absurd h (nI_ge (by omega) (by omega))) (fun h213 => ?_)
              refine Z_cut (pc' := 231) (P := fun v => v = zB (m_pl none false i)) ?_ (fun hJ231 => ?_)
              · intro v hv231
                subst hv231
                refine Z_istore hX d_Mo_chooses_231 (by decide) rfl ?_
                refine Z_aload_n (i := 0) hX d_Mo_chooses_233 rfl rfl ?_
                refine Z_getR (k0 := 21) hX d_Mo_chooses_234 rfl rfl u_Mo (by decide) lk_Mo_77 rfl ?_
                refine Z_iload hX d_Mo_chooses_237 rfl ?_
                refine Z_cut (pc' := 285) (P := fun v => v = m_q0 (m_fl (m_s0 (m_c1 I e 4) e none) e none false i) e none false i) ?_ (fun hJ285 => ?_)
                · intro v hv285
                  subst hv285
                  refine Z_iast hX d_Mo_chooses_285 rfl rfl (by omega) (by decide) ?_
                  refine Z_aload_n (i := 0) hX d_Mo_chooses_286 rfl rfl ?_
                  refine Z_getR (k0 := 21) hX d_Mo_chooses_287 rfl rfl u_Mo (by decide) lk_Mo_77 rfl ?_
                  refine Z_bipush (v := nI 64) hX d_Mo_chooses_290 rfl ?_
                  refine Z_iload hX d_Mo_chooses_292 rfl ?_
                  refine Z_iaddN hX d_Mo_chooses_294 ?_
                  refine Z_cut (pc' := 311) (P := fun v => v = m_h0 (zup (m_fl (m_s0 (m_c1 I e 4) e none) e none false i) 83 (4 * e + i) (m_q0 (m_fl (m_s0 (m_c1 I e 4) e none) e none false i) e none false i)) e none false i) ?_ (fun hJ311 => ?_)
                  · intro v hv311
                    subst hv311
                    refine Z_iast hX d_Mo_chooses_311 rfl rfl (by omega) (by decide) ?_
                    refine Z_aload_n (i := 0) hX d_Mo_chooses_312 rfl rfl ?_
                    refine Z_getR (k0 := 21) hX d_Mo_chooses_313 rfl rfl u_Mo (by decide) lk_Mo_77 rfl ?_
                    refine Z_sipush (v := nI 128) hX d_Mo_chooses_316 rfl ?_
                    refine Z_iload hX d_Mo_chooses_319 rfl ?_
                    refine Z_iaddN hX d_Mo_chooses_321 ?_
                    refine Z_cut (pc' := 358) (P := fun v => v = m_t0 (zup (zup (m_fl (m_s0 (m_c1 I e 4) e none) e none false i) 83 (4 * e + i) (m_q0 (m_fl (m_s0 (m_c1 I e 4) e none) e none false i) e none false i)) 83 (64 + (4 * e + i)) (m_h0 (zup (m_fl (m_s0 (m_c1 I e 4) e none) e none false i) 83 (4 * e + i) (m_q0 (m_fl (m_s0 (m_c1 I e 4) e none) e none false i) e none false i)) e none false i)) e none false i) ?_ (fun hJ358 => ?_)
                    · intro v hv358
                      subst hv358
                      refine Z_iast hX d_Mo_chooses_358 rfl rfl (by omega) (by decide) ?_
                      refine Z_iinc (v := nI (4 * e + (i + 1))) hX d_Mo_chooses_359 rfl (nI4s e i) (by decide) rfl ?_
                      refine Z_goto (tgt := 206) hX d_Mo_chooses_362 rfl ?_
                      refine Z_loc ?_ (ih2 (i + 1) (by omega))
                      rfl
                    · refine Z_iload hX d_Mo_chooses_322 rfl ?_
                      refine Z_ifeq (tgt := 331) hX d_Mo_chooses_324 rfl (fun h => absurd ((zB_eq h).symm.trans (m_pl_f _ _)) (by decide)) (fun h324 => ?_)
                      refine Z_iconst (v := 0) hX d_Mo_chooses_327 rfl ?_
                      refine Z_goto (tgt := 358) hX d_Mo_chooses_328 rfl ?_
                      exact hJ358 _ (by (rw [m_t0, if_pos (m_pl_f _ _)]))
                  · refine Z_iload hX d_Mo_chooses_295 rfl ?_
                    refine Z_ifeq (tgt := 304) hX d_Mo_chooses_297 rfl (fun h => absurd ((zB_eq h).symm.trans (m_pl_f _ _)) (by decide)) (fun h297 => ?_)
                    refine Z_iconst (v := 0) hX d_Mo_chooses_300 rfl ?_
                    refine Z_goto (tgt := 311) hX d_Mo_chooses_301 rfl ?_
                    exact hJ311 _ (by (rw [m_h0, if_pos (m_pl_f _ _)]))
                · refine Z_aload_n (i := 0) hX d_Mo_chooses_239 rfl rfl ?_
                  refine Z_getR (k0 := 11) hX d_Mo_chooses_240 rfl rfl u_Mo (by decide) lk_Mo_46 rfl ?_
                  refine Z_iload hX d_Mo_chooses_243 rfl ?_
                  refine Z_iald hX d_Mo_chooses_245 rfl rfl (by omega) (by decide) ?_
                  refine Z_ifge (tgt := 253) hX d_Mo_chooses_246 rfl (fun h246 => ?_) (fun h246 => ?_)
                  · refine Z_iload hX d_Mo_chooses_253 rfl ?_
                    refine Z_iload_n (i := 2) hX d_Mo_chooses_255 rfl rfl ?_
                    refine Z_icne (tgt := 264) hX d_Mo_chooses_256 rfl (fun h256 => ?_) (fun h => absurd h (nI_neg1 (by omega)))
                    refine Z_iload_n (i := 3) hX d_Mo_chooses_264 rfl rfl ?_
                    refine Z_ifeq (tgt := 276) hX d_Mo_chooses_265 rfl (fun h265 => ?_) (fun h => absurd rfl h)
                    refine Z_bipush (v := 8) hX d_Mo_chooses_276 rfl ?_
                    refine Z_aload_n (i := 0) hX d_Mo_chooses_278 rfl rfl ?_
                    refine Z_getR (k0 := 3) hX d_Mo_chooses_279 rfl rfl u_Mo (by decide) lk_Mo_21 rfl ?_
                    refine Z_iload_n (i := 1) hX d_Mo_chooses_282 rfl rfl ?_
                    refine Z_iald hX d_Mo_chooses_283 rfl rfl (by omega) (by decide) ?_
                    refine Z_iadd hX d_Mo_chooses_284 ?_
                    exact hJ285 _ (by (rw [m_q0, if_pos h246, if_neg (fun z => nomatch z), if_neg (by decide)]))
                  · refine Z_iconst (v := (-1)) hX d_Mo_chooses_249 rfl ?_
                    refine Z_goto (tgt := 285) hX d_Mo_chooses_250 rfl ?_
                    exact hJ285 _ (by (rw [m_q0, if_neg h246]))
              · refine Z_iload hX d_Mo_chooses_216 rfl ?_
                refine Z_iload_n (i := 2) hX d_Mo_chooses_218 rfl rfl ?_
                refine Z_iceq (tgt := 226) hX d_Mo_chooses_219 rfl (fun h => absurd h (nI_neg1 (by omega))) (fun h219 => ?_)
                refine Z_iload_n (i := 3) hX d_Mo_chooses_222 rfl rfl ?_
                refine Z_ifne (tgt := 230) hX d_Mo_chooses_223 rfl (fun h => absurd rfl h) (fun h223 => ?_)
                refine Z_iconst (v := 1) hX d_Mo_chooses_226 rfl ?_
                refine Z_goto (tgt := 231) hX d_Mo_chooses_227 rfl ?_
                exact hJ231 _ (by rfl)
          refine Z_loc ?_ (hL206 4 0 (by omega))
          rfl
        · refine Z_aload_n (i := 0) hX d_Mo_chooses_135 rfl rfl ?_
          refine Z_getR (k0 := 17) hX d_Mo_chooses_136 rfl rfl u_Mo (by decide) lk_Mo_64 rfl ?_
          refine Z_sipush (v := nI 544) hX d_Mo_chooses_139 rfl ?_
          refine Z_iload_n (i := 1) hX d_Mo_chooses_142 rfl rfl ?_
          refine Z_iaddN hX d_Mo_chooses_143 ?_
          refine Z_iald hX d_Mo_chooses_144 rfl rfl (by omega) (by decide) ?_
          refine Z_iconst (v := 1) hX d_Mo_chooses_145 rfl ?_
          refine Z_icne (tgt := 153) hX d_Mo_chooses_146 rfl (fun h146 => ?_) (fun h146 => ?_)
          · refine Z_iconst (v := 0) hX d_Mo_chooses_153 rfl ?_
            exact hJ154 _ (by first | exact (if_pos h146).symm | exact (if_neg h146).symm)
          · refine Z_iconst (v := 2) hX d_Mo_chooses_149 rfl ?_
            refine Z_goto (tgt := 154) hX d_Mo_chooses_150 rfl ?_
            exact hJ154 _ (by first | exact (if_pos h146).symm | exact (if_neg h146).symm)
      · obtain ⟨k, hr⟩ := mO_pos h60
        have hk := m_ch_lt (by rw [fr_c1 (by decide)]; exact h7) (by rw [fr_c1 (by decide)]; exact h8) hr
        refine Z_loc (l' := [(2, .int (nI (4 * e + k))), (1, .int (nI e)), (0, .ref (zad G 64))]) (by rw [hr]; rfl) ?_
        refine Z_aload_n (i := 0) hX d_Mo_chooses_63 rfl rfl ?_
        refine Z_getR (k0 := 17) hX d_Mo_chooses_64 rfl rfl u_Mo (by decide) lk_Mo_64 rfl ?_
        refine Z_sipush (v := nI 448) hX d_Mo_chooses_67 rfl ?_
        refine Z_iload_n (i := 2) hX d_Mo_chooses_70 rfl rfl ?_
        refine Z_iaddN hX d_Mo_chooses_71 ?_
        refine Z_iald hX d_Mo_chooses_72 rfl rfl (by omega) (by decide) ?_
        refine Z_ifle (tgt := 80) hX d_Mo_chooses_73 rfl (fun h73 => ?_) (fun h73 => ?_)
        · refine Z_iconst (v := 0) hX d_Mo_chooses_80 rfl ?_
          refine Z_istore_n (i := 3) hX d_Mo_chooses_81 rfl (by decide) rfl ?_
          refine Z_aload_n (i := 0) hX d_Mo_chooses_82 rfl rfl ?_
          refine Z_getR (k0 := 17) hX d_Mo_chooses_83 rfl rfl u_Mo (by decide) lk_Mo_64 rfl ?_
          refine Z_sipush (v := nI 528) hX d_Mo_chooses_86 rfl ?_
          refine Z_iload_n (i := 1) hX d_Mo_chooses_89 rfl rfl ?_
          refine Z_iaddN hX d_Mo_chooses_90 ?_
          refine Z_iload_n (i := 2) hX d_Mo_chooses_91 rfl rfl ?_
          refine Z_ifge (tgt := 99) hX d_Mo_chooses_92 rfl (fun h92 => ?_) (fun h => absurd (nI_pos' (by omega)) h)
          refine Z_iload_n (i := 2) hX d_Mo_chooses_99 rfl rfl ?_
          refine Z_iconst (v := 4) hX d_Mo_chooses_100 rfl ?_
          refine Z_irem hX d_Mo_chooses_101 (by decide) ?_
          refine Z_top (y := nI k) (p_rem4 he hk) ?_
          refine Z_iast hX d_Mo_chooses_102 rfl rfl (by omega) (by decide) ?_
          refine Z_iload_n (i := 3) hX d_Mo_chooses_103 rfl rfl ?_
          refine Z_ifeq (tgt := 118) hX d_Mo_chooses_104 rfl (fun h104 => ?_) (fun h => absurd rfl h)
          refine Z_aload_n (i := 0) hX d_Mo_chooses_118 rfl rfl ?_
          refine Z_getR (k0 := 17) hX d_Mo_chooses_119 rfl rfl u_Mo (by decide) lk_Mo_64 rfl ?_
          refine Z_sipush (v := nI 512) hX d_Mo_chooses_122 rfl ?_
          refine Z_iload_n (i := 1) hX d_Mo_chooses_125 rfl rfl ?_
          refine Z_iaddN hX d_Mo_chooses_126 ?_
          refine Z_iload_n (i := 3) hX d_Mo_chooses_127 rfl rfl ?_
          refine Z_ifeq (tgt := 135) hX d_Mo_chooses_128 rfl (fun h128 => ?_) (fun h => absurd rfl h)
          refine Z_cut (pc' := 154) (P := fun v => v = (if (zup (m_c1 I e 4) 79 (528 + e) (zO (some k))) 79 (544 + e) = 1 then 2 else 0)) ?_ (fun hJ154 => ?_)
          · intro v hv154
            subst hv154
            refine Z_iast hX d_Mo_chooses_154 rfl rfl (by omega) (by decide) ?_
            refine Z_aload_n (i := 0) hX d_Mo_chooses_155 rfl rfl ?_
            refine Z_getR (k0 := 17) hX d_Mo_chooses_156 rfl rfl u_Mo (by decide) lk_Mo_64 rfl ?_
            refine Z_sipush (v := nI 608) hX d_Mo_chooses_159 rfl ?_
            refine Z_iload_n (i := 1) hX d_Mo_chooses_162 rfl rfl ?_
            refine Z_iaddN hX d_Mo_chooses_163 ?_
            refine Z_iload_n (i := 3) hX d_Mo_chooses_164 rfl rfl ?_
            refine Z_ifeq (tgt := 176) hX d_Mo_chooses_165 rfl (fun h165 => ?_) (fun h => absurd rfl h)
            refine Z_iconst (v := (-1)) hX d_Mo_chooses_176 rfl ?_
            refine Z_iast hX d_Mo_chooses_177 rfl rfl (by omega) (by decide) ?_
            refine Z_aload_n (i := 0) hX d_Mo_chooses_178 rfl rfl ?_
            refine Z_getR (k0 := 17) hX d_Mo_chooses_179 rfl rfl u_Mo (by decide) lk_Mo_64 rfl ?_
            refine Z_sipush (v := nI 624) hX d_Mo_chooses_182 rfl ?_
            refine Z_iload_n (i := 1) hX d_Mo_chooses_185 rfl rfl ?_
            refine Z_iaddN hX d_Mo_chooses_186 ?_
            refine Z_iload_n (i := 3) hX d_Mo_chooses_187 rfl rfl ?_
            refine Z_ifeq (tgt := 199) hX d_Mo_chooses_188 rfl (fun h188 => ?_) (fun h => absurd rfl h)
            refine Z_iconst (v := (-1)) hX d_Mo_chooses_199 rfl ?_
            refine Z_iast hX d_Mo_chooses_200 rfl rfl (by omega) (by decide) ?_
            refine Z_mem (I' := (m_s0 (m_c1 I e 4) e (some k))) rfl rfl ?_
            refine Z_iconst (v := nI 4) hX d_Mo_chooses_201 rfl ?_
            refine Z_iload_n (i := 1) hX d_Mo_chooses_202 rfl rfl ?_
            refine Z_imulN hX d_Mo_chooses_203 ?_
            refine Z_istore hX d_Mo_chooses_204 (by decide) rfl ?_
            have hL206 : ∀ k2 i : Nat, k2 + i = 4 → Z X G 6 0 0 206 [(4, .int (nI (4 * e + i))), (3, .int 0), (2, .int (nI (4 * e + k))), (1, .int (nI e)), (0, .ref (zad G 64))] [] (m_fl (m_s0 (m_c1 I e 4) e (some k)) e (some k) false i) J := by
              intro k2
              induction k2 with
              | zero =>
                intro i hi
                obtain rfl : i = 4 := by omega
                refine Z_iload hX d_Mo_chooses_206 rfl ?_
                refine Z_iconst (v := nI 4) hX d_Mo_chooses_208 rfl ?_
                refine Z_iload_n (i := 1) hX d_Mo_chooses_209 rfl rfl ?_
                refine Z_imulN hX d_Mo_chooses_210 ?_
                refine Z_iconst (v := nI 4) hX d_Mo_chooses_211 rfl ?_
                refine Z_iaddN hX d_Mo_chooses_212 ?_
                refine Z_icge (tgt := 365) hX d_Mo_chooses_213 rfl (fun h213 => ?_) (fun h => absurd (nI_le (Nat.le_refl _) (by omega)) h)
                refine Z_iload_n (i := 3) hX d_Mo_chooses_365 rfl rfl ?_
                refine Z_ifeq (tgt := 416) hX d_Mo_chooses_366 rfl (fun h366 => ?_) (fun h => absurd rfl h)
                refine Z_aload_n (i := 0) hX d_Mo_chooses_416 rfl rfl ?_
                refine Z_getR (k0 := 17) hX d_Mo_chooses_417 rfl rfl u_Mo (by decide) lk_Mo_64 rfl ?_
                refine Z_sipush (v := nI 512) hX d_Mo_chooses_420 rfl ?_
                refine Z_iload_n (i := 1) hX d_Mo_chooses_423 rfl rfl ?_
                refine Z_iaddN hX d_Mo_chooses_424 ?_
                refine Z_iald hX d_Mo_chooses_425 rfl rfl (by omega) (by decide) ?_
                refine Z_iconst (v := 2) hX d_Mo_chooses_426 rfl ?_
                refine Z_icne (tgt := 460) hX d_Mo_chooses_427 rfl (fun h427 => ?_) (fun h427 => ?_)
                · refine Z_aload_n (i := 0) hX d_Mo_chooses_460 rfl rfl ?_
                  refine Z_getR (k0 := 17) hX d_Mo_chooses_461 rfl rfl u_Mo (by decide) lk_Mo_64 rfl ?_
                  refine Z_sipush (v := nI 560) hX d_Mo_chooses_464 rfl ?_
                  refine Z_iload_n (i := 1) hX d_Mo_chooses_467 rfl rfl ?_
                  refine Z_iaddN hX d_Mo_chooses_468 ?_
                  refine Z_aload_n (i := 0) hX d_Mo_chooses_469 rfl rfl ?_
                  refine Z_getR (k0 := 4) hX d_Mo_chooses_470 rfl rfl u_Mo (by decide) lk_Mo_25 rfl ?_
                  refine Z_iload_n (i := 1) hX d_Mo_chooses_473 rfl rfl ?_
                  refine Z_iald hX d_Mo_chooses_474 rfl rfl (by omega) (by decide) ?_
                  refine Z_iast hX d_Mo_chooses_475 rfl rfl (by omega) (by decide) ?_
                  exact Z_mem (by (rw [m_cs_1 hr h73, m_o0, if_neg h427])) (by rfl) (hR _ _ d_Mo_chooses_476)
                · refine Z_aload_n (i := 0) hX d_Mo_chooses_430 rfl rfl ?_
                  refine Z_getR (k0 := 17) hX d_Mo_chooses_431 rfl rfl u_Mo (by decide) lk_Mo_64 rfl ?_
                  refine Z_sipush (v := nI 560) hX d_Mo_chooses_434 rfl ?_
                  refine Z_iload_n (i := 1) hX d_Mo_chooses_437 rfl rfl ?_
                  refine Z_iaddN hX d_Mo_chooses_438 ?_
                  refine Z_aload_n (i := 0) hX d_Mo_chooses_439 rfl rfl ?_
                  refine Z_getR (k0 := 17) hX d_Mo_chooses_440 rfl rfl u_Mo (by decide) lk_Mo_64 rfl ?_
                  refine Z_sipush (v := nI 560) hX d_Mo_chooses_443 rfl ?_
                  refine Z_iload_n (i := 1) hX d_Mo_chooses_446 rfl rfl ?_
                  refine Z_iaddN hX d_Mo_chooses_447 ?_
                  refine Z_iald hX d_Mo_chooses_448 rfl rfl (by omega) (by decide) ?_
                  refine Z_aload_n (i := 0) hX d_Mo_chooses_449 rfl rfl ?_
                  refine Z_getR (k0 := 5) hX d_Mo_chooses_450 rfl rfl u_Mo (by decide) lk_Mo_28 rfl ?_
                  refine Z_iload_n (i := 1) hX d_Mo_chooses_453 rfl rfl ?_
                  refine Z_iald hX d_Mo_chooses_454 rfl rfl (by omega) (by decide) ?_
                  refine Z_iadd hX d_Mo_chooses_455 ?_
                  refine Z_iast hX d_Mo_chooses_456 rfl rfl (by omega) (by decide) ?_
                  refine Z_goto (tgt := 476) hX d_Mo_chooses_457 rfl ?_
                  exact Z_mem (by (rw [m_cs_1 hr h73, m_o0, if_pos h427])) (by rfl) (hR _ _ d_Mo_chooses_476)
              | succ k2 ih2 =>
                intro i hi
                have hi2 : i < 4 := by omega
                refine Z_iload hX d_Mo_chooses_206 rfl ?_
                refine Z_iconst (v := nI 4) hX d_Mo_chooses_208 rfl ?_
                refine Z_iload_n (i := 1) hX d_Mo_chooses_209 rfl rfl ?_
                refine Z_imulN hX d_Mo_chooses_210 ?_
                refine Z_iconst (v := nI 4) hX d_Mo_chooses_211 rfl ?_
                refine Z_iaddN hX d_Mo_chooses_212 ?_
                refine Z_icge (tgt := 365) hX d_Mo_chooses_213 rfl (fun h => absurd h (nI_ge (by omega) (by omega))) (fun h213 => ?_)
                refine Z_cut (pc' := 231) (P := fun v => v = zB (m_pl (some k) false i)) ?_ (fun hJ231 => ?_)
                · intro v hv231
                  subst hv231
                  refine Z_istore hX d_Mo_chooses_231 (by decide) rfl ?_
                  refine Z_aload_n (i := 0) hX d_Mo_chooses_233 rfl rfl ?_
                  refine Z_getR (k0 := 21) hX d_Mo_chooses_234 rfl rfl u_Mo (by decide) lk_Mo_77 rfl ?_
                  refine Z_iload hX d_Mo_chooses_237 rfl ?_
                  refine Z_cut (pc' := 285) (P := fun v => v = m_q0 (m_fl (m_s0 (m_c1 I e 4) e (some k)) e (some k) false i) e (some k) false i) ?_ (fun hJ285 => ?_)
                  · intro v hv285
                    subst hv285
                    refine Z_iast hX d_Mo_chooses_285 rfl rfl (by omega) (by decide) ?_
                    refine Z_aload_n (i := 0) hX d_Mo_chooses_286 rfl rfl ?_
                    refine Z_getR (k0 := 21) hX d_Mo_chooses_287 rfl rfl u_Mo (by decide) lk_Mo_77 rfl ?_
                    refine Z_bipush (v := nI 64) hX d_Mo_chooses_290 rfl ?_
                    refine Z_iload hX d_Mo_chooses_292 rfl ?_
                    refine Z_iaddN hX d_Mo_chooses_294 ?_
                    refine Z_cut (pc' := 311) (P := fun v => v = m_h0 (zup (m_fl (m_s0 (m_c1 I e 4) e (some k)) e (some k) false i) 83 (4 * e + i) (m_q0 (m_fl (m_s0 (m_c1 I e 4) e (some k)) e (some k) false i) e (some k) false i)) e (some k) false i) ?_ (fun hJ311 => ?_)
                    · intro v hv311
                      subst hv311
                      refine Z_iast hX d_Mo_chooses_311 rfl rfl (by omega) (by decide) ?_
                      refine Z_aload_n (i := 0) hX d_Mo_chooses_312 rfl rfl ?_
                      refine Z_getR (k0 := 21) hX d_Mo_chooses_313 rfl rfl u_Mo (by decide) lk_Mo_77 rfl ?_
                      refine Z_sipush (v := nI 128) hX d_Mo_chooses_316 rfl ?_
                      refine Z_iload hX d_Mo_chooses_319 rfl ?_
                      refine Z_iaddN hX d_Mo_chooses_321 ?_
                      refine Z_cut (pc' := 358) (P := fun v => v = m_t0 (zup (zup (m_fl (m_s0 (m_c1 I e 4) e (some k)) e (some k) false i) 83 (4 * e + i) (m_q0 (m_fl (m_s0 (m_c1 I e 4) e (some k)) e (some k) false i) e (some k) false i)) 83 (64 + (4 * e + i)) (m_h0 (zup (m_fl (m_s0 (m_c1 I e 4) e (some k)) e (some k) false i) 83 (4 * e + i) (m_q0 (m_fl (m_s0 (m_c1 I e 4) e (some k)) e (some k) false i) e (some k) false i)) e (some k) false i)) e (some k) false i) ?_ (fun hJ358 => ?_)
                      · intro v hv358
                        subst hv358
                        refine Z_iast hX d_Mo_chooses_358 rfl rfl (by omega) (by decide) ?_
                        refine Z_iinc (v := nI (4 * e + (i + 1))) hX d_Mo_chooses_359 rfl (nI4s e i) (by decide) rfl ?_
                        refine Z_goto (tgt := 206) hX d_Mo_chooses_362 rfl ?_
                        refine Z_loc ?_ (ih2 (i + 1) (by omega))
                        rfl
                      · refine Z_iload hX d_Mo_chooses_322 rfl ?_
                        refine Z_ifeq (tgt := 331) hX d_Mo_chooses_324 rfl (fun h => absurd ((zB_eq h).symm.trans (m_pl_f _ _)) (by decide)) (fun h324 => ?_)
                        refine Z_iconst (v := 0) hX d_Mo_chooses_327 rfl ?_
                        refine Z_goto (tgt := 358) hX d_Mo_chooses_328 rfl ?_
                        exact hJ358 _ (by (rw [m_t0, if_pos (m_pl_f _ _)]))
                    · refine Z_iload hX d_Mo_chooses_295 rfl ?_
                      refine Z_ifeq (tgt := 304) hX d_Mo_chooses_297 rfl (fun h => absurd ((zB_eq h).symm.trans (m_pl_f _ _)) (by decide)) (fun h297 => ?_)
                      refine Z_iconst (v := 0) hX d_Mo_chooses_300 rfl ?_
                      refine Z_goto (tgt := 311) hX d_Mo_chooses_301 rfl ?_
                      exact hJ311 _ (by (rw [m_h0, if_pos (m_pl_f _ _)]))
                  · refine Z_aload_n (i := 0) hX d_Mo_chooses_239 rfl rfl ?_
                    refine Z_getR (k0 := 11) hX d_Mo_chooses_240 rfl rfl u_Mo (by decide) lk_Mo_46 rfl ?_
                    refine Z_iload hX d_Mo_chooses_243 rfl ?_
                    refine Z_iald hX d_Mo_chooses_245 rfl rfl (by omega) (by decide) ?_
                    refine Z_ifge (tgt := 253) hX d_Mo_chooses_246 rfl (fun h246 => ?_) (fun h246 => ?_)
                    · refine Z_iload hX d_Mo_chooses_253 rfl ?_
                      refine Z_iload_n (i := 2) hX d_Mo_chooses_255 rfl rfl ?_
                      refine Z_icne (tgt := 264) hX d_Mo_chooses_256 rfl (fun h256 => ?_) (fun h256 => ?_)
                      · refine Z_iload_n (i := 3) hX d_Mo_chooses_264 rfl rfl ?_
                        refine Z_ifeq (tgt := 276) hX d_Mo_chooses_265 rfl (fun h265 => ?_) (fun h => absurd rfl h)
                        refine Z_bipush (v := 8) hX d_Mo_chooses_276 rfl ?_
                        refine Z_aload_n (i := 0) hX d_Mo_chooses_278 rfl rfl ?_
                        refine Z_getR (k0 := 3) hX d_Mo_chooses_279 rfl rfl u_Mo (by decide) lk_Mo_21 rfl ?_
                        refine Z_iload_n (i := 1) hX d_Mo_chooses_282 rfl rfl ?_
                        refine Z_iald hX d_Mo_chooses_283 rfl rfl (by omega) (by decide) ?_
                        refine Z_iadd hX d_Mo_chooses_284 ?_
                        exact hJ285 _ (by (rw [m_q0, if_pos h246, if_neg (fun z => h256 ((nI4_eq he hi2 hk).mpr (Option.some.inj z))), if_neg (by decide)]))
                      · refine Z_bipush (v := 7) hX d_Mo_chooses_259 rfl ?_
                        refine Z_goto (tgt := 285) hX d_Mo_chooses_261 rfl ?_
                        exact hJ285 _ (by (rw [m_q0, if_pos h246, if_pos (by rw [(nI4_eq he hi2 hk).mp h256])]))
                    · refine Z_iconst (v := (-1)) hX d_Mo_chooses_249 rfl ?_
                      refine Z_goto (tgt := 285) hX d_Mo_chooses_250 rfl ?_
                      exact hJ285 _ (by (rw [m_q0, if_neg h246]))
                · refine Z_iload hX d_Mo_chooses_216 rfl ?_
                  refine Z_iload_n (i := 2) hX d_Mo_chooses_218 rfl rfl ?_
                  refine Z_iceq (tgt := 226) hX d_Mo_chooses_219 rfl (fun h219 => ?_) (fun h219 => ?_)
                  · refine Z_iconst (v := 1) hX d_Mo_chooses_226 rfl ?_
                    refine Z_goto (tgt := 231) hX d_Mo_chooses_227 rfl ?_
                    exact hJ231 _ (by (have h9 := (nI4_eq he hi2 hk).mp h219; simp [m_pl, zB, h9]))
                  · refine Z_iload_n (i := 3) hX d_Mo_chooses_222 rfl rfl ?_
                    refine Z_ifne (tgt := 230) hX d_Mo_chooses_223 rfl (fun h => absurd rfl h) (fun h223 => ?_)
                    refine Z_iconst (v := 1) hX d_Mo_chooses_226 rfl ?_
                    refine Z_goto (tgt := 231) hX d_Mo_chooses_227 rfl ?_
                    exact hJ231 _ (by (have h9 : ¬ k = i := fun z => h219 ((nI4_eq he hi2 hk).mpr z); simp [m_pl, zB, h9]))
            refine Z_loc ?_ (hL206 4 0 (by omega))
            rfl
          · refine Z_aload_n (i := 0) hX d_Mo_chooses_135 rfl rfl ?_
            refine Z_getR (k0 := 17) hX d_Mo_chooses_136 rfl rfl u_Mo (by decide) lk_Mo_64 rfl ?_
            refine Z_sipush (v := nI 544) hX d_Mo_chooses_139 rfl ?_
            refine Z_iload_n (i := 1) hX d_Mo_chooses_142 rfl rfl ?_
            refine Z_iaddN hX d_Mo_chooses_143 ?_
            refine Z_iald hX d_Mo_chooses_144 rfl rfl (by omega) (by decide) ?_
            refine Z_iconst (v := 1) hX d_Mo_chooses_145 rfl ?_
            refine Z_icne (tgt := 153) hX d_Mo_chooses_146 rfl (fun h146 => ?_) (fun h146 => ?_)
            · refine Z_iconst (v := 0) hX d_Mo_chooses_153 rfl ?_
              exact hJ154 _ (by first | exact (if_pos h146).symm | exact (if_neg h146).symm)
            · refine Z_iconst (v := 2) hX d_Mo_chooses_149 rfl ?_
              refine Z_goto (tgt := 154) hX d_Mo_chooses_150 rfl ?_
              exact hJ154 _ (by first | exact (if_pos h146).symm | exact (if_neg h146).symm)
        · refine Z_iconst (v := 1) hX d_Mo_chooses_76 rfl ?_
          refine Z_goto (tgt := 81) hX d_Mo_chooses_77 rfl ?_
          refine Z_istore_n (i := 3) hX d_Mo_chooses_81 rfl (by decide) rfl ?_
          refine Z_aload_n (i := 0) hX d_Mo_chooses_82 rfl rfl ?_
          refine Z_getR (k0 := 17) hX d_Mo_chooses_83 rfl rfl u_Mo (by decide) lk_Mo_64 rfl ?_
          refine Z_sipush (v := nI 528) hX d_Mo_chooses_86 rfl ?_
          refine Z_iload_n (i := 1) hX d_Mo_chooses_89 rfl rfl ?_
          refine Z_iaddN hX d_Mo_chooses_90 ?_
          refine Z_iload_n (i := 2) hX d_Mo_chooses_91 rfl rfl ?_
          refine Z_ifge (tgt := 99) hX d_Mo_chooses_92 rfl (fun h92 => ?_) (fun h => absurd (nI_pos' (by omega)) h)
          refine Z_iload_n (i := 2) hX d_Mo_chooses_99 rfl rfl ?_
          refine Z_iconst (v := 4) hX d_Mo_chooses_100 rfl ?_
          refine Z_irem hX d_Mo_chooses_101 (by decide) ?_
          refine Z_top (y := nI k) (p_rem4 he hk) ?_
          refine Z_iast hX d_Mo_chooses_102 rfl rfl (by omega) (by decide) ?_
          refine Z_iload_n (i := 3) hX d_Mo_chooses_103 rfl rfl ?_
          refine Z_ifeq (tgt := 118) hX d_Mo_chooses_104 rfl (fun h => absurd h (by decide)) (fun h104 => ?_)
          refine Z_aload_n (i := 0) hX d_Mo_chooses_107 rfl rfl ?_
          refine Z_getR (k0 := 17) hX d_Mo_chooses_108 rfl rfl u_Mo (by decide) lk_Mo_64 rfl ?_
          refine Z_sipush (v := nI 544) hX d_Mo_chooses_111 rfl ?_
          refine Z_iload_n (i := 1) hX d_Mo_chooses_114 rfl rfl ?_
          refine Z_iaddN hX d_Mo_chooses_115 ?_
          refine Z_iconst (v := 1) hX d_Mo_chooses_116 rfl ?_
          refine Z_iast hX d_Mo_chooses_117 rfl rfl (by omega) (by decide) ?_
          refine Z_aload_n (i := 0) hX d_Mo_chooses_118 rfl rfl ?_
          refine Z_getR (k0 := 17) hX d_Mo_chooses_119 rfl rfl u_Mo (by decide) lk_Mo_64 rfl ?_
          refine Z_sipush (v := nI 512) hX d_Mo_chooses_122 rfl ?_
          refine Z_iload_n (i := 1) hX d_Mo_chooses_125 rfl rfl ?_
          refine Z_iaddN hX d_Mo_chooses_126 ?_
          refine Z_iload_n (i := 3) hX d_Mo_chooses_127 rfl rfl ?_
          refine Z_ifeq (tgt := 135) hX d_Mo_chooses_128 rfl (fun h => absurd h (by decide)) (fun h128 => ?_)
          refine Z_iconst (v := 1) hX d_Mo_chooses_131 rfl ?_
          refine Z_goto (tgt := 154) hX d_Mo_chooses_132 rfl ?_
          refine Z_iast hX d_Mo_chooses_154 rfl rfl (by omega) (by decide) ?_
          refine Z_aload_n (i := 0) hX d_Mo_chooses_155 rfl rfl ?_
          refine Z_getR (k0 := 17) hX d_Mo_chooses_156 rfl rfl u_Mo (by decide) lk_Mo_64 rfl ?_
          refine Z_sipush (v := nI 608) hX d_Mo_chooses_159 rfl ?_
          refine Z_iload_n (i := 1) hX d_Mo_chooses_162 rfl rfl ?_
          refine Z_iaddN hX d_Mo_chooses_163 ?_
          refine Z_iload_n (i := 3) hX d_Mo_chooses_164 rfl rfl ?_
          refine Z_ifeq (tgt := 176) hX d_Mo_chooses_165 rfl (fun h => absurd h (by decide)) (fun h165 => ?_)
          refine Z_aload_n (i := 0) hX d_Mo_chooses_168 rfl rfl ?_
          refine Z_iload_n (i := 2) hX d_Mo_chooses_169 rfl rfl ?_
          refine Z_cVi1 hX d_Mo_chooses_170 (c_Mo_hopsOf (by omega)) m_Mo_hopsOf rfl rfl lk_Mo_103 ⟨by decide, by decide⟩ ⟨by decide, by decide⟩ (Nat.le_of_ble_eq_true rfl) ?_
          refine Z_goto (tgt := 177) hX d_Mo_chooses_173 rfl ?_
          refine Z_iast hX d_Mo_chooses_177 rfl rfl (by omega) (by decide) ?_
          refine Z_aload_n (i := 0) hX d_Mo_chooses_178 rfl rfl ?_
          refine Z_getR (k0 := 17) hX d_Mo_chooses_179 rfl rfl u_Mo (by decide) lk_Mo_64 rfl ?_
          refine Z_sipush (v := nI 624) hX d_Mo_chooses_182 rfl ?_
          refine Z_iload_n (i := 1) hX d_Mo_chooses_185 rfl rfl ?_
          refine Z_iaddN hX d_Mo_chooses_186 ?_
          refine Z_iload_n (i := 3) hX d_Mo_chooses_187 rfl rfl ?_
          refine Z_ifeq (tgt := 199) hX d_Mo_chooses_188 rfl (fun h => absurd h (by decide)) (fun h188 => ?_)
          refine Z_aload_n (i := 0) hX d_Mo_chooses_191 rfl rfl ?_
          refine Z_iload_n (i := 2) hX d_Mo_chooses_192 rfl rfl ?_
          refine Z_cVi1 hX d_Mo_chooses_193 (c_Mo_qualityOf (by omega)) m_Mo_qualityOf rfl rfl lk_Mo_100 ⟨by decide, by decide⟩ ⟨by decide, by decide⟩ (Nat.le_of_ble_eq_true rfl) ?_
          refine Z_goto (tgt := 200) hX d_Mo_chooses_196 rfl ?_
          refine Z_iast hX d_Mo_chooses_200 rfl rfl (by omega) (by decide) ?_
          refine Z_mem (I' := (m_s1 (m_c1 I e 4) e k)) rfl rfl ?_
          refine Z_iconst (v := nI 4) hX d_Mo_chooses_201 rfl ?_
          refine Z_iload_n (i := 1) hX d_Mo_chooses_202 rfl rfl ?_
          refine Z_imulN hX d_Mo_chooses_203 ?_
          refine Z_istore hX d_Mo_chooses_204 (by decide) rfl ?_
          have hL206 : ∀ k2 i : Nat, k2 + i = 4 → Z X G 6 0 0 206 [(4, .int (nI (4 * e + i))), (3, .int 1), (2, .int (nI (4 * e + k))), (1, .int (nI e)), (0, .ref (zad G 64))] [] (m_fl (m_s1 (m_c1 I e 4) e k) e (some k) true i) J := by
            intro k2
            induction k2 with
            | zero =>
              intro i hi
              obtain rfl : i = 4 := by omega
              refine Z_iload hX d_Mo_chooses_206 rfl ?_
              refine Z_iconst (v := nI 4) hX d_Mo_chooses_208 rfl ?_
              refine Z_iload_n (i := 1) hX d_Mo_chooses_209 rfl rfl ?_
              refine Z_imulN hX d_Mo_chooses_210 ?_
              refine Z_iconst (v := nI 4) hX d_Mo_chooses_211 rfl ?_
              refine Z_iaddN hX d_Mo_chooses_212 ?_
              refine Z_icge (tgt := 365) hX d_Mo_chooses_213 rfl (fun h213 => ?_) (fun h => absurd (nI_le (Nat.le_refl _) (by omega)) h)
              refine Z_iload_n (i := 3) hX d_Mo_chooses_365 rfl rfl ?_
              refine Z_ifeq (tgt := 416) hX d_Mo_chooses_366 rfl (fun h => absurd h (by decide)) (fun h366 => ?_)
              refine Z_aload_n (i := 0) hX d_Mo_chooses_369 rfl rfl ?_
              refine Z_getR (k0 := 17) hX d_Mo_chooses_370 rfl rfl u_Mo (by decide) lk_Mo_64 rfl ?_
              refine Z_sipush (v := nI 560) hX d_Mo_chooses_373 rfl ?_
              refine Z_iload_n (i := 1) hX d_Mo_chooses_376 rfl rfl ?_
              refine Z_iaddN hX d_Mo_chooses_377 ?_
              refine Z_cut (pc' := 412) (P := fun v => v = (if (m_fl (m_s1 (m_c1 I e 4) e k) e (some k) true 4) 72 (4 * e + k) < 0 then (m_fl (m_s1 (m_c1 I e 4) e k) e (some k) true 4) 79 (592 + (m_ax (m_fl (m_s1 (m_c1 I e 4) e k) e (some k) true 4) (m_lk (m_fl (m_s1 (m_c1 I e 4) e k) e (some k) true 4) (4 * e + k)) (4 * e + k)).toNatClampNeg / 4) else (m_fl (m_s1 (m_c1 I e 4) e k) e (some k) true 4) 73 (4 * e + k))) ?_ (fun hJ412 => ?_)
              · intro v hv412
                subst hv412
                refine Z_iast hX d_Mo_chooses_412 rfl rfl (by omega) (by decide) ?_
                refine Z_goto (tgt := 476) hX d_Mo_chooses_413 rfl ?_
                exact Z_mem (by (rw [m_cs_2 hr h73]; rfl)) (by rfl) (hR _ _ d_Mo_chooses_476)
              · refine Z_aload_n (i := 0) hX d_Mo_chooses_378 rfl rfl ?_
                refine Z_getR (k0 := 9) hX d_Mo_chooses_379 rfl rfl u_Mo (by decide) lk_Mo_40 rfl ?_
                refine Z_iload_n (i := 2) hX d_Mo_chooses_382 rfl rfl ?_
                refine Z_iald hX d_Mo_chooses_383 rfl rfl (by omega) (by decide) ?_
                refine Z_iflt (tgt := 396) hX d_Mo_chooses_384 rfl (fun h384 => ?_) (fun h384 => ?_)
                · have hs9 : I 72 (4 * e + k) < 0 := by have h9 := h384; rw [fr_mfl (by decide), show m_s1 (m_c1 I e 4) e k 72 = (m_c1 I e 4) 72 from by unfold m_s1; rw [zup_ne (by decide), zup_ne (by decide), zup_ne (by decide), zup_ne (by decide), zup_ne (by decide)], fr_c1 (by decide)] at h9; exact h9
                  have fr9 : ∀ c, c ≠ 79 → c ≠ 83 → (m_fl (m_s1 (m_c1 I e 4) e k) e (some k) true 4) c = I c := fun c h1 h2 => by rw [fr_mfl h2, show m_s1 (m_c1 I e 4) e k c = (m_c1 I e 4) c from by unfold m_s1; rw [zup_ne h1, zup_ne h1, zup_ne h1, zup_ne h1, zup_ne h1], fr_c1 h1]
                  obtain ⟨l9, hl, hl2, hxa, hxc⟩ := okM_at hM (by omega) (m_lk_link he hk h73 hs9)
                  obtain ⟨o, ho, ho2⟩ := m_ax_ok (I := (m_fl (m_s1 (m_c1 I e 4) e k) e (some k) true 4)) (l := l9) (p := 4 * e + k) (by rw [fr9 77 (by decide) (by decide)]; exact hxa) (by rw [fr9 78 (by decide) (by decide)]; exact hxc)
                  have hl3 : (m_fl (m_s1 (m_c1 I e 4) e k) e (some k) true 4) 74 (4 * e + k) = nI l9 := by rw [fr9 74 (by decide) (by decide)]; exact hl2
                  have hlk : m_lk (m_fl (m_s1 (m_c1 I e 4) e k) e (some k) true 4) (4 * e + k) = l9 := by unfold m_lk; rw [hl3, nI_clamp (by omega)]
                  refine Z_aload_n (i := 0) hX d_Mo_chooses_396 rfl rfl ?_
                  refine Z_getR (k0 := 17) hX d_Mo_chooses_397 rfl rfl u_Mo (by decide) lk_Mo_64 rfl ?_
                  refine Z_sipush (v := nI 592) hX d_Mo_chooses_400 rfl ?_
                  refine Z_aload_n (i := 0) hX d_Mo_chooses_403 rfl rfl ?_
                  refine Z_iload_n (i := 2) hX d_Mo_chooses_404 rfl rfl ?_
                  refine Z_cVi1 hX d_Mo_chooses_405 (c_Mo_across (by omega) hl hl3) m_Mo_across rfl rfl lk_Mo_89 ⟨by decide, by decide⟩ ⟨by decide, by decide⟩ (Nat.le_of_ble_eq_true rfl) ?_
                  refine Z_top ho2 ?_
                  refine Z_iconst (v := 4) hX d_Mo_chooses_408 rfl ?_
                  refine Z_div4 hX d_Mo_chooses_409 (by omega) ?_
                  refine Z_iaddN hX d_Mo_chooses_410 ?_
                  refine Z_iald (k0 := 592 + o / 4) hX d_Mo_chooses_411 rfl rfl (by omega) (by decide) ?_
                  exact hJ412 _ (by (rw [if_pos h384]; rw [show (m_ax _ (m_lk _ (4 * e + k)) (4 * e + k)).toNatClampNeg = o from by rw [hlk, ho2, nI_clamp (by omega)]]))
                · refine Z_aload_n (i := 0) hX d_Mo_chooses_387 rfl rfl ?_
                  refine Z_getR (k0 := 10) hX d_Mo_chooses_388 rfl rfl u_Mo (by decide) lk_Mo_43 rfl ?_
                  refine Z_iload_n (i := 2) hX d_Mo_chooses_391 rfl rfl ?_
                  refine Z_iald hX d_Mo_chooses_392 rfl rfl (by omega) (by decide) ?_
                  refine Z_goto (tgt := 412) hX d_Mo_chooses_393 rfl ?_
                  exact hJ412 _ (by exact (if_neg h384).symm)
            | succ k2 ih2 =>
              intro i hi
              have hi2 : i < 4 := by omega
              refine Z_iload hX d_Mo_chooses_206 rfl ?_
              refine Z_iconst (v := nI 4) hX d_Mo_chooses_208 rfl ?_
              refine Z_iload_n (i := 1) hX d_Mo_chooses_209 rfl rfl ?_
              refine Z_imulN hX d_Mo_chooses_210 ?_
              refine Z_iconst (v := nI 4) hX d_Mo_chooses_211 rfl ?_
              refine Z_iaddN hX d_Mo_chooses_212 ?_
              refine Z_icge (tgt := 365) hX d_Mo_chooses_213 rfl (fun h => absurd h (nI_ge (by omega) (by omega))) (fun h213 => ?_)
              refine Z_cut (pc' := 231) (P := fun v => v = zB (m_pl (some k) true i)) ?_ (fun hJ231 => ?_)
              · intro v hv231
                subst hv231
                refine Z_istore hX d_Mo_chooses_231 (by decide) rfl ?_
                refine Z_aload_n (i := 0) hX d_Mo_chooses_233 rfl rfl ?_
                refine Z_getR (k0 := 21) hX d_Mo_chooses_234 rfl rfl u_Mo (by decide) lk_Mo_77 rfl ?_
                refine Z_iload hX d_Mo_chooses_237 rfl ?_
                refine Z_cut (pc' := 285) (P := fun v => v = m_q0 (m_fl (m_s1 (m_c1 I e 4) e k) e (some k) true i) e (some k) true i) ?_ (fun hJ285 => ?_)
                · intro v hv285
                  subst hv285
                  refine Z_iast hX d_Mo_chooses_285 rfl rfl (by omega) (by decide) ?_
                  refine Z_aload_n (i := 0) hX d_Mo_chooses_286 rfl rfl ?_
                  refine Z_getR (k0 := 21) hX d_Mo_chooses_287 rfl rfl u_Mo (by decide) lk_Mo_77 rfl ?_
                  refine Z_bipush (v := nI 64) hX d_Mo_chooses_290 rfl ?_
                  refine Z_iload hX d_Mo_chooses_292 rfl ?_
                  refine Z_iaddN hX d_Mo_chooses_294 ?_
                  refine Z_cut (pc' := 311) (P := fun v => v = m_h0 (zup (m_fl (m_s1 (m_c1 I e 4) e k) e (some k) true i) 83 (4 * e + i) (m_q0 (m_fl (m_s1 (m_c1 I e 4) e k) e (some k) true i) e (some k) true i)) e (some k) true i) ?_ (fun hJ311 => ?_)
                  · intro v hv311
                    subst hv311
                    refine Z_iast hX d_Mo_chooses_311 rfl rfl (by omega) (by decide) ?_
                    refine Z_aload_n (i := 0) hX d_Mo_chooses_312 rfl rfl ?_
                    refine Z_getR (k0 := 21) hX d_Mo_chooses_313 rfl rfl u_Mo (by decide) lk_Mo_77 rfl ?_
                    refine Z_sipush (v := nI 128) hX d_Mo_chooses_316 rfl ?_
                    refine Z_iload hX d_Mo_chooses_319 rfl ?_
                    refine Z_iaddN hX d_Mo_chooses_321 ?_
                    refine Z_cut (pc' := 358) (P := fun v => v = m_t0 (zup (zup (m_fl (m_s1 (m_c1 I e 4) e k) e (some k) true i) 83 (4 * e + i) (m_q0 (m_fl (m_s1 (m_c1 I e 4) e k) e (some k) true i) e (some k) true i)) 83 (64 + (4 * e + i)) (m_h0 (zup (m_fl (m_s1 (m_c1 I e 4) e k) e (some k) true i) 83 (4 * e + i) (m_q0 (m_fl (m_s1 (m_c1 I e 4) e k) e (some k) true i) e (some k) true i)) e (some k) true i)) e (some k) true i) ?_ (fun hJ358 => ?_)
                    · intro v hv358
                      subst hv358
                      refine Z_iast hX d_Mo_chooses_358 rfl rfl (by omega) (by decide) ?_
                      refine Z_iinc (v := nI (4 * e + (i + 1))) hX d_Mo_chooses_359 rfl (nI4s e i) (by decide) rfl ?_
                      refine Z_goto (tgt := 206) hX d_Mo_chooses_362 rfl ?_
                      refine Z_loc ?_ (ih2 (i + 1) (by omega))
                      rfl
                    · refine Z_iload hX d_Mo_chooses_322 rfl ?_
                      refine Z_ifeqB (tgt := 331) hX d_Mo_chooses_324 rfl (fun h324 => ?_) (fun h324 => ?_)
                      · refine Z_aload_n (i := 0) hX d_Mo_chooses_331 rfl rfl ?_
                        refine Z_getR (k0 := 9) hX d_Mo_chooses_332 rfl rfl u_Mo (by decide) lk_Mo_40 rfl ?_
                        refine Z_iload_n (i := 2) hX d_Mo_chooses_335 rfl rfl ?_
                        refine Z_iald hX d_Mo_chooses_336 rfl rfl (by omega) (by decide) ?_
                        refine Z_iflt (tgt := 344) hX d_Mo_chooses_337 rfl (fun h337 => ?_) (fun h337 => ?_)
                        · refine Z_aload_n (i := 0) hX d_Mo_chooses_344 rfl rfl ?_
                          refine Z_getR (k0 := 17) hX d_Mo_chooses_345 rfl rfl u_Mo (by decide) lk_Mo_64 rfl ?_
                          refine Z_sipush (v := nI 128) hX d_Mo_chooses_348 rfl ?_
                          refine Z_iload_n (i := 2) hX d_Mo_chooses_351 rfl rfl ?_
                          refine Z_iaddN hX d_Mo_chooses_352 ?_
                          refine Z_iald hX d_Mo_chooses_353 rfl rfl (by omega) (by decide) ?_
                          refine Z_iconst (v := 1) hX d_Mo_chooses_354 rfl ?_
                          refine Z_iload_n (i := 1) hX d_Mo_chooses_355 rfl rfl ?_
                          refine Z_ishl hX d_Mo_chooses_356 ?_
                          refine Z_ior hX d_Mo_chooses_357 ?_
                          exact hJ358 _ (by exact m_t0_p h324 h337)
                        · refine Z_iconst (v := 0) hX d_Mo_chooses_340 rfl ?_
                          refine Z_goto (tgt := 354) hX d_Mo_chooses_341 rfl ?_
                          refine Z_iconst (v := 1) hX d_Mo_chooses_354 rfl ?_
                          refine Z_iload_n (i := 1) hX d_Mo_chooses_355 rfl rfl ?_
                          refine Z_ishl hX d_Mo_chooses_356 ?_
                          refine Z_ior hX d_Mo_chooses_357 ?_
                          exact hJ358 _ (by exact m_t0_n h324 h337)
                      · refine Z_iconst (v := 0) hX d_Mo_chooses_327 rfl ?_
                        refine Z_goto (tgt := 358) hX d_Mo_chooses_328 rfl ?_
                        exact hJ358 _ (by (rw [m_t0, if_pos h324]))
                  · refine Z_iload hX d_Mo_chooses_295 rfl ?_
                    refine Z_ifeqB (tgt := 304) hX d_Mo_chooses_297 rfl (fun h297 => ?_) (fun h297 => ?_)
                    · refine Z_aload_n (i := 0) hX d_Mo_chooses_304 rfl rfl ?_
                      refine Z_iload_n (i := 2) hX d_Mo_chooses_305 rfl rfl ?_
                      refine Z_cVi1 hX d_Mo_chooses_306 (c_Mo_hopsOf (by omega)) m_Mo_hopsOf rfl rfl lk_Mo_103 ⟨by decide, by decide⟩ ⟨by decide, by decide⟩ (Nat.le_of_ble_eq_true rfl) ?_
                      refine Z_iconst (v := 1) hX d_Mo_chooses_309 rfl ?_
                      refine Z_iadd hX d_Mo_chooses_310 ?_
                      exact hJ311 _ (by (rw [m_h0, if_neg (by rw [h297]; decide)]; rfl))
                    · refine Z_iconst (v := 0) hX d_Mo_chooses_300 rfl ?_
                      refine Z_goto (tgt := 311) hX d_Mo_chooses_301 rfl ?_
                      exact hJ311 _ (by (rw [m_h0, if_pos h297]))
                · refine Z_aload_n (i := 0) hX d_Mo_chooses_239 rfl rfl ?_
                  refine Z_getR (k0 := 11) hX d_Mo_chooses_240 rfl rfl u_Mo (by decide) lk_Mo_46 rfl ?_
                  refine Z_iload hX d_Mo_chooses_243 rfl ?_
                  refine Z_iald hX d_Mo_chooses_245 rfl rfl (by omega) (by decide) ?_
                  refine Z_ifge (tgt := 253) hX d_Mo_chooses_246 rfl (fun h246 => ?_) (fun h246 => ?_)
                  · refine Z_iload hX d_Mo_chooses_253 rfl ?_
                    refine Z_iload_n (i := 2) hX d_Mo_chooses_255 rfl rfl ?_
                    refine Z_icne (tgt := 264) hX d_Mo_chooses_256 rfl (fun h256 => ?_) (fun h256 => ?_)
                    · refine Z_iload_n (i := 3) hX d_Mo_chooses_264 rfl rfl ?_
                      refine Z_ifeq (tgt := 276) hX d_Mo_chooses_265 rfl (fun h => absurd h (by decide)) (fun h265 => ?_)
                      refine Z_aload_n (i := 0) hX d_Mo_chooses_268 rfl rfl ?_
                      refine Z_iload_n (i := 2) hX d_Mo_chooses_269 rfl rfl ?_
                      refine Z_cVi1 hX d_Mo_chooses_270 (c_Mo_qualityOf (by omega)) m_Mo_qualityOf rfl rfl lk_Mo_100 ⟨by decide, by decide⟩ ⟨by decide, by decide⟩ (Nat.le_of_ble_eq_true rfl) ?_
                      refine Z_goto (tgt := 285) hX d_Mo_chooses_273 rfl ?_
                      exact hJ285 _ (by (rw [m_q0, if_pos h246, if_neg (fun z => h256 ((nI4_eq he hi2 hk).mpr (Option.some.inj z))), if_pos rfl]; rfl))
                    · refine Z_bipush (v := 7) hX d_Mo_chooses_259 rfl ?_
                      refine Z_goto (tgt := 285) hX d_Mo_chooses_261 rfl ?_
                      exact hJ285 _ (by (rw [m_q0, if_pos h246, if_pos (by rw [(nI4_eq he hi2 hk).mp h256])]))
                  · refine Z_iconst (v := (-1)) hX d_Mo_chooses_249 rfl ?_
                    refine Z_goto (tgt := 285) hX d_Mo_chooses_250 rfl ?_
                    exact hJ285 _ (by (rw [m_q0, if_neg h246]))
              · refine Z_iload hX d_Mo_chooses_216 rfl ?_
                refine Z_iload_n (i := 2) hX d_Mo_chooses_218 rfl rfl ?_
                refine Z_iceq (tgt := 226) hX d_Mo_chooses_219 rfl (fun h219 => ?_) (fun h219 => ?_)
                · refine Z_iconst (v := 1) hX d_Mo_chooses_226 rfl ?_
                  refine Z_goto (tgt := 231) hX d_Mo_chooses_227 rfl ?_
                  exact hJ231 _ (by (have h9 := (nI4_eq he hi2 hk).mp h219; simp [m_pl, zB, h9]))
                · refine Z_iload_n (i := 3) hX d_Mo_chooses_222 rfl rfl ?_
                  refine Z_ifne (tgt := 230) hX d_Mo_chooses_223 rfl (fun h223 => ?_) (fun h => absurd h (by decide))
                  refine Z_iconst (v := 0) hX d_Mo_chooses_230 rfl ?_
                  exact hJ231 _ (by (have h9 : ¬ k = i := fun z => h219 ((nI4_eq he hi2 hk).mpr z); simp [m_pl, zB, h9]))
          refine Z_loc ?_ (hL206 4 0 (by omega))
          rfl
    | succ k ih =>
      intro i hi
      have hi2 : i < 4 := by omega
      refine Z_iload_n (i := 2) hX d_Mo_chooses_4 rfl rfl ?_
      refine Z_iconst (v := nI 4) hX d_Mo_chooses_5 rfl ?_
      refine Z_iload_n (i := 1) hX d_Mo_chooses_6 rfl rfl ?_
      refine Z_imulN hX d_Mo_chooses_7 ?_
      refine Z_iconst (v := nI 4) hX d_Mo_chooses_8 rfl ?_
      refine Z_iaddN hX d_Mo_chooses_9 ?_
      refine Z_icge (tgt := 53) hX d_Mo_chooses_10 rfl (fun h => absurd h (nI_ge (by omega) (by omega))) (fun h10 => ?_)
      refine Z_aload_n (i := 0) hX d_Mo_chooses_13 rfl rfl ?_
      refine Z_getR (k0 := 17) hX d_Mo_chooses_14 rfl rfl u_Mo (by decide) lk_Mo_64 rfl ?_
      refine Z_sipush (v := nI 448) hX d_Mo_chooses_17 rfl ?_
      refine Z_iload_n (i := 2) hX d_Mo_chooses_20 rfl rfl ?_
      refine Z_iaddN hX d_Mo_chooses_21 ?_
      refine Z_cut (pc' := 46) (P := fun v => v = (if m_us (m_c1 I e i) (4 * e + i) = true then m_c1 I e i 79 (448 + (4 * e + i)) + 1 else 0)) ?_ (fun hJ46 => ?_)
      · intro v hv46
        subst hv46
        refine Z_iast (k0 := 448 + (4 * e + i)) hX d_Mo_chooses_46 rfl rfl (by omega) (by decide) ?_
        refine Z_iinc (v := nI (4 * e + (i + 1))) hX d_Mo_chooses_47 rfl (nI4s e i) (by decide) rfl ?_
        refine Z_goto (tgt := 4) hX d_Mo_chooses_50 rfl ?_
        refine Z_loc ?_ (Z_mem ?_ ?_ (ih (i + 1) (by omega)))
        · rfl
        · rfl
        · rfl
      · refine Z_aload_n (i := 0) hX d_Mo_chooses_22 rfl rfl ?_
        refine Z_iload_n (i := 2) hX d_Mo_chooses_23 rfl rfl ?_
        refine Z_cVi1 hX d_Mo_chooses_24 (c_Mo_usable (by omega)) m_Mo_usable rfl rfl lk_Mo_114 ⟨by decide, by decide⟩ ⟨by decide, by decide⟩ (Nat.le_of_ble_eq_true rfl) ?_
        refine Z_ifeqB (tgt := 45) hX d_Mo_chooses_27 rfl (fun h27 => ?_) (fun h27 => ?_)
        · refine Z_iconst (v := 0) hX d_Mo_chooses_45 rfl ?_
          exact hJ46 _ (by first | exact (if_pos h27).symm | exact (if_neg (by rw [h27]; decide)).symm)
        · refine Z_aload_n (i := 0) hX d_Mo_chooses_30 rfl rfl ?_
          refine Z_getR (k0 := 17) hX d_Mo_chooses_31 rfl rfl u_Mo (by decide) lk_Mo_64 rfl ?_
          refine Z_sipush (v := nI 448) hX d_Mo_chooses_34 rfl ?_
          refine Z_iload_n (i := 2) hX d_Mo_chooses_37 rfl rfl ?_
          refine Z_iaddN hX d_Mo_chooses_38 ?_
          refine Z_iald (k0 := 448 + (4 * e + i)) hX d_Mo_chooses_39 rfl rfl (by omega) (by decide) ?_
          refine Z_iconst (v := 1) hX d_Mo_chooses_40 rfl ?_
          refine Z_iadd hX d_Mo_chooses_41 ?_
          refine Z_goto (tgt := 46) hX d_Mo_chooses_42 rfl ?_
          exact hJ46 _ (by first | exact (if_pos h27).symm | exact (if_neg (by rw [h27]; decide)).symm)
  refine Z_loc ?_ (Z_mem ?_ ?_ (hL4 4 0 (by omega)))
  · rfl
  · rfl
  · rfl
