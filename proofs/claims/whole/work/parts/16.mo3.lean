section ZN2
variable {X : zX} {G : zG} {nL a b pc : Nat} {l : List (Nat × Value)} {st : List Value} {I : zI} {J : zJ}
theorem Z_id (k : Z X G nL a b pc l st I J) : Z X G nL a b pc l st I J := k
theorem Z_cutw {pc' : Nat} {w : Int32} (h1 : Z X G nL a b pc' l (.int w :: st) I J) (h2 : (∀ v : Int32, v = w → Z X G nL a b pc' l (.int v :: st) I J) → Z X G nL a b pc l st I J) : Z X G nL a b pc l st I J := h2 (fun v hv => by subst hv; exact h1)
end ZN2
theorem fr_s0 {I : zI} {e c : Nat} {r : Option Nat} (hc : c ≠ 79) : m_s0 I e r c = I c := by
  unfold m_s0
  rw [zup_ne hc, zup_ne hc, zup_ne hc, zup_ne hc]
theorem fr_ms1 {I : zI} {e k c : Nat} (hc : c ≠ 79) : m_s1 I e k c = I c := by
  unfold m_s1
  rw [zup_ne hc, zup_ne hc, zup_ne hc, zup_ne hc, zup_ne hc]
theorem fr_cs {I : zI} {e c : Nat} (hc : c ≠ 79) (hc2 : c ≠ 83) : m_cs I e c = I c := by
  cases h : m_ch (m_c1 I e 4) e with
  | none =>
    rw [m_cs_0 h, m_o0, zup_ne hc, fr_mfl hc2, fr_s0 hc, fr_c1 hc]
  | some k =>
    by_cases h2 : m_c1 I e 4 79 (448 + (4 * e + k)) ≤ 0
    · rw [m_cs_1 h h2, m_o0, zup_ne hc, fr_mfl hc2, fr_s0 hc, fr_c1 hc]
    · rw [m_cs_2 h h2, m_o1, zup_ne hc, fr_mfl hc2, fr_ms1 hc, fr_c1 hc]
theorem fr_ge {I : zI} {p c : Nat} (hc : c ≠ 79) : m_ge I p c = I c := by
  unfold m_ge
  split
  · rfl
  · split
    · unfold m_gw
      rw [zup_ne hc, zup_ne hc, zup_ne hc, zup_ne hc]
    · rfl
theorem okM_of {I I' : zI} (h4 : I' 74 = I 74) (h7 : I' 77 = I 77) (h8 : I' 78 = I 78) (h : okM I) : okM I' := by
  unfold okM
  rw [h4, h7, h8]
  exact h
def m_r1 (I : zI) : Nat → zI
  | 0 => I
  | p + 1 => if m_wh (zup (m_r1 I p) 83 p (-1)) (p / 4) = true then m_ge (zup (m_r1 I p) 83 p (-1)) p else zup (m_r1 I p) 83 p (-1)
theorem fr_mr1 {I : zI} {c : Nat} (hc : c ≠ 79) (hc2 : c ≠ 83) : ∀ p, m_r1 I p c = I c
  | 0 => rfl
  | p + 1 => by
    unfold m_r1
    split
    · rw [fr_ge hc, zup_ne hc2, fr_mr1 hc hc2 p]
    · rw [zup_ne hc2, fr_mr1 hc hc2 p]
def m_r2 (I : zI) : Nat → zI
  | 0 => I
  | e + 1 => if m_wh (m_r2 I e) e = true then m_cs (m_r2 I e) e else m_r2 I e
theorem fr_mr2 {I : zI} {c : Nat} (hc : c ≠ 79) (hc2 : c ≠ 83) : ∀ e, m_r2 I e c = I c
  | 0 => rfl
  | e + 1 => by
    unfold m_r2
    split
    · rw [fr_cs hc hc2, fr_mr2 hc hc2 e]
    · exact fr_mr2 hc hc2 e
def m_r3a (A : zI) (p : Nat) : zI :=
  let A1 := zup A 79 (256 + p) (A 83 p)
  let A2 := zup A1 79 (320 + p) (A1 83 (64 + p))
  zup A2 79 (384 + p) (A2 83 (128 + p))
def m_r3 (I : zI) : Nat → zI
  | 0 => I
  | p + 1 => m_r3a (m_r3 I p) p
theorem fr_mr3 {I : zI} {c : Nat} (hc : c ≠ 79) : ∀ p, m_r3 I p c = I c
  | 0 => rfl
  | p + 1 => by
    unfold m_r3 m_r3a
    rw [zup_ne hc, zup_ne hc, zup_ne hc, fr_mr3 hc p]
def m_r4 (I : zI) : Nat → zI
  | 0 => I
  | k + 1 => zup (m_r4 I k) 79 (712 + k) 0
theorem fr_mr4 {I : zI} {c : Nat} (hc : c ≠ 79) : ∀ p, m_r4 I p c = I c
  | 0 => rfl
  | p + 1 => by
    unfold m_r4
    rw [zup_ne hc, fr_mr4 hc p]
def m_r5a (A : zI) (e : Nat) : zI :=
  let A1 := zup A 79 (592 + e) (A 79 (576 + e))
  zup A1 79 (576 + e) (A1 79 (560 + e))
def m_r5b (A : zI) (e : Nat) : zI := zup (zup A 79 (640 + e) (m_so A e)) 79 (656 + e) (m_po A e)
def m_r5 (I : zI) : Nat → zI
  | 0 => I
  | e + 1 => m_r5b (m_r5a (m_r5 I e) e) e
theorem fr_mr5 {I : zI} {c : Nat} (hc : c ≠ 79) : ∀ p, m_r5 I p c = I c
  | 0 => rfl
  | p + 1 => by
    unfold m_r5 m_r5b m_r5a
    rw [zup_ne hc, zup_ne hc, zup_ne hc, zup_ne hc, fr_mr5 hc p]
def m_r5J (I : zI) (J : zJ) : Nat → zJ
  | 0 => J
  | e + 1 => if m_wh (m_r5 I e) e = true then zupL (m_r5J I J e) 81 e (m_r5J I J e 81 e + (m_r5 I e 79 (560 + e)).toInt64) else m_r5J I J e
def m_r5s (I : zI) : Nat → Bool
  | 0 => true
  | e + 1 => m_r5s I e && (decide (m_so (m_r5a (m_r5 I e) e) e = m_r5a (m_r5 I e) e 79 (640 + e)) && decide (m_po (m_r5a (m_r5 I e) e) e = m_r5a (m_r5 I e) e 79 (656 + e)))
def m_rA (I : zI) : zI := m_r4 (m_r3 (m_r2 (m_r1 (zup I 79 760 (I 79 760 + 1)) 64) 16) 64) 48
def m_ro (I : zI) : zI := zup (m_r5 (m_rA I) 16) 79 761 (if m_r5s (m_rA I) 16 = true then m_r5 (m_rA I) 16 79 761 + 1 else 0)
def m_roJ (I : zI) (J : zJ) : zJ := m_r5J (m_rA I) J 16
theorem fr_rA {I : zI} {c : Nat} (hc : c ≠ 79) (hc2 : c ≠ 83) : m_rA I c = I c := by
  unfold m_rA
  rw [fr_mr4 hc, fr_mr3 hc, fr_mr2 hc hc2, fr_mr1 hc hc2, zup_ne hc]
theorem fr_mro {I : zI} {c : Nat} (hc : c ≠ 79) (hc2 : c ≠ 83) : m_ro I c = I c := by
  unfold m_ro
  rw [zup_ne hc, fr_mr5 hc, fr_rA hc hc2]
theorem m_ro_1 {I : zI} : zup (m_r5 (m_rA I) 16) 79 761 (if m_r5s (m_rA I) 16 = true then m_r5 (m_rA I) 16 79 761 + 1 else 0) = m_ro I := by simp only [m_ro]
theorem m_roJ_1 {I : zI} {J : zJ} : m_r5J (m_rA I) J 16 = m_roJ I J := by simp only [m_roJ]
theorem m_rA_1 {I : zI} : m_r4 (m_r3 (m_r2 (m_r1 (zup I 79 760 (I 79 760 + 1)) 64) 16) 64) 48 = m_rA I := by simp only [m_rA]
/-- a locked element of the reference has a port -/
def okMK (I : zI) (e : Nat) : Prop := I 79 (512 + e) = 1 → ∃ k, k < 4 ∧ I 79 (528 + e) = nI k
def m_fw (I : zI) (e : Nat) : Int32 := if m_wh I e = true then (if I 79 (512 + e) = 1 then (if I 74 (4 * e + (I 79 (528 + e)).toNatClampNeg) < 0 then nI (16 + (4 * e + (I 79 (528 + e)).toNatClampNeg)) else nI ((m_ax I (m_lk I (4 * e + (I 79 (528 + e)).toNatClampNeg)) (4 * e + (I 79 (528 + e)).toNatClampNeg)).toNatClampNeg / 4)) else -1) else -1
theorem m_fw_w {I : zI} {e : Nat} (h : m_wh I e = false) : m_fw I e = -1 := if_neg (by rw [h]; decide)
theorem m_fw_l {I : zI} {e : Nat} (h : m_wh I e = true) (h2 : ¬ I 79 (512 + e) = 1) : m_fw I e = -1 := by
  unfold m_fw
  rw [if_pos h, if_neg h2]
theorem m_fw_s {I : zI} {e k : Nat} (h : m_wh I e = true) (h2 : I 79 (512 + e) = 1) (hk : k < 4) (hk2 : I 79 (528 + e) = nI k) (h3 : I 74 (4 * e + k) < 0) : m_fw I e = nI (16 + (4 * e + k)) := by
  have e1 : (I 79 (528 + e)).toNatClampNeg = k := by rw [hk2, nI_clamp (by omega)]
  unfold m_fw
  rw [e1, if_pos h, if_pos h2, if_pos h3]
theorem m_fw_x {I : zI} {e k l o : Nat} (h : m_wh I e = true) (h2 : I 79 (512 + e) = 1) (hk : k < 4) (hk2 : I 79 (528 + e) = nI k) (h3 : ¬ I 74 (4 * e + k) < 0) (hl : l < 24) (hl2 : I 74 (4 * e + k) = nI l) (ho : o < 64) (ho2 : m_ax I l (4 * e + k) = nI o) : m_fw I e = nI (o / 4) := by
  have e1 : (I 79 (528 + e)).toNatClampNeg = k := by rw [hk2, nI_clamp (by omega)]
  have e2 : m_lk I (4 * e + k) = l := by unfold m_lk; rw [hl2, nI_clamp (by omega)]
  unfold m_fw
  rw [e1, e2, ho2, nI_clamp (by omega), if_pos h, if_pos h2, if_neg h3]
set_option maxRecDepth 100000 in
set_option maxHeartbeats 4000000 in
theorem c_Mo_stateOf {la : Launch} {G : zG} {I : zI} {J : zJ} {e : Nat} (he : e < 16) : zCi la G y_Mo_stateOf (Cond.code y_Mo_stateOf prog_8_method_14_code 2 (some .int) :: TBL) (zR 1) [.ref (zad G 64), .int (nI e)] I J (m_so I e) (I) (J) := by
  refine zCi_of (by decide) (by simp [lg_sl, Value.category]) (rfl) (fun X hla hX hR => ?_)
  subst hla
  refine Z_loc (l' := [(0, .ref (zad G 64)), (1, .int (nI e))]) (by simp [lv_args, Value.category, List.lookup]) ?_
  refine Z_aload_n (i := 0) hX d_Mo_stateOf_0 rfl rfl ?_
  refine Z_getR (k0 := 17) hX d_Mo_stateOf_1 rfl rfl u_Mo (by decide) lk_Mo_64 rfl ?_
  refine Z_sipush (v := nI 672) hX d_Mo_stateOf_4 rfl ?_
  refine Z_iload_n (i := 1) hX d_Mo_stateOf_7 rfl rfl ?_
  refine Z_iaddN hX d_Mo_stateOf_8 ?_
  refine Z_iald hX d_Mo_stateOf_9 rfl rfl (by omega) (by decide) ?_
  refine Z_iconst (v := 1) hX d_Mo_stateOf_10 rfl ?_
  refine Z_icne (tgt := 18) hX d_Mo_stateOf_11 rfl (fun h11 => ?_) (fun h11 => ?_)
  · refine Z_aload_n (i := 0) hX d_Mo_stateOf_18 rfl rfl ?_
    refine Z_getR (k0 := 17) hX d_Mo_stateOf_19 rfl rfl u_Mo (by decide) lk_Mo_64 rfl ?_
    refine Z_sipush (v := nI 512) hX d_Mo_stateOf_22 rfl ?_
    refine Z_iload_n (i := 1) hX d_Mo_stateOf_25 rfl rfl ?_
    refine Z_iaddN hX d_Mo_stateOf_26 ?_
    refine Z_iald hX d_Mo_stateOf_27 rfl rfl (by omega) (by decide) ?_
    exact Z_ri (hR _ _ d_Mo_stateOf_28) (by exact (if_neg h11).symm) rfl rfl
  · refine Z_iconst (v := 3) hX d_Mo_stateOf_14 rfl ?_
    refine Z_goto (tgt := 28) hX d_Mo_stateOf_15 rfl ?_
    exact Z_ri (hR _ _ d_Mo_stateOf_28) (by exact (if_pos h11).symm) rfl rfl

set_option maxRecDepth 100000 in
set_option maxHeartbeats 4000000 in
theorem c_Mo_portOf {la : Launch} {G : zG} {I : zI} {J : zJ} {e : Nat} (he : e < 16) : zCi la G y_Mo_portOf (Cond.code y_Mo_portOf prog_8_method_15_code 2 (some .int) :: TBL) (zR 1) [.ref (zad G 64), .int (nI e)] I J (m_po I e) (I) (J) := by
  refine zCi_of (by decide) (by simp [lg_sl, Value.category]) (rfl) (fun X hla hX hR => ?_)
  subst hla
  refine Z_loc (l' := [(0, .ref (zad G 64)), (1, .int (nI e))]) (by simp [lv_args, Value.category, List.lookup]) ?_
  refine Z_aload_n (i := 0) hX d_Mo_portOf_0 rfl rfl ?_
  refine Z_getR (k0 := 17) hX d_Mo_portOf_1 rfl rfl u_Mo (by decide) lk_Mo_64 rfl ?_
  refine Z_sipush (v := nI 672) hX d_Mo_portOf_4 rfl ?_
  refine Z_iload_n (i := 1) hX d_Mo_portOf_7 rfl rfl ?_
  refine Z_iaddN hX d_Mo_portOf_8 ?_
  refine Z_iald hX d_Mo_portOf_9 rfl rfl (by omega) (by decide) ?_
  refine Z_iconst (v := 1) hX d_Mo_portOf_10 rfl ?_
  refine Z_icne (tgt := 18) hX d_Mo_portOf_11 rfl (fun h11 => ?_) (fun h11 => ?_)
  · refine Z_aload_n (i := 0) hX d_Mo_portOf_18 rfl rfl ?_
    refine Z_getR (k0 := 17) hX d_Mo_portOf_19 rfl rfl u_Mo (by decide) lk_Mo_64 rfl ?_
    refine Z_sipush (v := nI 528) hX d_Mo_portOf_22 rfl ?_
    refine Z_iload_n (i := 1) hX d_Mo_portOf_25 rfl rfl ?_
    refine Z_iaddN hX d_Mo_portOf_26 ?_
    refine Z_iald hX d_Mo_portOf_27 rfl rfl (by omega) (by decide) ?_
    exact Z_ri (hR _ _ d_Mo_portOf_28) (by exact (if_neg h11).symm) rfl rfl
  · refine Z_iconst (v := (-1)) hX d_Mo_portOf_14 rfl ?_
    refine Z_goto (tgt := 28) hX d_Mo_portOf_15 rfl ?_
    exact Z_ri (hR _ _ d_Mo_portOf_28) (by exact (if_pos h11).symm) rfl rfl

set_option maxRecDepth 100000 in
set_option maxHeartbeats 4000000 in
theorem c_Mo_sentNothing {la : Launch} {G : zG} {I : zI} {J : zJ} {e : Nat} (he : e < 16) : zCv la G y_Mo_sentNothing (Cond.code y_Mo_sentNothing prog_8_method_16_code 3 none :: TBL) (zR 1) [.ref (zad G 64), .int (nI e)] I J (m_sn I e 4) (J) := by
  refine zCv_of (by decide) (by simp [lg_sl, Value.category]) (fun X hla hX hR => ?_)
  subst hla
  refine Z_loc (l' := [(0, .ref (zad G 64)), (1, .int (nI e))]) (by simp [lv_args, Value.category, List.lookup]) ?_
  refine Z_iconst (v := nI 4) hX d_Mo_sentNothing_0 rfl ?_
  refine Z_iload_n (i := 1) hX d_Mo_sentNothing_1 rfl rfl ?_
  refine Z_imulN hX d_Mo_sentNothing_2 ?_
  refine Z_istore_n (i := 2) hX d_Mo_sentNothing_3 rfl (by decide) rfl ?_
  have hL4 : ∀ k i : Nat, k + i = 4 → Z X G 3 0 0 4 [(2, .int (nI (4 * e + i))), (1, .int (nI e)), (0, .ref (zad G 64))] [] (m_sn I e i) (J) := by
    intro k
    induction k with
    | zero =>
      intro i hi
      obtain rfl : i = 4 := by omega
      refine Z_iload_n (i := 2) hX d_Mo_sentNothing_4 rfl rfl ?_
      refine Z_iconst (v := nI 4) hX d_Mo_sentNothing_5 rfl ?_
      refine Z_iload_n (i := 1) hX d_Mo_sentNothing_6 rfl rfl ?_
      refine Z_imulN hX d_Mo_sentNothing_7 ?_
      refine Z_iconst (v := nI 4) hX d_Mo_sentNothing_8 rfl ?_
      refine Z_iaddN hX d_Mo_sentNothing_9 ?_
      refine Z_icge (tgt := 30) hX d_Mo_sentNothing_10 rfl (fun h10 => ?_) (fun h => absurd (nI_le (Nat.le_refl _) (by omega)) h)
      exact Z_mem (by rfl) (by rfl) (hR _ _ d_Mo_sentNothing_30)
    | succ k ih =>
      intro i hi
      have hi2 : i < 4 := by omega
      refine Z_iload_n (i := 2) hX d_Mo_sentNothing_4 rfl rfl ?_
      refine Z_iconst (v := nI 4) hX d_Mo_sentNothing_5 rfl ?_
      refine Z_iload_n (i := 1) hX d_Mo_sentNothing_6 rfl rfl ?_
      refine Z_imulN hX d_Mo_sentNothing_7 ?_
      refine Z_iconst (v := nI 4) hX d_Mo_sentNothing_8 rfl ?_
      refine Z_iaddN hX d_Mo_sentNothing_9 ?_
      refine Z_icge (tgt := 30) hX d_Mo_sentNothing_10 rfl (fun h => absurd h (nI_ge (by omega) (by omega))) (fun h10 => ?_)
      refine Z_aload_n (i := 0) hX d_Mo_sentNothing_13 rfl rfl ?_
      refine Z_getR (k0 := 17) hX d_Mo_sentNothing_14 rfl rfl u_Mo (by decide) lk_Mo_64 rfl ?_
      refine Z_sipush (v := nI 256) hX d_Mo_sentNothing_17 rfl ?_
      refine Z_iload_n (i := 2) hX d_Mo_sentNothing_20 rfl rfl ?_
      refine Z_iaddN hX d_Mo_sentNothing_21 ?_
      refine Z_iconst (v := (-1)) hX d_Mo_sentNothing_22 rfl ?_
      refine Z_iast (k0 := 256 + (4 * e + i)) hX d_Mo_sentNothing_23 rfl rfl (by omega) (by decide) ?_
      refine Z_iinc (v := nI (4 * e + (i + 1))) hX d_Mo_sentNothing_24 rfl (nI4s e i) (by decide) rfl ?_
      refine Z_goto (tgt := 4) hX d_Mo_sentNothing_27 rfl ?_
      refine Z_loc ?_ (Z_mem ?_ ?_ (ih (i + 1) (by omega)))
      · rfl
      · rfl
      · rfl
  refine Z_loc ?_ (Z_mem ?_ ?_ (hL4 4 0 (by omega)))
  · rfl
  · rfl
  · rfl

set_option maxRecDepth 100000 in
set_option maxHeartbeats 4000000 in
theorem c_Mo_breakDown {la : Launch} {G : zG} {I : zI} {J : zJ} {e : Nat} (he : e < 16) : zCv la G y_Mo_breakDown (Cond.code y_Mo_breakDown prog_8_method_17_code 2 none :: TBL) (zR 2) [.ref (zad G 64), .int (nI e)] I J (m_bd I e) (J) := by
  refine zCv_of (by decide) (by simp [lg_sl, Value.category]) (fun X hla hX hR => ?_)
  subst hla
  refine Z_loc (l' := [(0, .ref (zad G 64)), (1, .int (nI e))]) (by simp [lv_args, Value.category, List.lookup]) ?_
  refine Z_aload_n (i := 0) hX d_Mo_breakDown_0 rfl rfl ?_
  refine Z_getR (k0 := 17) hX d_Mo_breakDown_1 rfl rfl u_Mo (by decide) lk_Mo_64 rfl ?_
  refine Z_sipush (v := nI 672) hX d_Mo_breakDown_4 rfl ?_
  refine Z_iload_n (i := 1) hX d_Mo_breakDown_7 rfl rfl ?_
  refine Z_iaddN hX d_Mo_breakDown_8 ?_
  refine Z_iconst (v := 1) hX d_Mo_breakDown_9 rfl ?_
  refine Z_iast hX d_Mo_breakDown_10 rfl rfl (by omega) (by decide) ?_
  refine Z_aload_n (i := 0) hX d_Mo_breakDown_11 rfl rfl ?_
  refine Z_iload_n (i := 1) hX d_Mo_breakDown_12 rfl rfl ?_
  refine Z_cVv1 hX d_Mo_breakDown_13 (c_Mo_sentNothing (by omega)) m_Mo_sentNothing rfl rfl lk_Mo_133 ⟨by decide, by decide⟩ ⟨by decide, by decide⟩ (Nat.le_of_ble_eq_true rfl) ?_
  exact Z_mem (by rfl) (by rfl) (hR _ _ d_Mo_breakDown_16)

set_option maxRecDepth 100000 in
set_option maxHeartbeats 4000000 in
theorem c_Mo_comesBack {la : Launch} {G : zG} {I : zI} {J : zJ} {e : Nat} (he : e < 16) : zCv la G y_Mo_comesBack (Cond.code y_Mo_comesBack prog_8_method_18_code 3 none :: TBL) (zR 2) [.ref (zad G 64), .int (nI e)] I J (m_cb I e) (J) := by
  refine zCv_of (by decide) (by simp [lg_sl, Value.category]) (fun X hla hX hR => ?_)
  subst hla
  refine Z_loc (l' := [(0, .ref (zad G 64)), (1, .int (nI e))]) (by simp [lv_args, Value.category, List.lookup]) ?_
  refine Z_aload_n (i := 0) hX d_Mo_comesBack_0 rfl rfl ?_
  refine Z_getR (k0 := 17) hX d_Mo_comesBack_1 rfl rfl u_Mo (by decide) lk_Mo_64 rfl ?_
  refine Z_sipush (v := nI 672) hX d_Mo_comesBack_4 rfl ?_
  refine Z_iload_n (i := 1) hX d_Mo_comesBack_7 rfl rfl ?_
  refine Z_iaddN hX d_Mo_comesBack_8 ?_
  refine Z_iconst (v := 0) hX d_Mo_comesBack_9 rfl ?_
  refine Z_iast hX d_Mo_comesBack_10 rfl rfl (by omega) (by decide) ?_
  refine Z_aload_n (i := 0) hX d_Mo_comesBack_11 rfl rfl ?_
  refine Z_iload_n (i := 1) hX d_Mo_comesBack_12 rfl rfl ?_
  refine Z_cVv1 hX d_Mo_comesBack_13 (c_Mo_sentNothing (by omega)) m_Mo_sentNothing rfl rfl lk_Mo_133 ⟨by decide, by decide⟩ ⟨by decide, by decide⟩ (Nat.le_of_ble_eq_true rfl) ?_
  refine Z_aload_n (i := 0) hX d_Mo_comesBack_16 rfl rfl ?_
  refine Z_getR (k0 := 17) hX d_Mo_comesBack_17 rfl rfl u_Mo (by decide) lk_Mo_64 rfl ?_
  refine Z_sipush (v := nI 512) hX d_Mo_comesBack_20 rfl ?_
  refine Z_iload_n (i := 1) hX d_Mo_comesBack_23 rfl rfl ?_
  refine Z_iaddN hX d_Mo_comesBack_24 ?_
  refine Z_iconst (v := 0) hX d_Mo_comesBack_25 rfl ?_
  refine Z_iast hX d_Mo_comesBack_26 rfl rfl (by omega) (by decide) ?_
  refine Z_aload_n (i := 0) hX d_Mo_comesBack_27 rfl rfl ?_
  refine Z_getR (k0 := 17) hX d_Mo_comesBack_28 rfl rfl u_Mo (by decide) lk_Mo_64 rfl ?_
  refine Z_sipush (v := nI 528) hX d_Mo_comesBack_31 rfl ?_
  refine Z_iload_n (i := 1) hX d_Mo_comesBack_34 rfl rfl ?_
  refine Z_iaddN hX d_Mo_comesBack_35 ?_
  refine Z_iconst (v := (-1)) hX d_Mo_comesBack_36 rfl ?_
  refine Z_iast hX d_Mo_comesBack_37 rfl rfl (by omega) (by decide) ?_
  refine Z_aload_n (i := 0) hX d_Mo_comesBack_38 rfl rfl ?_
  refine Z_getR (k0 := 17) hX d_Mo_comesBack_39 rfl rfl u_Mo (by decide) lk_Mo_64 rfl ?_
  refine Z_sipush (v := nI 544) hX d_Mo_comesBack_42 rfl ?_
  refine Z_iload_n (i := 1) hX d_Mo_comesBack_45 rfl rfl ?_
  refine Z_iaddN hX d_Mo_comesBack_46 ?_
  refine Z_iconst (v := 0) hX d_Mo_comesBack_47 rfl ?_
  refine Z_iast hX d_Mo_comesBack_48 rfl rfl (by omega) (by decide) ?_
  refine Z_aload_n (i := 0) hX d_Mo_comesBack_49 rfl rfl ?_
  refine Z_getR (k0 := 17) hX d_Mo_comesBack_50 rfl rfl u_Mo (by decide) lk_Mo_64 rfl ?_
  refine Z_sipush (v := nI 608) hX d_Mo_comesBack_53 rfl ?_
  refine Z_iload_n (i := 1) hX d_Mo_comesBack_56 rfl rfl ?_
  refine Z_iaddN hX d_Mo_comesBack_57 ?_
  refine Z_iconst (v := (-1)) hX d_Mo_comesBack_58 rfl ?_
  refine Z_iast hX d_Mo_comesBack_59 rfl rfl (by omega) (by decide) ?_
  refine Z_aload_n (i := 0) hX d_Mo_comesBack_60 rfl rfl ?_
  refine Z_getR (k0 := 17) hX d_Mo_comesBack_61 rfl rfl u_Mo (by decide) lk_Mo_64 rfl ?_
  refine Z_sipush (v := nI 624) hX d_Mo_comesBack_64 rfl ?_
  refine Z_iload_n (i := 1) hX d_Mo_comesBack_67 rfl rfl ?_
  refine Z_iaddN hX d_Mo_comesBack_68 ?_
  refine Z_iconst (v := (-1)) hX d_Mo_comesBack_69 rfl ?_
  refine Z_iast hX d_Mo_comesBack_70 rfl rfl (by omega) (by decide) ?_
  refine Z_iconst (v := nI 4) hX d_Mo_comesBack_71 rfl ?_
  refine Z_iload_n (i := 1) hX d_Mo_comesBack_72 rfl rfl ?_
  refine Z_imulN hX d_Mo_comesBack_73 ?_
  refine Z_istore_n (i := 2) hX d_Mo_comesBack_74 rfl (by decide) rfl ?_
  have hL75 : ∀ k i : Nat, k + i = 4 → Z X G 3 0 0 75 [(2, .int (nI (4 * e + i))), (1, .int (nI e)), (0, .ref (zad G 64))] [] (m_cbl (m_cb0 I e) e i) (J) := by
    intro k
    induction k with
    | zero =>
      intro i hi
      obtain rfl : i = 4 := by omega
      refine Z_iload_n (i := 2) hX d_Mo_comesBack_75 rfl rfl ?_
      refine Z_iconst (v := nI 4) hX d_Mo_comesBack_76 rfl ?_
      refine Z_iload_n (i := 1) hX d_Mo_comesBack_77 rfl rfl ?_
      refine Z_imulN hX d_Mo_comesBack_78 ?_
      refine Z_iconst (v := nI 4) hX d_Mo_comesBack_79 rfl ?_
      refine Z_iaddN hX d_Mo_comesBack_80 ?_
      refine Z_icge (tgt := 110) hX d_Mo_comesBack_81 rfl (fun h81 => ?_) (fun h => absurd (nI_le (Nat.le_refl _) (by omega)) h)
      exact Z_mem (by rfl) (by rfl) (hR _ _ d_Mo_comesBack_110)
    | succ k ih =>
      intro i hi
      have hi2 : i < 4 := by omega
      refine Z_iload_n (i := 2) hX d_Mo_comesBack_75 rfl rfl ?_
      refine Z_iconst (v := nI 4) hX d_Mo_comesBack_76 rfl ?_
      refine Z_iload_n (i := 1) hX d_Mo_comesBack_77 rfl rfl ?_
      refine Z_imulN hX d_Mo_comesBack_78 ?_
      refine Z_iconst (v := nI 4) hX d_Mo_comesBack_79 rfl ?_
      refine Z_iaddN hX d_Mo_comesBack_80 ?_
      refine Z_icge (tgt := 110) hX d_Mo_comesBack_81 rfl (fun h => absurd h (nI_ge (by omega) (by omega))) (fun h81 => ?_)
      refine Z_aload_n (i := 0) hX d_Mo_comesBack_84 rfl rfl ?_
      refine Z_getR (k0 := 17) hX d_Mo_comesBack_85 rfl rfl u_Mo (by decide) lk_Mo_64 rfl ?_
      refine Z_iconst (v := nI 0) hX d_Mo_comesBack_88 rfl ?_
      refine Z_iload_n (i := 2) hX d_Mo_comesBack_89 rfl rfl ?_
      refine Z_iadd0N hX d_Mo_comesBack_90 ?_
      refine Z_iconst (v := (-1)) hX d_Mo_comesBack_91 rfl ?_
      refine Z_iast hX d_Mo_comesBack_92 rfl rfl (by omega) (by decide) ?_
      refine Z_aload_n (i := 0) hX d_Mo_comesBack_93 rfl rfl ?_
      refine Z_getR (k0 := 17) hX d_Mo_comesBack_94 rfl rfl u_Mo (by decide) lk_Mo_64 rfl ?_
      refine Z_sipush (v := nI 448) hX d_Mo_comesBack_97 rfl ?_
      refine Z_iload_n (i := 2) hX d_Mo_comesBack_100 rfl rfl ?_
      refine Z_iaddN hX d_Mo_comesBack_101 ?_
      refine Z_iconst (v := 0) hX d_Mo_comesBack_102 rfl ?_
      refine Z_iast (k0 := 448 + (4 * e + i)) hX d_Mo_comesBack_103 rfl rfl (by omega) (by decide) ?_
      refine Z_iinc (v := nI (4 * e + (i + 1))) hX d_Mo_comesBack_104 rfl (nI4s e i) (by decide) rfl ?_
      refine Z_goto (tgt := 75) hX d_Mo_comesBack_107 rfl ?_
      refine Z_loc ?_ (Z_mem ?_ ?_ (ih (i + 1) (by omega)))
      · rfl
      · rfl
      · rfl
  refine Z_loc ?_ (Z_mem ?_ ?_ (hL75 4 0 (by omega)))
  · rfl
  · rfl
  · rfl

set_option maxRecDepth 100000 in
set_option maxHeartbeats 4000000 in
theorem c_Mo_thrown {la : Launch} {G : zG} {I : zI} {J : zJ}  : zCi la G y_Mo_thrown (Cond.code y_Mo_thrown prog_8_method_24_code 1 (some .int) :: TBL) (zR 1) [.ref (zad G 64)] I J (I 64 0) (I) (J) := by
  refine zCi_of (by decide) (by simp [lg_sl, Value.category]) (rfl) (fun X hla hX hR => ?_)
  subst hla
  refine Z_loc (l' := [(0, .ref (zad G 64))]) (by simp [lv_args, Value.category, List.lookup]) ?_
  refine Z_aload_n (i := 0) hX d_Mo_thrown_0 rfl rfl ?_
  refine Z_getI (k0 := 0) hX d_Mo_thrown_1 rfl rfl u_Mo (by decide) lk_Mo_7 rfl ?_
  exact Z_ri (hR _ _ d_Mo_thrown_4) (by rfl) rfl rfl

set_option maxRecDepth 100000 in
set_option maxHeartbeats 4000000 in
theorem c_Mo_noElement {la : Launch} {G : zG} {I : zI} {J : zJ} {e : Int32} : zCi la G y_Mo_noElement (Cond.code y_Mo_noElement prog_8_method_25_code 2 (some .boolean) :: TBL) (zR 1) [.ref (zad G 64), .int e] I J (zB (m_ne I e)) (I) (J) := by
  refine zCi_of (by decide) (by simp [lg_sl, Value.category]) (zB_nar _) (fun X hla hX hR => ?_)
  subst hla
  refine Z_loc (l' := [(0, .ref (zad G 64)), (1, .int e)]) (by simp [lv_args, Value.category, List.lookup]) ?_
  refine Z_iload_n (i := 1) hX d_Mo_noElement_0 rfl rfl ?_
  refine Z_iflt (tgt := 19) hX d_Mo_noElement_1 rfl (fun h1 => ?_) (fun h1 => ?_)
  · refine Z_iconst (v := 1) hX d_Mo_noElement_19 rfl ?_
    refine Z_goto (tgt := 24) hX d_Mo_noElement_20 rfl ?_
    exact Z_ri (hR _ _ d_Mo_noElement_24) (by simp [m_ne, zB, h1]) rfl rfl
  · refine Z_iload_n (i := 1) hX d_Mo_noElement_4 rfl rfl ?_
    refine Z_bipush (v := 15) hX d_Mo_noElement_5 rfl ?_
    refine Z_icgt (tgt := 19) hX d_Mo_noElement_7 rfl (fun h7 => ?_) (fun h7 => ?_)
    · refine Z_iconst (v := 1) hX d_Mo_noElement_19 rfl ?_
      refine Z_goto (tgt := 24) hX d_Mo_noElement_20 rfl ?_
      exact Z_ri (hR _ _ d_Mo_noElement_24) (by simp [m_ne, zB, h1, h7]) rfl rfl
    · have hix := nI_ix (x := e) (n := 15) (by decide) h1 h7
      refine Z_aload_n (i := 0) hX d_Mo_noElement_10 rfl rfl ?_
      refine Z_getR (k0 := 2) hX d_Mo_noElement_11 rfl rfl u_Mo (by decide) lk_Mo_17 rfl ?_
      refine Z_iload_n (i := 1) hX d_Mo_noElement_14 rfl rfl ?_
      refine Z_zald (k0 := e.toNatClampNeg) hX d_Mo_noElement_15 rfl hix.1 (Nat.lt_succ_of_le hix.2) (by decide) ?_
      refine Z_ifne (tgt := 23) hX d_Mo_noElement_16 rfl (fun h16 => ?_) (fun h16 => ?_)
      · refine Z_iconst (v := 0) hX d_Mo_noElement_23 rfl ?_
        exact Z_ri (hR _ _ d_Mo_noElement_24) (by simp [m_ne, zB, h1, h7, h16]) rfl rfl
      · refine Z_iconst (v := 1) hX d_Mo_noElement_19 rfl ?_
        refine Z_goto (tgt := 24) hX d_Mo_noElement_20 rfl ?_
        exact Z_ri (hR _ _ d_Mo_noElement_24) (by simp [m_ne, zB, h1, h7, h16]) rfl rfl

set_option maxRecDepth 100000 in
set_option maxHeartbeats 4000000 in
theorem c_Mo_noPort {la : Launch} {G : zG} {I : zI} {J : zJ} {e p : Int32} : zCi la G y_Mo_noPort (Cond.code y_Mo_noPort prog_8_method_26_code 3 (some .boolean) :: TBL) (zR 2) [.ref (zad G 64), .int e, .int p] I J (zB (m_np I e p)) (I) (J) := by
  refine zCi_of (by decide) (by simp [lg_sl, Value.category]) (zB_nar _) (fun X hla hX hR => ?_)
  subst hla
  refine Z_loc (l' := [(0, .ref (zad G 64)), (1, .int e), (2, .int p)]) (by simp [lv_args, Value.category, List.lookup]) ?_
  refine Z_aload_n (i := 0) hX d_Mo_noPort_0 rfl rfl ?_
  refine Z_iload_n (i := 1) hX d_Mo_noPort_1 rfl rfl ?_
  refine Z_cVi1 hX d_Mo_noPort_2 c_Mo_noElement m_Mo_noElement rfl rfl lk_Mo_149 ⟨by decide, by decide⟩ ⟨by decide, by decide⟩ (Nat.le_of_ble_eq_true rfl) ?_
  refine Z_ifneB (tgt := 17) hX d_Mo_noPort_5 rfl (fun h5 => ?_) (fun h5 => ?_)
  · refine Z_iconst (v := 1) hX d_Mo_noPort_17 rfl ?_
    refine Z_goto (tgt := 22) hX d_Mo_noPort_18 rfl ?_
    exact Z_ri (hR _ _ d_Mo_noPort_22) (by simp [m_np, zB, *]) rfl rfl
  · refine Z_iload_n (i := 2) hX d_Mo_noPort_8 rfl rfl ?_
    refine Z_iflt (tgt := 17) hX d_Mo_noPort_9 rfl (fun h9 => ?_) (fun h9 => ?_)
    · refine Z_iconst (v := 1) hX d_Mo_noPort_17 rfl ?_
      refine Z_goto (tgt := 22) hX d_Mo_noPort_18 rfl ?_
      exact Z_ri (hR _ _ d_Mo_noPort_22) (by simp [m_np, zB, *]) rfl rfl
    · refine Z_iload_n (i := 2) hX d_Mo_noPort_12 rfl rfl ?_
      refine Z_iconst (v := 3) hX d_Mo_noPort_13 rfl ?_
      refine Z_icle (tgt := 21) hX d_Mo_noPort_14 rfl (fun h14 => ?_) (fun h14 => ?_)
      · refine Z_iconst (v := 0) hX d_Mo_noPort_21 rfl ?_
        exact Z_ri (hR _ _ d_Mo_noPort_22) (by simp [m_np, zB, *]) rfl rfl
      · refine Z_iconst (v := 1) hX d_Mo_noPort_17 rfl ?_
        refine Z_goto (tgt := 22) hX d_Mo_noPort_18 rfl ?_
        exact Z_ri (hR _ _ d_Mo_noPort_22) (by simp [m_np, zB, *]) rfl rfl

set_option maxRecDepth 100000 in
set_option maxHeartbeats 4000000 in
theorem c_Mo_noLink {la : Launch} {G : zG} {I : zI} {J : zJ} {k : Int32} : zCi la G y_Mo_noLink (Cond.code y_Mo_noLink prog_8_method_27_code 2 (some .boolean) :: TBL) (zR 1) [.ref (zad G 64), .int k] I J (zB (m_nl I k)) (I) (J) := by
  refine zCi_of (by decide) (by simp [lg_sl, Value.category]) (zB_nar _) (fun X hla hX hR => ?_)
  subst hla
  refine Z_loc (l' := [(0, .ref (zad G 64)), (1, .int k)]) (by simp [lv_args, Value.category, List.lookup]) ?_
  refine Z_iload_n (i := 1) hX d_Mo_noLink_0 rfl rfl ?_
  refine Z_iflt (tgt := 12) hX d_Mo_noLink_1 rfl (fun h1 => ?_) (fun h1 => ?_)
  · refine Z_iconst (v := 1) hX d_Mo_noLink_12 rfl ?_
    refine Z_goto (tgt := 17) hX d_Mo_noLink_13 rfl ?_
    exact Z_ri (hR _ _ d_Mo_noLink_17) (by simp [m_nl, zB, *]) rfl rfl
  · refine Z_iload_n (i := 1) hX d_Mo_noLink_4 rfl rfl ?_
    refine Z_aload_n (i := 0) hX d_Mo_noLink_5 rfl rfl ?_
    refine Z_getI (k0 := 14) hX d_Mo_noLink_6 rfl rfl u_Mo (by decide) lk_Mo_55 rfl ?_
    refine Z_iclt (tgt := 16) hX d_Mo_noLink_9 rfl (fun h9 => ?_) (fun h9 => ?_)
    · refine Z_iconst (v := 0) hX d_Mo_noLink_16 rfl ?_
      exact Z_ri (hR _ _ d_Mo_noLink_17) (by simp [m_nl, zB, *]) rfl rfl
    · refine Z_iconst (v := 1) hX d_Mo_noLink_12 rfl ?_
      refine Z_goto (tgt := 17) hX d_Mo_noLink_13 rfl ?_
      exact Z_ri (hR _ _ d_Mo_noLink_17) (by simp [m_nl, zB, *]) rfl rfl

set_option maxRecDepth 100000 in
set_option maxHeartbeats 4000000 in
theorem c_Mo_followed {la : Launch} {G : zG} {I : zI} {J : zJ} {e : Nat} (he : e < 16) (hM : okM I) (hK : okMK I e) : zCi la G y_Mo_followed (Cond.code y_Mo_followed prog_8_method_21_code 3 (some .int) :: TBL) (zR 2) [.ref (zad G 64), .int (nI e)] I J (m_fw I e) (I) (J) := by
  refine zCi_of (by decide) (by simp [lg_sl, Value.category]) (rfl) (fun X hla hX hR => ?_)
  subst hla
  refine Z_loc (l' := [(0, .ref (zad G 64)), (1, .int (nI e))]) (by simp [lv_args, Value.category, List.lookup]) ?_
  refine Z_aload_n (i := 0) hX d_Mo_followed_0 rfl rfl ?_
  refine Z_iload_n (i := 1) hX d_Mo_followed_1 rfl rfl ?_
  refine Z_cVi1 hX d_Mo_followed_2 (c_Mo_whole (by omega)) m_Mo_whole rfl rfl lk_Mo_93 ⟨by decide, by decide⟩ ⟨by decide, by decide⟩ (Nat.le_of_ble_eq_true rfl) ?_
  refine Z_ifeqB (tgt := 22) hX d_Mo_followed_5 rfl (fun h5 => ?_) (fun h5 => ?_)
  · refine Z_iconst (v := (-1)) hX d_Mo_followed_22 rfl ?_
    exact Z_ri (hR _ _ d_Mo_followed_23) (by exact (m_fw_w h5).symm) rfl rfl
  · refine Z_aload_n (i := 0) hX d_Mo_followed_8 rfl rfl ?_
    refine Z_getR (k0 := 17) hX d_Mo_followed_9 rfl rfl u_Mo (by decide) lk_Mo_64 rfl ?_
    refine Z_sipush (v := nI 512) hX d_Mo_followed_12 rfl ?_
    refine Z_iload_n (i := 1) hX d_Mo_followed_15 rfl rfl ?_
    refine Z_iaddN hX d_Mo_followed_16 ?_
    refine Z_iald hX d_Mo_followed_17 rfl rfl (by omega) (by decide) ?_
    refine Z_iconst (v := 1) hX d_Mo_followed_18 rfl ?_
    refine Z_iceq (tgt := 24) hX d_Mo_followed_19 rfl (fun h19 => ?_) (fun h19 => ?_)
    · obtain ⟨k, hk, hk2⟩ := hK h19
      refine Z_iconst (v := nI 4) hX d_Mo_followed_24 rfl ?_
      refine Z_iload_n (i := 1) hX d_Mo_followed_25 rfl rfl ?_
      refine Z_imulN hX d_Mo_followed_26 ?_
      refine Z_aload_n (i := 0) hX d_Mo_followed_27 rfl rfl ?_
      refine Z_getR (k0 := 17) hX d_Mo_followed_28 rfl rfl u_Mo (by decide) lk_Mo_64 rfl ?_
      refine Z_sipush (v := nI 528) hX d_Mo_followed_31 rfl ?_
      refine Z_iload_n (i := 1) hX d_Mo_followed_34 rfl rfl ?_
      refine Z_iaddN hX d_Mo_followed_35 ?_
      refine Z_iald hX d_Mo_followed_36 rfl rfl (by omega) (by decide) ?_
      refine Z_top hk2 ?_
      refine Z_iaddN hX d_Mo_followed_37 ?_
      refine Z_istore_n (i := 2) hX d_Mo_followed_38 rfl (by decide) rfl ?_
      refine Z_aload_n (i := 0) hX d_Mo_followed_39 rfl rfl ?_
      refine Z_getR (k0 := 11) hX d_Mo_followed_40 rfl rfl u_Mo (by decide) lk_Mo_46 rfl ?_
      refine Z_iload_n (i := 2) hX d_Mo_followed_43 rfl rfl ?_
      refine Z_iald hX d_Mo_followed_44 rfl rfl (by omega) (by decide) ?_
      refine Z_iflt (tgt := 58) hX d_Mo_followed_45 rfl (fun h45 => ?_) (fun h45 => ?_)
      · refine Z_bipush (v := nI 16) hX d_Mo_followed_58 rfl ?_
        refine Z_iload_n (i := 2) hX d_Mo_followed_60 rfl rfl ?_
        refine Z_iaddN hX d_Mo_followed_61 ?_
        exact Z_ri (hR _ _ d_Mo_followed_62) (by exact (m_fw_s h5 h19 hk hk2 h45).symm) rfl rfl
      · obtain ⟨l, hl, hl2, ha, hc⟩ := okM_at hM (by omega) h45
        obtain ⟨o, ho, ho2⟩ := m_ax_ok (p := 4 * e + k) ha hc
        refine Z_aload_n (i := 0) hX d_Mo_followed_48 rfl rfl ?_
        refine Z_iload_n (i := 2) hX d_Mo_followed_49 rfl rfl ?_
        refine Z_cVi1 hX d_Mo_followed_50 (c_Mo_across (by omega) hl hl2) m_Mo_across rfl rfl lk_Mo_89 ⟨by decide, by decide⟩ ⟨by decide, by decide⟩ (Nat.le_of_ble_eq_true rfl) ?_
        refine Z_top ho2 ?_
        refine Z_iconst (v := 4) hX d_Mo_followed_53 rfl ?_
        refine Z_div4 hX d_Mo_followed_54 (by omega) ?_
        refine Z_goto (tgt := 62) hX d_Mo_followed_55 rfl ?_
        exact Z_ri (hR _ _ d_Mo_followed_62) (by exact (m_fw_x h5 h19 hk hk2 h45 hl hl2 ho ho2).symm) rfl rfl
    · refine Z_iconst (v := (-1)) hX d_Mo_followed_22 rfl ?_
      exact Z_ri (hR _ _ d_Mo_followed_23) (by exact (m_fw_l h5 h19).symm) rfl rfl

set_option maxRecDepth 100000 in
set_option maxHeartbeats 4000000 in
theorem c_Mo_round {la : Launch} {G : zG} {I : zI} {J : zJ} (hM : okM I) (hQ : ∀ e, e < 16 → okQ (I 70 e) ∧ okQ (I 71 e)) : zCv la G y_Mo_round (Cond.code y_Mo_round prog_8_method_13_code 5 none :: TBL) (zR 6) [.ref (zad G 64)] I J (m_ro I) (m_roJ I J) := by
  refine zCv_of (by decide) (by simp [lg_sl, Value.category]) (fun X hla hX hR => ?_)
  subst hla
  refine Z_loc (l' := [(0, .ref (zad G 64))]) (by simp [lv_args, Value.category, List.lookup]) ?_
  refine Z_aload_n (i := 0) hX d_Mo_round_0 rfl rfl ?_
  refine Z_getR (k0 := 17) hX d_Mo_round_1 rfl rfl u_Mo (by decide) lk_Mo_64 rfl ?_
  refine Z_sipush (v := nI 760) hX d_Mo_round_4 rfl ?_
  refine Z_aload_n (i := 0) hX d_Mo_round_7 rfl rfl ?_
  refine Z_getR (k0 := 17) hX d_Mo_round_8 rfl rfl u_Mo (by decide) lk_Mo_64 rfl ?_
  refine Z_sipush (v := nI 760) hX d_Mo_round_11 rfl ?_
  refine Z_iald hX d_Mo_round_14 rfl rfl (by omega) (by decide) ?_
  refine Z_iconst (v := 1) hX d_Mo_round_15 rfl ?_
  refine Z_iadd hX d_Mo_round_16 ?_
  refine Z_iast hX d_Mo_round_17 rfl rfl (by omega) (by decide) ?_
  refine Z_iconst (v := nI 0) hX d_Mo_round_18 rfl ?_
  refine Z_istore_n (i := 1) hX d_Mo_round_19 rfl (by decide) rfl ?_
  have hL20 : ∀ k i : Nat, k + i = 64 → Z X G 5 0 0 20 [(1, .int (nI i)), (0, .ref (zad G 64))] [] ((m_r1 (zup I 79 760 (I 79 760 + 1)) i)) (J) := by
    intro k
    induction k with
    | zero =>
      intro i hi
      obtain rfl : i = 64 := by omega
      refine Z_iload_n (i := 1) hX d_Mo_round_20 rfl rfl ?_
      refine Z_bipush (v := 64) hX d_Mo_round_21 rfl ?_
      refine Z_icge (tgt := 54) hX d_Mo_round_23 rfl (fun h23 => ?_) (fun h => absurd (by decide) h)
      refine Z_iconst (v := nI 0) hX d_Mo_round_54 rfl ?_
      refine Z_istore_n (i := 1) hX d_Mo_round_55 rfl (by decide) rfl ?_
      have hL56 : ∀ k i : Nat, k + i = 16 → Z X G 5 0 0 56 [(1, .int (nI i)), (0, .ref (zad G 64))] [] ((m_r2 (m_r1 (zup I 79 760 (I 79 760 + 1)) 64) i)) (J) := by
        intro k
        induction k with
        | zero =>
          intro i hi
          obtain rfl : i = 16 := by omega
          refine Z_iload_n (i := 1) hX d_Mo_round_56 rfl rfl ?_
          refine Z_bipush (v := 16) hX d_Mo_round_57 rfl ?_
          refine Z_icge (tgt := 81) hX d_Mo_round_59 rfl (fun h59 => ?_) (fun h => absurd (by decide) h)
          refine Z_iconst (v := nI 0) hX d_Mo_round_81 rfl ?_
          refine Z_istore_n (i := 1) hX d_Mo_round_82 rfl (by decide) rfl ?_
          have hL83 : ∀ k i : Nat, k + i = 64 → Z X G 5 0 0 83 [(1, .int (nI i)), (0, .ref (zad G 64))] [] ((m_r3 (m_r2 (m_r1 (zup I 79 760 (I 79 760 + 1)) 64) 16) i)) (J) := by
            intro k
            induction k with
            | zero =>
              intro i hi
              obtain rfl : i = 64 := by omega
              refine Z_iload_n (i := 1) hX d_Mo_round_83 rfl rfl ?_
              refine Z_bipush (v := 64) hX d_Mo_round_84 rfl ?_
              refine Z_icge (tgt := 150) hX d_Mo_round_86 rfl (fun h86 => ?_) (fun h => absurd (by decide) h)
              refine Z_iconst (v := nI 0) hX d_Mo_round_150 rfl ?_
              refine Z_istore_n (i := 1) hX d_Mo_round_151 rfl (by decide) rfl ?_
              have hL152 : ∀ k i : Nat, k + i = 48 → Z X G 5 0 0 152 [(1, .int (nI i)), (0, .ref (zad G 64))] [] ((m_r4 (m_r3 (m_r2 (m_r1 (zup I 79 760 (I 79 760 + 1)) 64) 16) 64) i)) (J) := by
                intro k
                induction k with
                | zero =>
                  intro i hi
                  obtain rfl : i = 48 := by omega
                  refine Z_iload_n (i := 1) hX d_Mo_round_152 rfl rfl ?_
                  refine Z_bipush (v := 48) hX d_Mo_round_153 rfl ?_
                  refine Z_icge (tgt := 175) hX d_Mo_round_155 rfl (fun h155 => ?_) (fun h => absurd (by decide) h)
                  refine Z_iconst (v := 1) hX d_Mo_round_175 rfl ?_
                  refine Z_istore_n (i := 1) hX d_Mo_round_176 rfl (by decide) rfl ?_
                  refine Z_iconst (v := nI 0) hX d_Mo_round_177 rfl ?_
                  refine Z_istore_n (i := 2) hX d_Mo_round_178 rfl (by decide) rfl ?_
                  have hL179 : ∀ k i : Nat, k + i = 16 → Z X G 5 0 0 179 [(2, .int (nI i)), (1, .int (zB (m_r5s (m_rA I) i))), (0, .ref (zad G 64))] [] ((m_r5 (m_rA I) i)) (m_r5J (m_rA I) J i) := by
                    intro k
                    induction k with
                    | zero =>
                      intro i hi
                      obtain rfl : i = 16 := by omega
                      refine Z_iload_n (i := 2) hX d_Mo_round_179 rfl rfl ?_
                      refine Z_bipush (v := 16) hX d_Mo_round_180 rfl ?_
                      refine Z_icge (tgt := 330) hX d_Mo_round_182 rfl (fun h182 => ?_) (fun h => absurd (by decide) h)
                      refine Z_aload_n (i := 0) hX d_Mo_round_330 rfl rfl ?_
                      refine Z_getR (k0 := 17) hX d_Mo_round_331 rfl rfl u_Mo (by decide) lk_Mo_64 rfl ?_
                      refine Z_sipush (v := nI 761) hX d_Mo_round_334 rfl ?_
                      refine Z_cutw (pc' := 355) (w := (if m_r5s (m_rA I) 16 = true then m_r5 (m_rA I) 16 79 761 + 1 else 0)) ?_ (fun hJ355 => ?_)
                      · refine Z_id ?_
                        refine Z_iast hX d_Mo_round_355 rfl rfl (by omega) (by decide) ?_
                        exact Z_mem (by exact m_ro_1) (by exact m_roJ_1) (hR _ _ d_Mo_round_356)
                      · refine Z_iload_n (i := 1) hX d_Mo_round_337 rfl rfl ?_
                        refine Z_ifeq (tgt := 354) hX d_Mo_round_338 rfl (fun h338 => ?_) (fun h338 => ?_)
                        · refine Z_iconst (v := 0) hX d_Mo_round_354 rfl ?_
                          exact hJ355 _ (by first | exact (if_pos (zB_ne h338)).symm | exact (if_neg (by rw [zB_eq h338]; decide)).symm)
                        · refine Z_aload_n (i := 0) hX d_Mo_round_341 rfl rfl ?_
                          refine Z_getR (k0 := 17) hX d_Mo_round_342 rfl rfl u_Mo (by decide) lk_Mo_64 rfl ?_
                          refine Z_sipush (v := nI 761) hX d_Mo_round_345 rfl ?_
                          refine Z_iald hX d_Mo_round_348 rfl rfl (by omega) (by decide) ?_
                          refine Z_iconst (v := 1) hX d_Mo_round_349 rfl ?_
                          refine Z_iadd hX d_Mo_round_350 ?_
                          refine Z_goto (tgt := 355) hX d_Mo_round_351 rfl ?_
                          exact hJ355 _ (by first | exact (if_pos (zB_ne h338)).symm | exact (if_neg (by rw [zB_eq h338]; decide)).symm)
                    | succ k ih =>
                      intro i hi
                      have hi2 : i < 16 := by omega
                      refine Z_iload_n (i := 2) hX d_Mo_round_179 rfl rfl ?_
                      refine Z_bipush (v := 16) hX d_Mo_round_180 rfl ?_
                      refine Z_icge (tgt := 330) hX d_Mo_round_182 rfl (fun h => absurd h (nI_ge hi2 (by decide))) (fun h182 => ?_)
                      refine Z_aload_n (i := 0) hX d_Mo_round_185 rfl rfl ?_
                      refine Z_iload_n (i := 2) hX d_Mo_round_186 rfl rfl ?_
                      refine Z_cVi1 hX d_Mo_round_187 (c_Mo_whole (by omega)) m_Mo_whole rfl rfl lk_Mo_93 ⟨by decide, by decide⟩ ⟨by decide, by decide⟩ (Nat.le_of_ble_eq_true rfl) ?_
                      refine Z_ifeqB (tgt := 217) hX d_Mo_round_190 rfl (fun h190 => ?_) (fun h190 => ?_)
                      · refine Z_aload_n (i := 0) hX d_Mo_round_217 rfl rfl ?_
                        refine Z_getR (k0 := 17) hX d_Mo_round_218 rfl rfl u_Mo (by decide) lk_Mo_64 rfl ?_
                        refine Z_sipush (v := nI 592) hX d_Mo_round_221 rfl ?_
                        refine Z_iload_n (i := 2) hX d_Mo_round_224 rfl rfl ?_
                        refine Z_iaddN hX d_Mo_round_225 ?_
                        refine Z_aload_n (i := 0) hX d_Mo_round_226 rfl rfl ?_
                        refine Z_getR (k0 := 17) hX d_Mo_round_227 rfl rfl u_Mo (by decide) lk_Mo_64 rfl ?_
                        refine Z_sipush (v := nI 576) hX d_Mo_round_230 rfl ?_
                        refine Z_iload_n (i := 2) hX d_Mo_round_233 rfl rfl ?_
                        refine Z_iaddN hX d_Mo_round_234 ?_
                        refine Z_iald hX d_Mo_round_235 rfl rfl (by omega) (by decide) ?_
                        refine Z_iast hX d_Mo_round_236 rfl rfl (by omega) (by decide) ?_
                        refine Z_aload_n (i := 0) hX d_Mo_round_237 rfl rfl ?_
                        refine Z_getR (k0 := 17) hX d_Mo_round_238 rfl rfl u_Mo (by decide) lk_Mo_64 rfl ?_
                        refine Z_sipush (v := nI 576) hX d_Mo_round_241 rfl ?_
                        refine Z_iload_n (i := 2) hX d_Mo_round_244 rfl rfl ?_
                        refine Z_iaddN hX d_Mo_round_245 ?_
                        refine Z_aload_n (i := 0) hX d_Mo_round_246 rfl rfl ?_
                        refine Z_getR (k0 := 17) hX d_Mo_round_247 rfl rfl u_Mo (by decide) lk_Mo_64 rfl ?_
                        refine Z_sipush (v := nI 560) hX d_Mo_round_250 rfl ?_
                        refine Z_iload_n (i := 2) hX d_Mo_round_253 rfl rfl ?_
                        refine Z_iaddN hX d_Mo_round_254 ?_
                        refine Z_iald hX d_Mo_round_255 rfl rfl (by omega) (by decide) ?_
                        refine Z_iast hX d_Mo_round_256 rfl rfl (by omega) (by decide) ?_
                        refine Z_aload_n (i := 0) hX d_Mo_round_257 rfl rfl ?_
                        refine Z_iload_n (i := 2) hX d_Mo_round_258 rfl rfl ?_
                        refine Z_cVi1 hX d_Mo_round_259 (c_Mo_stateOf (by omega)) m_Mo_stateOf rfl rfl lk_Mo_127 ⟨by decide, by decide⟩ ⟨by decide, by decide⟩ (Nat.le_of_ble_eq_true rfl) ?_
                        refine Z_istore_n (i := 3) hX d_Mo_round_262 rfl (by decide) rfl ?_
                        refine Z_aload_n (i := 0) hX d_Mo_round_263 rfl rfl ?_
                        refine Z_iload_n (i := 2) hX d_Mo_round_264 rfl rfl ?_
                        refine Z_cVi1 hX d_Mo_round_265 (c_Mo_portOf (by omega)) m_Mo_portOf rfl rfl lk_Mo_130 ⟨by decide, by decide⟩ ⟨by decide, by decide⟩ (Nat.le_of_ble_eq_true rfl) ?_
                        refine Z_istore hX d_Mo_round_268 (by decide) rfl ?_
                        refine Z_iload_n (i := 3) hX d_Mo_round_270 rfl rfl ?_
                        refine Z_aload_n (i := 0) hX d_Mo_round_271 rfl rfl ?_
                        refine Z_getR (k0 := 17) hX d_Mo_round_272 rfl rfl u_Mo (by decide) lk_Mo_64 rfl ?_
                        refine Z_sipush (v := nI 640) hX d_Mo_round_275 rfl ?_
                        refine Z_iload_n (i := 2) hX d_Mo_round_278 rfl rfl ?_
                        refine Z_iaddN hX d_Mo_round_279 ?_
                        refine Z_iald hX d_Mo_round_280 rfl rfl (by omega) (by decide) ?_
                        refine Z_icne (tgt := 299) hX d_Mo_round_281 rfl (fun h281 => ?_) (fun h281 => ?_)
                        · refine Z_iconst (v := 0) hX d_Mo_round_299 rfl ?_
                          refine Z_istore_n (i := 1) hX d_Mo_round_300 rfl (by decide) rfl ?_
                          refine Z_aload_n (i := 0) hX d_Mo_round_301 rfl rfl ?_
                          refine Z_getR (k0 := 17) hX d_Mo_round_302 rfl rfl u_Mo (by decide) lk_Mo_64 rfl ?_
                          refine Z_sipush (v := nI 640) hX d_Mo_round_305 rfl ?_
                          refine Z_iload_n (i := 2) hX d_Mo_round_308 rfl rfl ?_
                          refine Z_iaddN hX d_Mo_round_309 ?_
                          refine Z_iload_n (i := 3) hX d_Mo_round_310 rfl rfl ?_
                          refine Z_iast hX d_Mo_round_311 rfl rfl (by omega) (by decide) ?_
                          refine Z_aload_n (i := 0) hX d_Mo_round_312 rfl rfl ?_
                          refine Z_getR (k0 := 17) hX d_Mo_round_313 rfl rfl u_Mo (by decide) lk_Mo_64 rfl ?_
                          refine Z_sipush (v := nI 656) hX d_Mo_round_316 rfl ?_
                          refine Z_iload_n (i := 2) hX d_Mo_round_319 rfl rfl ?_
                          refine Z_iaddN hX d_Mo_round_320 ?_
                          refine Z_iload hX d_Mo_round_321 rfl ?_
                          refine Z_iast hX d_Mo_round_323 rfl rfl (by omega) (by decide) ?_
                          refine Z_iinc (v := nI (i + 1)) hX d_Mo_round_324 rfl (by rw [nI_succ]; rfl) (by decide) rfl ?_
                          refine Z_goto (tgt := 179) hX d_Mo_round_327 rfl ?_
                          refine Z_loc ?_ (Z_mem ?_ ?_ (ih (i + 1) (by omega)))
                          · (rw [show zB (m_r5s (m_rA I) (i + 1)) = 0 from by have h9 : ¬ m_so (m_r5a (m_r5 (m_rA I) i) i) i = m_r5a (m_r5 (m_rA I) i) i 79 (640 + i) := h281; simp [m_r5s, h9, zB]]; rfl)
                          · rfl
                          · exact (if_neg (by rw [h190]; decide)).symm
                        · refine Z_iload hX d_Mo_round_284 rfl ?_
                          refine Z_aload_n (i := 0) hX d_Mo_round_286 rfl rfl ?_
                          refine Z_getR (k0 := 17) hX d_Mo_round_287 rfl rfl u_Mo (by decide) lk_Mo_64 rfl ?_
                          refine Z_sipush (v := nI 656) hX d_Mo_round_290 rfl ?_
                          refine Z_iload_n (i := 2) hX d_Mo_round_293 rfl rfl ?_
                          refine Z_iaddN hX d_Mo_round_294 ?_
                          refine Z_iald hX d_Mo_round_295 rfl rfl (by omega) (by decide) ?_
                          refine Z_iceq (tgt := 301) hX d_Mo_round_296 rfl (fun h296 => ?_) (fun h296 => ?_)
                          · refine Z_aload_n (i := 0) hX d_Mo_round_301 rfl rfl ?_
                            refine Z_getR (k0 := 17) hX d_Mo_round_302 rfl rfl u_Mo (by decide) lk_Mo_64 rfl ?_
                            refine Z_sipush (v := nI 640) hX d_Mo_round_305 rfl ?_
                            refine Z_iload_n (i := 2) hX d_Mo_round_308 rfl rfl ?_
                            refine Z_iaddN hX d_Mo_round_309 ?_
                            refine Z_iload_n (i := 3) hX d_Mo_round_310 rfl rfl ?_
                            refine Z_iast hX d_Mo_round_311 rfl rfl (by omega) (by decide) ?_
                            refine Z_aload_n (i := 0) hX d_Mo_round_312 rfl rfl ?_
                            refine Z_getR (k0 := 17) hX d_Mo_round_313 rfl rfl u_Mo (by decide) lk_Mo_64 rfl ?_
                            refine Z_sipush (v := nI 656) hX d_Mo_round_316 rfl ?_
                            refine Z_iload_n (i := 2) hX d_Mo_round_319 rfl rfl ?_
                            refine Z_iaddN hX d_Mo_round_320 ?_
                            refine Z_iload hX d_Mo_round_321 rfl ?_
                            refine Z_iast hX d_Mo_round_323 rfl rfl (by omega) (by decide) ?_
                            refine Z_iinc (v := nI (i + 1)) hX d_Mo_round_324 rfl (by rw [nI_succ]; rfl) (by decide) rfl ?_
                            refine Z_goto (tgt := 179) hX d_Mo_round_327 rfl ?_
                            refine Z_loc ?_ (Z_mem ?_ ?_ (ih (i + 1) (by omega)))
                            · (rw [show m_r5s (m_rA I) (i + 1) = m_r5s (m_rA I) i from by have h9 : m_po (m_r5a (m_r5 (m_rA I) i) i) i = m_r5a (m_r5 (m_rA I) i) i 79 (656 + i) := h296; have h8 : m_so (m_r5a (m_r5 (m_rA I) i) i) i = m_r5a (m_r5 (m_rA I) i) i 79 (640 + i) := h281; simp [m_r5s, h9, h8]]; rfl)
                            · rfl
                            · exact (if_neg (by rw [h190]; decide)).symm
                          · refine Z_iconst (v := 0) hX d_Mo_round_299 rfl ?_
                            refine Z_istore_n (i := 1) hX d_Mo_round_300 rfl (by decide) rfl ?_
                            refine Z_aload_n (i := 0) hX d_Mo_round_301 rfl rfl ?_
                            refine Z_getR (k0 := 17) hX d_Mo_round_302 rfl rfl u_Mo (by decide) lk_Mo_64 rfl ?_
                            refine Z_sipush (v := nI 640) hX d_Mo_round_305 rfl ?_
                            refine Z_iload_n (i := 2) hX d_Mo_round_308 rfl rfl ?_
                            refine Z_iaddN hX d_Mo_round_309 ?_
                            refine Z_iload_n (i := 3) hX d_Mo_round_310 rfl rfl ?_
                            refine Z_iast hX d_Mo_round_311 rfl rfl (by omega) (by decide) ?_
                            refine Z_aload_n (i := 0) hX d_Mo_round_312 rfl rfl ?_
                            refine Z_getR (k0 := 17) hX d_Mo_round_313 rfl rfl u_Mo (by decide) lk_Mo_64 rfl ?_
                            refine Z_sipush (v := nI 656) hX d_Mo_round_316 rfl ?_
                            refine Z_iload_n (i := 2) hX d_Mo_round_319 rfl rfl ?_
                            refine Z_iaddN hX d_Mo_round_320 ?_
                            refine Z_iload hX d_Mo_round_321 rfl ?_
                            refine Z_iast hX d_Mo_round_323 rfl rfl (by omega) (by decide) ?_
                            refine Z_iinc (v := nI (i + 1)) hX d_Mo_round_324 rfl (by rw [nI_succ]; rfl) (by decide) rfl ?_
                            refine Z_goto (tgt := 179) hX d_Mo_round_327 rfl ?_
                            refine Z_loc ?_ (Z_mem ?_ ?_ (ih (i + 1) (by omega)))
                            · (rw [show zB (m_r5s (m_rA I) (i + 1)) = 0 from by have h9 : ¬ m_po (m_r5a (m_r5 (m_rA I) i) i) i = m_r5a (m_r5 (m_rA I) i) i 79 (656 + i) := h296; simp [m_r5s, h9, zB]]; rfl)
                            · rfl
                            · exact (if_neg (by rw [h190]; decide)).symm
                      · refine Z_aload_n (i := 0) hX d_Mo_round_193 rfl rfl ?_
                        refine Z_getR (k0 := 19) hX d_Mo_round_194 rfl rfl u_Mo (by decide) lk_Mo_70 rfl ?_
                        refine Z_iload_n (i := 2) hX d_Mo_round_197 rfl rfl ?_
                        refine Z_aload_n (i := 0) hX d_Mo_round_198 rfl rfl ?_
                        refine Z_getR (k0 := 19) hX d_Mo_round_199 rfl rfl u_Mo (by decide) lk_Mo_70 rfl ?_
                        refine Z_iload_n (i := 2) hX d_Mo_round_202 rfl rfl ?_
                        refine Z_lald hX d_Mo_round_203 rfl rfl (by omega) (by decide) ?_
                        refine Z_aload_n (i := 0) hX d_Mo_round_204 rfl rfl ?_
                        refine Z_getR (k0 := 17) hX d_Mo_round_205 rfl rfl u_Mo (by decide) lk_Mo_64 rfl ?_
                        refine Z_sipush (v := nI 560) hX d_Mo_round_208 rfl ?_
                        refine Z_iload_n (i := 2) hX d_Mo_round_211 rfl rfl ?_
                        refine Z_iaddN hX d_Mo_round_212 ?_
                        refine Z_iald hX d_Mo_round_213 rfl rfl (by omega) (by decide) ?_
                        refine Z_i2l hX d_Mo_round_214 ?_
                        refine Z_ladd hX d_Mo_round_215 ?_
                        refine Z_last hX d_Mo_round_216 rfl rfl (by omega) (by decide) ?_
                        refine Z_aload_n (i := 0) hX d_Mo_round_217 rfl rfl ?_
                        refine Z_getR (k0 := 17) hX d_Mo_round_218 rfl rfl u_Mo (by decide) lk_Mo_64 rfl ?_
                        refine Z_sipush (v := nI 592) hX d_Mo_round_221 rfl ?_
                        refine Z_iload_n (i := 2) hX d_Mo_round_224 rfl rfl ?_
                        refine Z_iaddN hX d_Mo_round_225 ?_
                        refine Z_aload_n (i := 0) hX d_Mo_round_226 rfl rfl ?_
                        refine Z_getR (k0 := 17) hX d_Mo_round_227 rfl rfl u_Mo (by decide) lk_Mo_64 rfl ?_
                        refine Z_sipush (v := nI 576) hX d_Mo_round_230 rfl ?_
                        refine Z_iload_n (i := 2) hX d_Mo_round_233 rfl rfl ?_
                        refine Z_iaddN hX d_Mo_round_234 ?_
                        refine Z_iald hX d_Mo_round_235 rfl rfl (by omega) (by decide) ?_
                        refine Z_iast hX d_Mo_round_236 rfl rfl (by omega) (by decide) ?_
                        refine Z_aload_n (i := 0) hX d_Mo_round_237 rfl rfl ?_
                        refine Z_getR (k0 := 17) hX d_Mo_round_238 rfl rfl u_Mo (by decide) lk_Mo_64 rfl ?_
                        refine Z_sipush (v := nI 576) hX d_Mo_round_241 rfl ?_
                        refine Z_iload_n (i := 2) hX d_Mo_round_244 rfl rfl ?_
                        refine Z_iaddN hX d_Mo_round_245 ?_
                        refine Z_aload_n (i := 0) hX d_Mo_round_246 rfl rfl ?_
                        refine Z_getR (k0 := 17) hX d_Mo_round_247 rfl rfl u_Mo (by decide) lk_Mo_64 rfl ?_
                        refine Z_sipush (v := nI 560) hX d_Mo_round_250 rfl ?_
                        refine Z_iload_n (i := 2) hX d_Mo_round_253 rfl rfl ?_
                        refine Z_iaddN hX d_Mo_round_254 ?_
                        refine Z_iald hX d_Mo_round_255 rfl rfl (by omega) (by decide) ?_
                        refine Z_iast hX d_Mo_round_256 rfl rfl (by omega) (by decide) ?_
                        refine Z_aload_n (i := 0) hX d_Mo_round_257 rfl rfl ?_
                        refine Z_iload_n (i := 2) hX d_Mo_round_258 rfl rfl ?_
                        refine Z_cVi1 hX d_Mo_round_259 (c_Mo_stateOf (by omega)) m_Mo_stateOf rfl rfl lk_Mo_127 ⟨by decide, by decide⟩ ⟨by decide, by decide⟩ (Nat.le_of_ble_eq_true rfl) ?_
                        refine Z_istore_n (i := 3) hX d_Mo_round_262 rfl (by decide) rfl ?_
                        refine Z_aload_n (i := 0) hX d_Mo_round_263 rfl rfl ?_
                        refine Z_iload_n (i := 2) hX d_Mo_round_264 rfl rfl ?_
                        refine Z_cVi1 hX d_Mo_round_265 (c_Mo_portOf (by omega)) m_Mo_portOf rfl rfl lk_Mo_130 ⟨by decide, by decide⟩ ⟨by decide, by decide⟩ (Nat.le_of_ble_eq_true rfl) ?_
                        refine Z_istore hX d_Mo_round_268 (by decide) rfl ?_
                        refine Z_iload_n (i := 3) hX d_Mo_round_270 rfl rfl ?_
                        refine Z_aload_n (i := 0) hX d_Mo_round_271 rfl rfl ?_
                        refine Z_getR (k0 := 17) hX d_Mo_round_272 rfl rfl u_Mo (by decide) lk_Mo_64 rfl ?_
                        refine Z_sipush (v := nI 640) hX d_Mo_round_275 rfl ?_
                        refine Z_iload_n (i := 2) hX d_Mo_round_278 rfl rfl ?_
                        refine Z_iaddN hX d_Mo_round_279 ?_
                        refine Z_iald hX d_Mo_round_280 rfl rfl (by omega) (by decide) ?_
                        refine Z_icne (tgt := 299) hX d_Mo_round_281 rfl (fun h281 => ?_) (fun h281 => ?_)
                        · refine Z_iconst (v := 0) hX d_Mo_round_299 rfl ?_
                          refine Z_istore_n (i := 1) hX d_Mo_round_300 rfl (by decide) rfl ?_
                          refine Z_aload_n (i := 0) hX d_Mo_round_301 rfl rfl ?_
                          refine Z_getR (k0 := 17) hX d_Mo_round_302 rfl rfl u_Mo (by decide) lk_Mo_64 rfl ?_
                          refine Z_sipush (v := nI 640) hX d_Mo_round_305 rfl ?_
                          refine Z_iload_n (i := 2) hX d_Mo_round_308 rfl rfl ?_
                          refine Z_iaddN hX d_Mo_round_309 ?_
                          refine Z_iload_n (i := 3) hX d_Mo_round_310 rfl rfl ?_
                          refine Z_iast hX d_Mo_round_311 rfl rfl (by omega) (by decide) ?_
                          refine Z_aload_n (i := 0) hX d_Mo_round_312 rfl rfl ?_
                          refine Z_getR (k0 := 17) hX d_Mo_round_313 rfl rfl u_Mo (by decide) lk_Mo_64 rfl ?_
                          refine Z_sipush (v := nI 656) hX d_Mo_round_316 rfl ?_
                          refine Z_iload_n (i := 2) hX d_Mo_round_319 rfl rfl ?_
                          refine Z_iaddN hX d_Mo_round_320 ?_
                          refine Z_iload hX d_Mo_round_321 rfl ?_
                          refine Z_iast hX d_Mo_round_323 rfl rfl (by omega) (by decide) ?_
                          refine Z_iinc (v := nI (i + 1)) hX d_Mo_round_324 rfl (by rw [nI_succ]; rfl) (by decide) rfl ?_
                          refine Z_goto (tgt := 179) hX d_Mo_round_327 rfl ?_
                          refine Z_loc ?_ (Z_mem ?_ ?_ (ih (i + 1) (by omega)))
                          · (rw [show zB (m_r5s (m_rA I) (i + 1)) = 0 from by have h9 : ¬ m_so (m_r5a (m_r5 (m_rA I) i) i) i = m_r5a (m_r5 (m_rA I) i) i 79 (640 + i) := h281; simp [m_r5s, h9, zB]]; rfl)
                          · rfl
                          · exact (if_pos h190).symm
                        · refine Z_iload hX d_Mo_round_284 rfl ?_
                          refine Z_aload_n (i := 0) hX d_Mo_round_286 rfl rfl ?_
                          refine Z_getR (k0 := 17) hX d_Mo_round_287 rfl rfl u_Mo (by decide) lk_Mo_64 rfl ?_
                          refine Z_sipush (v := nI 656) hX d_Mo_round_290 rfl ?_
                          refine Z_iload_n (i := 2) hX d_Mo_round_293 rfl rfl ?_
                          refine Z_iaddN hX d_Mo_round_294 ?_
                          refine Z_iald hX d_Mo_round_295 rfl rfl (by omega) (by decide) ?_
                          refine Z_iceq (tgt := 301) hX d_Mo_round_296 rfl (fun h296 => ?_) (fun h296 => ?_)
                          · refine Z_aload_n (i := 0) hX d_Mo_round_301 rfl rfl ?_
                            refine Z_getR (k0 := 17) hX d_Mo_round_302 rfl rfl u_Mo (by decide) lk_Mo_64 rfl ?_
                            refine Z_sipush (v := nI 640) hX d_Mo_round_305 rfl ?_
                            refine Z_iload_n (i := 2) hX d_Mo_round_308 rfl rfl ?_
                            refine Z_iaddN hX d_Mo_round_309 ?_
                            refine Z_iload_n (i := 3) hX d_Mo_round_310 rfl rfl ?_
                            refine Z_iast hX d_Mo_round_311 rfl rfl (by omega) (by decide) ?_
                            refine Z_aload_n (i := 0) hX d_Mo_round_312 rfl rfl ?_
                            refine Z_getR (k0 := 17) hX d_Mo_round_313 rfl rfl u_Mo (by decide) lk_Mo_64 rfl ?_
                            refine Z_sipush (v := nI 656) hX d_Mo_round_316 rfl ?_
                            refine Z_iload_n (i := 2) hX d_Mo_round_319 rfl rfl ?_
                            refine Z_iaddN hX d_Mo_round_320 ?_
                            refine Z_iload hX d_Mo_round_321 rfl ?_
                            refine Z_iast hX d_Mo_round_323 rfl rfl (by omega) (by decide) ?_
                            refine Z_iinc (v := nI (i + 1)) hX d_Mo_round_324 rfl (by rw [nI_succ]; rfl) (by decide) rfl ?_
                            refine Z_goto (tgt := 179) hX d_Mo_round_327 rfl ?_
                            refine Z_loc ?_ (Z_mem ?_ ?_ (ih (i + 1) (by omega)))
                            · (rw [show m_r5s (m_rA I) (i + 1) = m_r5s (m_rA I) i from by have h9 : m_po (m_r5a (m_r5 (m_rA I) i) i) i = m_r5a (m_r5 (m_rA I) i) i 79 (656 + i) := h296; have h8 : m_so (m_r5a (m_r5 (m_rA I) i) i) i = m_r5a (m_r5 (m_rA I) i) i 79 (640 + i) := h281; simp [m_r5s, h9, h8]]; rfl)
                            · rfl
                            · exact (if_pos h190).symm
                          · refine Z_iconst (v := 0) hX d_Mo_round_299 rfl ?_
                            refine Z_istore_n (i := 1) hX d_Mo_round_300 rfl (by decide) rfl ?_
                            refine Z_aload_n (i := 0) hX d_Mo_round_301 rfl rfl ?_
                            refine Z_getR (k0 := 17) hX d_Mo_round_302 rfl rfl u_Mo (by decide) lk_Mo_64 rfl ?_
                            refine Z_sipush (v := nI 640) hX d_Mo_round_305 rfl ?_
                            refine Z_iload_n (i := 2) hX d_Mo_round_308 rfl rfl ?_
                            refine Z_iaddN hX d_Mo_round_309 ?_
                            refine Z_iload_n (i := 3) hX d_Mo_round_310 rfl rfl ?_
                            refine Z_iast hX d_Mo_round_311 rfl rfl (by omega) (by decide) ?_
                            refine Z_aload_n (i := 0) hX d_Mo_round_312 rfl rfl ?_
                            refine Z_getR (k0 := 17) hX d_Mo_round_313 rfl rfl u_Mo (by decide) lk_Mo_64 rfl ?_
                            refine Z_sipush (v := nI 656) hX d_Mo_round_316 rfl ?_
                            refine Z_iload_n (i := 2) hX d_Mo_round_319 rfl rfl ?_
                            refine Z_iaddN hX d_Mo_round_320 ?_
                            refine Z_iload hX d_Mo_round_321 rfl ?_
                            refine Z_iast hX d_Mo_round_323 rfl rfl (by omega) (by decide) ?_
                            refine Z_iinc (v := nI (i + 1)) hX d_Mo_round_324 rfl (by rw [nI_succ]; rfl) (by decide) rfl ?_
                            refine Z_goto (tgt := 179) hX d_Mo_round_327 rfl ?_
                            refine Z_loc ?_ (Z_mem ?_ ?_ (ih (i + 1) (by omega)))
                            · (rw [show zB (m_r5s (m_rA I) (i + 1)) = 0 from by have h9 : ¬ m_po (m_r5a (m_r5 (m_rA I) i) i) i = m_r5a (m_r5 (m_rA I) i) i 79 (656 + i) := h296; simp [m_r5s, h9, zB]]; rfl)
                            · rfl
                            · exact (if_pos h190).symm
                  refine Z_loc ?_ (Z_mem ?_ ?_ (hL179 16 0 (by omega)))
                  · rfl
                  · exact m_rA_1
                  · rfl
                | succ k ih =>
                  intro i hi
                  have hi2 : i < 48 := by omega
                  refine Z_iload_n (i := 1) hX d_Mo_round_152 rfl rfl ?_
                  refine Z_bipush (v := 48) hX d_Mo_round_153 rfl ?_
                  refine Z_icge (tgt := 175) hX d_Mo_round_155 rfl (fun h => absurd h (nI_ge hi2 (by decide))) (fun h155 => ?_)
                  refine Z_aload_n (i := 0) hX d_Mo_round_158 rfl rfl ?_
                  refine Z_getR (k0 := 17) hX d_Mo_round_159 rfl rfl u_Mo (by decide) lk_Mo_64 rfl ?_
                  refine Z_sipush (v := nI 712) hX d_Mo_round_162 rfl ?_
                  refine Z_iload_n (i := 1) hX d_Mo_round_165 rfl rfl ?_
                  refine Z_iaddN hX d_Mo_round_166 ?_
                  refine Z_iconst (v := 0) hX d_Mo_round_167 rfl ?_
                  refine Z_iast hX d_Mo_round_168 rfl rfl (by omega) (by decide) ?_
                  refine Z_iinc (v := nI (i + 1)) hX d_Mo_round_169 rfl (by rw [nI_succ]; rfl) (by decide) rfl ?_
                  refine Z_goto (tgt := 152) hX d_Mo_round_172 rfl ?_
                  refine Z_loc ?_ (Z_mem ?_ ?_ (ih (i + 1) (by omega)))
                  · rfl
                  · rfl
                  · rfl
              refine Z_loc ?_ (Z_mem ?_ ?_ (hL152 48 0 (by omega)))
              · rfl
              · rfl
              · rfl
            | succ k ih =>
              intro i hi
              have hi2 : i < 64 := by omega
              refine Z_iload_n (i := 1) hX d_Mo_round_83 rfl rfl ?_
              refine Z_bipush (v := 64) hX d_Mo_round_84 rfl ?_
              refine Z_icge (tgt := 150) hX d_Mo_round_86 rfl (fun h => absurd h (nI_ge hi2 (by decide))) (fun h86 => ?_)
              refine Z_aload_n (i := 0) hX d_Mo_round_89 rfl rfl ?_
              refine Z_getR (k0 := 17) hX d_Mo_round_90 rfl rfl u_Mo (by decide) lk_Mo_64 rfl ?_
              refine Z_sipush (v := nI 256) hX d_Mo_round_93 rfl ?_
              refine Z_iload_n (i := 1) hX d_Mo_round_96 rfl rfl ?_
              refine Z_iaddN hX d_Mo_round_97 ?_
              refine Z_aload_n (i := 0) hX d_Mo_round_98 rfl rfl ?_
              refine Z_getR (k0 := 21) hX d_Mo_round_99 rfl rfl u_Mo (by decide) lk_Mo_77 rfl ?_
              refine Z_iload_n (i := 1) hX d_Mo_round_102 rfl rfl ?_
              refine Z_iald hX d_Mo_round_103 rfl rfl (by omega) (by decide) ?_
              refine Z_iast hX d_Mo_round_104 rfl rfl (by omega) (by decide) ?_
              refine Z_aload_n (i := 0) hX d_Mo_round_105 rfl rfl ?_
              refine Z_getR (k0 := 17) hX d_Mo_round_106 rfl rfl u_Mo (by decide) lk_Mo_64 rfl ?_
              refine Z_sipush (v := nI 320) hX d_Mo_round_109 rfl ?_
              refine Z_iload_n (i := 1) hX d_Mo_round_112 rfl rfl ?_
              refine Z_iaddN hX d_Mo_round_113 ?_
              refine Z_aload_n (i := 0) hX d_Mo_round_114 rfl rfl ?_
              refine Z_getR (k0 := 21) hX d_Mo_round_115 rfl rfl u_Mo (by decide) lk_Mo_77 rfl ?_
              refine Z_bipush (v := nI 64) hX d_Mo_round_118 rfl ?_
              refine Z_iload_n (i := 1) hX d_Mo_round_120 rfl rfl ?_
              refine Z_iaddN hX d_Mo_round_121 ?_
              refine Z_iald hX d_Mo_round_122 rfl rfl (by omega) (by decide) ?_
              refine Z_iast hX d_Mo_round_123 rfl rfl (by omega) (by decide) ?_
              refine Z_aload_n (i := 0) hX d_Mo_round_124 rfl rfl ?_
              refine Z_getR (k0 := 17) hX d_Mo_round_125 rfl rfl u_Mo (by decide) lk_Mo_64 rfl ?_
              refine Z_sipush (v := nI 384) hX d_Mo_round_128 rfl ?_
              refine Z_iload_n (i := 1) hX d_Mo_round_131 rfl rfl ?_
              refine Z_iaddN hX d_Mo_round_132 ?_
              refine Z_aload_n (i := 0) hX d_Mo_round_133 rfl rfl ?_
              refine Z_getR (k0 := 21) hX d_Mo_round_134 rfl rfl u_Mo (by decide) lk_Mo_77 rfl ?_
              refine Z_sipush (v := nI 128) hX d_Mo_round_137 rfl ?_
              refine Z_iload_n (i := 1) hX d_Mo_round_140 rfl rfl ?_
              refine Z_iaddN hX d_Mo_round_141 ?_
              refine Z_iald hX d_Mo_round_142 rfl rfl (by omega) (by decide) ?_
              refine Z_iast hX d_Mo_round_143 rfl rfl (by omega) (by decide) ?_
              refine Z_iinc (v := nI (i + 1)) hX d_Mo_round_144 rfl (by rw [nI_succ]; rfl) (by decide) rfl ?_
              refine Z_goto (tgt := 83) hX d_Mo_round_147 rfl ?_
              refine Z_loc ?_ (Z_mem ?_ ?_ (ih (i + 1) (by omega)))
              · rfl
              · rfl
              · rfl
          refine Z_loc ?_ (Z_mem ?_ ?_ (hL83 64 0 (by omega)))
          · rfl
          · rfl
          · rfl
        | succ k ih =>
          intro i hi
          have hi2 : i < 16 := by omega
          refine Z_iload_n (i := 1) hX d_Mo_round_56 rfl rfl ?_
          refine Z_bipush (v := 16) hX d_Mo_round_57 rfl ?_
          refine Z_icge (tgt := 81) hX d_Mo_round_59 rfl (fun h => absurd h (nI_ge hi2 (by decide))) (fun h59 => ?_)
          refine Z_aload_n (i := 0) hX d_Mo_round_62 rfl rfl ?_
          refine Z_iload_n (i := 1) hX d_Mo_round_63 rfl rfl ?_
          refine Z_cVi1 hX d_Mo_round_64 (c_Mo_whole (by omega)) m_Mo_whole rfl rfl lk_Mo_93 ⟨by decide, by decide⟩ ⟨by decide, by decide⟩ (Nat.le_of_ble_eq_true rfl) ?_
          refine Z_ifeqB (tgt := 75) hX d_Mo_round_67 rfl (fun h67 => ?_) (fun h67 => ?_)
          · refine Z_iinc (v := nI (i + 1)) hX d_Mo_round_75 rfl (by rw [nI_succ]; rfl) (by decide) rfl ?_
            refine Z_goto (tgt := 56) hX d_Mo_round_78 rfl ?_
            refine Z_loc ?_ (Z_mem ?_ ?_ (ih (i + 1) (by omega)))
            · rfl
            · exact (if_neg (by rw [h67]; decide)).symm
            · rfl
          · refine Z_aload_n (i := 0) hX d_Mo_round_70 rfl rfl ?_
            refine Z_iload_n (i := 1) hX d_Mo_round_71 rfl rfl ?_
            refine Z_cVv1 hX d_Mo_round_72 (c_Mo_chooses (by omega) (okM_of (by rw [fr_mr2 (by decide) (by decide), fr_mr1 (by decide) (by decide), zup_ne (by decide)]) (by rw [fr_mr2 (by decide) (by decide), fr_mr1 (by decide) (by decide), zup_ne (by decide)]) (by rw [fr_mr2 (by decide) (by decide), fr_mr1 (by decide) (by decide), zup_ne (by decide)]) hM) (by rw [fr_mr2 (by decide) (by decide), fr_mr1 (by decide) (by decide), zup_ne (by decide)]; exact (hQ i hi2).1) (by rw [fr_mr2 (by decide) (by decide), fr_mr1 (by decide) (by decide), zup_ne (by decide)]; exact (hQ i hi2).2)) m_Mo_chooses rfl rfl lk_Mo_124 ⟨by decide, by decide⟩ ⟨by decide, by decide⟩ (Nat.le_of_ble_eq_true rfl) ?_
            refine Z_iinc (v := nI (i + 1)) hX d_Mo_round_75 rfl (by rw [nI_succ]; rfl) (by decide) rfl ?_
            refine Z_goto (tgt := 56) hX d_Mo_round_78 rfl ?_
            refine Z_loc ?_ (Z_mem ?_ ?_ (ih (i + 1) (by omega)))
            · rfl
            · exact (if_pos h67).symm
            · rfl
      refine Z_loc ?_ (Z_mem ?_ ?_ (hL56 16 0 (by omega)))
      · rfl
      · rfl
      · rfl
    | succ k ih =>
      intro i hi
      have hi2 : i < 64 := by omega
      refine Z_iload_n (i := 1) hX d_Mo_round_20 rfl rfl ?_
      refine Z_bipush (v := 64) hX d_Mo_round_21 rfl ?_
      refine Z_icge (tgt := 54) hX d_Mo_round_23 rfl (fun h => absurd h (nI_ge hi2 (by decide))) (fun h23 => ?_)
      refine Z_aload_n (i := 0) hX d_Mo_round_26 rfl rfl ?_
      refine Z_getR (k0 := 21) hX d_Mo_round_27 rfl rfl u_Mo (by decide) lk_Mo_77 rfl ?_
      refine Z_iload_n (i := 1) hX d_Mo_round_30 rfl rfl ?_
      refine Z_iconst (v := (-1)) hX d_Mo_round_31 rfl ?_
      refine Z_iast hX d_Mo_round_32 rfl rfl (by omega) (by decide) ?_
      refine Z_aload_n (i := 0) hX d_Mo_round_33 rfl rfl ?_
      refine Z_iload_n (i := 1) hX d_Mo_round_34 rfl rfl ?_
      refine Z_iconst (v := 4) hX d_Mo_round_35 rfl ?_
      refine Z_div4 hX d_Mo_round_36 (by omega) ?_
      refine Z_cVi1 hX d_Mo_round_37 (c_Mo_whole (by omega)) m_Mo_whole rfl rfl lk_Mo_93 ⟨by decide, by decide⟩ ⟨by decide, by decide⟩ (Nat.le_of_ble_eq_true rfl) ?_
      refine Z_ifeqB (tgt := 48) hX d_Mo_round_40 rfl (fun h40 => ?_) (fun h40 => ?_)
      · refine Z_iinc (v := nI (i + 1)) hX d_Mo_round_48 rfl (by rw [nI_succ]; rfl) (by decide) rfl ?_
        refine Z_goto (tgt := 20) hX d_Mo_round_51 rfl ?_
        refine Z_loc ?_ (Z_mem ?_ ?_ (ih (i + 1) (by omega)))
        · rfl
        · exact (if_neg (by rw [h40]; decide)).symm
        · rfl
      · refine Z_aload_n (i := 0) hX d_Mo_round_43 rfl rfl ?_
        refine Z_iload_n (i := 1) hX d_Mo_round_44 rfl rfl ?_
        refine Z_cVv1 hX d_Mo_round_45 (c_Mo_gets (by omega) (okM_of (by rw [zup_ne (by decide), fr_mr1 (by decide) (by decide), zup_ne (by decide)]) (by rw [zup_ne (by decide), fr_mr1 (by decide) (by decide), zup_ne (by decide)]) (by rw [zup_ne (by decide), fr_mr1 (by decide) (by decide), zup_ne (by decide)]) hM)) m_Mo_gets rfl rfl lk_Mo_120 ⟨by decide, by decide⟩ ⟨by decide, by decide⟩ (Nat.le_of_ble_eq_true rfl) ?_
        refine Z_iinc (v := nI (i + 1)) hX d_Mo_round_48 rfl (by rw [nI_succ]; rfl) (by decide) rfl ?_
        refine Z_goto (tgt := 20) hX d_Mo_round_51 rfl ?_
        refine Z_loc ?_ (Z_mem ?_ ?_ (ih (i + 1) (by omega)))
        · rfl
        · exact (if_pos h40).symm
        · rfl
  refine Z_loc ?_ (Z_mem ?_ ?_ (hL20 64 0 (by omega)))
  · rfl
  · rfl
  · rfl
