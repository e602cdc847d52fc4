section ZN
variable {X : zX} {G : zG} {cc : ByteArray} {nL a b pc : Nat} {own : String} {d : Room} {l : List (Nat × Value)} {st : List Value} {I : zI} {J : zJ}
theorem Z_iaddN {x y : Nat} (hX : zOk X G cc nL own d) (hd : decode cc pc = .ok (.iadd, 1)) (k : Z X G nL a b (pc + 1) l (.int (nI (x + y)) :: st) I J) : Z X G nL a b pc l (.int (nI y) :: .int (nI x) :: st) I J := Z_iadd hX hd (Z_top (nI_add x y) k)
theorem Z_iadd0N {y : Nat} (hX : zOk X G cc nL own d) (hd : decode cc pc = .ok (.iadd, 1)) (k : Z X G nL a b (pc + 1) l (.int (nI y) :: st) I J) : Z X G nL a b pc l (.int (nI y) :: .int (nI 0) :: st) I J := Z_iadd hX hd (Z_top ((nI_add 0 y).trans (by rw [Nat.zero_add])) k)
theorem Z_imulN {x y : Nat} (hX : zOk X G cc nL own d) (hd : decode cc pc = .ok (.imul, 1)) (k : Z X G nL a b (pc + 1) l (.int (nI (x * y)) :: st) I J) : Z X G nL a b pc l (.int (nI y) :: .int (nI x) :: st) I J := Z_imul hX hd (Z_top (pk_mul x y) k)
theorem Z_div4 {x : Nat} (hX : zOk X G cc nL own d) (hd : decode cc pc = .ok (.idiv, 1)) (h : x < 2 ^ 31) (k : Z X G nL a b (pc + 1) l (.int (nI (x / 4)) :: st) I J) : Z X G nL a b pc l (.int 4 :: .int (nI x) :: st) I J := Z_idiv hX hd (by decide) (Z_top (p_elem h) k)
end ZN
/-! the reference: its object 64, its arrays 65 .. 85, the net 79 -/
def m_wh (I : zI) (e : Nat) : Bool := decide (¬ I 65 e = 0) && decide (I 79 (672 + e) = 0)
def m_ax (I : zI) (l p : Nat) : Int32 := if I 77 l = nI p then I 78 l else I 77 l
def m_lk (I : zI) (p : Nat) : Nat := (I 74 p).toNatClampNeg
def okM (I : zI) : Prop := ∀ p, p < 64 → I 74 p = -1 ∨ ∃ l, l < 24 ∧ I 74 p = nI l ∧ (∃ a, a < 64 ∧ I 77 l = nI a) ∧ (∃ c, c < 64 ∧ I 78 l = nI c)
theorem okM_at {I : zI} (h : okM I) {p : Nat} (hp : p < 64) (h0 : ¬ I 74 p < 0) : ∃ l, l < 24 ∧ I 74 p = nI l ∧ (∃ a, a < 64 ∧ I 77 l = nI a) ∧ (∃ c, c < 64 ∧ I 78 l = nI c) := by
  rcases h p hp with h1 | h1
  · rw [h1] at h0
    exact absurd (by decide) h0
  · exact h1
theorem m_ax_ok {I : zI} {l p : Nat} (h1 : ∃ a, a < 64 ∧ I 77 l = nI a) (h2 : ∃ c, c < 64 ∧ I 78 l = nI c) : ∃ o, o < 64 ∧ m_ax I l p = nI o := by
  unfold m_ax
  split
  · exact h2
  · exact h1
def m_li (I : zI) (l p : Nat) : Nat := 712 + 2 * l + (if I 78 l = nI p then 0 else 1)
def m_lo (I : zI) (l p : Nat) : Bool := decide (I 79 (m_li I l p) = 1)
def m_co (I : zI) (l p : Nat) : Bool := decide (¬ I 79 (688 + l) = 1) && (m_wh I ((m_ax I l p).toNatClampNeg / 4) && (!m_lo I l p && decide (0 ≤ I 79 (256 + (m_ax I l p).toNatClampNeg))))
def m_gw (I : zI) (p o : Nat) : zI :=
  let I1 := zup I 79 p (I 79 (256 + o))
  let I2 := zup I1 79 (64 + p) (I1 79 (320 + o))
  let I3 := zup I2 79 (128 + p) (I2 79 (384 + o))
  zup I3 79 (192 + p) (I3 79 760)
def m_ge (I : zI) (p : Nat) : zI := if I 74 p < 0 then I else if m_co I (m_lk I p) p = true then m_gw I p (m_ax I (m_lk I p) p).toNatClampNeg else I
theorem m_ge_0 {I : zI} {p : Nat} (h : I 74 p < 0) : m_ge I p = I := if_pos h
theorem m_ge_n {I : zI} {p l : Nat} (h : ¬ I 74 p < 0) (hl : l < 24) (hl2 : I 74 p = nI l) (h2 : m_co I l p = false) : m_ge I p = I := by
  have e : m_lk I p = l := by unfold m_lk; rw [hl2, nI_clamp (by omega)]
  unfold m_ge
  rw [e, if_neg h, if_neg (by rw [h2]; decide)]
theorem m_ge_y {I : zI} {p l o : Nat} (h : ¬ I 74 p < 0) (hl : l < 24) (hl2 : I 74 p = nI l) (ho : o < 64) (ho2 : m_ax I l p = nI o) (h2 : m_co I l p = true) : m_ge I p = m_gw I p o := by
  have e : m_lk I p = l := by unfold m_lk; rw [hl2, nI_clamp (by omega)]
  have e2 : (m_ax I l p).toNatClampNeg = o := by rw [ho2, nI_clamp (by omega)]
  unfold m_ge
  rw [e, e2, if_neg h, if_pos h2]
theorem m_co_o {I : zI} {l p o : Nat} (ho : o < 64) (ho2 : m_ax I l p = nI o) : m_co I l p = (decide (¬ I 79 (688 + l) = 1) && (m_wh I (o / 4) && (!m_lo I l p && decide (0 ≤ I 79 (256 + o))))) := by
  have e2 : (m_ax I l p).toNatClampNeg = o := by rw [ho2, nI_clamp (by omega)]
  unfold m_co
  rw [e2]
def m_hw (I : zI) (p : Nat) : Bool := decide (¬ I 74 p < 0) && decide (¬ I 79 p < 0) && decide (¬ 3 ≤ I 79 760 - I 79 (192 + p))
def m_ow (I : zI) (p : Nat) : Bool := decide (¬ I 64 1 = 0) && decide (f_bit (I 79 (128 + p)) (nI (p / 4)) = 1)
def m_us (I : zI) (p : Nat) : Bool := decide (I 76 p = 0) && (decide (¬ I 72 p < 0) || (m_hw I p && decide (¬ 7 ≤ I 79 p) && !m_ow I p))
def m_qu (I : zI) (p : Nat) : Int32 := if I 72 p < 0 then I 79 p else I 72 p
def m_ho (I : zI) (p : Nat) : Int32 := if I 72 p < 0 then I 79 (64 + p) else 0
def m_bt (I : zI) (s t : Nat) : Bool := if m_qu I s = m_qu I t then (if m_ho I s = m_ho I t then decide (¬ I 75 t ≤ I 75 s) else decide (¬ m_ho I t ≤ m_ho I s)) else decide (¬ m_qu I t ≤ m_qu I s)
def mO (e : Nat) (r : Option Nat) : Int32 := match r with
  | none => -1
  | some k => nI (4 * e + k)
def m_bo (I : zI) (e : Nat) (m : Int32) : Nat → Option Nat
  | 0 => none
  | p + 1 => match m_bo I e m p with
    | none => if I 79 (448 + (4 * e + p)) ≤ m then none else some p
    | some k => if I 79 (448 + (4 * e + p)) ≤ m then some k else if m_bt I (4 * e + p) (4 * e + k) = true then some p else some k
theorem m_bo_lt {I : zI} {e : Nat} {m : Int32} : ∀ (n k : Nat), m_bo I e m n = some k → k < n
  | 0, k, h => by simp [m_bo] at h
  | n + 1, k, h => by
    unfold m_bo at h
    split at h
    · split at h
      · cases h
      · cases h
        omega
    · rename_i k0 h0
      have h1 := m_bo_lt n k0 h0
      split at h
      · cases h
        omega
      · split at h
        · cases h
          omega
        · cases h
          omega
theorem mO_neg {e : Nat} {r : Option Nat} (h : mO e r < 0) (he : e < 16) (hr : ∀ k, r = some k → k < 64) : r = none := by
  cases r with
  | none => rfl
  | some k => exact absurd h (nI_pos (by have := hr k rfl; omega))
theorem mO_pos {e : Nat} {r : Option Nat} (h : ¬ mO e r < 0) : ∃ k, r = some k := by
  cases r with
  | none => exact absurd (show (-1 : Int32) < 0 by decide) h
  | some k => exact ⟨k, rfl⟩
theorem m_bo_a {I : zI} {e i : Nat} {m : Int32} (h : I 79 (448 + (4 * e + i)) ≤ m) : m_bo I e m (i + 1) = m_bo I e m i := by
  cases hz : m_bo I e m i with
  | none => simp only [m_bo, hz, if_pos h]
  | some k => simp only [m_bo, hz, if_pos h]
theorem m_bo_b {I : zI} {e i : Nat} {m : Int32} (h : ¬ I 79 (448 + (4 * e + i)) ≤ m) (hr : m_bo I e m i = none) : m_bo I e m (i + 1) = some i := by
  simp only [m_bo, hr, if_neg h]
theorem m_bo_c {I : zI} {e i r : Nat} {m : Int32} (h : ¬ I 79 (448 + (4 * e + i)) ≤ m) (hr : m_bo I e m i = some r) (hb : m_bt I (4 * e + i) (4 * e + r) = true) : m_bo I e m (i + 1) = some i := by
  simp only [m_bo, hr, if_neg h, if_pos hb]
theorem m_bo_d {I : zI} {e i r : Nat} {m : Int32} (h : ¬ I 79 (448 + (4 * e + i)) ≤ m) (hr : m_bo I e m i = some r) (hb : m_bt I (4 * e + i) (4 * e + r) = false) : m_bo I e m (i + 1) = m_bo I e m i := by
  rw [m_bo, hr]
  simp only [if_neg h, if_neg (show ¬ m_bt I (4 * e + i) (4 * e + r) = true by rw [hb]; decide)]
theorem nI4s (e i : Nat) : nI (4 * e + i) + Int32.ofInt 1 = nI (4 * e + (i + 1)) := by
  rw [show 4 * e + (i + 1) = (4 * e + i) + 1 from rfl, nI_succ]
  rfl
set_option maxRecDepth 100000 in
set_option maxHeartbeats 4000000 in
theorem c_Mo_whole {la : Launch} {G : zG} {I : zI} {J : zJ} {e : Nat} (he : e < 16) : zCi la G y_Mo_whole (Cond.code y_Mo_whole prog_8_method_2_code 2 (some .boolean) :: TBL) (zR 1) [.ref (zad G 64), .int (nI e)] I J (zB (m_wh I e)) (I) (J) := by
  refine zCi_of (by decide) (by simp [lg_sl, Value.category]) (zB_nar _) (fun X hla hX hR => ?_)
  subst hla
  refine Z_loc (l' := [(0, .ref (zad G 64)), (1, .int (nI e))]) (by simp [lv_args, Value.category, List.lookup]) ?_
  refine Z_aload_n (i := 0) hX d_Mo_whole_0 rfl rfl ?_
  refine Z_getR (k0 := 2) hX d_Mo_whole_1 rfl rfl u_Mo (by decide) lk_Mo_17 rfl ?_
  refine Z_iload_n (i := 1) hX d_Mo_whole_4 rfl rfl ?_
  refine Z_zald hX d_Mo_whole_5 rfl rfl (by omega) (by decide) ?_
  refine Z_ifeq (tgt := 26) hX d_Mo_whole_6 rfl (fun h6 => ?_) (fun h6 => ?_)
  · refine Z_iconst (v := 0) hX d_Mo_whole_26 rfl ?_
    exact Z_ri (hR _ _ d_Mo_whole_27) (by simp [m_wh, zB, *]) rfl rfl
  · refine Z_aload_n (i := 0) hX d_Mo_whole_9 rfl rfl ?_
    refine Z_getR (k0 := 17) hX d_Mo_whole_10 rfl rfl u_Mo (by decide) lk_Mo_64 rfl ?_
    refine Z_sipush (v := nI 672) hX d_Mo_whole_13 rfl ?_
    refine Z_iload_n (i := 1) hX d_Mo_whole_16 rfl rfl ?_
    refine Z_iaddN hX d_Mo_whole_17 ?_
    refine Z_iald hX d_Mo_whole_18 rfl rfl (by omega) (by decide) ?_
    refine Z_ifne (tgt := 26) hX d_Mo_whole_19 rfl (fun h19 => ?_) (fun h19 => ?_)
    · refine Z_iconst (v := 0) hX d_Mo_whole_26 rfl ?_
      exact Z_ri (hR _ _ d_Mo_whole_27) (by simp [m_wh, zB, *]) rfl rfl
    · refine Z_iconst (v := 1) hX d_Mo_whole_22 rfl ?_
      refine Z_goto (tgt := 27) hX d_Mo_whole_23 rfl ?_
      exact Z_ri (hR _ _ d_Mo_whole_27) (by simp [m_wh, zB, *]) rfl rfl

set_option maxRecDepth 100000 in
set_option maxHeartbeats 4000000 in
theorem c_Mo_across {la : Launch} {G : zG} {I : zI} {J : zJ} {p l : Nat} (hp : p < 64) (hl : l < 24) (hl2 : I 74 p = nI l) : zCi la G y_Mo_across (Cond.code y_Mo_across prog_8_method_3_code 3 (some .int) :: TBL) (zR 1) [.ref (zad G 64), .int (nI p)] I J (m_ax I l p) (I) (J) := by
  refine zCi_of (by decide) (by simp [lg_sl, Value.category]) (rfl) (fun X hla hX hR => ?_)
  subst hla
  refine Z_loc (l' := [(0, .ref (zad G 64)), (1, .int (nI p))]) (by simp [lv_args, Value.category, List.lookup]) ?_
  refine Z_aload_n (i := 0) hX d_Mo_across_0 rfl rfl ?_
  refine Z_getR (k0 := 11) hX d_Mo_across_1 rfl rfl u_Mo (by decide) lk_Mo_46 rfl ?_
  refine Z_iload_n (i := 1) hX d_Mo_across_4 rfl rfl ?_
  refine Z_iald hX d_Mo_across_5 rfl rfl (by omega) (by decide) ?_
  refine Z_top hl2 ?_
  refine Z_istore_n (i := 2) hX d_Mo_across_6 rfl (by decide) rfl ?_
  refine Z_aload_n (i := 0) hX d_Mo_across_7 rfl rfl ?_
  refine Z_getR (k0 := 15) hX d_Mo_across_8 rfl rfl u_Mo (by decide) lk_Mo_58 rfl ?_
  refine Z_iload_n (i := 2) hX d_Mo_across_11 rfl rfl ?_
  refine Z_iald hX d_Mo_across_12 rfl rfl (by omega) (by decide) ?_
  refine Z_iload_n (i := 1) hX d_Mo_across_13 rfl rfl ?_
  refine Z_icne (tgt := 26) hX d_Mo_across_14 rfl (fun h14 => ?_) (fun h14 => ?_)
  · refine Z_aload_n (i := 0) hX d_Mo_across_26 rfl rfl ?_
    refine Z_getR (k0 := 15) hX d_Mo_across_27 rfl rfl u_Mo (by decide) lk_Mo_58 rfl ?_
    refine Z_iload_n (i := 2) hX d_Mo_across_30 rfl rfl ?_
    refine Z_iald hX d_Mo_across_31 rfl rfl (by omega) (by decide) ?_
    exact Z_ri (hR _ _ d_Mo_across_32) (by exact (if_neg h14).symm) rfl rfl
  · refine Z_aload_n (i := 0) hX d_Mo_across_17 rfl rfl ?_
    refine Z_getR (k0 := 16) hX d_Mo_across_18 rfl rfl u_Mo (by decide) lk_Mo_61 rfl ?_
    refine Z_iload_n (i := 2) hX d_Mo_across_21 rfl rfl ?_
    refine Z_iald hX d_Mo_across_22 rfl rfl (by omega) (by decide) ?_
    refine Z_goto (tgt := 32) hX d_Mo_across_23 rfl ?_
    exact Z_ri (hR _ _ d_Mo_across_32) (by exact (if_pos h14).symm) rfl rfl

set_option maxRecDepth 100000 in
set_option maxHeartbeats 4000000 in
theorem c_Mo_gets {la : Launch} {G : zG} {I : zI} {J : zJ} {p : Nat} (hp : p < 64) (hM : okM I) : zCv la G y_Mo_gets (Cond.code y_Mo_gets prog_8_method_4_code 5 none :: TBL) (zR 2) [.ref (zad G 64), .int (nI p)] I J (m_ge I p) (J) := by
  refine zCv_of (by decide) (by simp [lg_sl, Value.category]) (fun X hla hX hR => ?_)
  subst hla
  refine Z_loc (l' := [(0, .ref (zad G 64)), (1, .int (nI p))]) (by simp [lv_args, Value.category, List.lookup]) ?_
  refine Z_aload_n (i := 0) hX d_Mo_gets_0 rfl rfl ?_
  refine Z_getR (k0 := 11) hX d_Mo_gets_1 rfl rfl u_Mo (by decide) lk_Mo_46 rfl ?_
  refine Z_iload_n (i := 1) hX d_Mo_gets_4 rfl rfl ?_
  refine Z_iald hX d_Mo_gets_5 rfl rfl (by omega) (by decide) ?_
  refine Z_istore_n (i := 2) hX d_Mo_gets_6 rfl (by decide) rfl ?_
  refine Z_iload_n (i := 2) hX d_Mo_gets_7 rfl rfl ?_
  refine Z_iflt (tgt := 25) hX d_Mo_gets_8 rfl (fun h8 => ?_) (fun h8 => ?_)
  · exact Z_mem (by exact (m_ge_0 h8).symm) (by rfl) (hR _ _ d_Mo_gets_25)
  · obtain ⟨l, hl, hl2, ha, hc⟩ := okM_at hM hp h8
    refine Z_aload_n (i := 0) hX d_Mo_gets_11 rfl rfl ?_
    refine Z_getR (k0 := 17) hX d_Mo_gets_12 rfl rfl u_Mo (by decide) lk_Mo_64 rfl ?_
    refine Z_sipush (v := nI 688) hX d_Mo_gets_15 rfl ?_
    refine Z_iload_n (i := 2) hX d_Mo_gets_18 rfl rfl ?_
    refine Z_top hl2 ?_
    refine Z_iaddN hX d_Mo_gets_19 ?_
    refine Z_iald hX d_Mo_gets_20 rfl rfl (by omega) (by decide) ?_
    refine Z_iconst (v := 1) hX d_Mo_gets_21 rfl ?_
    refine Z_icne (tgt := 26) hX d_Mo_gets_22 rfl (fun h22 => ?_) (fun h22 => ?_)
    · obtain ⟨o, ho, ho2⟩ := m_ax_ok (p := p) ha hc
      refine Z_aload_n (i := 0) hX d_Mo_gets_26 rfl rfl ?_
      refine Z_iload_n (i := 1) hX d_Mo_gets_27 rfl rfl ?_
      refine Z_cVi1 hX d_Mo_gets_28 (c_Mo_across (by omega) hl hl2) m_Mo_across rfl rfl lk_Mo_89 ⟨by decide, by decide⟩ ⟨by decide, by decide⟩ (Nat.le_of_ble_eq_true rfl) ?_
      refine Z_top ho2 ?_
      refine Z_istore_n (i := 3) hX d_Mo_gets_31 rfl (by decide) rfl ?_
      refine Z_cut (pc' := 69) (P := fun v => v = zB (m_lo I l p)) ?_ (fun hJ69 => ?_)
      · intro v hv69
        subst hv69
        refine Z_istore hX d_Mo_gets_69 (by decide) rfl ?_
        refine Z_aload_n (i := 0) hX d_Mo_gets_71 rfl rfl ?_
        refine Z_iload_n (i := 3) hX d_Mo_gets_72 rfl rfl ?_
        refine Z_iconst (v := 4) hX d_Mo_gets_73 rfl ?_
        refine Z_div4 hX d_Mo_gets_74 (by omega) ?_
        refine Z_cVi1 hX d_Mo_gets_75 (c_Mo_whole (by omega)) m_Mo_whole rfl rfl lk_Mo_93 ⟨by decide, by decide⟩ ⟨by decide, by decide⟩ (Nat.le_of_ble_eq_true rfl) ?_
        refine Z_ifeqB (tgt := 99) hX d_Mo_gets_78 rfl (fun h78 => ?_) (fun h78 => ?_)
        · exact Z_mem (by exact (m_ge_n h8 hl hl2 (by rw [m_co_o ho ho2]; simp [*])).symm) (by rfl) (hR _ _ d_Mo_gets_99)
        · refine Z_iload hX d_Mo_gets_81 rfl ?_
          refine Z_ifneB (tgt := 99) hX d_Mo_gets_83 rfl (fun h83 => ?_) (fun h83 => ?_)
          · exact Z_mem (by exact (m_ge_n h8 hl hl2 (by rw [m_co_o ho ho2]; simp [*])).symm) (by rfl) (hR _ _ d_Mo_gets_99)
          · refine Z_aload_n (i := 0) hX d_Mo_gets_86 rfl rfl ?_
            refine Z_getR (k0 := 17) hX d_Mo_gets_87 rfl rfl u_Mo (by decide) lk_Mo_64 rfl ?_
            refine Z_sipush (v := nI 256) hX d_Mo_gets_90 rfl ?_
            refine Z_iload_n (i := 3) hX d_Mo_gets_93 rfl rfl ?_
            refine Z_iaddN hX d_Mo_gets_94 ?_
            refine Z_iald hX d_Mo_gets_95 rfl rfl (by omega) (by decide) ?_
            refine Z_ifge (tgt := 100) hX d_Mo_gets_96 rfl (fun h96 => ?_) (fun h96 => ?_)
            · refine Z_aload_n (i := 0) hX d_Mo_gets_100 rfl rfl ?_
              refine Z_getR (k0 := 17) hX d_Mo_gets_101 rfl rfl u_Mo (by decide) lk_Mo_64 rfl ?_
              refine Z_iconst (v := nI 0) hX d_Mo_gets_104 rfl ?_
              refine Z_iload_n (i := 1) hX d_Mo_gets_105 rfl rfl ?_
              refine Z_iadd0N hX d_Mo_gets_106 ?_
              refine Z_aload_n (i := 0) hX d_Mo_gets_107 rfl rfl ?_
              refine Z_getR (k0 := 17) hX d_Mo_gets_108 rfl rfl u_Mo (by decide) lk_Mo_64 rfl ?_
              refine Z_sipush (v := nI 256) hX d_Mo_gets_111 rfl ?_
              refine Z_iload_n (i := 3) hX d_Mo_gets_114 rfl rfl ?_
              refine Z_iaddN hX d_Mo_gets_115 ?_
              refine Z_iald hX d_Mo_gets_116 rfl rfl (by omega) (by decide) ?_
              refine Z_iast hX d_Mo_gets_117 rfl rfl (by omega) (by decide) ?_
              refine Z_aload_n (i := 0) hX d_Mo_gets_118 rfl rfl ?_
              refine Z_getR (k0 := 17) hX d_Mo_gets_119 rfl rfl u_Mo (by decide) lk_Mo_64 rfl ?_
              refine Z_bipush (v := nI 64) hX d_Mo_gets_122 rfl ?_
              refine Z_iload_n (i := 1) hX d_Mo_gets_124 rfl rfl ?_
              refine Z_iaddN hX d_Mo_gets_125 ?_
              refine Z_aload_n (i := 0) hX d_Mo_gets_126 rfl rfl ?_
              refine Z_getR (k0 := 17) hX d_Mo_gets_127 rfl rfl u_Mo (by decide) lk_Mo_64 rfl ?_
              refine Z_sipush (v := nI 320) hX d_Mo_gets_130 rfl ?_
              refine Z_iload_n (i := 3) hX d_Mo_gets_133 rfl rfl ?_
              refine Z_iaddN hX d_Mo_gets_134 ?_
              refine Z_iald hX d_Mo_gets_135 rfl rfl (by omega) (by decide) ?_
              refine Z_iast hX d_Mo_gets_136 rfl rfl (by omega) (by decide) ?_
              refine Z_aload_n (i := 0) hX d_Mo_gets_137 rfl rfl ?_
              refine Z_getR (k0 := 17) hX d_Mo_gets_138 rfl rfl u_Mo (by decide) lk_Mo_64 rfl ?_
              refine Z_sipush (v := nI 128) hX d_Mo_gets_141 rfl ?_
              refine Z_iload_n (i := 1) hX d_Mo_gets_144 rfl rfl ?_
              refine Z_iaddN hX d_Mo_gets_145 ?_
              refine Z_aload_n (i := 0) hX d_Mo_gets_146 rfl rfl ?_
              refine Z_getR (k0 := 17) hX d_Mo_gets_147 rfl rfl u_Mo (by decide) lk_Mo_64 rfl ?_
              refine Z_sipush (v := nI 384) hX d_Mo_gets_150 rfl ?_
              refine Z_iload_n (i := 3) hX d_Mo_gets_153 rfl rfl ?_
              refine Z_iaddN hX d_Mo_gets_154 ?_
              refine Z_iald hX d_Mo_gets_155 rfl rfl (by omega) (by decide) ?_
              refine Z_iast hX d_Mo_gets_156 rfl rfl (by omega) (by decide) ?_
              refine Z_aload_n (i := 0) hX d_Mo_gets_157 rfl rfl ?_
              refine Z_getR (k0 := 17) hX d_Mo_gets_158 rfl rfl u_Mo (by decide) lk_Mo_64 rfl ?_
              refine Z_sipush (v := nI 192) hX d_Mo_gets_161 rfl ?_
              refine Z_iload_n (i := 1) hX d_Mo_gets_164 rfl rfl ?_
              refine Z_iaddN hX d_Mo_gets_165 ?_
              refine Z_aload_n (i := 0) hX d_Mo_gets_166 rfl rfl ?_
              refine Z_getR (k0 := 17) hX d_Mo_gets_167 rfl rfl u_Mo (by decide) lk_Mo_64 rfl ?_
              refine Z_sipush (v := nI 760) hX d_Mo_gets_170 rfl ?_
              refine Z_iald hX d_Mo_gets_173 rfl rfl (by omega) (by decide) ?_
              refine Z_iast hX d_Mo_gets_174 rfl rfl (by omega) (by decide) ?_
              exact Z_mem (by exact (m_ge_y h8 hl hl2 ho ho2 (by rw [m_co_o ho ho2]; simp [*])).symm) (by rfl) (hR _ _ d_Mo_gets_175)
            · exact Z_mem (by exact (m_ge_n h8 hl hl2 (by rw [m_co_o ho ho2]; simp [*])).symm) (by rfl) (hR _ _ d_Mo_gets_99)
      · refine Z_aload_n (i := 0) hX d_Mo_gets_32 rfl rfl ?_
        refine Z_getR (k0 := 17) hX d_Mo_gets_33 rfl rfl u_Mo (by decide) lk_Mo_64 rfl ?_
        refine Z_sipush (v := nI 712) hX d_Mo_gets_36 rfl ?_
        refine Z_iconst (v := nI 2) hX d_Mo_gets_39 rfl ?_
        refine Z_iload_n (i := 2) hX d_Mo_gets_40 rfl rfl ?_
        refine Z_top hl2 ?_
        refine Z_imulN hX d_Mo_gets_41 ?_
        refine Z_iaddN hX d_Mo_gets_42 ?_
        refine Z_cut (pc' := 58) (P := fun v => v = nI (if I 78 l = nI p then 0 else 1)) ?_ (fun hJ58 => ?_)
        · intro v hv58
          subst hv58
          refine Z_iaddN hX d_Mo_gets_58 ?_
          refine Z_iald (k0 := m_li I l p) hX d_Mo_gets_59 rfl rfl (by unfold m_li; split <;> omega) (by decide) ?_
          refine Z_iconst (v := 1) hX d_Mo_gets_60 rfl ?_
          refine Z_icne (tgt := 68) hX d_Mo_gets_61 rfl (fun h61 => ?_) (fun h61 => ?_)
          · refine Z_iconst (v := 0) hX d_Mo_gets_68 rfl ?_
            exact hJ69 _ (by simp [m_lo, zB, *])
          · refine Z_iconst (v := 1) hX d_Mo_gets_64 rfl ?_
            refine Z_goto (tgt := 69) hX d_Mo_gets_65 rfl ?_
            exact hJ69 _ (by simp [m_lo, zB, *])
        · refine Z_aload_n (i := 0) hX d_Mo_gets_43 rfl rfl ?_
          refine Z_getR (k0 := 16) hX d_Mo_gets_44 rfl rfl u_Mo (by decide) lk_Mo_61 rfl ?_
          refine Z_iload_n (i := 2) hX d_Mo_gets_47 rfl rfl ?_
          refine Z_top hl2 ?_
          refine Z_iald hX d_Mo_gets_48 rfl rfl (by omega) (by decide) ?_
          refine Z_iload_n (i := 1) hX d_Mo_gets_49 rfl rfl ?_
          refine Z_icne (tgt := 57) hX d_Mo_gets_50 rfl (fun h50 => ?_) (fun h50 => ?_)
          · refine Z_iconst (v := 1) hX d_Mo_gets_57 rfl ?_
            exact hJ58 _ (by first | (rw [if_pos h50]; rfl) | (rw [if_neg h50]; rfl))
          · refine Z_iconst (v := 0) hX d_Mo_gets_53 rfl ?_
            refine Z_goto (tgt := 58) hX d_Mo_gets_54 rfl ?_
            exact hJ58 _ (by first | (rw [if_pos h50]; rfl) | (rw [if_neg h50]; rfl))
    · exact Z_mem (by exact (m_ge_n h8 hl hl2 (by simp [m_co, h22])).symm) (by rfl) (hR _ _ d_Mo_gets_25)

set_option maxRecDepth 100000 in
set_option maxHeartbeats 4000000 in
theorem c_Mo_hasWord {la : Launch} {G : zG} {I : zI} {J : zJ} {p : Nat} (hp : p < 64) : zCi la G y_Mo_hasWord (Cond.code y_Mo_hasWord prog_8_method_5_code 2 (some .boolean) :: TBL) (zR 1) [.ref (zad G 64), .int (nI p)] I J (zB (m_hw I p)) (I) (J) := by
  refine zCi_of (by decide) (by simp [lg_sl, Value.category]) (zB_nar _) (fun X hla hX hR => ?_)
  subst hla
  refine Z_loc (l' := [(0, .ref (zad G 64)), (1, .int (nI p))]) (by simp [lv_args, Value.category, List.lookup]) ?_
  refine Z_aload_n (i := 0) hX d_Mo_hasWord_0 rfl rfl ?_
  refine Z_getR (k0 := 11) hX d_Mo_hasWord_1 rfl rfl u_Mo (by decide) lk_Mo_46 rfl ?_
  refine Z_iload_n (i := 1) hX d_Mo_hasWord_4 rfl rfl ?_
  refine Z_iald hX d_Mo_hasWord_5 rfl rfl (by omega) (by decide) ?_
  refine Z_iflt (tgt := 47) hX d_Mo_hasWord_6 rfl (fun h6 => ?_) (fun h6 => ?_)
  · refine Z_iconst (v := 0) hX d_Mo_hasWord_47 rfl ?_
    exact Z_ri (hR _ _ d_Mo_hasWord_48) (by simp [m_hw, zB, *]) rfl rfl
  · refine Z_aload_n (i := 0) hX d_Mo_hasWord_9 rfl rfl ?_
    refine Z_getR (k0 := 17) hX d_Mo_hasWord_10 rfl rfl u_Mo (by decide) lk_Mo_64 rfl ?_
    refine Z_iconst (v := nI 0) hX d_Mo_hasWord_13 rfl ?_
    refine Z_iload_n (i := 1) hX d_Mo_hasWord_14 rfl rfl ?_
    refine Z_iadd0N hX d_Mo_hasWord_15 ?_
    refine Z_iald hX d_Mo_hasWord_16 rfl rfl (by omega) (by decide) ?_
    refine Z_iflt (tgt := 47) hX d_Mo_hasWord_17 rfl (fun h17 => ?_) (fun h17 => ?_)
    · refine Z_iconst (v := 0) hX d_Mo_hasWord_47 rfl ?_
      exact Z_ri (hR _ _ d_Mo_hasWord_48) (by simp [m_hw, zB, *]) rfl rfl
    · refine Z_aload_n (i := 0) hX d_Mo_hasWord_20 rfl rfl ?_
      refine Z_getR (k0 := 17) hX d_Mo_hasWord_21 rfl rfl u_Mo (by decide) lk_Mo_64 rfl ?_
      refine Z_sipush (v := nI 760) hX d_Mo_hasWord_24 rfl ?_
      refine Z_iald hX d_Mo_hasWord_27 rfl rfl (by omega) (by decide) ?_
      refine Z_aload_n (i := 0) hX d_Mo_hasWord_28 rfl rfl ?_
      refine Z_getR (k0 := 17) hX d_Mo_hasWord_29 rfl rfl u_Mo (by decide) lk_Mo_64 rfl ?_
      refine Z_sipush (v := nI 192) hX d_Mo_hasWord_32 rfl ?_
      refine Z_iload_n (i := 1) hX d_Mo_hasWord_35 rfl rfl ?_
      refine Z_iaddN hX d_Mo_hasWord_36 ?_
      refine Z_iald hX d_Mo_hasWord_37 rfl rfl (by omega) (by decide) ?_
      refine Z_isub hX d_Mo_hasWord_38 ?_
      refine Z_iconst (v := 3) hX d_Mo_hasWord_39 rfl ?_
      refine Z_icge (tgt := 47) hX d_Mo_hasWord_40 rfl (fun h40 => ?_) (fun h40 => ?_)
      · refine Z_iconst (v := 0) hX d_Mo_hasWord_47 rfl ?_
        exact Z_ri (hR _ _ d_Mo_hasWord_48) (by simp [m_hw, zB, *]) rfl rfl
      · refine Z_iconst (v := 1) hX d_Mo_hasWord_43 rfl ?_
        refine Z_goto (tgt := 48) hX d_Mo_hasWord_44 rfl ?_
        exact Z_ri (hR _ _ d_Mo_hasWord_48) (by simp [m_hw, zB, *]) rfl rfl

set_option maxRecDepth 100000 in
set_option maxHeartbeats 4000000 in
theorem c_Mo_usable {la : Launch} {G : zG} {I : zI} {J : zJ} {p : Nat} (hp : p < 64) : zCi la G y_Mo_usable (Cond.code y_Mo_usable prog_8_method_6_code 3 (some .boolean) :: TBL) (zR 2) [.ref (zad G 64), .int (nI p)] I J (zB (m_us I p)) (I) (J) := by
  refine zCi_of (by decide) (by simp [lg_sl, Value.category]) (zB_nar _) (fun X hla hX hR => ?_)
  subst hla
  refine Z_loc (l' := [(0, .ref (zad G 64)), (1, .int (nI p))]) (by simp [lv_args, Value.category, List.lookup]) ?_
  refine Z_aload_n (i := 0) hX d_Mo_usable_0 rfl rfl ?_
  refine Z_getR (k0 := 13) hX d_Mo_usable_1 rfl rfl u_Mo (by decide) lk_Mo_52 rfl ?_
  refine Z_iload_n (i := 1) hX d_Mo_usable_4 rfl rfl ?_
  refine Z_zald hX d_Mo_usable_5 rfl rfl (by omega) (by decide) ?_
  refine Z_ifeq (tgt := 11) hX d_Mo_usable_6 rfl (fun h6 => ?_) (fun h6 => ?_)
  · refine Z_aload_n (i := 0) hX d_Mo_usable_11 rfl rfl ?_
    refine Z_getR (k0 := 9) hX d_Mo_usable_12 rfl rfl u_Mo (by decide) lk_Mo_40 rfl ?_
    refine Z_iload_n (i := 1) hX d_Mo_usable_15 rfl rfl ?_
    refine Z_iald hX d_Mo_usable_16 rfl rfl (by omega) (by decide) ?_
    refine Z_iflt (tgt := 22) hX d_Mo_usable_17 rfl (fun h17 => ?_) (fun h17 => ?_)
    · refine Z_cut (pc' := 54) (P := fun v => v = zB (m_ow I p)) ?_ (fun hJ54 => ?_)
      · intro v hv54
        subst hv54
        refine Z_istore_n (i := 2) hX d_Mo_usable_54 rfl (by decide) rfl ?_
        refine Z_aload_n (i := 0) hX d_Mo_usable_55 rfl rfl ?_
        refine Z_iload_n (i := 1) hX d_Mo_usable_56 rfl rfl ?_
        refine Z_cVi1 hX d_Mo_usable_57 (c_Mo_hasWord (by omega)) m_Mo_hasWord rfl rfl lk_Mo_97 ⟨by decide, by decide⟩ ⟨by decide, by decide⟩ (Nat.le_of_ble_eq_true rfl) ?_
        refine Z_ifeqB (tgt := 84) hX d_Mo_usable_60 rfl (fun h60 => ?_) (fun h60 => ?_)
        · refine Z_iconst (v := 0) hX d_Mo_usable_84 rfl ?_
          exact Z_ri (hR _ _ d_Mo_usable_85) (by simp [m_us, zB, *]) rfl rfl
        · refine Z_aload_n (i := 0) hX d_Mo_usable_63 rfl rfl ?_
          refine Z_getR (k0 := 17) hX d_Mo_usable_64 rfl rfl u_Mo (by decide) lk_Mo_64 rfl ?_
          refine Z_iconst (v := nI 0) hX d_Mo_usable_67 rfl ?_
          refine Z_iload_n (i := 1) hX d_Mo_usable_68 rfl rfl ?_
          refine Z_iadd0N hX d_Mo_usable_69 ?_
          refine Z_iald hX d_Mo_usable_70 rfl rfl (by omega) (by decide) ?_
          refine Z_bipush (v := 7) hX d_Mo_usable_71 rfl ?_
          refine Z_icge (tgt := 84) hX d_Mo_usable_73 rfl (fun h73 => ?_) (fun h73 => ?_)
          · refine Z_iconst (v := 0) hX d_Mo_usable_84 rfl ?_
            exact Z_ri (hR _ _ d_Mo_usable_85) (by simp [m_us, zB, *]) rfl rfl
          · refine Z_iload_n (i := 2) hX d_Mo_usable_76 rfl rfl ?_
            refine Z_ifneB (tgt := 84) hX d_Mo_usable_77 rfl (fun h77 => ?_) (fun h77 => ?_)
            · refine Z_iconst (v := 0) hX d_Mo_usable_84 rfl ?_
              exact Z_ri (hR _ _ d_Mo_usable_85) (by simp [m_us, zB, *]) rfl rfl
            · refine Z_iconst (v := 1) hX d_Mo_usable_80 rfl ?_
              refine Z_goto (tgt := 85) hX d_Mo_usable_81 rfl ?_
              exact Z_ri (hR _ _ d_Mo_usable_85) (by simp [m_us, zB, *]) rfl rfl
      · refine Z_aload_n (i := 0) hX d_Mo_usable_22 rfl rfl ?_
        refine Z_getI (k0 := 1) hX d_Mo_usable_23 rfl rfl u_Mo (by decide) lk_Mo_13 rfl ?_
        refine Z_ifeq (tgt := 53) hX d_Mo_usable_26 rfl (fun h26 => ?_) (fun h26 => ?_)
        · refine Z_iconst (v := 0) hX d_Mo_usable_53 rfl ?_
          exact hJ54 _ (by simp [m_ow, f_bit, zB, *])
        · refine Z_aload_n (i := 0) hX d_Mo_usable_29 rfl rfl ?_
          refine Z_getR (k0 := 17) hX d_Mo_usable_30 rfl rfl u_Mo (by decide) lk_Mo_64 rfl ?_
          refine Z_sipush (v := nI 128) hX d_Mo_usable_33 rfl ?_
          refine Z_iload_n (i := 1) hX d_Mo_usable_36 rfl rfl ?_
          refine Z_iaddN hX d_Mo_usable_37 ?_
          refine Z_iald hX d_Mo_usable_38 rfl rfl (by omega) (by decide) ?_
          refine Z_iload_n (i := 1) hX d_Mo_usable_39 rfl rfl ?_
          refine Z_iconst (v := 4) hX d_Mo_usable_40 rfl ?_
          refine Z_div4 hX d_Mo_usable_41 (by omega) ?_
          refine Z_ishr hX d_Mo_usable_42 ?_
          refine Z_iconst (v := 1) hX d_Mo_usable_43 rfl ?_
          refine Z_iand hX d_Mo_usable_44 ?_
          refine Z_iconst (v := 1) hX d_Mo_usable_45 rfl ?_
          refine Z_icne (tgt := 53) hX d_Mo_usable_46 rfl (fun h46 => ?_) (fun h46 => ?_)
          · refine Z_iconst (v := 0) hX d_Mo_usable_53 rfl ?_
            exact hJ54 _ (by simp [m_ow, f_bit, zB, *])
          · refine Z_iconst (v := 1) hX d_Mo_usable_49 rfl ?_
            refine Z_goto (tgt := 54) hX d_Mo_usable_50 rfl ?_
            exact hJ54 _ (by simp [m_ow, f_bit, zB, *])
    · refine Z_iconst (v := 1) hX d_Mo_usable_20 rfl ?_
      exact Z_ri (hR _ _ d_Mo_usable_21) (by simp [m_us, zB, *]) rfl rfl
  · refine Z_iconst (v := 0) hX d_Mo_usable_9 rfl ?_
    exact Z_ri (hR _ _ d_Mo_usable_10) (by simp [m_us, zB, *]) rfl rfl

set_option maxRecDepth 100000 in
set_option maxHeartbeats 4000000 in
theorem c_Mo_qualityOf {la : Launch} {G : zG} {I : zI} {J : zJ} {p : Nat} (hp : p < 64) : zCi la G y_Mo_qualityOf (Cond.code y_Mo_qualityOf prog_8_method_7_code 2 (some .int) :: TBL) (zR 1) [.ref (zad G 64), .int (nI p)] I J (m_qu I p) (I) (J) := by
  refine zCi_of (by decide) (by simp [lg_sl, Value.category]) (rfl) (fun X hla hX hR => ?_)
  subst hla
  refine Z_loc (l' := [(0, .ref (zad G 64)), (1, .int (nI p))]) (by simp [lv_args, Value.category, List.lookup]) ?_
  refine Z_aload_n (i := 0) hX d_Mo_qualityOf_0 rfl rfl ?_
  refine Z_getR (k0 := 9) hX d_Mo_qualityOf_1 rfl rfl u_Mo (by decide) lk_Mo_40 rfl ?_
  refine Z_iload_n (i := 1) hX d_Mo_qualityOf_4 rfl rfl ?_
  refine Z_iald hX d_Mo_qualityOf_5 rfl rfl (by omega) (by decide) ?_
  refine Z_iflt (tgt := 18) hX d_Mo_qualityOf_6 rfl (fun h6 => ?_) (fun h6 => ?_)
  · refine Z_aload_n (i := 0) hX d_Mo_qualityOf_18 rfl rfl ?_
    refine Z_getR (k0 := 17) hX d_Mo_qualityOf_19 rfl rfl u_Mo (by decide) lk_Mo_64 rfl ?_
    refine Z_iconst (v := nI 0) hX d_Mo_qualityOf_22 rfl ?_
    refine Z_iload_n (i := 1) hX d_Mo_qualityOf_23 rfl rfl ?_
    refine Z_iadd0N hX d_Mo_qualityOf_24 ?_
    refine Z_iald hX d_Mo_qualityOf_25 rfl rfl (by omega) (by decide) ?_
    exact Z_ri (hR _ _ d_Mo_qualityOf_26) (by exact (if_pos h6).symm) rfl rfl
  · refine Z_aload_n (i := 0) hX d_Mo_qualityOf_9 rfl rfl ?_
    refine Z_getR (k0 := 9) hX d_Mo_qualityOf_10 rfl rfl u_Mo (by decide) lk_Mo_40 rfl ?_
    refine Z_iload_n (i := 1) hX d_Mo_qualityOf_13 rfl rfl ?_
    refine Z_iald hX d_Mo_qualityOf_14 rfl rfl (by omega) (by decide) ?_
    refine Z_goto (tgt := 26) hX d_Mo_qualityOf_15 rfl ?_
    exact Z_ri (hR _ _ d_Mo_qualityOf_26) (by exact (if_neg h6).symm) rfl rfl

set_option maxRecDepth 100000 in
set_option maxHeartbeats 4000000 in
theorem c_Mo_hopsOf {la : Launch} {G : zG} {I : zI} {J : zJ} {p : Nat} (hp : p < 64) : zCi la G y_Mo_hopsOf (Cond.code y_Mo_hopsOf prog_8_method_8_code 2 (some .int) :: TBL) (zR 1) [.ref (zad G 64), .int (nI p)] I J (m_ho I p) (I) (J) := by
  refine zCi_of (by decide) (by simp [lg_sl, Value.category]) (rfl) (fun X hla hX hR => ?_)
  subst hla
  refine Z_loc (l' := [(0, .ref (zad G 64)), (1, .int (nI p))]) (by simp [lv_args, Value.category, List.lookup]) ?_
  refine Z_aload_n (i := 0) hX d_Mo_hopsOf_0 rfl rfl ?_
  refine Z_getR (k0 := 9) hX d_Mo_hopsOf_1 rfl rfl u_Mo (by decide) lk_Mo_40 rfl ?_
  refine Z_iload_n (i := 1) hX d_Mo_hopsOf_4 rfl rfl ?_
  refine Z_iald hX d_Mo_hopsOf_5 rfl rfl (by omega) (by decide) ?_
  refine Z_iflt (tgt := 13) hX d_Mo_hopsOf_6 rfl (fun h6 => ?_) (fun h6 => ?_)
  · refine Z_aload_n (i := 0) hX d_Mo_hopsOf_13 rfl rfl ?_
    refine Z_getR (k0 := 17) hX d_Mo_hopsOf_14 rfl rfl u_Mo (by decide) lk_Mo_64 rfl ?_
    refine Z_bipush (v := nI 64) hX d_Mo_hopsOf_17 rfl ?_
    refine Z_iload_n (i := 1) hX d_Mo_hopsOf_19 rfl rfl ?_
    refine Z_iaddN hX d_Mo_hopsOf_20 ?_
    refine Z_iald hX d_Mo_hopsOf_21 rfl rfl (by omega) (by decide) ?_
    exact Z_ri (hR _ _ d_Mo_hopsOf_22) (by exact (if_pos h6).symm) rfl rfl
  · refine Z_iconst (v := 0) hX d_Mo_hopsOf_9 rfl ?_
    refine Z_goto (tgt := 22) hX d_Mo_hopsOf_10 rfl ?_
    exact Z_ri (hR _ _ d_Mo_hopsOf_22) (by exact (if_neg h6).symm) rfl rfl

set_option maxRecDepth 100000 in
set_option maxHeartbeats 4000000 in
theorem c_Mo_better {la : Launch} {G : zG} {I : zI} {J : zJ} {s t : Nat} (hs : s < 64) (ht : t < 64) : zCi la G y_Mo_better (Cond.code y_Mo_better prog_8_method_9_code 3 (some .boolean) :: TBL) (zR 2) [.ref (zad G 64), .int (nI s), .int (nI t)] I J (zB (m_bt I s t)) (I) (J) := by
  refine zCi_of (by decide) (by simp [lg_sl, Value.category]) (zB_nar _) (fun X hla hX hR => ?_)
  subst hla
  refine Z_loc (l' := [(0, .ref (zad G 64)), (1, .int (nI s)), (2, .int (nI t))]) (by simp [lv_args, Value.category, List.lookup]) ?_
  refine Z_aload_n (i := 0) hX d_Mo_better_0 rfl rfl ?_
  refine Z_iload_n (i := 1) hX d_Mo_better_1 rfl rfl ?_
  refine Z_cVi1 hX d_Mo_better_2 (c_Mo_qualityOf (by omega)) m_Mo_qualityOf rfl rfl lk_Mo_100 ⟨by decide, by decide⟩ ⟨by decide, by decide⟩ (Nat.le_of_ble_eq_true rfl) ?_
  refine Z_aload_n (i := 0) hX d_Mo_better_5 rfl rfl ?_
  refine Z_iload_n (i := 2) hX d_Mo_better_6 rfl rfl ?_
  refine Z_cVi1 hX d_Mo_better_7 (c_Mo_qualityOf (by omega)) m_Mo_qualityOf rfl rfl lk_Mo_100 ⟨by decide, by decide⟩ ⟨by decide, by decide⟩ (Nat.le_of_ble_eq_true rfl) ?_
  refine Z_iceq (tgt := 32) hX d_Mo_better_10 rfl (fun h10 => ?_) (fun h10 => ?_)
  · refine Z_aload_n (i := 0) hX d_Mo_better_32 rfl rfl ?_
    refine Z_iload_n (i := 1) hX d_Mo_better_33 rfl rfl ?_
    refine Z_cVi1 hX d_Mo_better_34 (c_Mo_hopsOf (by omega)) m_Mo_hopsOf rfl rfl lk_Mo_103 ⟨by decide, by decide⟩ ⟨by decide, by decide⟩ (Nat.le_of_ble_eq_true rfl) ?_
    refine Z_aload_n (i := 0) hX d_Mo_better_37 rfl rfl ?_
    refine Z_iload_n (i := 2) hX d_Mo_better_38 rfl rfl ?_
    refine Z_cVi1 hX d_Mo_better_39 (c_Mo_hopsOf (by omega)) m_Mo_hopsOf rfl rfl lk_Mo_103 ⟨by decide, by decide⟩ ⟨by decide, by decide⟩ (Nat.le_of_ble_eq_true rfl) ?_
    refine Z_iceq (tgt := 64) hX d_Mo_better_42 rfl (fun h42 => ?_) (fun h42 => ?_)
    · refine Z_aload_n (i := 0) hX d_Mo_better_64 rfl rfl ?_
      refine Z_getR (k0 := 12) hX d_Mo_better_65 rfl rfl u_Mo (by decide) lk_Mo_49 rfl ?_
      refine Z_iload_n (i := 1) hX d_Mo_better_68 rfl rfl ?_
      refine Z_iald hX d_Mo_better_69 rfl rfl (by omega) (by decide) ?_
      refine Z_aload_n (i := 0) hX d_Mo_better_70 rfl rfl ?_
      refine Z_getR (k0 := 12) hX d_Mo_better_71 rfl rfl u_Mo (by decide) lk_Mo_49 rfl ?_
      refine Z_iload_n (i := 2) hX d_Mo_better_74 rfl rfl ?_
      refine Z_iald hX d_Mo_better_75 rfl rfl (by omega) (by decide) ?_
      refine Z_icge (tgt := 83) hX d_Mo_better_76 rfl (fun h76 => ?_) (fun h76 => ?_)
      · refine Z_iconst (v := 0) hX d_Mo_better_83 rfl ?_
        exact Z_ri (hR _ _ d_Mo_better_84) (by simp [m_bt, zB, *]) rfl rfl
      · refine Z_iconst (v := 1) hX d_Mo_better_79 rfl ?_
        refine Z_goto (tgt := 84) hX d_Mo_better_80 rfl ?_
        exact Z_ri (hR _ _ d_Mo_better_84) (by simp [m_bt, zB, *]) rfl rfl
    · refine Z_aload_n (i := 0) hX d_Mo_better_45 rfl rfl ?_
      refine Z_iload_n (i := 1) hX d_Mo_better_46 rfl rfl ?_
      refine Z_cVi1 hX d_Mo_better_47 (c_Mo_hopsOf (by omega)) m_Mo_hopsOf rfl rfl lk_Mo_103 ⟨by decide, by decide⟩ ⟨by decide, by decide⟩ (Nat.le_of_ble_eq_true rfl) ?_
      refine Z_aload_n (i := 0) hX d_Mo_better_50 rfl rfl ?_
      refine Z_iload_n (i := 2) hX d_Mo_better_51 rfl rfl ?_
      refine Z_cVi1 hX d_Mo_better_52 (c_Mo_hopsOf (by omega)) m_Mo_hopsOf rfl rfl lk_Mo_103 ⟨by decide, by decide⟩ ⟨by decide, by decide⟩ (Nat.le_of_ble_eq_true rfl) ?_
      refine Z_icge (tgt := 62) hX d_Mo_better_55 rfl (fun h55 => ?_) (fun h55 => ?_)
      · refine Z_iconst (v := 0) hX d_Mo_better_62 rfl ?_
        exact Z_ri (hR _ _ d_Mo_better_63) (by simp [m_bt, zB, *]) rfl rfl
      · refine Z_iconst (v := 1) hX d_Mo_better_58 rfl ?_
        refine Z_goto (tgt := 63) hX d_Mo_better_59 rfl ?_
        exact Z_ri (hR _ _ d_Mo_better_63) (by simp [m_bt, zB, *]) rfl rfl
  · refine Z_aload_n (i := 0) hX d_Mo_better_13 rfl rfl ?_
    refine Z_iload_n (i := 1) hX d_Mo_better_14 rfl rfl ?_
    refine Z_cVi1 hX d_Mo_better_15 (c_Mo_qualityOf (by omega)) m_Mo_qualityOf rfl rfl lk_Mo_100 ⟨by decide, by decide⟩ ⟨by decide, by decide⟩ (Nat.le_of_ble_eq_true rfl) ?_
    refine Z_aload_n (i := 0) hX d_Mo_better_18 rfl rfl ?_
    refine Z_iload_n (i := 2) hX d_Mo_better_19 rfl rfl ?_
    refine Z_cVi1 hX d_Mo_better_20 (c_Mo_qualityOf (by omega)) m_Mo_qualityOf rfl rfl lk_Mo_100 ⟨by decide, by decide⟩ ⟨by decide, by decide⟩ (Nat.le_of_ble_eq_true rfl) ?_
    refine Z_icge (tgt := 30) hX d_Mo_better_23 rfl (fun h23 => ?_) (fun h23 => ?_)
    · refine Z_iconst (v := 0) hX d_Mo_better_30 rfl ?_
      exact Z_ri (hR _ _ d_Mo_better_31) (by simp [m_bt, zB, *]) rfl rfl
    · refine Z_iconst (v := 1) hX d_Mo_better_26 rfl ?_
      refine Z_goto (tgt := 31) hX d_Mo_better_27 rfl ?_
      exact Z_ri (hR _ _ d_Mo_better_31) (by simp [m_bt, zB, *]) rfl rfl

set_option maxRecDepth 100000 in
set_option maxHeartbeats 4000000 in
theorem c_Mo_bestOf {la : Launch} {G : zG} {I : zI} {J : zJ} {e : Nat} (he : e < 16) {m : Int32} : zCi la G y_Mo_bestOf (Cond.code y_Mo_bestOf prog_8_method_10_code 5 (some .int) :: TBL) (zR 3) [.ref (zad G 64), .int (nI e), .int m] I J (mO e (m_bo I e m 4)) (I) (J) := by
  refine zCi_of (by decide) (by simp [lg_sl, Value.category]) (rfl) (fun X hla hX hR => ?_)
  subst hla
  refine Z_loc (l' := [(0, .ref (zad G 64)), (1, .int (nI e)), (2, .int m)]) (by simp [lv_args, Value.category, List.lookup]) ?_
  refine Z_iconst (v := (-1)) hX d_Mo_bestOf_0 rfl ?_
  refine Z_istore_n (i := 3) hX d_Mo_bestOf_1 rfl (by decide) rfl ?_
  refine Z_iconst (v := nI 4) hX d_Mo_bestOf_2 rfl ?_
  refine Z_iload_n (i := 1) hX d_Mo_bestOf_3 rfl rfl ?_
  refine Z_imulN hX d_Mo_bestOf_4 ?_
  refine Z_istore hX d_Mo_bestOf_5 (by decide) rfl ?_
  have hL7 : ∀ k i : Nat, k + i = 4 → Z X G 5 0 0 7 [(4, .int (nI (4 * e + i))), (3, .int (mO e (m_bo I e m i))), (2, .int m), (1, .int (nI e)), (0, .ref (zad G 64))] [] (I) (J) := by
    intro k
    induction k with
    | zero =>
      intro i hi
      obtain rfl : i = 4 := by omega
      refine Z_iload hX d_Mo_bestOf_7 rfl ?_
      refine Z_iconst (v := nI 4) hX d_Mo_bestOf_9 rfl ?_
      refine Z_iload_n (i := 1) hX d_Mo_bestOf_10 rfl rfl ?_
      refine Z_imulN hX d_Mo_bestOf_11 ?_
      refine Z_iconst (v := nI 4) hX d_Mo_bestOf_12 rfl ?_
      refine Z_iaddN hX d_Mo_bestOf_13 ?_
      refine Z_icge (tgt := 55) hX d_Mo_bestOf_14 rfl (fun h14 => ?_) (fun h => absurd (nI_le (Nat.le_refl _) (by omega)) h)
      refine Z_iload_n (i := 3) hX d_Mo_bestOf_55 rfl rfl ?_
      exact Z_ri (hR _ _ d_Mo_bestOf_56) (by rfl) rfl rfl
    | succ k ih =>
      intro i hi
      have hi2 : i < 4 := by omega
      refine Z_iload hX d_Mo_bestOf_7 rfl ?_
      refine Z_iconst (v := nI 4) hX d_Mo_bestOf_9 rfl ?_
      refine Z_iload_n (i := 1) hX d_Mo_bestOf_10 rfl rfl ?_
      refine Z_imulN hX d_Mo_bestOf_11 ?_
      refine Z_iconst (v := nI 4) hX d_Mo_bestOf_12 rfl ?_
      refine Z_iaddN hX d_Mo_bestOf_13 ?_
      refine Z_icge (tgt := 55) hX d_Mo_bestOf_14 rfl (fun h => absurd h (nI_ge (by omega) (by omega))) (fun h14 => ?_)
      refine Z_aload_n (i := 0) hX d_Mo_bestOf_17 rfl rfl ?_
      refine Z_getR (k0 := 17) hX d_Mo_bestOf_18 rfl rfl u_Mo (by decide) lk_Mo_64 rfl ?_
      refine Z_sipush (v := nI 448) hX d_Mo_bestOf_21 rfl ?_
      refine Z_iload hX d_Mo_bestOf_24 rfl ?_
      refine Z_iaddN hX d_Mo_bestOf_26 ?_
      refine Z_iald (k0 := 448 + (4 * e + i)) hX d_Mo_bestOf_27 rfl rfl (by omega) (by decide) ?_
      refine Z_iload_n (i := 2) hX d_Mo_bestOf_28 rfl rfl ?_
      refine Z_icle (tgt := 49) hX d_Mo_bestOf_29 rfl (fun h29 => ?_) (fun h29 => ?_)
      · refine Z_iinc (v := nI (4 * e + (i + 1))) hX d_Mo_bestOf_49 rfl (nI4s e i) (by decide) rfl ?_
        refine Z_goto (tgt := 7) hX d_Mo_bestOf_52 rfl ?_
        refine Z_loc ?_ (Z_mem ?_ ?_ (ih (i + 1) (by omega)))
        · (rw [m_bo_a h29]; rfl)
        · rfl
        · rfl
      · refine Z_iload_n (i := 3) hX d_Mo_bestOf_32 rfl rfl ?_
        refine Z_iflt (tgt := 46) hX d_Mo_bestOf_33 rfl (fun h33 => ?_) (fun h33 => ?_)
        · have hr := mO_neg h33 he (fun k hk => Nat.lt_trans (m_bo_lt i k hk) (by omega))
          refine Z_iload hX d_Mo_bestOf_46 rfl ?_
          refine Z_istore_n (i := 3) hX d_Mo_bestOf_48 rfl (by decide) rfl ?_
          refine Z_iinc (v := nI (4 * e + (i + 1))) hX d_Mo_bestOf_49 rfl (nI4s e i) (by decide) rfl ?_
          refine Z_goto (tgt := 7) hX d_Mo_bestOf_52 rfl ?_
          refine Z_loc ?_ (Z_mem ?_ ?_ (ih (i + 1) (by omega)))
          · (rw [m_bo_b h29 hr]; rfl)
          · rfl
          · rfl
        · obtain ⟨r, hr⟩ := mO_pos h33
          have hr2 := m_bo_lt i r hr
          refine Z_aload_n (i := 0) hX d_Mo_bestOf_36 rfl rfl ?_
          refine Z_iload hX d_Mo_bestOf_37 rfl ?_
          refine Z_iload_n (i := 3) hX d_Mo_bestOf_39 rfl rfl ?_
          refine Z_top (y := nI (4 * e + r)) (by rw [hr]; rfl) ?_
          refine Z_cVi2 hX d_Mo_bestOf_40 (c_Mo_better (by omega) (by omega)) m_Mo_better rfl rfl lk_Mo_106 ⟨by decide, by decide⟩ ⟨by decide, by decide⟩ (Nat.le_of_ble_eq_true rfl) ?_
          refine Z_ifeqB (tgt := 49) hX d_Mo_bestOf_43 rfl (fun h43 => ?_) (fun h43 => ?_)
          · refine Z_iinc (v := nI (4 * e + (i + 1))) hX d_Mo_bestOf_49 rfl (nI4s e i) (by decide) rfl ?_
            refine Z_goto (tgt := 7) hX d_Mo_bestOf_52 rfl ?_
            refine Z_loc ?_ (Z_mem ?_ ?_ (ih (i + 1) (by omega)))
            · (rw [m_bo_d h29 hr h43]; rfl)
            · rfl
            · rfl
          · refine Z_iload hX d_Mo_bestOf_46 rfl ?_
            refine Z_istore_n (i := 3) hX d_Mo_bestOf_48 rfl (by decide) rfl ?_
            refine Z_iinc (v := nI (4 * e + (i + 1))) hX d_Mo_bestOf_49 rfl (nI4s e i) (by decide) rfl ?_
            refine Z_goto (tgt := 7) hX d_Mo_bestOf_52 rfl ?_
            refine Z_loc ?_ (Z_mem ?_ ?_ (ih (i + 1) (by omega)))
            · (rw [m_bo_c h29 hr h43]; rfl)
            · rfl
            · rfl
  refine Z_loc ?_ (Z_mem ?_ ?_ (hL7 4 0 (by omega)))
  · rfl
  · rfl
  · rfl
