/-! sets of elements as numbers -/
theorem b_sm : ∀ n, n < 32 → ((nI n &&& 31).toBitVec.smod 32).toNat = n := by decide
theorem nI_or (a b : Nat) : nI a ||| nI b = nI (a ||| b) := by
  apply Int32.toBitVec_inj.mp
  show BitVec.ofNat 32 a ||| BitVec.ofNat 32 b = BitVec.ofNat 32 (a ||| b)
  exact BitVec.ofNat_or.symm
theorem b_one {a : Nat} (ha : a < 31) : (1 : Int32) <<< (nI a &&& 31) = nI (2 ^ a) := by
  have h := pk_shlN (n := 1) (nI a &&& 31) a (b_sm a (by omega)) (by rw [Nat.one_mul]; exact Nat.pow_lt_pow_right (by decide) (by omega))
  rw [Nat.one_mul] at h
  exact h
theorem b_get {x a : Nat} (hx : x < 2 ^ 31) (ha : a < 32) : f_bit (nI x) (nI a) = nI (x / 2 ^ a % 2) := by
  unfold f_bit
  rw [pk_shrN hx (nI a &&& 31) a (b_sm a ha)]
  exact pk_andN (n := x / 2 ^ a) (Nat.lt_of_le_of_lt (Nat.div_le_self _ _) (Nat.lt_trans hx (by decide))) 1 (by decide)
theorem b_or2 {u v : Nat} : (u ||| v) % 2 = 1 ↔ u % 2 = 1 ∨ v % 2 = 1 := by
  have h : (u ||| v).testBit 0 = (u.testBit 0 || v.testBit 0) := Nat.testBit_or u v 0
  rw [Nat.testBit_zero, Nat.testBit_zero, Nat.testBit_zero] at h
  by_cases h1 : u % 2 = 1
  · simp [h1] at h
    simp [h1, h]
  · by_cases h2 : v % 2 = 1
    · simp [h2] at h
      simp [h2, h]
    · simp [h1, h2] at h
      simp [h1, h2, h]
theorem b_tb {x a : Nat} : x / 2 ^ a % 2 = 1 ↔ x.testBit a = true := by
  rw [Nat.testBit_eq_decide_div_mod_eq]
  simp
def m_e1 (I : zI) (k : Nat) : Nat := (I 77 k).toNatClampNeg / 4
def m_e2 (I : zI) (k : Nat) : Nat := (I 78 k).toNatClampNeg / 4
/-- the reference's links -/
def okME (I : zI) (m : Nat) : Prop := I 64 14 = nI m ∧ m ≤ 24 ∧ ∀ k, k < m → (∃ a, a < 64 ∧ I 77 k = nI a) ∧ (∃ c, c < 64 ∧ I 78 k = nI c)
def m_on (I : zI) (k : Nat) : Bool := decide (I 79 (688 + k) = 0) && (m_wh I (m_e1 I k) && m_wh I (m_e2 I k))
def m_p1 (I : zI) (x k : Nat) : Nat := if m_on I k = true ∧ (x.testBit (m_e1 I k) = true ∨ x.testBit (m_e2 I k) = true) then x ||| 2 ^ m_e1 I k ||| 2 ^ m_e2 I k else x
def m_ps (I : zI) (x : Nat) : Nat → Nat
  | 0 => x
  | k + 1 => m_p1 I (m_ps I x k) k
theorem m_p1_le (I : zI) (x k : Nat) : x ≤ m_p1 I x k := by
  unfold m_p1
  split
  · exact Nat.le_trans Nat.left_le_or Nat.left_le_or
  · exact Nat.le_refl _
theorem m_p1_lt {I : zI} {x k : Nat} (hx : x < 2 ^ 16) (h1 : m_e1 I k < 16) (h2 : m_e2 I k < 16) : m_p1 I x k < 2 ^ 16 := by
  unfold m_p1
  split
  · exact Nat.or_lt_two_pow (Nat.or_lt_two_pow hx (Nat.pow_lt_pow_right (by decide) h1)) (Nat.pow_lt_pow_right (by decide) h2)
  · exact hx
theorem okME_e {I : zI} {m k : Nat} (h : okME I m) (hk : k < m) : m_e1 I k < 16 ∧ m_e2 I k < 16 := by
  obtain ⟨⟨a, ha, ha2⟩, ⟨c, hc, hc2⟩⟩ := h.2.2 k hk
  unfold m_e1 m_e2
  rw [ha2, hc2, nI_clamp (by omega), nI_clamp (by omega)]
  omega
theorem m_ps_lt {I : zI} {m x : Nat} (h : okME I m) (hx : x < 2 ^ 16) : ∀ k, k ≤ m → m_ps I x k < 2 ^ 16
  | 0, _ => hx
  | k + 1, hk => m_p1_lt (m_ps_lt h hx k (by omega)) (okME_e h (by omega)).1 (okME_e h (by omega)).2
theorem m_ps_le (I : zI) (x : Nat) : ∀ k, x ≤ m_ps I x k
  | 0 => Nat.le_refl _
  | k + 1 => Nat.le_trans (m_ps_le I x k) (m_p1_le I _ k)
/-- a set that holds with an element all that it is linked to -/
def m_cl (I : zI) (m y : Nat) : Prop := ∀ k, k < m → m_p1 I y k = y
def m_sub (x y : Nat) : Prop := ∀ i, x.testBit i = true → y.testBit i = true
theorem m_p1_sub {I : zI} {x y k : Nat} (h : m_sub x y) (hy : m_p1 I y k = y) : m_sub (m_p1 I x k) y := by
  unfold m_p1 at hy ⊢
  split
  · rename_i hc
    have hc2 : m_on I k = true ∧ (y.testBit (m_e1 I k) = true ∨ y.testBit (m_e2 I k) = true) := ⟨hc.1, hc.2.elim (fun z => Or.inl (h _ z)) (fun z => Or.inr (h _ z))⟩
    rw [if_pos hc2] at hy
    intro i hi
    rw [← hy]
    rw [Nat.testBit_or, Nat.testBit_or] at hi ⊢
    simp only [Bool.or_eq_true] at hi ⊢
    rcases hi with (hi | hi) | hi
    · exact Or.inl (Or.inl (h i hi))
    · exact Or.inl (Or.inr hi)
    · exact Or.inr hi
  · exact h
theorem m_ps_sub {I : zI} {m x y : Nat} (h : m_sub x y) (hy : m_cl I m y) : ∀ k, k ≤ m → m_sub (m_ps I x k) y
  | 0, _ => h
  | k + 1, hk => m_p1_sub (m_ps_sub h hy k (by omega)) (hy k (by omega))
theorem m_ps_cl {I : zI} {m x : Nat} (h : m_ps I x m = x) : m_cl I m x := by
  have key : ∀ k, k ≤ m → m_ps I x (m - k) = x := by
    intro k
    induction k with
    | zero => intro _; exact h
    | succ k ih =>
      intro hk
      have h1 := ih (by omega)
      rw [show m - k = (m - (k + 1)) + 1 by omega, m_ps] at h1
      have h2 := m_p1_le I (m_ps I x (m - (k + 1))) (m - (k + 1))
      rw [h1] at h2
      exact Nat.le_antisymm h2 (m_ps_le I x _)
  intro k hk
  have h1 := key (m - k) (by omega)
  have h2 := key (m - (k + 1)) (by omega)
  rw [show m - (m - k) = k by omega] at h1
  rw [show m - (m - (k + 1)) = k + 1 by omega, m_ps, h1] at h2
  exact h2
theorem m_sub_anti {x y : Nat} (h1 : m_sub x y) (h2 : m_sub y x) : x = y := by
  apply Nat.eq_of_testBit_eq
  intro i
  cases h : x.testBit i with
  | true => exact (h1 i h).symm
  | false =>
    cases h9 : y.testBit i with
    | true => rw [h2 i h9] at h; cases h
    | false => rfl
/-- what is reached from e: the least such set that e is in -/
def m_rP (I : zI) (m e x : Nat) : Prop := x < 2 ^ 16 ∧ x.testBit e = true ∧ m_cl I m x ∧ ∀ y, y.testBit e = true → m_cl I m y → m_sub x y
theorem m_rP_un {I : zI} {m e x y : Nat} (h1 : m_rP I m e x) (h2 : m_rP I m e y) : x = y := m_sub_anti (h1.2.2.2 y h2.2.1 h2.2.2.1) (h2.2.2.2 x h1.2.1 h1.2.2.1)
def m_bs (I : zI) (x : Nat) : Nat → Int32
  | 0 => 7
  | i + 1 => if x.testBit (i / 4) = true ∧ ¬ I 72 i < 0 ∧ I 72 i < m_bs I x i then I 72 i else m_bs I x i
theorem m_p1_up {I : zI} {x k i : Nat} (h : x.testBit i = true) : (m_p1 I x k).testBit i = true := by
  unfold m_p1
  split
  · rw [Nat.testBit_or, Nat.testBit_or, h]
    rfl
  · exact h
theorem m_ps_up {I : zI} {x i : Nat} (h : x.testBit i = true) : ∀ k, (m_ps I x k).testBit i = true
  | 0 => h
  | k + 1 => m_p1_up (m_ps_up h k)
theorem m_p1_n1 {I : zI} {y k : Nat} (h : m_on I k = false) : m_p1 I y k = y := if_neg (fun q => absurd (h.symm.trans q.1) (by decide))
theorem m_c12 {y a c : Nat} : nI ((y / 2 ^ a ||| y / 2 ^ c) % 2) = 1 ↔ y.testBit a = true ∨ y.testBit c = true := by
  rw [show (1 : Int32) = nI 1 from rfl, nI_eq (by omega) (by decide), b_or2, b_tb, b_tb]
theorem m_p1_n2 {I : zI} {y k a c : Nat} (h1 : m_e1 I k = a) (h2 : m_e2 I k = c) (h : ¬ nI ((y / 2 ^ a ||| y / 2 ^ c) % 2) = 1) : m_p1 I y k = y := by
  rw [m_c12] at h
  unfold m_p1
  rw [h1, h2]
  exact if_neg (fun q => h q.2)
theorem m_p1_y {I : zI} {y k a c : Nat} (ho : m_on I k = true) (h1 : m_e1 I k = a) (h2 : m_e2 I k = c) (h : nI ((y / 2 ^ a ||| y / 2 ^ c) % 2) = 1) : m_p1 I y k = y ||| 2 ^ a ||| 2 ^ c := by
  rw [m_c12] at h
  unfold m_p1
  rw [h1, h2]
  exact if_pos ⟨ho, h⟩
def m_bf (I : zI) (e x : Nat) : Int32 := if m_wh I e = true then m_bs I x 64 else 7
def m_lo16 (I : zI) : Nat → Int32
  | 0 => 0
  | e + 1 => if I 65 e = 0 then m_lo16 I e else if I 69 e ≤ m_lo16 I e then m_lo16 I e else I 69 e
def m_kI (I : zI) (t : Bool) : Nat → zI
  | 0 => I
  | i + 1 => match t with
    | true => zup (m_kI I t i) 79 i (m_kI I t i 80 i)
    | false => zup (m_kI I t i) 80 i (m_kI I t i 79 i)
def m_kJ (J : zJ) (t : Bool) : Nat → zJ
  | 0 => J
  | i + 1 => match t with
    | true => zupL (m_kJ J t i) 81 i (m_kJ J t i 82 i)
    | false => zupL (m_kJ J t i) 82 i (m_kJ J t i 81 i)
set_option maxRecDepth 100000 in
set_option maxHeartbeats 4000000 in
theorem c_Mo_reached {la : Launch} {G : zG} {I : zI} {J : zJ} {e m x : Nat} (he : e < 16) (hE : okME I m) (hx : m_rP I m e x) : zCi la G y_Mo_reached (Cond.code y_Mo_reached prog_8_method_19_code 8 (some .int) :: TBL) (zR 2) [.ref (zad G 64), .int (nI e)] I J (nI x) (I) (J) := by
  refine zCi_of (by decide) (by simp [lg_sl, Value.category]) (rfl) (fun X hla hX hR => ?_)
  subst hla
  refine Z_loc (l' := [(0, .ref (zad G 64)), (1, .int (nI e))]) (by simp [lv_args, Value.category, List.lookup]) ?_
  have hm := hE.2.1
  refine Z_iconst (v := 1) hX d_Mo_reached_0 rfl ?_
  refine Z_iload_n (i := 1) hX d_Mo_reached_1 rfl rfl ?_
  refine Z_ishl hX d_Mo_reached_2 ?_
  refine Z_top (b_one (by omega)) ?_
  refine Z_istore_n (i := 2) hX d_Mo_reached_3 rfl (by decide) rfl ?_
  refine Z_iconst (v := nI 0) hX d_Mo_reached_4 rfl ?_
  refine Z_istore_n (i := 3) hX d_Mo_reached_5 rfl (by decide) rfl ?_
  have hL6 : ∀ (k w z : Nat), 2 * (65536 - z) + (if w = z then 0 else 1) < k → w < 65536 → z < 2 ^ 16 → z.testBit e = true → (∀ y, y.testBit e = true → m_cl I m y → m_sub z y) → (w = z → m_ps I z m = z) → Z X G 8 0 0 6 [(3, .int (nI w)), (2, .int (nI z)), (1, .int (nI e)), (0, .ref (zad G 64))] [] I J := by
    intro k
    induction k with
    | zero =>
      intro w z h
      exact absurd h (Nat.not_lt_zero _)
    | succ k ih =>
      intro w z hk hw hz hze hzm hwz
      refine Z_iload_n (i := 3) hX d_Mo_reached_6 rfl rfl ?_
      refine Z_iload_n (i := 2) hX d_Mo_reached_7 rfl rfl ?_
      refine Z_iceq (tgt := 127) hX d_Mo_reached_8 rfl (fun h8 => ?_) (fun h8 => ?_)
      · refine Z_iload_n (i := 2) hX d_Mo_reached_127 rfl rfl ?_
        exact Z_ri (hR _ _ d_Mo_reached_128) (by rw [m_rP_un hx ⟨hz, hze, m_ps_cl (hwz ((nI_eq (by omega) (by omega)).mp h8)), hzm⟩]) rfl rfl
      · have h8n : ¬ w = z := fun q => h8 (by rw [q])
        refine Z_iload_n (i := 2) hX d_Mo_reached_11 rfl rfl ?_
        refine Z_istore_n (i := 3) hX d_Mo_reached_12 rfl (by decide) rfl ?_
        refine Z_iconst (v := nI 0) hX d_Mo_reached_13 rfl ?_
        refine Z_istore hX d_Mo_reached_14 (by decide) rfl ?_
        have hL16 : ∀ (k2 j : Nat), k2 + j = m → Z X G 8 0 0 16 [(4, .int (nI j)), (3, .int (nI z)), (2, .int (nI (m_ps I z j))), (1, .int (nI e)), (0, .ref (zad G 64))] [] I J := by
          intro k2
          induction k2 with
          | zero =>
            intro j hj
            obtain rfl : m = j := by omega
            refine Z_iload hX d_Mo_reached_16 rfl ?_
            refine Z_aload_n (i := 0) hX d_Mo_reached_18 rfl rfl ?_
            refine Z_getI (k0 := 14) hX d_Mo_reached_19 rfl rfl u_Mo (by decide) lk_Mo_55 rfl ?_
            refine Z_top hE.1 ?_
            refine Z_icge (tgt := 124) hX d_Mo_reached_22 rfl (fun h22 => ?_) (fun h => absurd (nI_le (Nat.le_refl _) (by omega)) h)
            refine Z_goto (tgt := 6) hX d_Mo_reached_124 rfl ?_
            have hy9 : m_ps I z m < 2 ^ 16 := m_ps_lt hE hz m (Nat.le_refl _)
            have hle := m_ps_le I z m
            refine Z_loc ?_ (ih z (m_ps I z m) ?_ (by omega) hy9 (m_ps_up hze m) (fun y9 h1 h2 => m_ps_sub (hzm y9 h1 h2) h2 m (Nat.le_refl _)) (fun hq => by rw [← hq]; exact hq.symm))
            · rfl
            · rw [if_neg h8n] at hk; split <;> omega
          | succ k2 ih2 =>
            intro j hj
            have hi2 : j < m := by omega
            obtain ⟨⟨a, ha, ha2⟩, ⟨c, hc, hc2⟩⟩ := hE.2.2 j hi2
            have he1 : m_e1 I j = a / 4 := by unfold m_e1; rw [ha2, nI_clamp (by omega)]
            have he2 : m_e2 I j = c / 4 := by unfold m_e2; rw [hc2, nI_clamp (by omega)]
            have hy16 : (m_ps I z j) < 2 ^ 16 := m_ps_lt hE hz j (by omega)
            refine Z_iload hX d_Mo_reached_16 rfl ?_
            refine Z_aload_n (i := 0) hX d_Mo_reached_18 rfl rfl ?_
            refine Z_getI (k0 := 14) hX d_Mo_reached_19 rfl rfl u_Mo (by decide) lk_Mo_55 rfl ?_
            refine Z_top hE.1 ?_
            refine Z_icge (tgt := 124) hX d_Mo_reached_22 rfl (fun h => absurd h (nI_ge hi2 (by omega))) (fun h22 => ?_)
            refine Z_aload_n (i := 0) hX d_Mo_reached_25 rfl rfl ?_
            refine Z_getR (k0 := 15) hX d_Mo_reached_26 rfl rfl u_Mo (by decide) lk_Mo_58 rfl ?_
            refine Z_iload hX d_Mo_reached_29 rfl ?_
            refine Z_iald hX d_Mo_reached_31 rfl rfl (by omega) (by decide) ?_
            refine Z_top ha2 ?_
            refine Z_iconst (v := 4) hX d_Mo_reached_32 rfl ?_
            refine Z_div4 hX d_Mo_reached_33 (by omega) ?_
            refine Z_istore hX d_Mo_reached_34 (by decide) rfl ?_
            refine Z_aload_n (i := 0) hX d_Mo_reached_36 rfl rfl ?_
            refine Z_getR (k0 := 16) hX d_Mo_reached_37 rfl rfl u_Mo (by decide) lk_Mo_61 rfl ?_
            refine Z_iload hX d_Mo_reached_40 rfl ?_
            refine Z_iald hX d_Mo_reached_42 rfl rfl (by omega) (by decide) ?_
            refine Z_top hc2 ?_
            refine Z_iconst (v := 4) hX d_Mo_reached_43 rfl ?_
            refine Z_div4 hX d_Mo_reached_44 (by omega) ?_
            refine Z_istore hX d_Mo_reached_45 (by decide) rfl ?_
            refine Z_cut (pc' := 84) (P := fun v => v = zB (m_on I j)) ?_ (fun hJ84 => ?_)
            · intro v hv84
              subst hv84
              refine Z_istore hX d_Mo_reached_84 (by decide) rfl ?_
              refine Z_iload hX d_Mo_reached_86 rfl ?_
              refine Z_ifeqB (tgt := 118) hX d_Mo_reached_88 rfl (fun h88 => ?_) (fun h88 => ?_)
              · refine Z_iinc (v := nI (j + 1)) hX d_Mo_reached_118 rfl (by rw [nI_succ]; rfl) (by decide) rfl ?_
                refine Z_goto (tgt := 16) hX d_Mo_reached_121 rfl ?_
                refine Z_loc ?_ (ih2 (j + 1) (by omega))
                (rw [show m_ps I z (j + 1) = _ from m_p1_n1 h88]; rfl)
              · refine Z_iload_n (i := 2) hX d_Mo_reached_91 rfl rfl ?_
                refine Z_iload hX d_Mo_reached_92 rfl ?_
                refine Z_ishr hX d_Mo_reached_94 ?_
                refine Z_iload_n (i := 2) hX d_Mo_reached_95 rfl rfl ?_
                refine Z_iload hX d_Mo_reached_96 rfl ?_
                refine Z_ishr hX d_Mo_reached_98 ?_
                refine Z_ior hX d_Mo_reached_99 ?_
                refine Z_iconst (v := 1) hX d_Mo_reached_100 rfl ?_
                refine Z_iand hX d_Mo_reached_101 ?_
                refine Z_top (y := nI (((m_ps I z j) / 2 ^ (a / 4) ||| (m_ps I z j) / 2 ^ (c / 4)) % 2)) (by rw [pk_shrN (by omega) _ (a / 4) (b_sm _ (by omega)), pk_shrN (by omega) _ (c / 4) (b_sm _ (by omega)), nI_or]; exact pk_andN (Nat.lt_trans (Nat.or_lt_two_pow (n := 16) (Nat.lt_of_le_of_lt (Nat.div_le_self _ _) hy16) (Nat.lt_of_le_of_lt (Nat.div_le_self _ _) hy16)) (by decide)) 1 (by decide)) ?_
                refine Z_iconst (v := 1) hX d_Mo_reached_102 rfl ?_
                refine Z_icne (tgt := 118) hX d_Mo_reached_103 rfl (fun h103 => ?_) (fun h103 => ?_)
                · refine Z_iinc (v := nI (j + 1)) hX d_Mo_reached_118 rfl (by rw [nI_succ]; rfl) (by decide) rfl ?_
                  refine Z_goto (tgt := 16) hX d_Mo_reached_121 rfl ?_
                  refine Z_loc ?_ (ih2 (j + 1) (by omega))
                  (rw [show m_ps I z (j + 1) = _ from m_p1_n2 he1 he2 h103]; rfl)
                · refine Z_iload_n (i := 2) hX d_Mo_reached_106 rfl rfl ?_
                  refine Z_iconst (v := 1) hX d_Mo_reached_107 rfl ?_
                  refine Z_iload hX d_Mo_reached_108 rfl ?_
                  refine Z_ishl hX d_Mo_reached_110 ?_
                  refine Z_ior hX d_Mo_reached_111 ?_
                  refine Z_iconst (v := 1) hX d_Mo_reached_112 rfl ?_
                  refine Z_iload hX d_Mo_reached_113 rfl ?_
                  refine Z_ishl hX d_Mo_reached_115 ?_
                  refine Z_ior hX d_Mo_reached_116 ?_
                  refine Z_top (y := nI ((m_ps I z j) ||| 2 ^ (a / 4) ||| 2 ^ (c / 4))) (by rw [b_one (by omega), b_one (by omega), nI_or, nI_or]) ?_
                  refine Z_istore_n (i := 2) hX d_Mo_reached_117 rfl (by decide) rfl ?_
                  refine Z_iinc (v := nI (j + 1)) hX d_Mo_reached_118 rfl (by rw [nI_succ]; rfl) (by decide) rfl ?_
                  refine Z_goto (tgt := 16) hX d_Mo_reached_121 rfl ?_
                  refine Z_loc ?_ (ih2 (j + 1) (by omega))
                  (rw [show m_ps I z (j + 1) = _ from m_p1_y h88 he1 he2 h103]; rfl)
            · refine Z_aload_n (i := 0) hX d_Mo_reached_47 rfl rfl ?_
              refine Z_getR (k0 := 17) hX d_Mo_reached_48 rfl rfl u_Mo (by decide) lk_Mo_64 rfl ?_
              refine Z_sipush (v := nI 688) hX d_Mo_reached_51 rfl ?_
              refine Z_iload hX d_Mo_reached_54 rfl ?_
              refine Z_iaddN hX d_Mo_reached_56 ?_
              refine Z_iald hX d_Mo_reached_57 rfl rfl (by omega) (by decide) ?_
              refine Z_ifne (tgt := 83) hX d_Mo_reached_58 rfl (fun h58 => ?_) (fun h58 => ?_)
              · refine Z_iconst (v := 0) hX d_Mo_reached_83 rfl ?_
                exact hJ84 _ (by simp [m_on, he1, he2, zB, *])
              · refine Z_aload_n (i := 0) hX d_Mo_reached_61 rfl rfl ?_
                refine Z_iload hX d_Mo_reached_62 rfl ?_
                refine Z_cVi1 hX d_Mo_reached_64 (c_Mo_whole (by omega)) m_Mo_whole rfl rfl lk_Mo_93 ⟨by decide, by decide⟩ ⟨by decide, by decide⟩ (Nat.le_of_ble_eq_true rfl) ?_
                refine Z_ifeqB (tgt := 83) hX d_Mo_reached_67 rfl (fun h67 => ?_) (fun h67 => ?_)
                · refine Z_iconst (v := 0) hX d_Mo_reached_83 rfl ?_
                  exact hJ84 _ (by simp [m_on, he1, he2, zB, *])
                · refine Z_aload_n (i := 0) hX d_Mo_reached_70 rfl rfl ?_
                  refine Z_iload hX d_Mo_reached_71 rfl ?_
                  refine Z_cVi1 hX d_Mo_reached_73 (c_Mo_whole (by omega)) m_Mo_whole rfl rfl lk_Mo_93 ⟨by decide, by decide⟩ ⟨by decide, by decide⟩ (Nat.le_of_ble_eq_true rfl) ?_
                  refine Z_ifeqB (tgt := 83) hX d_Mo_reached_76 rfl (fun h76 => ?_) (fun h76 => ?_)
                  · refine Z_iconst (v := 0) hX d_Mo_reached_83 rfl ?_
                    exact hJ84 _ (by simp [m_on, he1, he2, zB, *])
                  · refine Z_iconst (v := 1) hX d_Mo_reached_79 rfl ?_
                    refine Z_goto (tgt := 84) hX d_Mo_reached_80 rfl ?_
                    exact hJ84 _ (by simp [m_on, he1, he2, zB, *])
        refine Z_loc ?_ (hL16 m 0 (by omega))
        rfl
  refine Z_loc ?_ (hL6 (2 * 65536 + 2) 0 (2 ^ e) ?_ (by decide) ?_ ?_ ?_ ?_)
  · rfl
  · have := Nat.two_pow_pos e; split <;> omega
  · exact Nat.pow_lt_pow_right (by decide) he
  · exact Nat.testBit_two_pow_self
  · intro y h1 _ i hi; rw [Nat.testBit_two_pow] at hi; have : e = i := by simpa using hi
    rw [← this]; exact h1
  · intro h; exact absurd h (Nat.ne_of_lt (Nat.two_pow_pos e))

set_option maxRecDepth 100000 in
set_option maxHeartbeats 4000000 in
theorem c_Mo_bestFor {la : Launch} {G : zG} {I : zI} {J : zJ} {e m x : Nat} (he : e < 16) (hE : okME I m) (hx : m_rP I m e x) : zCi la G y_Mo_bestFor (Cond.code y_Mo_bestFor prog_8_method_20_code 5 (some .int) :: TBL) (zR 3) [.ref (zad G 64), .int (nI e)] I J (m_bf I e x) (I) (J) := by
  refine zCi_of (by decide) (by simp [lg_sl, Value.category]) (rfl) (fun X hla hX hR => ?_)
  subst hla
  refine Z_loc (l' := [(0, .ref (zad G 64)), (1, .int (nI e))]) (by simp [lv_args, Value.category, List.lookup]) ?_
  refine Z_aload_n (i := 0) hX d_Mo_bestFor_0 rfl rfl ?_
  refine Z_iload_n (i := 1) hX d_Mo_bestFor_1 rfl rfl ?_
  refine Z_cVi1 hX d_Mo_bestFor_2 (c_Mo_whole (by omega)) m_Mo_whole rfl rfl lk_Mo_93 ⟨by decide, by decide⟩ ⟨by decide, by decide⟩ (Nat.le_of_ble_eq_true rfl) ?_
  refine Z_ifneB (tgt := 11) hX d_Mo_bestFor_5 rfl (fun h5 => ?_) (fun h5 => ?_)
  · refine Z_aload_n (i := 0) hX d_Mo_bestFor_11 rfl rfl ?_
    refine Z_iload_n (i := 1) hX d_Mo_bestFor_12 rfl rfl ?_
    refine Z_cVi1 hX d_Mo_bestFor_13 (c_Mo_reached (by omega) hE hx) m_Mo_reached rfl rfl lk_Mo_136 ⟨by decide, by decide⟩ ⟨by decide, by decide⟩ (Nat.le_of_ble_eq_true rfl) ?_
    refine Z_istore_n (i := 2) hX d_Mo_bestFor_16 rfl (by decide) rfl ?_
    refine Z_bipush (v := 7) hX d_Mo_bestFor_17 rfl ?_
    refine Z_istore_n (i := 3) hX d_Mo_bestFor_19 rfl (by decide) rfl ?_
    refine Z_iconst (v := nI 0) hX d_Mo_bestFor_20 rfl ?_
    refine Z_istore hX d_Mo_bestFor_21 (by decide) rfl ?_
    have hL23 : ∀ k i : Nat, k + i = 64 → Z X G 5 0 0 23 [(4, .int (nI i)), (3, .int (m_bs I x i)), (2, .int (nI x)), (1, .int (nI e)), (0, .ref (zad G 64))] [] (I) (J) := by
      intro k
      induction k with
      | zero =>
        intro i hi
        obtain rfl : i = 64 := by omega
        refine Z_iload hX d_Mo_bestFor_23 rfl ?_
        refine Z_bipush (v := 64) hX d_Mo_bestFor_25 rfl ?_
        refine Z_icge (tgt := 77) hX d_Mo_bestFor_27 rfl (fun h27 => ?_) (fun h => absurd (by decide) h)
        refine Z_iload_n (i := 3) hX d_Mo_bestFor_77 rfl rfl ?_
        exact Z_ri (hR _ _ d_Mo_bestFor_78) (by exact (if_pos h5).symm) rfl rfl
      | succ k ih =>
        intro i hi
        have hi2 : i < 64 := by omega
        refine Z_iload hX d_Mo_bestFor_23 rfl ?_
        refine Z_bipush (v := 64) hX d_Mo_bestFor_25 rfl ?_
        refine Z_icge (tgt := 77) hX d_Mo_bestFor_27 rfl (fun h => absurd h (nI_ge hi2 (by decide))) (fun h27 => ?_)
        have hx16 := hx.1
        have hbt : nI (x / 2 ^ (i / 4) % 2) = 1 ↔ x.testBit (i / 4) = true := by rw [show (1 : Int32) = nI 1 from rfl, nI_eq (by omega) (by decide), b_tb]
        refine Z_iload_n (i := 2) hX d_Mo_bestFor_30 rfl rfl ?_
        refine Z_iload hX d_Mo_bestFor_31 rfl ?_
        refine Z_iconst (v := 4) hX d_Mo_bestFor_33 rfl ?_
        refine Z_div4 hX d_Mo_bestFor_34 (by omega) ?_
        refine Z_ishr hX d_Mo_bestFor_35 ?_
        refine Z_iconst (v := 1) hX d_Mo_bestFor_36 rfl ?_
        refine Z_iand hX d_Mo_bestFor_37 ?_
        refine Z_top (b_get (by omega) (by omega)) ?_
        refine Z_iconst (v := 1) hX d_Mo_bestFor_38 rfl ?_
        refine Z_icne (tgt := 71) hX d_Mo_bestFor_39 rfl (fun h39 => ?_) (fun h39 => ?_)
        · refine Z_iinc (v := nI (i + 1)) hX d_Mo_bestFor_71 rfl (by rw [nI_succ]; rfl) (by decide) rfl ?_
          refine Z_goto (tgt := 23) hX d_Mo_bestFor_74 rfl ?_
          refine Z_loc ?_ (Z_mem ?_ ?_ (ih (i + 1) (by omega)))
          · (rw [show m_bs I x (i + 1) = m_bs I x i from if_neg (fun q => h39 (hbt.mpr q.1))]; rfl)
          · rfl
          · rfl
        · refine Z_aload_n (i := 0) hX d_Mo_bestFor_42 rfl rfl ?_
          refine Z_getR (k0 := 9) hX d_Mo_bestFor_43 rfl rfl u_Mo (by decide) lk_Mo_40 rfl ?_
          refine Z_iload hX d_Mo_bestFor_46 rfl ?_
          refine Z_iald hX d_Mo_bestFor_48 rfl rfl (by omega) (by decide) ?_
          refine Z_iflt (tgt := 71) hX d_Mo_bestFor_49 rfl (fun h49 => ?_) (fun h49 => ?_)
          · refine Z_iinc (v := nI (i + 1)) hX d_Mo_bestFor_71 rfl (by rw [nI_succ]; rfl) (by decide) rfl ?_
            refine Z_goto (tgt := 23) hX d_Mo_bestFor_74 rfl ?_
            refine Z_loc ?_ (Z_mem ?_ ?_ (ih (i + 1) (by omega)))
            · (rw [show m_bs I x (i + 1) = m_bs I x i from if_neg (fun q => q.2.1 h49)]; rfl)
            · rfl
            · rfl
          · refine Z_aload_n (i := 0) hX d_Mo_bestFor_52 rfl rfl ?_
            refine Z_getR (k0 := 9) hX d_Mo_bestFor_53 rfl rfl u_Mo (by decide) lk_Mo_40 rfl ?_
            refine Z_iload hX d_Mo_bestFor_56 rfl ?_
            refine Z_iald hX d_Mo_bestFor_58 rfl rfl (by omega) (by decide) ?_
            refine Z_iload_n (i := 3) hX d_Mo_bestFor_59 rfl rfl ?_
            refine Z_icge (tgt := 71) hX d_Mo_bestFor_60 rfl (fun h60 => ?_) (fun h60 => ?_)
            · refine Z_iinc (v := nI (i + 1)) hX d_Mo_bestFor_71 rfl (by rw [nI_succ]; rfl) (by decide) rfl ?_
              refine Z_goto (tgt := 23) hX d_Mo_bestFor_74 rfl ?_
              refine Z_loc ?_ (Z_mem ?_ ?_ (ih (i + 1) (by omega)))
              · (rw [show m_bs I x (i + 1) = m_bs I x i from if_neg (fun q => absurd q.2.2 (Int32.not_lt.mpr h60))]; rfl)
              · rfl
              · rfl
            · refine Z_aload_n (i := 0) hX d_Mo_bestFor_63 rfl rfl ?_
              refine Z_getR (k0 := 9) hX d_Mo_bestFor_64 rfl rfl u_Mo (by decide) lk_Mo_40 rfl ?_
              refine Z_iload hX d_Mo_bestFor_67 rfl ?_
              refine Z_iald hX d_Mo_bestFor_69 rfl rfl (by omega) (by decide) ?_
              refine Z_istore_n (i := 3) hX d_Mo_bestFor_70 rfl (by decide) rfl ?_
              refine Z_iinc (v := nI (i + 1)) hX d_Mo_bestFor_71 rfl (by rw [nI_succ]; rfl) (by decide) rfl ?_
              refine Z_goto (tgt := 23) hX d_Mo_bestFor_74 rfl ?_
              refine Z_loc ?_ (Z_mem ?_ ?_ (ih (i + 1) (by omega)))
              · (rw [show m_bs I x (i + 1) = I 72 i from if_pos ⟨hbt.mp h39, h49, Int32.not_le.mp h60⟩]; rfl)
              · rfl
              · rfl
    refine Z_loc ?_ (Z_mem ?_ ?_ (hL23 64 0 (by omega)))
    · rfl
    · rfl
    · rfl
  · refine Z_bipush (v := 7) hX d_Mo_bestFor_8 rfl ?_
    exact Z_ri (hR _ _ d_Mo_bestFor_10) (by exact (if_neg (by rw [h5]; decide)).symm) rfl rfl

set_option maxRecDepth 100000 in
set_option maxHeartbeats 4000000 in
theorem c_Mo_keep {la : Launch} {G : zG} {I : zI} {J : zJ} {t : Bool} : zCv la G y_Mo_keep (Cond.code y_Mo_keep prog_8_method_22_code 3 none :: TBL) (zR 1) [.ref (zad G 64), .int (zB t)] I J (m_kI I t 762) (m_kJ J t 16) := by
  refine zCv_of (by decide) (by simp [lg_sl, Value.category]) (fun X hla hX hR => ?_)
  subst hla
  refine Z_loc (l' := [(0, .ref (zad G 64)), (1, .int (zB t))]) (by simp [lv_args, Value.category, List.lookup]) ?_
  refine Z_iconst (v := nI 0) hX d_Mo_keep_0 rfl ?_
  refine Z_istore_n (i := 2) hX d_Mo_keep_1 rfl (by decide) rfl ?_
  have hL2 : ∀ k i : Nat, k + i = 762 → Z X G 3 0 0 2 [(2, .int (nI i)), (1, .int (zB t)), (0, .ref (zad G 64))] [] (m_kI I t i) (J) := by
    intro k
    induction k with
    | zero =>
      intro i hi
      obtain rfl : i = 762 := by omega
      refine Z_iload_n (i := 2) hX d_Mo_keep_2 rfl rfl ?_
      refine Z_sipush (v := 762) hX d_Mo_keep_3 rfl ?_
      refine Z_icge (tgt := 46) hX d_Mo_keep_6 rfl (fun h6 => ?_) (fun h => absurd (by decide) h)
      refine Z_iconst (v := nI 0) hX d_Mo_keep_46 rfl ?_
      refine Z_istore_n (i := 2) hX d_Mo_keep_47 rfl (by decide) rfl ?_
      have hL48 : ∀ k i : Nat, k + i = 16 → Z X G 3 0 0 48 [(2, .int (nI i)), (1, .int (zB t)), (0, .ref (zad G 64))] [] (m_kI I t 762) (m_kJ J t i) := by
        intro k
        induction k with
        | zero =>
          intro i hi
          obtain rfl : i = 16 := by omega
          refine Z_iload_n (i := 2) hX d_Mo_keep_48 rfl rfl ?_
          refine Z_bipush (v := 16) hX d_Mo_keep_49 rfl ?_
          refine Z_icge (tgt := 91) hX d_Mo_keep_51 rfl (fun h51 => ?_) (fun h => absurd (by decide) h)
          exact Z_mem (by rfl) (by rfl) (hR _ _ d_Mo_keep_91)
        | succ k ih =>
          intro i hi
          have hi2 : i < 16 := by omega
          refine Z_iload_n (i := 2) hX d_Mo_keep_48 rfl rfl ?_
          refine Z_bipush (v := 16) hX d_Mo_keep_49 rfl ?_
          refine Z_icge (tgt := 91) hX d_Mo_keep_51 rfl (fun h => absurd h (nI_ge hi2 (by decide))) (fun h51 => ?_)
          refine Z_iload_n (i := 1) hX d_Mo_keep_54 rfl rfl ?_
          refine Z_ifeqB (tgt := 73) hX d_Mo_keep_55 rfl (fun h55 => ?_) (fun h55 => ?_)
          · refine Z_aload_n (i := 0) hX d_Mo_keep_73 rfl rfl ?_
            refine Z_getR (k0 := 20) hX d_Mo_keep_74 rfl rfl u_Mo (by decide) lk_Mo_74 rfl ?_
            refine Z_iload_n (i := 2) hX d_Mo_keep_77 rfl rfl ?_
            refine Z_aload_n (i := 0) hX d_Mo_keep_78 rfl rfl ?_
            refine Z_getR (k0 := 19) hX d_Mo_keep_79 rfl rfl u_Mo (by decide) lk_Mo_70 rfl ?_
            refine Z_iload_n (i := 2) hX d_Mo_keep_82 rfl rfl ?_
            refine Z_lald hX d_Mo_keep_83 rfl rfl (by omega) (by decide) ?_
            refine Z_last hX d_Mo_keep_84 rfl rfl (by omega) (by decide) ?_
            refine Z_iinc (v := nI (i + 1)) hX d_Mo_keep_85 rfl (by rw [nI_succ]; rfl) (by decide) rfl ?_
            refine Z_goto (tgt := 48) hX d_Mo_keep_88 rfl ?_
            refine Z_loc ?_ (Z_mem ?_ ?_ (ih (i + 1) (by omega)))
            · rfl
            · rfl
            · (subst h55; rfl)
          · refine Z_aload_n (i := 0) hX d_Mo_keep_58 rfl rfl ?_
            refine Z_getR (k0 := 19) hX d_Mo_keep_59 rfl rfl u_Mo (by decide) lk_Mo_70 rfl ?_
            refine Z_iload_n (i := 2) hX d_Mo_keep_62 rfl rfl ?_
            refine Z_aload_n (i := 0) hX d_Mo_keep_63 rfl rfl ?_
            refine Z_getR (k0 := 20) hX d_Mo_keep_64 rfl rfl u_Mo (by decide) lk_Mo_74 rfl ?_
            refine Z_iload_n (i := 2) hX d_Mo_keep_67 rfl rfl ?_
            refine Z_lald hX d_Mo_keep_68 rfl rfl (by omega) (by decide) ?_
            refine Z_last hX d_Mo_keep_69 rfl rfl (by omega) (by decide) ?_
            refine Z_goto (tgt := 85) hX d_Mo_keep_70 rfl ?_
            refine Z_iinc (v := nI (i + 1)) hX d_Mo_keep_85 rfl (by rw [nI_succ]; rfl) (by decide) rfl ?_
            refine Z_goto (tgt := 48) hX d_Mo_keep_88 rfl ?_
            refine Z_loc ?_ (Z_mem ?_ ?_ (ih (i + 1) (by omega)))
            · rfl
            · rfl
            · (subst h55; rfl)
      refine Z_loc ?_ (Z_mem ?_ ?_ (hL48 16 0 (by omega)))
      · rfl
      · rfl
      · rfl
    | succ k ih =>
      intro i hi
      have hi2 : i < 762 := by omega
      refine Z_iload_n (i := 2) hX d_Mo_keep_2 rfl rfl ?_
      refine Z_sipush (v := 762) hX d_Mo_keep_3 rfl ?_
      refine Z_icge (tgt := 46) hX d_Mo_keep_6 rfl (fun h => absurd h (nI_ge hi2 (by decide))) (fun h6 => ?_)
      refine Z_iload_n (i := 1) hX d_Mo_keep_9 rfl rfl ?_
      refine Z_ifeqB (tgt := 28) hX d_Mo_keep_10 rfl (fun h10 => ?_) (fun h10 => ?_)
      · refine Z_aload_n (i := 0) hX d_Mo_keep_28 rfl rfl ?_
        refine Z_getR (k0 := 18) hX d_Mo_keep_29 rfl rfl u_Mo (by decide) lk_Mo_67 rfl ?_
        refine Z_iload_n (i := 2) hX d_Mo_keep_32 rfl rfl ?_
        refine Z_aload_n (i := 0) hX d_Mo_keep_33 rfl rfl ?_
        refine Z_getR (k0 := 17) hX d_Mo_keep_34 rfl rfl u_Mo (by decide) lk_Mo_64 rfl ?_
        refine Z_iload_n (i := 2) hX d_Mo_keep_37 rfl rfl ?_
        refine Z_iald hX d_Mo_keep_38 rfl rfl (by omega) (by decide) ?_
        refine Z_iast hX d_Mo_keep_39 rfl rfl (by omega) (by decide) ?_
        refine Z_iinc (v := nI (i + 1)) hX d_Mo_keep_40 rfl (by rw [nI_succ]; rfl) (by decide) rfl ?_
        refine Z_goto (tgt := 2) hX d_Mo_keep_43 rfl ?_
        refine Z_loc ?_ (Z_mem ?_ ?_ (ih (i + 1) (by omega)))
        · rfl
        · (subst h10; rfl)
        · rfl
      · refine Z_aload_n (i := 0) hX d_Mo_keep_13 rfl rfl ?_
        refine Z_getR (k0 := 17) hX d_Mo_keep_14 rfl rfl u_Mo (by decide) lk_Mo_64 rfl ?_
        refine Z_iload_n (i := 2) hX d_Mo_keep_17 rfl rfl ?_
        refine Z_aload_n (i := 0) hX d_Mo_keep_18 rfl rfl ?_
        refine Z_getR (k0 := 18) hX d_Mo_keep_19 rfl rfl u_Mo (by decide) lk_Mo_67 rfl ?_
        refine Z_iload_n (i := 2) hX d_Mo_keep_22 rfl rfl ?_
        refine Z_iald hX d_Mo_keep_23 rfl rfl (by omega) (by decide) ?_
        refine Z_iast hX d_Mo_keep_24 rfl rfl (by omega) (by decide) ?_
        refine Z_goto (tgt := 40) hX d_Mo_keep_25 rfl ?_
        refine Z_iinc (v := nI (i + 1)) hX d_Mo_keep_40 rfl (by rw [nI_succ]; rfl) (by decide) rfl ?_
        refine Z_goto (tgt := 2) hX d_Mo_keep_43 rfl ?_
        refine Z_loc ?_ (Z_mem ?_ ?_ (ih (i + 1) (by omega)))
        · rfl
        · (subst h10; rfl)
        · rfl
  refine Z_loc ?_ (Z_mem ?_ ?_ (hL2 762 0 (by omega)))
  · rfl
  · rfl
  · rfl
