theorem fr_sp1 {I : zI} {b e p c : Nat} (hc : c < b + 6 ∨ b + 9 ≤ c) : f_sp1 I b e p c = I c := by
  unfold f_sp1
  split
  · rfl
  · split
    · exact fr_wr (by omega)
    · split
      · exact fr_wr (by omega)
      · exact fr_wr (by omega)
theorem fr_sp {I : zI} {b e c : Nat} (hc : c < b + 6 ∨ b + 9 ≤ c) : ∀ p, f_sp I b e p c = I c
  | 0 => rfl
  | p + 1 => by
    unfold f_sp
    rw [fr_sp1 hc, fr_sp hc p]
theorem f_sp1_0 {I : zI} {b e p : Nat} (h : I 9 (4 * e + p) = -1) : f_sp1 I b e p = I := if_pos h
theorem f_sp1_1 {I : zI} {b e p : Nat} (h : ¬ I 9 (4 * e + p) = -1) (h2 : nI p = I (b + 16) e) : f_sp1 I b e p = w_wr I (b + 5) (4 * e + p) 7 0 0 := by
  unfold f_sp1
  rw [if_neg h, if_pos h2]
theorem f_sp1_2 {I : zI} {b e p k : Nat} (h : ¬ I 9 (4 * e + p) = -1) (h2 : ¬ nI p = I (b + 16) e) (h3 : f_lo I b e = true) (hk : k < 4) (hk2 : I (b + 16) e = nI k) : f_sp1 I b e p = w_wr I (b + 5) (4 * e + p) (I (b + 18) e) (I (b + 17) e + 1) (I (b + 12) (4 * e + k) ||| 1 <<< (nI e &&& 31)) := by
  unfold f_sp1
  rw [if_neg h, if_neg h2, if_pos h3, hk2, nI_clamp (by omega)]
theorem f_sp1_3 {I : zI} {b e p : Nat} (h : ¬ I 9 (4 * e + p) = -1) (h2 : ¬ nI p = I (b + 16) e) (h3 : f_lo I b e = false) : f_sp1 I b e p = w_wr I (b + 5) (4 * e + p) (8 + I 3 e) 0 0 := by
  unfold f_sp1
  rw [if_neg h, if_neg h2, if_neg (by rw [h3]; decide)]
/-- a locked element has a port -/
def okK (I : zI) (b e : Nat) : Prop := f_lo I b e = true → ∃ k, k < 4 ∧ I (b + 16) e = nI k
theorem okK_of {I I' : zI} {b e : Nat} (h1 : I' (b + 15) = I (b + 15)) (h2 : I' (b + 16) = I (b + 16)) (h : okK I b e) : okK I' b e := by
  unfold okK f_lo at *
  rw [h1, h2]
  exact h
theorem fr_de0 {I : zI} {b e c : Nat} (hc : c < b + 15 ∨ b + 19 ≤ c) : f_de0 I b e c = I c := by
  unfold f_de0
  rw [zup_ne (by omega), zup_ne (by omega), zup_ne (by omega)]
theorem fr_de1 {I : zI} {b e k c : Nat} (hb : c ≠ b) (hc : c < b + 15 ∨ b + 19 ≤ c) : f_de1 I b e k c = I c := by
  unfold f_de1
  rw [zup_ne (by omega), zup_ne (by omega), zup_ne (by omega), zup_ne (by omega)]
theorem fr_de {I : zI} {b e c : Nat} (hb : c ≠ b) (hc : c < b + 15 ∨ b + 19 ≤ c) : f_de I b e c = I c := by
  unfold f_de
  try dsimp only
  split
  · rw [fr_de0 hc, zup_ne (by omega)]
  · rw [fr_de1 hb hc, zup_ne (by omega)]
theorem de_lk {I : zI} {b e : Nat} (h7 : okQ (I 7 e)) (h8 : okQ (I 8 e)) : okK (f_de I b e) b e := by
  unfold okK f_lo f_de
  try dsimp only
  split
  · intro h
    exfalso
    unfold f_de0 at h
    rw [zup_ne (by omega), zup_ne (by omega), zup_same, pk_us] at h
    split at h
    · exact absurd h (by decide)
    · exact absurd h (by decide)
  · rename_i h
    intro _
    obtain ⟨k, hk, hk2⟩ := (f_ch_ok (b := b) h7 h8).resolve_left (fun q => h (Or.inl q))
    refine ⟨k, hk, ?_⟩
    unfold f_de1
    try dsimp only
    rw [zup_ne (by omega), zup_ne (by omega), zup_ne (by omega), zup_ne (by omega), zup_same, pk_us]
    exact hk2
theorem fr_r1 {I : zI} {J : zJ} {b c : Nat} (hc : c < b ∨ b + 19 ≤ c) : ∀ e, f_r1 I J b e c = I c
  | 0 => rfl
  | e + 1 => by
    unfold f_r1
    split
    · rw [fr_li hc, fr_r1 hc e]
    · exact fr_r1 hc e
theorem fr_r2 {I : zI} {b c : Nat} (hc : c < b ∨ b + 19 ≤ c) : ∀ e, f_r2 I b e c = I c
  | 0 => rfl
  | e + 1 => by
    unfold f_r2
    split
    · rw [fr_sp (by omega), fr_de (by omega) (by omega), fr_r2 hc e]
    · exact fr_r2 hc e
theorem fr_ro {I : zI} {J : zJ} {b c : Nat} (hc : c < b ∨ b + 19 ≤ c) : f_ro I J b c = I c := by
  unfold f_ro
  rw [fr_r2 hc, fr_r1 hc, zup_ne (by omega)]
theorem f_r1_t {I : zI} {J : zJ} {b e : Nat} (h : f_wh (f_r1 I J b e) b e = true) : f_r1 I J b (e + 1) = f_li (f_r1 I J b e) J b e 4 := if_pos h
theorem f_r1_f {I : zI} {J : zJ} {b e : Nat} (h : f_wh (f_r1 I J b e) b e = false) : f_r1 I J b (e + 1) = f_r1 I J b e := if_neg (by rw [h]; decide)
theorem f_r2_t {I : zI} {b e : Nat} (h : f_wh (f_r2 I b e) b e = true) : f_r2 I b (e + 1) = f_sp (f_de (f_r2 I b e) b e) b e 4 := if_pos h
theorem f_r2_f {I : zI} {b e : Nat} (h : f_wh (f_r2 I b e) b e = false) : f_r2 I b (e + 1) = f_r2 I b e := if_neg (by rw [h]; decide)
/-- what of the plan a round needs -/
def okP (I : zI) : Prop := okL I ∧ ∀ e, e < 16 → okQ (I 7 e) ∧ okQ (I 8 e)
theorem okP_of {I I' : zI} (h : ∀ c, c < 16 → I' c = I c) (hP : okP I) : okP I' := by
  refine ⟨okL_of (h 9 (by decide)) (h 10 (by decide)) hP.1, fun e he => ?_⟩
  rw [h 7 (by decide), h 8 (by decide)]
  exact hP.2 e he
def f_rs (b : Nat) : Nat → Nat → zI → zJ → zI × zJ
  | 0, _, I, J => (I, J)
  | k + 1, i, I, J => if i < 2 ∨ ¬ I b 14 = 0 then f_rs b k (i + 1) (f_ro I J b) (zupL J b 13 0) else (I, J)
theorem f_rs_t {b k i : Nat} {I : zI} {J : zJ} (h : i < 2 ∨ ¬ I b 14 = 0) : f_rs b (k + 1) i I J = f_rs b k (i + 1) (f_ro I J b) (zupL J b 13 0) := if_pos h
theorem f_rs_f {b k i : Nat} {I : zI} {J : zJ} (h : ¬ i < 2) (h2 : I b 14 = 0) : f_rs b (k + 1) i I J = (I, J) := if_neg (fun q => q.elim h (fun q => q h2))
set_option maxRecDepth 100000 in
set_option maxHeartbeats 4000000 in
theorem c_Fl_speak {la : Launch} {G : zG} {I : zI} {J : zJ} {b : Nat} (hb : b = 16 ∨ b = 35) {e : Nat} (he : e < 16) (hK : okK I b e) : zCv la G y_Fl_speak (Cond.code y_Fl_speak prog_4_method_23_code 5 none :: TBL) (zR 2) [.ref (zad G b), .int (nI e)] I J (f_sp I b e 4) (J) := by
  refine zCv_of (by decide) (by simp [lg_sl, Value.category]) (fun X hla hX hR => ?_)
  subst hla
  refine Z_loc (l' := [(0, .ref (zad G b)), (1, .int (nI e))]) (by simp [lv_args, Value.category, List.lookup]) ?_
  refine Z_iconst (v := nI 0) hX d_Fl_speak_0 rfl ?_
  refine Z_istore_n (i := 2) hX d_Fl_speak_1 rfl (by decide) rfl ?_
  have hL2 : ∀ k i : Nat, k + i = 4 → Z X G 5 0 0 2 [(2, .int (nI i)), (1, .int (nI e)), (0, .ref (zad G b))] [] (f_sp I b e i) (J) := by
    intro k
    induction k with
    | zero =>
      intro i hi
      obtain rfl : i = 4 := by omega
      refine Z_iload_n (i := 2) hX d_Fl_speak_2 rfl rfl ?_
      refine Z_iconst (v := 4) hX d_Fl_speak_3 rfl ?_
      refine Z_icge (tgt := 141) hX d_Fl_speak_4 rfl (fun h4 => ?_) (fun h => absurd (by decide) h)
      exact Z_mem (by rfl) (by rfl) (hR _ _ d_Fl_speak_141)
    | succ k ih =>
      intro i hi
      have hi2 : i < 4 := by omega
      refine Z_iload_n (i := 2) hX d_Fl_speak_2 rfl rfl ?_
      refine Z_iconst (v := 4) hX d_Fl_speak_3 rfl ?_
      refine Z_icge (tgt := 141) hX d_Fl_speak_4 rfl (fun h => absurd h (nI_ge hi2 (by decide))) (fun h4 => ?_)
      refine Z_iload_n (i := 1) hX d_Fl_speak_7 rfl rfl ?_
      refine Z_iload_n (i := 2) hX d_Fl_speak_8 rfl rfl ?_
      refine Z_cNi2 hX d_Fl_speak_9 c_CT_slotOf m_CT_slotOf ne_Fl_91 ⟨by decide, by decide⟩ ⟨by decide, by decide⟩ (Nat.le_of_ble_eq_true rfl) ?_
      refine Z_istore_n (i := 3) hX d_Fl_speak_12 rfl (by decide) rfl ?_
      refine Z_aload_n (i := 0) hX d_Fl_speak_13 rfl rfl ?_
      refine Z_getR (k0 := 0) hX d_Fl_speak_14 (lF hb) rfl u_Fl (by decide) lk_Fl_61 rfl ?_
      refine Z_getR (k0 := 7) hX d_Fl_speak_17 rfl rfl u_Pl (by decide) lk_Fl_115 rfl ?_
      refine Z_iload_n (i := 3) hX d_Fl_speak_20 rfl rfl ?_
      refine Z_iald hX d_Fl_speak_21 rfl rfl (by omega) (by decide) ?_
      refine Z_iconst (v := (-1)) hX d_Fl_speak_22 rfl ?_
      refine Z_icne (tgt := 29) hX d_Fl_speak_23 rfl (fun h23 => ?_) (fun h23 => ?_)
      · refine Z_iload_n (i := 2) hX d_Fl_speak_29 rfl rfl ?_
        refine Z_aload_n (i := 0) hX d_Fl_speak_30 rfl rfl ?_
        refine Z_getR (k0 := 7) hX d_Fl_speak_31 (lF hb) rfl u_Fl (by decide) lk_Fl_34 rfl ?_
        refine Z_iload_n (i := 1) hX d_Fl_speak_34 rfl rfl ?_
        refine Z_iald hX d_Fl_speak_35 (lF16 hb) rfl (by omega) (by decide) ?_
        refine Z_icne (tgt := 54) hX d_Fl_speak_36 rfl (fun h36 => ?_) (fun h36 => ?_)
        · refine Z_aload_n (i := 0) hX d_Fl_speak_54 rfl rfl ?_
          refine Z_iload_n (i := 1) hX d_Fl_speak_55 rfl rfl ?_
          refine Z_cVi1 hX d_Fl_speak_56 (c_Fl_isLocked hb (by omega)) m_Fl_isLocked (lF hb) rfl lk_Fl_196 ⟨by decide, by decide⟩ ⟨by decide, by decide⟩ (Nat.le_of_ble_eq_true rfl) ?_
          refine Z_ifeqB (tgt := 113) hX d_Fl_speak_59 rfl (fun h59 => ?_) (fun h59 => ?_)
          · refine Z_aload_n (i := 0) hX d_Fl_speak_113 rfl rfl ?_
            refine Z_getR (k0 := 2) hX d_Fl_speak_114 (lF hb) rfl u_Fl (by decide) lk_Fl_18 rfl ?_
            refine Z_iload_n (i := 3) hX d_Fl_speak_117 rfl rfl ?_
            refine Z_bipush (v := 8) hX d_Fl_speak_118 rfl ?_
            refine Z_aload_n (i := 0) hX d_Fl_speak_120 rfl rfl ?_
            refine Z_getR (k0 := 0) hX d_Fl_speak_121 (lF hb) rfl u_Fl (by decide) lk_Fl_61 rfl ?_
            refine Z_getR (k0 := 1) hX d_Fl_speak_124 rfl rfl u_Pl (by decide) lk_Fl_199 rfl ?_
            refine Z_iload_n (i := 1) hX d_Fl_speak_127 rfl rfl ?_
            refine Z_iald hX d_Fl_speak_128 rfl rfl (by omega) (by decide) ?_
            refine Z_iadd hX d_Fl_speak_129 ?_
            refine Z_iconst (v := 0) hX d_Fl_speak_130 rfl ?_
            refine Z_iconst (v := 0) hX d_Fl_speak_131 rfl ?_
            refine Z_cVv4 hX d_Fl_speak_132 (c_Wo_write (wF5 hb) (by omega)) m_Wo_write (lF5 hb) rfl lk_Fl_95 ⟨by decide, by decide⟩ ⟨by decide, by decide⟩ (Nat.le_of_ble_eq_true rfl) ?_
            refine Z_iinc (v := nI (i + 1)) hX d_Fl_speak_135 rfl (by rw [nI_succ]; rfl) (by decide) rfl ?_
            refine Z_goto (tgt := 2) hX d_Fl_speak_138 rfl ?_
            refine Z_loc ?_ (Z_mem ?_ ?_ (ih (i + 1) (by omega)))
            · rfl
            · exact (f_sp1_3 h23 h36 h59).symm
            · rfl
          · obtain ⟨k9, hk, hk2⟩ := okK_of (fr_sp (by omega) i) (fr_sp (by omega) i) hK h59
            refine Z_aload_n (i := 0) hX d_Fl_speak_62 rfl rfl ?_
            refine Z_getR (k0 := 3) hX d_Fl_speak_63 (lF hb) rfl u_Fl (by decide) lk_Fl_21 rfl ?_
            refine Z_getR (k0 := 2) hX d_Fl_speak_66 (lF9 hb) rfl u_Wo (by decide) lk_Fl_146 rfl ?_
            refine Z_iload_n (i := 1) hX d_Fl_speak_69 rfl rfl ?_
            refine Z_aload_n (i := 0) hX d_Fl_speak_70 rfl rfl ?_
            refine Z_getR (k0 := 7) hX d_Fl_speak_71 (lF hb) rfl u_Fl (by decide) lk_Fl_34 rfl ?_
            refine Z_iload_n (i := 1) hX d_Fl_speak_74 rfl rfl ?_
            refine Z_iald hX d_Fl_speak_75 (lF16 hb) rfl (by omega) (by decide) ?_
            refine Z_top hk2 ?_
            refine Z_cNi2 hX d_Fl_speak_76 c_CT_slotOf m_CT_slotOf ne_Fl_91 ⟨by decide, by decide⟩ ⟨by decide, by decide⟩ (Nat.le_of_ble_eq_true rfl) ?_
            refine Z_iald hX d_Fl_speak_79 (lF12 hb) rfl (by omega) (by decide) ?_
            refine Z_iconst (v := 1) hX d_Fl_speak_80 rfl ?_
            refine Z_iload_n (i := 1) hX d_Fl_speak_81 rfl rfl ?_
            refine Z_ishl hX d_Fl_speak_82 ?_
            refine Z_ior hX d_Fl_speak_83 ?_
            refine Z_istore hX d_Fl_speak_84 (by decide) rfl ?_
            refine Z_aload_n (i := 0) hX d_Fl_speak_86 rfl rfl ?_
            refine Z_getR (k0 := 2) hX d_Fl_speak_87 (lF hb) rfl u_Fl (by decide) lk_Fl_18 rfl ?_
            refine Z_iload_n (i := 3) hX d_Fl_speak_90 rfl rfl ?_
            refine Z_aload_n (i := 0) hX d_Fl_speak_91 rfl rfl ?_
            refine Z_getR (k0 := 9) hX d_Fl_speak_92 (lF hb) rfl u_Fl (by decide) lk_Fl_40 rfl ?_
            refine Z_iload_n (i := 1) hX d_Fl_speak_95 rfl rfl ?_
            refine Z_iald hX d_Fl_speak_96 (lF18 hb) rfl (by omega) (by decide) ?_
            refine Z_aload_n (i := 0) hX d_Fl_speak_97 rfl rfl ?_
            refine Z_getR (k0 := 8) hX d_Fl_speak_98 (lF hb) rfl u_Fl (by decide) lk_Fl_37 rfl ?_
            refine Z_iload_n (i := 1) hX d_Fl_speak_101 rfl rfl ?_
            refine Z_iald hX d_Fl_speak_102 (lF17 hb) rfl (by omega) (by decide) ?_
            refine Z_iconst (v := 1) hX d_Fl_speak_103 rfl ?_
            refine Z_iadd hX d_Fl_speak_104 ?_
            refine Z_iload hX d_Fl_speak_105 rfl ?_
            refine Z_cVv4 hX d_Fl_speak_107 (c_Wo_write (wF5 hb) (by omega)) m_Wo_write (lF5 hb) rfl lk_Fl_95 ⟨by decide, by decide⟩ ⟨by decide, by decide⟩ (Nat.le_of_ble_eq_true rfl) ?_
            refine Z_goto (tgt := 135) hX d_Fl_speak_110 rfl ?_
            refine Z_iinc (v := nI (i + 1)) hX d_Fl_speak_135 rfl (by rw [nI_succ]; rfl) (by decide) rfl ?_
            refine Z_goto (tgt := 2) hX d_Fl_speak_138 rfl ?_
            refine Z_loc ?_ (Z_mem ?_ ?_ (ih (i + 1) (by omega)))
            · rfl
            · exact (f_sp1_2 h23 h36 h59 hk hk2).symm
            · rfl
        · refine Z_aload_n (i := 0) hX d_Fl_speak_39 rfl rfl ?_
          refine Z_getR (k0 := 2) hX d_Fl_speak_40 (lF hb) rfl u_Fl (by decide) lk_Fl_18 rfl ?_
          refine Z_iload_n (i := 3) hX d_Fl_speak_43 rfl rfl ?_
          refine Z_bipush (v := 7) hX d_Fl_speak_44 rfl ?_
          refine Z_iconst (v := 0) hX d_Fl_speak_46 rfl ?_
          refine Z_iconst (v := 0) hX d_Fl_speak_47 rfl ?_
          refine Z_cVv4 hX d_Fl_speak_48 (c_Wo_write (wF5 hb) (by omega)) m_Wo_write (lF5 hb) rfl lk_Fl_95 ⟨by decide, by decide⟩ ⟨by decide, by decide⟩ (Nat.le_of_ble_eq_true rfl) ?_
          refine Z_goto (tgt := 135) hX d_Fl_speak_51 rfl ?_
          refine Z_iinc (v := nI (i + 1)) hX d_Fl_speak_135 rfl (by rw [nI_succ]; rfl) (by decide) rfl ?_
          refine Z_goto (tgt := 2) hX d_Fl_speak_138 rfl ?_
          refine Z_loc ?_ (Z_mem ?_ ?_ (ih (i + 1) (by omega)))
          · rfl
          · exact (f_sp1_1 h23 h36).symm
          · rfl
      · refine Z_goto (tgt := 135) hX d_Fl_speak_26 rfl ?_
        refine Z_iinc (v := nI (i + 1)) hX d_Fl_speak_135 rfl (by rw [nI_succ]; rfl) (by decide) rfl ?_
        refine Z_goto (tgt := 2) hX d_Fl_speak_138 rfl ?_
        refine Z_loc ?_ (Z_mem ?_ ?_ (ih (i + 1) (by omega)))
        · rfl
        · exact (f_sp1_0 h23).symm
        · rfl
  refine Z_loc ?_ (Z_mem ?_ ?_ (hL2 4 0 (by omega)))
  · rfl
  · rfl
  · rfl

set_option maxRecDepth 100000 in
set_option maxHeartbeats 4000000 in
theorem c_Fl_passRound {la : Launch} {G : zG} {I : zI} {J : zJ} {b : Nat} (hb : b = 16 ∨ b = 35) (hP : okP I) : zCv la G y_Fl_passRound (Cond.code y_Fl_passRound prog_4_method_12_code 2 none :: TBL) (zR 5) [.ref (zad G b)] I J (f_ro I J b) (zupL J b 13 0) := by
  refine zCv_of (by decide) (by simp [lg_sl, Value.category]) (fun X hla hX hR => ?_)
  subst hla
  refine Z_loc (l' := [(0, .ref (zad G b))]) (by simp [lv_args, Value.category, List.lookup]) ?_
  refine Z_aload_n (i := 0) hX d_Fl_passRound_0 rfl rfl ?_
  refine Z_iconst (v := 0) hX d_Fl_passRound_1 rfl ?_
  refine Z_putI (k0 := 14) hX d_Fl_passRound_2 (lF hb) rfl u_Fl (by decide) lk_Fl_57 rfl t_Fl to_Fl n_Fl rfl rfl rfl rfl ?_
  refine Z_iconst (v := nI 0) hX d_Fl_passRound_5 rfl ?_
  refine Z_istore_n (i := 1) hX d_Fl_passRound_6 rfl (by decide) rfl ?_
  have hL7 : ∀ k i : Nat, k + i = 16 → Z X G 2 0 0 7 [(1, .int (nI i)), (0, .ref (zad G b))] [] (f_r1 (zup I b 14 0) J b i) (J) := by
    intro k
    induction k with
    | zero =>
      intro i hi
      obtain rfl : i = 16 := by omega
      refine Z_iload_n (i := 1) hX d_Fl_passRound_7 rfl rfl ?_
      refine Z_bipush (v := 16) hX d_Fl_passRound_8 rfl ?_
      refine Z_icge (tgt := 32) hX d_Fl_passRound_10 rfl (fun h10 => ?_) (fun h => absurd (by decide) h)
      refine Z_aload_n (i := 0) hX d_Fl_passRound_32 rfl rfl ?_
      refine Z_lconst (v := 0) hX d_Fl_passRound_33 rfl ?_
      refine Z_putL (k0 := 13) hX d_Fl_passRound_34 (lF hb) rfl u_Fl (by decide) lk_Fl_53 rfl t_Fl to_Fl n_Fl rfl rfl ?_
      refine Z_iconst (v := nI 0) hX d_Fl_passRound_37 rfl ?_
      refine Z_istore_n (i := 1) hX d_Fl_passRound_38 rfl (by decide) rfl ?_
      have hL39 : ∀ k i : Nat, k + i = 16 → Z X G 2 0 0 39 [(1, .int (nI i)), (0, .ref (zad G b))] [] (f_r2 (f_r1 (zup I b 14 0) J b 16) b i) (zupL J b 13 0) := by
        intro k
        induction k with
        | zero =>
          intro i hi
          obtain rfl : i = 16 := by omega
          refine Z_iload_n (i := 1) hX d_Fl_passRound_39 rfl rfl ?_
          refine Z_bipush (v := 16) hX d_Fl_passRound_40 rfl ?_
          refine Z_icge (tgt := 69) hX d_Fl_passRound_42 rfl (fun h42 => ?_) (fun h => absurd (by decide) h)
          exact Z_mem (by rfl) (by rfl) (hR _ _ d_Fl_passRound_69)
        | succ k ih =>
          intro i hi
          have hi2 : i < 16 := by omega
          refine Z_iload_n (i := 1) hX d_Fl_passRound_39 rfl rfl ?_
          refine Z_bipush (v := 16) hX d_Fl_passRound_40 rfl ?_
          refine Z_icge (tgt := 69) hX d_Fl_passRound_42 rfl (fun h => absurd h (nI_ge hi2 (by decide))) (fun h42 => ?_)
          refine Z_aload_n (i := 0) hX d_Fl_passRound_45 rfl rfl ?_
          refine Z_iload_n (i := 1) hX d_Fl_passRound_46 rfl rfl ?_
          refine Z_cVi1 hX d_Fl_passRound_47 (c_Fl_isWhole hb (by omega)) m_Fl_isWhole (lF hb) rfl lk_Fl_102 ⟨by decide, by decide⟩ ⟨by decide, by decide⟩ (Nat.le_of_ble_eq_true rfl) ?_
          refine Z_ifeqB (tgt := 63) hX d_Fl_passRound_50 rfl (fun h50 => ?_) (fun h50 => ?_)
          · refine Z_iinc (v := nI (i + 1)) hX d_Fl_passRound_63 rfl (by rw [nI_succ]; rfl) (by decide) rfl ?_
            refine Z_goto (tgt := 39) hX d_Fl_passRound_66 rfl ?_
            refine Z_loc ?_ (Z_mem ?_ ?_ (ih (i + 1) (by omega)))
            · rfl
            · exact (f_r2_f h50).symm
            · rfl
          · have hq7 : okQ (f_r2 (f_r1 (zup I b 14 0) J b 16) b i 7 i) := by rw [fr_r2 (by omega), fr_r1 (by omega), zup_ne (by omega)]; exact (hP.2 i hi2).1
            have hq8 : okQ (f_r2 (f_r1 (zup I b 14 0) J b 16) b i 8 i) := by rw [fr_r2 (by omega), fr_r1 (by omega), zup_ne (by omega)]; exact (hP.2 i hi2).2
            refine Z_aload_n (i := 0) hX d_Fl_passRound_53 rfl rfl ?_
            refine Z_iload_n (i := 1) hX d_Fl_passRound_54 rfl rfl ?_
            refine Z_cVv1 hX d_Fl_passRound_55 (c_Fl_decide hb (by omega) hq7 hq8) m_Fl_decide (lF hb) rfl lk_Fl_109 ⟨by decide, by decide⟩ ⟨by decide, by decide⟩ (Nat.le_of_ble_eq_true rfl) ?_
            refine Z_aload_n (i := 0) hX d_Fl_passRound_58 rfl rfl ?_
            refine Z_iload_n (i := 1) hX d_Fl_passRound_59 rfl rfl ?_
            refine Z_cVv1 hX d_Fl_passRound_60 (c_Fl_speak hb (by omega) (de_lk hq7 hq8)) m_Fl_speak (lF hb) rfl lk_Fl_112 ⟨by decide, by decide⟩ ⟨by decide, by decide⟩ (Nat.le_of_ble_eq_true rfl) ?_
            refine Z_iinc (v := nI (i + 1)) hX d_Fl_passRound_63 rfl (by rw [nI_succ]; rfl) (by decide) rfl ?_
            refine Z_goto (tgt := 39) hX d_Fl_passRound_66 rfl ?_
            refine Z_loc ?_ (Z_mem ?_ ?_ (ih (i + 1) (by omega)))
            · rfl
            · exact (f_r2_t h50).symm
            · rfl
      refine Z_loc ?_ (Z_mem ?_ ?_ (hL39 16 0 (by omega)))
      · rfl
      · rfl
      · rfl
    | succ k ih =>
      intro i hi
      have hi2 : i < 16 := by omega
      refine Z_iload_n (i := 1) hX d_Fl_passRound_7 rfl rfl ?_
      refine Z_bipush (v := 16) hX d_Fl_passRound_8 rfl ?_
      refine Z_icge (tgt := 32) hX d_Fl_passRound_10 rfl (fun h => absurd h (nI_ge hi2 (by decide))) (fun h10 => ?_)
      refine Z_aload_n (i := 0) hX d_Fl_passRound_13 rfl rfl ?_
      refine Z_iload_n (i := 1) hX d_Fl_passRound_14 rfl rfl ?_
      refine Z_cVi1 hX d_Fl_passRound_15 (c_Fl_isWhole hb (by omega)) m_Fl_isWhole (lF hb) rfl lk_Fl_102 ⟨by decide, by decide⟩ ⟨by decide, by decide⟩ (Nat.le_of_ble_eq_true rfl) ?_
      refine Z_ifeqB (tgt := 26) hX d_Fl_passRound_18 rfl (fun h18 => ?_) (fun h18 => ?_)
      · refine Z_iinc (v := nI (i + 1)) hX d_Fl_passRound_26 rfl (by rw [nI_succ]; rfl) (by decide) rfl ?_
        refine Z_goto (tgt := 7) hX d_Fl_passRound_29 rfl ?_
        refine Z_loc ?_ (Z_mem ?_ ?_ (ih (i + 1) (by omega)))
        · rfl
        · exact (f_r1_f h18).symm
        · rfl
      · refine Z_aload_n (i := 0) hX d_Fl_passRound_21 rfl rfl ?_
        refine Z_iload_n (i := 1) hX d_Fl_passRound_22 rfl rfl ?_
        refine Z_cVv1 hX d_Fl_passRound_23 (c_Fl_listen hb (by omega) (okL_of ((fr_r1 (by omega) i).trans (zup_ne (by omega))) ((fr_r1 (by omega) i).trans (zup_ne (by omega))) hP.1)) m_Fl_listen (lF hb) rfl lk_Fl_106 ⟨by decide, by decide⟩ ⟨by decide, by decide⟩ (Nat.le_of_ble_eq_true rfl) ?_
        refine Z_iinc (v := nI (i + 1)) hX d_Fl_passRound_26 rfl (by rw [nI_succ]; rfl) (by decide) rfl ?_
        refine Z_goto (tgt := 7) hX d_Fl_passRound_29 rfl ?_
        refine Z_loc ?_ (Z_mem ?_ ?_ (ih (i + 1) (by omega)))
        · rfl
        · exact (f_r1_t h18).symm
        · rfl
  refine Z_loc ?_ (Z_mem ?_ ?_ (hL7 16 0 (by omega)))
  · rfl
  · rfl
  · rfl

set_option maxRecDepth 100000 in
set_option maxHeartbeats 4000000 in
theorem c_Fl_passRounds {la : Launch} {G : zG} {I : zI} {J : zJ} {b : Nat} (hb : b = 16 ∨ b = 35) {n : Nat} (hn : n < 1000) (hP : okP I) : zCv la G y_Fl_passRounds (Cond.code y_Fl_passRounds prog_4_method_11_code 3 none :: TBL) (zR 6) [.ref (zad G b), .int (nI n)] I J ((f_rs b n 0 I J).1) ((f_rs b n 0 I J).2) := by
  refine zCv_of (by decide) (by simp [lg_sl, Value.category]) (fun X hla hX hR => ?_)
  subst hla
  refine Z_loc (l' := [(0, .ref (zad G b)), (1, .int (nI n))]) (by simp [lv_args, Value.category, List.lookup]) ?_
  refine Z_iconst (v := nI 0) hX d_Fl_passRounds_0 rfl ?_
  refine Z_istore_n (i := 2) hX d_Fl_passRounds_1 rfl (by decide) rfl ?_
  have hL2 : ∀ (k i : Nat) (I' : zI) (J' : zJ), k + i = n → okP I' → f_rs b k i I' J' = f_rs b n 0 I J → Z X G 3 0 0 2 [(2, .int (nI i)), (1, .int (nI n)), (0, .ref (zad G b))] [] I' J' := by
    intro k
    induction k with
    | zero =>
      intro i I' J' hi hok hf
      obtain rfl : i = n := by omega
      refine Z_iload_n (i := 2) hX d_Fl_passRounds_2 rfl rfl ?_
      refine Z_iload_n (i := 1) hX d_Fl_passRounds_3 rfl rfl ?_
      refine Z_icge (tgt := 29) hX d_Fl_passRounds_4 rfl (fun h4 => ?_) (fun h => absurd (nI_le (Nat.le_refl _) (by omega)) h)
      exact Z_mem (by rw [← hf]; rfl) (by rw [← hf]; rfl) (hR _ _ d_Fl_passRounds_29)
    | succ k ih =>
      intro i I' J' hi hok hf
      have hi2 : i < n := by omega
      refine Z_iload_n (i := 2) hX d_Fl_passRounds_2 rfl rfl ?_
      refine Z_iload_n (i := 1) hX d_Fl_passRounds_3 rfl rfl ?_
      refine Z_icge (tgt := 29) hX d_Fl_passRounds_4 rfl (fun h => absurd h (nI_ge hi2 (by omega))) (fun h4 => ?_)
      refine Z_iload_n (i := 2) hX d_Fl_passRounds_7 rfl rfl ?_
      refine Z_iconst (v := 2) hX d_Fl_passRounds_8 rfl ?_
      refine Z_iclt (tgt := 19) hX d_Fl_passRounds_9 rfl (fun h9 => ?_) (fun h9 => ?_)
      · refine Z_aload_n (i := 0) hX d_Fl_passRounds_19 rfl rfl ?_
        refine Z_cVv0 hX d_Fl_passRounds_20 (c_Fl_passRound hb hok) m_Fl_passRound (lF hb) rfl lk_Fl_99 ⟨by decide, by decide⟩ ⟨by decide, by decide⟩ (Nat.le_of_ble_eq_true rfl) ?_
        refine Z_iinc (v := nI (i + 1)) hX d_Fl_passRounds_23 rfl (by rw [nI_succ]; rfl) (by decide) rfl ?_
        refine Z_goto (tgt := 2) hX d_Fl_passRounds_26 rfl ?_
        refine Z_loc ?_ (ih (i + 1) _ _ (by omega) (okP_of (fun c hc => fr_ro (by omega)) hok) ?_)
        · rfl
        · rw [← hf]; exact (f_rs_t (Or.inl ((nI_ltI (by omega) (by decide)).mp h9))).symm
      · refine Z_aload_n (i := 0) hX d_Fl_passRounds_12 rfl rfl ?_
        refine Z_getI (k0 := 14) hX d_Fl_passRounds_13 (lF hb) rfl u_Fl (by decide) lk_Fl_57 rfl ?_
        refine Z_ifeq (tgt := 29) hX d_Fl_passRounds_16 rfl (fun h16 => ?_) (fun h16 => ?_)
        · exact Z_mem (by rw [← hf, f_rs_f (fun q => h9 (nI_lt q (by decide))) h16]) (by rw [← hf, f_rs_f (fun q => h9 (nI_lt q (by decide))) h16]) (hR _ _ d_Fl_passRounds_29)
        · refine Z_aload_n (i := 0) hX d_Fl_passRounds_19 rfl rfl ?_
          refine Z_cVv0 hX d_Fl_passRounds_20 (c_Fl_passRound hb hok) m_Fl_passRound (lF hb) rfl lk_Fl_99 ⟨by decide, by decide⟩ ⟨by decide, by decide⟩ (Nat.le_of_ble_eq_true rfl) ?_
          refine Z_iinc (v := nI (i + 1)) hX d_Fl_passRounds_23 rfl (by rw [nI_succ]; rfl) (by decide) rfl ?_
          refine Z_goto (tgt := 2) hX d_Fl_passRounds_26 rfl ?_
          refine Z_loc ?_ (ih (i + 1) _ _ (by omega) (okP_of (fun c hc => fr_ro (by omega)) hok) ?_)
          · rfl
          · rw [← hf]; exact (f_rs_t (Or.inr h16)).symm
  refine Z_loc ?_ (hL2 n 0 I J (by omega) hP rfl)
  rfl
