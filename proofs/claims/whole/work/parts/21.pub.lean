section ZS
variable {X : zX} {G : zG} {cc : ByteArray} {nL a b pc : Nat} {own : String} {d : Room} {l : List (Nat × Value)} {st : List Value} {I : zI} {J : zJ}
theorem Z_tabIn {dflt lo hi : Int} {offs : Array Int} {len : Nat} {x : Int32} {off : Int} {tgt : Nat} (hX : zOk X G cc nL own d) (hd : decode cc pc = .ok (.tableswitch dflt lo hi offs, len)) (h1 : ¬ x.toInt < lo) (h2 : ¬ hi < x.toInt) (ho : offs[(x.toInt - lo).toNat]? = some off) (ht : (pc : Int) + off = (tgt : Int)) (k : Z X G nL a b tgt l st I J) : Z X G nL a b pc l (.int x :: st) I J := by
  obtain ⟨p, la, e, R, s, m, args, below, meth, c, Q, A⟩ := X
  intro ls H locs hl hP hS
  exact lv_tableIn hX.1.1 hX.1.2.1 hd h1 h2 ho ht (k ls H locs hl hP hS)
theorem Z_tabOut {dflt lo hi : Int} {offs : Array Int} {len : Nat} {x : Int32} {tgt : Nat} (hX : zOk X G cc nL own d) (hd : decode cc pc = .ok (.tableswitch dflt lo hi offs, len)) (h : x.toInt < lo ∨ hi < x.toInt) (ht : (pc : Int) + dflt = (tgt : Int)) (k : Z X G nL a b tgt l st I J) : Z X G nL a b pc l (.int x :: st) I J := by
  obtain ⟨p, la, e, R, s, m, args, below, meth, c, Q, A⟩ := X
  intro ls H locs hl hP hS
  exact lv_tableOut hX.1.1 hX.1.2.1 hd h ht (k ls H locs hl hP hS)
end ZS
theorem d_CT_state_12 : decode prog_1_method_15_code 12 = .ok (.tableswitch 85 0 4 #[36, 45, 55, 65, 75], 36) := by decide +kernel
def c_el (I : zI) (e : Nat) (q o s : Int32) : zI := zup (zup (zup (zup (zup (zup I 2 e 1) 3 e q) 4 e o) 5 e s) 55 e o) 56 e o
def c_rI (I : zI) (J : zJ) : zI := l_ro (k_ro (f_ro I J 16))
def c_rJ (I : zI) (J : zJ) : zJ := k_roJ (f_ro I J 16) (zupL J 16 13 0)
def c_rn (I : zI) (J : zJ) : Nat → zI × zJ
  | 0 => (I, J)
  | n + 1 => (c_rI (c_rn I J n).1 (c_rn I J n).2, c_rJ (c_rn I J n).1 (c_rn I J n).2)
theorem c_rn_1 {I : zI} {J : zJ} {n : Nat} : (c_rn I J (n + 1)).1 = l_ro (k_ro (f_ro (c_rn I J n).1 (c_rn I J n).2 16)) := by
  rw [c_rn]
  simp only [c_rI]
theorem c_rn_2 {I : zI} {J : zJ} {n : Nat} : (c_rn I J (n + 1)).2 = k_roJ (f_ro (c_rn I J n).1 (c_rn I J n).2 16) (zupL (c_rn I J n).2 16 13 0) := by
  rw [c_rn]
  simp only [c_rJ]
theorem fr_ks {I : zI} {c : Nat} (h : c ≠ 55) (h2 : c ≠ 56) : ∀ n, k_s I n c = I c
  | 0 => rfl
  | n + 1 => by
    unfold k_s k_s1
    rw [zup_ne h, zup_ne h2, fr_ks h h2 n]
theorem fr_kro {I : zI} {c : Nat} (h : c < 55 ∨ 57 < c) : k_ro I c = I c := by
  unfold k_ro
  rw [fr_ks (by omega) (by omega), fr_kn (by omega)]
theorem fr_lm {I : zI} {c : Nat} (h : c ≠ 60) (h2 : c ≠ 61) : ∀ n, l_m I n c = I c
  | 0 => rfl
  | n + 1 => by
    unfold l_m l_1
    rw [zup_ne h2, zup_ne h, fr_lm h h2 n]
theorem fr_lro {I : zI} {c : Nat} (h : c < 59 ∨ 61 < c) : l_ro I c = I c := by
  unfold l_ro
  rw [zup_ne (by omega), fr_lm (by omega) (by omega)]
theorem fr_rn {I : zI} {J : zJ} {c : Nat} (h : c < 16 ∨ 61 < c) : ∀ n, (c_rn I J n).1 c = I c
  | 0 => by rw [c_rn]
  | n + 1 => by rw [c_rn_1, fr_lro (by omega), fr_kro (by omega), fr_ro (by omega), fr_rn h n]
/-- a round keeps: a locked element has a port -/
theorem okK_r2 {I : zI} {b : Nat} (hq : ∀ e, e < 16 → okQ (I 7 e) ∧ okQ (I 8 e)) (hb : 16 ≤ b) : ∀ n, n ≤ 16 → (∀ e, e < 16 → okK I b e) → ∀ e, e < 16 → okK (f_r2 I b n) b e
  | 0, _, h, e, he => h e he
  | n + 1, hn, h, e, he => by
    have ih := okK_r2 hq hb n (by omega) h
    unfold f_r2
    split
    · have h7 : okQ (f_r2 I b n 7 n) := by rw [fr_r2 (by omega)]; exact (hq n (by omega)).1
      have h8 : okQ (f_r2 I b n 8 n) := by rw [fr_r2 (by omega)]; exact (hq n (by omega)).2
      by_cases hen : e = n
      · subst hen
        exact okK_of (fr_sp (by omega) 4) (fr_sp (by omega) 4) (de_lk h7 h8)
      · have h1 := ih e he
        unfold okK f_lo at h1 ⊢
        rw [fr_sp (by omega), fr_sp (by omega)]
        have k15 : f_de (f_r2 I b n) b n (b + 15) e = f_r2 I b n (b + 15) e := by
          unfold f_de
          split
          · unfold f_de0
            rw [zup_ne (by omega), zup_ne (by omega), zup_same, pk_un hen, zup_ne (by omega)]
          · unfold f_de1
            rw [zup_ne (by omega), zup_ne (by omega), zup_ne (by omega), zup_same, pk_un hen, zup_ne (by omega)]
        have k16 : f_de (f_r2 I b n) b n (b + 16) e = f_r2 I b n (b + 16) e := by
          unfold f_de
          split
          · unfold f_de0
            rw [zup_ne (by omega), zup_ne (by omega), zup_ne (by omega), zup_same, pk_un hen]
          · unfold f_de1
            rw [zup_ne (by omega), zup_ne (by omega), zup_ne (by omega), zup_ne (by omega), zup_same, pk_un hen]
        rw [k15, k16]
        exact h1
    · exact ih e he
set_option maxRecDepth 100000 in
set_option maxHeartbeats 4000000 in
theorem c_CT_refuseUnless {la : Launch} {G : zG} {I : zI} {J : zJ} {w : Bool} (hw : w = true) : zCv la G y_CT_refuseUnless (Cond.code y_CT_refuseUnless prog_1_method_24_code 1 none :: TBL) (zR 1) [.int (zB w)] I J (I) (J) := by
  refine zCv_of (by decide) (by simp [lg_sl, Value.category]) (fun X hla hX hR => ?_)
  subst hla
  refine Z_loc (l' := [(0, .int (zB w))]) (by simp [lv_args, Value.category, List.lookup]) ?_
  refine Z_iload_n (i := 0) hX d_CT_refuseUnless_0 rfl rfl ?_
  refine Z_ifne (tgt := 14) hX d_CT_refuseUnless_1 rfl (fun h1 => ?_) (fun h => absurd ((zB_eq h).symm.trans hw) (by decide))
  exact Z_mem (by rfl) (by rfl) (hR _ _ d_CT_refuseUnless_14)

set_option maxRecDepth 100000 in
set_option maxHeartbeats 4000000 in
theorem c_CT_element {la : Launch} {G : zG} {I : zI} {J : zJ} {e : Nat} (he : e < 16) {q o s : Int32} (h1 : (p_in (nI e) 0 15 && p_in q 0 6) = true) (h2 : p_in o (-1000) 1000 = true) (h3 : p_in s (-9) 9 = true) (ht : I 2 e = 0) : zCv la G y_CT_element (Cond.code y_CT_element prog_1_method_2_code 5 none :: TBL) (zR 2) [.ref (zad G 0), .int (nI e), .int q, .int o, .int s] I J (c_el I e q o s) (J) := by
  refine zCv_of (by decide) (by simp [lg_sl, Value.category]) (fun X hla hX hR => ?_)
  subst hla
  refine Z_loc (l' := [(0, .ref (zad G 0)), (1, .int (nI e)), (2, .int q), (3, .int o), (4, .int s)]) (by simp [lv_args, Value.category, List.lookup]) ?_
  refine Z_cutw (pc' := 25) (w := zB (p_in (nI e) 0 15 && p_in q 0 6)) ?_ (fun hJ25 => ?_)
  · refine Z_id ?_
    refine Z_cSv1 hX d_CT_element_25 (c_CT_refuseUnless h1) m_CT_refuseUnless rfl lk_CT_57 ⟨by decide, by decide⟩ ⟨by decide, by decide⟩ (Nat.le_of_ble_eq_true rfl) ?_
    refine Z_iload_n (i := 3) hX d_CT_element_28 rfl rfl ?_
    refine Z_sipush (v := (-1000)) hX d_CT_element_29 rfl ?_
    refine Z_sipush (v := 1000) hX d_CT_element_32 rfl ?_
    refine Z_cSi3 hX d_CT_element_35 c_CT_isWithin m_CT_isWithin rfl lk_CT_53 ⟨by decide, by decide⟩ ⟨by decide, by decide⟩ (Nat.le_of_ble_eq_true rfl) ?_
    refine Z_cSv1 hX d_CT_element_38 (c_CT_refuseUnless h2) m_CT_refuseUnless rfl lk_CT_57 ⟨by decide, by decide⟩ ⟨by decide, by decide⟩ (Nat.le_of_ble_eq_true rfl) ?_
    refine Z_iload hX d_CT_element_41 rfl ?_
    refine Z_bipush (v := (-9)) hX d_CT_element_43 rfl ?_
    refine Z_bipush (v := 9) hX d_CT_element_45 rfl ?_
    refine Z_cSi3 hX d_CT_element_47 c_CT_isWithin m_CT_isWithin rfl lk_CT_53 ⟨by decide, by decide⟩ ⟨by decide, by decide⟩ (Nat.le_of_ble_eq_true rfl) ?_
    refine Z_cSv1 hX d_CT_element_50 (c_CT_refuseUnless h3) m_CT_refuseUnless rfl lk_CT_57 ⟨by decide, by decide⟩ ⟨by decide, by decide⟩ (Nat.le_of_ble_eq_true rfl) ?_
    refine Z_aload_n (i := 0) hX d_CT_element_53 rfl rfl ?_
    refine Z_getR (k0 := 0) hX d_CT_element_54 rfl rfl u_CT (by decide) lk_CT_12 rfl ?_
    refine Z_getR (k0 := 0) hX d_CT_element_57 rfl rfl u_Pl (by decide) lk_CT_61 rfl ?_
    refine Z_iload_n (i := 1) hX d_CT_element_60 rfl rfl ?_
    refine Z_zald hX d_CT_element_61 rfl rfl (by omega) (by decide) ?_
    refine Z_ifeq (tgt := 75) hX d_CT_element_62 rfl (fun h62 => ?_) (fun h => absurd ht h)
    refine Z_aload_n (i := 0) hX d_CT_element_75 rfl rfl ?_
    refine Z_getR (k0 := 0) hX d_CT_element_76 rfl rfl u_CT (by decide) lk_CT_12 rfl ?_
    refine Z_getR (k0 := 0) hX d_CT_element_79 rfl rfl u_Pl (by decide) lk_CT_61 rfl ?_
    refine Z_iload_n (i := 1) hX d_CT_element_82 rfl rfl ?_
    refine Z_iconst (v := 1) hX d_CT_element_83 rfl ?_
    refine Z_zast01 hX d_CT_element_84 rfl rfl (by omega) (by decide) rfl ?_
    refine Z_aload_n (i := 0) hX d_CT_element_85 rfl rfl ?_
    refine Z_getR (k0 := 0) hX d_CT_element_86 rfl rfl u_CT (by decide) lk_CT_12 rfl ?_
    refine Z_getR (k0 := 1) hX d_CT_element_89 rfl rfl u_Pl (by decide) lk_CT_72 rfl ?_
    refine Z_iload_n (i := 1) hX d_CT_element_92 rfl rfl ?_
    refine Z_iload_n (i := 2) hX d_CT_element_93 rfl rfl ?_
    refine Z_iast hX d_CT_element_94 rfl rfl (by omega) (by decide) ?_
    refine Z_aload_n (i := 0) hX d_CT_element_95 rfl rfl ?_
    refine Z_getR (k0 := 0) hX d_CT_element_96 rfl rfl u_CT (by decide) lk_CT_12 rfl ?_
    refine Z_getR (k0 := 2) hX d_CT_element_99 rfl rfl u_Pl (by decide) lk_CT_75 rfl ?_
    refine Z_iload_n (i := 1) hX d_CT_element_102 rfl rfl ?_
    refine Z_iload_n (i := 3) hX d_CT_element_103 rfl rfl ?_
    refine Z_iast hX d_CT_element_104 rfl rfl (by omega) (by decide) ?_
    refine Z_aload_n (i := 0) hX d_CT_element_105 rfl rfl ?_
    refine Z_getR (k0 := 0) hX d_CT_element_106 rfl rfl u_CT (by decide) lk_CT_12 rfl ?_
    refine Z_getR (k0 := 3) hX d_CT_element_109 rfl rfl u_Pl (by decide) lk_CT_78 rfl ?_
    refine Z_iload_n (i := 1) hX d_CT_element_112 rfl rfl ?_
    refine Z_iload hX d_CT_element_113 rfl ?_
    refine Z_iast hX d_CT_element_115 rfl rfl (by omega) (by decide) ?_
    refine Z_aload_n (i := 0) hX d_CT_element_116 rfl rfl ?_
    refine Z_getR (k0 := 3) hX d_CT_element_117 rfl rfl u_CT (by decide) lk_CT_31 rfl ?_
    refine Z_iload_n (i := 1) hX d_CT_element_120 rfl rfl ?_
    refine Z_iload_n (i := 3) hX d_CT_element_121 rfl rfl ?_
    refine Z_cVv2 hX d_CT_element_122 (c_Ck_start (by omega)) m_Ck_start rfl rfl lk_CT_81 ⟨by decide, by decide⟩ ⟨by decide, by decide⟩ (Nat.le_of_ble_eq_true rfl) ?_
    exact Z_mem (by rfl) (by rfl) (hR _ _ d_CT_element_125)
  · refine Z_iload_n (i := 1) hX d_CT_element_0 rfl rfl ?_
    refine Z_iconst (v := 0) hX d_CT_element_1 rfl ?_
    refine Z_bipush (v := 15) hX d_CT_element_2 rfl ?_
    refine Z_cSi3 hX d_CT_element_4 c_CT_isWithin m_CT_isWithin rfl lk_CT_53 ⟨by decide, by decide⟩ ⟨by decide, by decide⟩ (Nat.le_of_ble_eq_true rfl) ?_
    refine Z_ifeqB (tgt := 24) hX d_CT_element_7 rfl (fun h7 => ?_) (fun h7 => ?_)
    · refine Z_iconst (v := 0) hX d_CT_element_24 rfl ?_
      exact hJ25 _ (by simp [zB, h7])
    · refine Z_iload_n (i := 2) hX d_CT_element_10 rfl rfl ?_
      refine Z_iconst (v := 0) hX d_CT_element_11 rfl ?_
      refine Z_bipush (v := 6) hX d_CT_element_12 rfl ?_
      refine Z_cSi3 hX d_CT_element_14 c_CT_isWithin m_CT_isWithin rfl lk_CT_53 ⟨by decide, by decide⟩ ⟨by decide, by decide⟩ (Nat.le_of_ble_eq_true rfl) ?_
      refine Z_ifeqB (tgt := 24) hX d_CT_element_17 rfl (fun h17 => ?_) (fun h17 => ?_)
      · refine Z_iconst (v := 0) hX d_CT_element_24 rfl ?_
        exact hJ25 _ (by simp [zB, h7, h17])
      · refine Z_iconst (v := 1) hX d_CT_element_20 rfl ?_
        refine Z_goto (tgt := 25) hX d_CT_element_21 rfl ?_
        exact hJ25 _ (by simp [zB, h7, h17])

set_option maxRecDepth 100000 in
set_option maxHeartbeats 4000000 in
theorem c_CT_link {la : Launch} {G : zG} {I : zI} {J : zJ} {a p b q : Nat} (ha : a < 16) (hp : p < 4) (hb : b < 16) (hq : q < 4) (h1 : (p_po I (nI a) (nI p) && p_po I (nI b) (nI q) && decide (¬ nI a = nI b)) = true) {k : Nat} (hk : I 1 14 = nI k) (hk2 : k < 24) (t1 : p_tk I (4 * a + p) = false) (t2 : p_tk I (4 * b + q) = false) : zCi la G y_CT_link (Cond.code y_CT_link prog_1_method_3_code 7 (some .int) :: TBL) (zR 4) [.ref (zad G 0), .int (nI a), .int (nI p), .int (nI b), .int (nI q)] I J (nI k) (p_jo I k (4 * a + p) (4 * b + q)) (J) := by
  refine zCi_of (by decide) (by simp [lg_sl, Value.category]) (rfl) (fun X hla hX hR => ?_)
  subst hla
  refine Z_loc (l' := [(0, .ref (zad G 0)), (1, .int (nI a)), (2, .int (nI p)), (3, .int (nI b)), (4, .int (nI q))]) (by simp [lv_args, Value.category, List.lookup]) ?_
  refine Z_cutw (pc' := 35) (w := zB (p_po I (nI a) (nI p) && p_po I (nI b) (nI q) && decide (¬ nI a = nI b))) ?_ (fun hJ35 => ?_)
  · refine Z_id ?_
    refine Z_cSv1 hX d_CT_link_35 (c_CT_refuseUnless h1) m_CT_refuseUnless rfl lk_CT_57 ⟨by decide, by decide⟩ ⟨by decide, by decide⟩ (Nat.le_of_ble_eq_true rfl) ?_
    refine Z_iload_n (i := 1) hX d_CT_link_38 rfl rfl ?_
    refine Z_iload_n (i := 2) hX d_CT_link_39 rfl rfl ?_
    refine Z_cSi2 hX d_CT_link_40 c_CT_slotOf m_CT_slotOf rfl lk_CT_89 ⟨by decide, by decide⟩ ⟨by decide, by decide⟩ (Nat.le_of_ble_eq_true rfl) ?_
    refine Z_istore hX d_CT_link_43 (by decide) rfl ?_
    refine Z_iload_n (i := 3) hX d_CT_link_45 rfl rfl ?_
    refine Z_iload hX d_CT_link_46 rfl ?_
    refine Z_cSi2 hX d_CT_link_48 c_CT_slotOf m_CT_slotOf rfl lk_CT_89 ⟨by decide, by decide⟩ ⟨by decide, by decide⟩ (Nat.le_of_ble_eq_true rfl) ?_
    refine Z_istore hX d_CT_link_51 (by decide) rfl ?_
    refine Z_aload_n (i := 0) hX d_CT_link_53 rfl rfl ?_
    refine Z_getR (k0 := 0) hX d_CT_link_54 rfl rfl u_CT (by decide) lk_CT_12 rfl ?_
    refine Z_iload hX d_CT_link_57 rfl ?_
    refine Z_cVi1 hX d_CT_link_59 (c_Pl_isTaken (by omega)) m_Pl_isTaken rfl rfl lk_CT_93 ⟨by decide, by decide⟩ ⟨by decide, by decide⟩ (Nat.le_of_ble_eq_true rfl) ?_
    refine Z_ifne (tgt := 89) hX d_CT_link_62 rfl (fun h => absurd ((zB_ne h).symm.trans t1) (by decide)) (fun h62 => ?_)
    refine Z_aload_n (i := 0) hX d_CT_link_65 rfl rfl ?_
    refine Z_getR (k0 := 0) hX d_CT_link_66 rfl rfl u_CT (by decide) lk_CT_12 rfl ?_
    refine Z_iload hX d_CT_link_69 rfl ?_
    refine Z_cVi1 hX d_CT_link_71 (c_Pl_isTaken (by omega)) m_Pl_isTaken rfl rfl lk_CT_93 ⟨by decide, by decide⟩ ⟨by decide, by decide⟩ (Nat.le_of_ble_eq_true rfl) ?_
    refine Z_ifne (tgt := 89) hX d_CT_link_74 rfl (fun h => absurd ((zB_ne h).symm.trans t2) (by decide)) (fun h74 => ?_)
    refine Z_aload_n (i := 0) hX d_CT_link_77 rfl rfl ?_
    refine Z_getR (k0 := 0) hX d_CT_link_78 rfl rfl u_CT (by decide) lk_CT_12 rfl ?_
    refine Z_getI (k0 := 14) hX d_CT_link_81 rfl rfl u_Pl (by decide) lk_CT_97 rfl ?_
    refine Z_bipush (v := 24) hX d_CT_link_84 rfl ?_
    refine Z_iclt (tgt := 99) hX d_CT_link_86 rfl (fun h86 => ?_) (fun h => absurd (by rw [hk]; exact nI_lt hk2 (by decide)) h)
    refine Z_aload_n (i := 0) hX d_CT_link_99 rfl rfl ?_
    refine Z_getR (k0 := 0) hX d_CT_link_100 rfl rfl u_CT (by decide) lk_CT_12 rfl ?_
    refine Z_iload hX d_CT_link_103 rfl ?_
    refine Z_iload hX d_CT_link_105 rfl ?_
    refine Z_cVi2 hX d_CT_link_107 (c_Pl_join hk hk2 (by omega) (by omega)) m_Pl_join rfl rfl lk_CT_102 ⟨by decide, by decide⟩ ⟨by decide, by decide⟩ (Nat.le_of_ble_eq_true rfl) ?_
    exact Z_ri (hR _ _ d_CT_link_110) (by rfl) (by rfl) (by rfl)
  · refine Z_aload_n (i := 0) hX d_CT_link_0 rfl rfl ?_
    refine Z_getR (k0 := 0) hX d_CT_link_1 rfl rfl u_CT (by decide) lk_CT_12 rfl ?_
    refine Z_iload_n (i := 1) hX d_CT_link_4 rfl rfl ?_
    refine Z_iload_n (i := 2) hX d_CT_link_5 rfl rfl ?_
    refine Z_cVi2 hX d_CT_link_6 c_Pl_isPort m_Pl_isPort rfl rfl lk_CT_85 ⟨by decide, by decide⟩ ⟨by decide, by decide⟩ (Nat.le_of_ble_eq_true rfl) ?_
    refine Z_ifeqB (tgt := 34) hX d_CT_link_9 rfl (fun h9 => ?_) (fun h9 => ?_)
    · refine Z_iconst (v := 0) hX d_CT_link_34 rfl ?_
      exact hJ35 _ (by simp [zB, h9])
    · refine Z_aload_n (i := 0) hX d_CT_link_12 rfl rfl ?_
      refine Z_getR (k0 := 0) hX d_CT_link_13 rfl rfl u_CT (by decide) lk_CT_12 rfl ?_
      refine Z_iload_n (i := 3) hX d_CT_link_16 rfl rfl ?_
      refine Z_iload hX d_CT_link_17 rfl ?_
      refine Z_cVi2 hX d_CT_link_19 c_Pl_isPort m_Pl_isPort rfl rfl lk_CT_85 ⟨by decide, by decide⟩ ⟨by decide, by decide⟩ (Nat.le_of_ble_eq_true rfl) ?_
      refine Z_ifeqB (tgt := 34) hX d_CT_link_22 rfl (fun h22 => ?_) (fun h22 => ?_)
      · refine Z_iconst (v := 0) hX d_CT_link_34 rfl ?_
        exact hJ35 _ (by simp [zB, h9, h22])
      · refine Z_iload_n (i := 1) hX d_CT_link_25 rfl rfl ?_
        refine Z_iload_n (i := 3) hX d_CT_link_26 rfl rfl ?_
        refine Z_iceq (tgt := 34) hX d_CT_link_27 rfl (fun h27 => ?_) (fun h27 => ?_)
        · refine Z_iconst (v := 0) hX d_CT_link_34 rfl ?_
          exact hJ35 _ (by simp [zB, h9, h22, h27])
        · refine Z_iconst (v := 1) hX d_CT_link_30 rfl ?_
          refine Z_goto (tgt := 35) hX d_CT_link_31 rfl ?_
          exact hJ35 _ (by simp [zB, h9, h22, h27])

set_option maxRecDepth 100000 in
set_option maxHeartbeats 4000000 in
theorem c_CT_source {la : Launch} {G : zG} {I : zI} {J : zJ} {e p : Nat} (he : e < 16) (hp : p < 4) {q o : Int32} (h1 : p_po I (nI e) (nI p) = true) (h2 : (decide (q = -1) || (p_in q 0 6 && p_in o (-1000) 1000)) = true) (ht : I 9 (4 * e + p) = -1) : zCv la G y_CT_source (Cond.code y_CT_source prog_1_method_4_code 6 none :: TBL) (zR 4) [.ref (zad G 0), .int (nI e), .int (nI p), .int q, .int o] I J (zup (zup I 11 (4 * e + p) q) 12 (4 * e + p) o) (J) := by
  refine zCv_of (by decide) (by simp [lg_sl, Value.category]) (fun X hla hX hR => ?_)
  subst hla
  refine Z_loc (l' := [(0, .ref (zad G 0)), (1, .int (nI e)), (2, .int (nI p)), (3, .int q), (4, .int o)]) (by simp [lv_args, Value.category, List.lookup]) ?_
  refine Z_aload_n (i := 0) hX d_CT_source_0 rfl rfl ?_
  refine Z_getR (k0 := 0) hX d_CT_source_1 rfl rfl u_CT (by decide) lk_CT_12 rfl ?_
  refine Z_iload_n (i := 1) hX d_CT_source_4 rfl rfl ?_
  refine Z_iload_n (i := 2) hX d_CT_source_5 rfl rfl ?_
  refine Z_cVi2 hX d_CT_source_6 c_Pl_isPort m_Pl_isPort rfl rfl lk_CT_85 ⟨by decide, by decide⟩ ⟨by decide, by decide⟩ (Nat.le_of_ble_eq_true rfl) ?_
  refine Z_cSv1 hX d_CT_source_9 (c_CT_refuseUnless h1) m_CT_refuseUnless rfl lk_CT_57 ⟨by decide, by decide⟩ ⟨by decide, by decide⟩ (Nat.le_of_ble_eq_true rfl) ?_
  refine Z_cutw (pc' := 46) (w := zB (decide (q = -1) || (p_in q 0 6 && p_in o (-1000) 1000))) ?_ (fun hJ46 => ?_)
  · refine Z_id ?_
    refine Z_cSv1 hX d_CT_source_46 (c_CT_refuseUnless h2) m_CT_refuseUnless rfl lk_CT_57 ⟨by decide, by decide⟩ ⟨by decide, by decide⟩ (Nat.le_of_ble_eq_true rfl) ?_
    refine Z_iload_n (i := 1) hX d_CT_source_49 rfl rfl ?_
    refine Z_iload_n (i := 2) hX d_CT_source_50 rfl rfl ?_
    refine Z_cSi2 hX d_CT_source_51 c_CT_slotOf m_CT_slotOf rfl lk_CT_89 ⟨by decide, by decide⟩ ⟨by decide, by decide⟩ (Nat.le_of_ble_eq_true rfl) ?_
    refine Z_istore hX d_CT_source_54 (by decide) rfl ?_
    refine Z_aload_n (i := 0) hX d_CT_source_56 rfl rfl ?_
    refine Z_getR (k0 := 0) hX d_CT_source_57 rfl rfl u_CT (by decide) lk_CT_12 rfl ?_
    refine Z_getR (k0 := 7) hX d_CT_source_60 rfl rfl u_Pl (by decide) lk_CT_105 rfl ?_
    refine Z_iload hX d_CT_source_63 rfl ?_
    refine Z_iald hX d_CT_source_65 rfl rfl (by omega) (by decide) ?_
    refine Z_iconst (v := (-1)) hX d_CT_source_66 rfl ?_
    refine Z_iceq (tgt := 80) hX d_CT_source_67 rfl (fun h67 => ?_) (fun h => absurd ht h)
    refine Z_aload_n (i := 0) hX d_CT_source_80 rfl rfl ?_
    refine Z_getR (k0 := 0) hX d_CT_source_81 rfl rfl u_CT (by decide) lk_CT_12 rfl ?_
    refine Z_getR (k0 := 9) hX d_CT_source_84 rfl rfl u_Pl (by decide) lk_CT_110 rfl ?_
    refine Z_iload hX d_CT_source_87 rfl ?_
    refine Z_iload_n (i := 3) hX d_CT_source_89 rfl rfl ?_
    refine Z_iast hX d_CT_source_90 rfl rfl (by omega) (by decide) ?_
    refine Z_aload_n (i := 0) hX d_CT_source_91 rfl rfl ?_
    refine Z_getR (k0 := 0) hX d_CT_source_92 rfl rfl u_CT (by decide) lk_CT_12 rfl ?_
    refine Z_getR (k0 := 10) hX d_CT_source_95 rfl rfl u_Pl (by decide) lk_CT_113 rfl ?_
    refine Z_iload hX d_CT_source_98 rfl ?_
    refine Z_iload hX d_CT_source_100 rfl ?_
    refine Z_iast hX d_CT_source_102 rfl rfl (by omega) (by decide) ?_
    exact Z_mem (by rfl) (by rfl) (hR _ _ d_CT_source_103)
  · refine Z_iload_n (i := 3) hX d_CT_source_12 rfl rfl ?_
    refine Z_iconst (v := (-1)) hX d_CT_source_13 rfl ?_
    refine Z_iceq (tgt := 41) hX d_CT_source_14 rfl (fun h14 => ?_) (fun h14 => ?_)
    · refine Z_iconst (v := 1) hX d_CT_source_41 rfl ?_
      refine Z_goto (tgt := 46) hX d_CT_source_42 rfl ?_
      exact hJ46 _ (by simp [zB, h14])
    · refine Z_iload_n (i := 3) hX d_CT_source_17 rfl rfl ?_
      refine Z_iconst (v := 0) hX d_CT_source_18 rfl ?_
      refine Z_bipush (v := 6) hX d_CT_source_19 rfl ?_
      refine Z_cSi3 hX d_CT_source_21 c_CT_isWithin m_CT_isWithin rfl lk_CT_53 ⟨by decide, by decide⟩ ⟨by decide, by decide⟩ (Nat.le_of_ble_eq_true rfl) ?_
      refine Z_ifeqB (tgt := 45) hX d_CT_source_24 rfl (fun h24 => ?_) (fun h24 => ?_)
      · refine Z_iconst (v := 0) hX d_CT_source_45 rfl ?_
        exact hJ46 _ (by simp [zB, h14, h24])
      · refine Z_iload hX d_CT_source_27 rfl ?_
        refine Z_sipush (v := (-1000)) hX d_CT_source_29 rfl ?_
        refine Z_sipush (v := 1000) hX d_CT_source_32 rfl ?_
        refine Z_cSi3 hX d_CT_source_35 c_CT_isWithin m_CT_isWithin rfl lk_CT_53 ⟨by decide, by decide⟩ ⟨by decide, by decide⟩ (Nat.le_of_ble_eq_true rfl) ?_
        refine Z_ifeqB (tgt := 45) hX d_CT_source_38 rfl (fun h38 => ?_) (fun h38 => ?_)
        · refine Z_iconst (v := 0) hX d_CT_source_45 rfl ?_
          exact hJ46 _ (by simp [zB, h14, h24, h38])
        · refine Z_iconst (v := 1) hX d_CT_source_41 rfl ?_
          refine Z_goto (tgt := 46) hX d_CT_source_42 rfl ?_
          exact hJ46 _ (by simp [zB, h14, h24, h38])

set_option maxRecDepth 100000 in
set_option maxHeartbeats 4000000 in
theorem c_CT_priority {la : Launch} {G : zG} {I : zI} {J : zJ} {e p : Nat} (he : e < 16) (hp : p < 4) {v : Int32} (h1 : (p_po I (nI e) (nI p) && p_in v 0 9) = true) : zCi la G y_CT_priority (Cond.code y_CT_priority prog_1_method_5_code 6 (some .int) :: TBL) (zR 4) [.ref (zad G 0), .int (nI e), .int (nI p), .int v] I J (I 13 (4 * e + p)) (zup I 13 (4 * e + p) v) (J) := by
  refine zCi_of (by decide) (by simp [lg_sl, Value.category]) (rfl) (fun X hla hX hR => ?_)
  subst hla
  refine Z_loc (l' := [(0, .ref (zad G 0)), (1, .int (nI e)), (2, .int (nI p)), (3, .int v)]) (by simp [lv_args, Value.category, List.lookup]) ?_
  refine Z_cutw (pc' := 27) (w := zB (p_po I (nI e) (nI p) && p_in v 0 9)) ?_ (fun hJ27 => ?_)
  · refine Z_id ?_
    refine Z_cSv1 hX d_CT_priority_27 (c_CT_refuseUnless h1) m_CT_refuseUnless rfl lk_CT_57 ⟨by decide, by decide⟩ ⟨by decide, by decide⟩ (Nat.le_of_ble_eq_true rfl) ?_
    refine Z_iload_n (i := 1) hX d_CT_priority_30 rfl rfl ?_
    refine Z_iload_n (i := 2) hX d_CT_priority_31 rfl rfl ?_
    refine Z_cSi2 hX d_CT_priority_32 c_CT_slotOf m_CT_slotOf rfl lk_CT_89 ⟨by decide, by decide⟩ ⟨by decide, by decide⟩ (Nat.le_of_ble_eq_true rfl) ?_
    refine Z_istore hX d_CT_priority_35 (by decide) rfl ?_
    refine Z_aload_n (i := 0) hX d_CT_priority_37 rfl rfl ?_
    refine Z_getR (k0 := 0) hX d_CT_priority_38 rfl rfl u_CT (by decide) lk_CT_12 rfl ?_
    refine Z_getR (k0 := 11) hX d_CT_priority_41 rfl rfl u_Pl (by decide) lk_CT_116 rfl ?_
    refine Z_iload hX d_CT_priority_44 rfl ?_
    refine Z_iald hX d_CT_priority_46 rfl rfl (by omega) (by decide) ?_
    refine Z_istore hX d_CT_priority_47 (by decide) rfl ?_
    refine Z_aload_n (i := 0) hX d_CT_priority_49 rfl rfl ?_
    refine Z_getR (k0 := 0) hX d_CT_priority_50 rfl rfl u_CT (by decide) lk_CT_12 rfl ?_
    refine Z_getR (k0 := 11) hX d_CT_priority_53 rfl rfl u_Pl (by decide) lk_CT_116 rfl ?_
    refine Z_iload hX d_CT_priority_56 rfl ?_
    refine Z_iload_n (i := 3) hX d_CT_priority_58 rfl rfl ?_
    refine Z_iast hX d_CT_priority_59 rfl rfl (by omega) (by decide) ?_
    refine Z_iload hX d_CT_priority_60 rfl ?_
    exact Z_ri (hR _ _ d_CT_priority_62) (by rfl) (by rfl) (by rfl)
  · refine Z_aload_n (i := 0) hX d_CT_priority_0 rfl rfl ?_
    refine Z_getR (k0 := 0) hX d_CT_priority_1 rfl rfl u_CT (by decide) lk_CT_12 rfl ?_
    refine Z_iload_n (i := 1) hX d_CT_priority_4 rfl rfl ?_
    refine Z_iload_n (i := 2) hX d_CT_priority_5 rfl rfl ?_
    refine Z_cVi2 hX d_CT_priority_6 c_Pl_isPort m_Pl_isPort rfl rfl lk_CT_85 ⟨by decide, by decide⟩ ⟨by decide, by decide⟩ (Nat.le_of_ble_eq_true rfl) ?_
    refine Z_ifeqB (tgt := 26) hX d_CT_priority_9 rfl (fun h9 => ?_) (fun h9 => ?_)
    · refine Z_iconst (v := 0) hX d_CT_priority_26 rfl ?_
      exact hJ27 _ (by simp [zB, h9])
    · refine Z_iload_n (i := 3) hX d_CT_priority_12 rfl rfl ?_
      refine Z_iconst (v := 0) hX d_CT_priority_13 rfl ?_
      refine Z_bipush (v := 9) hX d_CT_priority_14 rfl ?_
      refine Z_cSi3 hX d_CT_priority_16 c_CT_isWithin m_CT_isWithin rfl lk_CT_53 ⟨by decide, by decide⟩ ⟨by decide, by decide⟩ (Nat.le_of_ble_eq_true rfl) ?_
      refine Z_ifeqB (tgt := 26) hX d_CT_priority_19 rfl (fun h19 => ?_) (fun h19 => ?_)
      · refine Z_iconst (v := 0) hX d_CT_priority_26 rfl ?_
        exact hJ27 _ (by simp [zB, h9, h19])
      · refine Z_iconst (v := 1) hX d_CT_priority_22 rfl ?_
        refine Z_goto (tgt := 27) hX d_CT_priority_23 rfl ?_
        exact hJ27 _ (by simp [zB, h9, h19])

set_option maxRecDepth 100000 in
set_option maxHeartbeats 4000000 in
theorem c_CT_restore {la : Launch} {G : zG} {I : zI} {J : zJ} {e : Nat} (he : e < 16) {v : Int32} (h1 : (p_th I (nI e) && p_in v 0 10) = true) : zCi la G y_CT_restore (Cond.code y_CT_restore prog_1_method_6_code 4 (some .int) :: TBL) (zR 3) [.ref (zad G 0), .int (nI e), .int v] I J (I 6 e) (zup I 6 e v) (J) := by
  refine zCi_of (by decide) (by simp [lg_sl, Value.category]) (rfl) (fun X hla hX hR => ?_)
  subst hla
  refine Z_loc (l' := [(0, .ref (zad G 0)), (1, .int (nI e)), (2, .int v)]) (by simp [lv_args, Value.category, List.lookup]) ?_
  refine Z_cutw (pc' := 26) (w := zB (p_th I (nI e) && p_in v 0 10)) ?_ (fun hJ26 => ?_)
  · refine Z_id ?_
    refine Z_cSv1 hX d_CT_restore_26 (c_CT_refuseUnless h1) m_CT_refuseUnless rfl lk_CT_57 ⟨by decide, by decide⟩ ⟨by decide, by decide⟩ (Nat.le_of_ble_eq_true rfl) ?_
    refine Z_aload_n (i := 0) hX d_CT_restore_29 rfl rfl ?_
    refine Z_getR (k0 := 0) hX d_CT_restore_30 rfl rfl u_CT (by decide) lk_CT_12 rfl ?_
    refine Z_getR (k0 := 4) hX d_CT_restore_33 rfl rfl u_Pl (by decide) lk_CT_122 rfl ?_
    refine Z_iload_n (i := 1) hX d_CT_restore_36 rfl rfl ?_
    refine Z_iald hX d_CT_restore_37 rfl rfl (by omega) (by decide) ?_
    refine Z_istore_n (i := 3) hX d_CT_restore_38 rfl (by decide) rfl ?_
    refine Z_aload_n (i := 0) hX d_CT_restore_39 rfl rfl ?_
    refine Z_getR (k0 := 0) hX d_CT_restore_40 rfl rfl u_CT (by decide) lk_CT_12 rfl ?_
    refine Z_getR (k0 := 4) hX d_CT_restore_43 rfl rfl u_Pl (by decide) lk_CT_122 rfl ?_
    refine Z_iload_n (i := 1) hX d_CT_restore_46 rfl rfl ?_
    refine Z_iload_n (i := 2) hX d_CT_restore_47 rfl rfl ?_
    refine Z_iast hX d_CT_restore_48 rfl rfl (by omega) (by decide) ?_
    refine Z_iload_n (i := 3) hX d_CT_restore_49 rfl rfl ?_
    exact Z_ri (hR _ _ d_CT_restore_50) (by rfl) (by rfl) (by rfl)
  · refine Z_aload_n (i := 0) hX d_CT_restore_0 rfl rfl ?_
    refine Z_getR (k0 := 0) hX d_CT_restore_1 rfl rfl u_CT (by decide) lk_CT_12 rfl ?_
    refine Z_iload_n (i := 1) hX d_CT_restore_4 rfl rfl ?_
    refine Z_cVi1 hX d_CT_restore_5 c_Pl_isThere m_Pl_isThere rfl rfl lk_CT_119 ⟨by decide, by decide⟩ ⟨by decide, by decide⟩ (Nat.le_of_ble_eq_true rfl) ?_
    refine Z_ifeqB (tgt := 25) hX d_CT_restore_8 rfl (fun h8 => ?_) (fun h8 => ?_)
    · refine Z_iconst (v := 0) hX d_CT_restore_25 rfl ?_
      exact hJ26 _ (by simp [zB, h8])
    · refine Z_iload_n (i := 2) hX d_CT_restore_11 rfl rfl ?_
      refine Z_iconst (v := 0) hX d_CT_restore_12 rfl ?_
      refine Z_bipush (v := 10) hX d_CT_restore_13 rfl ?_
      refine Z_cSi3 hX d_CT_restore_15 c_CT_isWithin m_CT_isWithin rfl lk_CT_53 ⟨by decide, by decide⟩ ⟨by decide, by decide⟩ (Nat.le_of_ble_eq_true rfl) ?_
      refine Z_ifeqB (tgt := 25) hX d_CT_restore_18 rfl (fun h18 => ?_) (fun h18 => ?_)
      · refine Z_iconst (v := 0) hX d_CT_restore_25 rfl ?_
        exact hJ26 _ (by simp [zB, h8, h18])
      · refine Z_iconst (v := 1) hX d_CT_restore_21 rfl ?_
        refine Z_goto (tgt := 26) hX d_CT_restore_22 rfl ?_
        exact hJ26 _ (by simp [zB, h8, h18])

set_option maxRecDepth 100000 in
set_option maxHeartbeats 4000000 in
theorem c_CT_command {la : Launch} {G : zG} {I : zI} {J : zJ} {e : Nat} (he : e < 16) {w v : Int32} (h1 : (p_th I (nI e) && p_in w 0 1) = true) (h2 : (decide (v = -1) || p_in v 0 3) = true) : zCi la G y_CT_command (Cond.code y_CT_command prog_1_method_8_code 6 (some .int) :: TBL) (zR 3) [.ref (zad G 0), .int (nI e), .int w, .int v] I J (if w = 0 then I 7 e else I 8 e) (if w = 0 then zup I 7 e v else zup I 8 e v) (J) := by
  refine zCi_of (by decide) (by simp [lg_sl, Value.category]) (rfl) (fun X hla hX hR => ?_)
  subst hla
  refine Z_loc (l' := [(0, .ref (zad G 0)), (1, .int (nI e)), (2, .int w), (3, .int v)]) (by simp [lv_args, Value.category, List.lookup]) ?_
  refine Z_cutw (pc' := 25) (w := zB (p_th I (nI e) && p_in w 0 1)) ?_ (fun hJ25 => ?_)
  · refine Z_id ?_
    refine Z_cSv1 hX d_CT_command_25 (c_CT_refuseUnless h1) m_CT_refuseUnless rfl lk_CT_57 ⟨by decide, by decide⟩ ⟨by decide, by decide⟩ (Nat.le_of_ble_eq_true rfl) ?_
    refine Z_cutw (pc' := 47) (w := zB (decide (v = -1) || p_in v 0 3)) ?_ (fun hJ47 => ?_)
    · refine Z_id ?_
      refine Z_cSv1 hX d_CT_command_47 (c_CT_refuseUnless h2) m_CT_refuseUnless rfl lk_CT_57 ⟨by decide, by decide⟩ ⟨by decide, by decide⟩ (Nat.le_of_ble_eq_true rfl) ?_
      refine Z_iload_n (i := 2) hX d_CT_command_50 rfl rfl ?_
      refine Z_ifne (tgt := 64) hX d_CT_command_51 rfl (fun h51 => ?_) (fun h51 => ?_)
      · refine Z_aload_n (i := 0) hX d_CT_command_64 rfl rfl ?_
        refine Z_getR (k0 := 0) hX d_CT_command_65 rfl rfl u_CT (by decide) lk_CT_12 rfl ?_
        refine Z_getR (k0 := 6) hX d_CT_command_68 rfl rfl u_Pl (by decide) lk_CT_132 rfl ?_
        refine Z_astore hX d_CT_command_71 (by decide) rfl ?_
        refine Z_aload hX d_CT_command_73 rfl ?_
        refine Z_iload_n (i := 1) hX d_CT_command_75 rfl rfl ?_
        refine Z_iald hX d_CT_command_76 rfl rfl (by omega) (by decide) ?_
        refine Z_istore hX d_CT_command_77 (by decide) rfl ?_
        refine Z_aload hX d_CT_command_79 rfl ?_
        refine Z_iload_n (i := 1) hX d_CT_command_81 rfl rfl ?_
        refine Z_iload_n (i := 3) hX d_CT_command_82 rfl rfl ?_
        refine Z_iast hX d_CT_command_83 rfl rfl (by omega) (by decide) ?_
        refine Z_iload hX d_CT_command_84 rfl ?_
        exact Z_ri (hR _ _ d_CT_command_86) (by exact (if_neg h51).symm) (by exact (if_neg h51).symm) (by rfl)
      · refine Z_aload_n (i := 0) hX d_CT_command_54 rfl rfl ?_
        refine Z_getR (k0 := 0) hX d_CT_command_55 rfl rfl u_CT (by decide) lk_CT_12 rfl ?_
        refine Z_getR (k0 := 5) hX d_CT_command_58 rfl rfl u_Pl (by decide) lk_CT_129 rfl ?_
        refine Z_goto (tgt := 71) hX d_CT_command_61 rfl ?_
        refine Z_astore hX d_CT_command_71 (by decide) rfl ?_
        refine Z_aload hX d_CT_command_73 rfl ?_
        refine Z_iload_n (i := 1) hX d_CT_command_75 rfl rfl ?_
        refine Z_iald hX d_CT_command_76 rfl rfl (by omega) (by decide) ?_
        refine Z_istore hX d_CT_command_77 (by decide) rfl ?_
        refine Z_aload hX d_CT_command_79 rfl ?_
        refine Z_iload_n (i := 1) hX d_CT_command_81 rfl rfl ?_
        refine Z_iload_n (i := 3) hX d_CT_command_82 rfl rfl ?_
        refine Z_iast hX d_CT_command_83 rfl rfl (by omega) (by decide) ?_
        refine Z_iload hX d_CT_command_84 rfl ?_
        exact Z_ri (hR _ _ d_CT_command_86) (by exact (if_pos h51).symm) (by exact (if_pos h51).symm) (by rfl)
    · refine Z_iload_n (i := 3) hX d_CT_command_28 rfl rfl ?_
      refine Z_iconst (v := (-1)) hX d_CT_command_29 rfl ?_
      refine Z_iceq (tgt := 42) hX d_CT_command_30 rfl (fun h30 => ?_) (fun h30 => ?_)
      · refine Z_iconst (v := 1) hX d_CT_command_42 rfl ?_
        refine Z_goto (tgt := 47) hX d_CT_command_43 rfl ?_
        exact hJ47 _ (by simp [zB, h30])
      · refine Z_iload_n (i := 3) hX d_CT_command_33 rfl rfl ?_
        refine Z_iconst (v := 0) hX d_CT_command_34 rfl ?_
        refine Z_iconst (v := 3) hX d_CT_command_35 rfl ?_
        refine Z_cSi3 hX d_CT_command_36 c_CT_isWithin m_CT_isWithin rfl lk_CT_53 ⟨by decide, by decide⟩ ⟨by decide, by decide⟩ (Nat.le_of_ble_eq_true rfl) ?_
        refine Z_ifeqB (tgt := 46) hX d_CT_command_39 rfl (fun h39 => ?_) (fun h39 => ?_)
        · refine Z_iconst (v := 0) hX d_CT_command_46 rfl ?_
          exact hJ47 _ (by simp [zB, h30, h39])
        · refine Z_iconst (v := 1) hX d_CT_command_42 rfl ?_
          refine Z_goto (tgt := 47) hX d_CT_command_43 rfl ?_
          exact hJ47 _ (by simp [zB, h30, h39])
  · refine Z_aload_n (i := 0) hX d_CT_command_0 rfl rfl ?_
    refine Z_getR (k0 := 0) hX d_CT_command_1 rfl rfl u_CT (by decide) lk_CT_12 rfl ?_
    refine Z_iload_n (i := 1) hX d_CT_command_4 rfl rfl ?_
    refine Z_cVi1 hX d_CT_command_5 c_Pl_isThere m_Pl_isThere rfl rfl lk_CT_119 ⟨by decide, by decide⟩ ⟨by decide, by decide⟩ (Nat.le_of_ble_eq_true rfl) ?_
    refine Z_ifeqB (tgt := 24) hX d_CT_command_8 rfl (fun h8 => ?_) (fun h8 => ?_)
    · refine Z_iconst (v := 0) hX d_CT_command_24 rfl ?_
      exact hJ25 _ (by simp [zB, h8])
    · refine Z_iload_n (i := 2) hX d_CT_command_11 rfl rfl ?_
      refine Z_iconst (v := 0) hX d_CT_command_12 rfl ?_
      refine Z_iconst (v := 1) hX d_CT_command_13 rfl ?_
      refine Z_cSi3 hX d_CT_command_14 c_CT_isWithin m_CT_isWithin rfl lk_CT_53 ⟨by decide, by decide⟩ ⟨by decide, by decide⟩ (Nat.le_of_ble_eq_true rfl) ?_
      refine Z_ifeqB (tgt := 24) hX d_CT_command_17 rfl (fun h17 => ?_) (fun h17 => ?_)
      · refine Z_iconst (v := 0) hX d_CT_command_24 rfl ?_
        exact hJ25 _ (by simp [zB, h8, h17])
      · refine Z_iconst (v := 1) hX d_CT_command_20 rfl ?_
        refine Z_goto (tgt := 25) hX d_CT_command_21 rfl ?_
        exact hJ25 _ (by simp [zB, h8, h17])

set_option maxRecDepth 100000 in
set_option maxHeartbeats 4000000 in
theorem c_CT_lockout {la : Launch} {G : zG} {I : zI} {J : zJ} {e p : Nat} (he : e < 16) (hp : p < 4) {o t : Bool} (h1 : p_po I (nI e) (nI p) = true) (ht : I 14 (4 * e + p) = zB t) : zCi la G y_CT_lockout (Cond.code y_CT_lockout prog_1_method_9_code 6 (some .boolean) :: TBL) (zR 4) [.ref (zad G 0), .int (nI e), .int (nI p), .int (zB o)] I J (zB t) (zup I 14 (4 * e + p) (zB o)) (J) := by
  refine zCi_of (by decide) (by simp [lg_sl, Value.category]) (zB_nar _) (fun X hla hX hR => ?_)
  subst hla
  refine Z_loc (l' := [(0, .ref (zad G 0)), (1, .int (nI e)), (2, .int (nI p)), (3, .int (zB o))]) (by simp [lv_args, Value.category, List.lookup]) ?_
  refine Z_aload_n (i := 0) hX d_CT_lockout_0 rfl rfl ?_
  refine Z_getR (k0 := 0) hX d_CT_lockout_1 rfl rfl u_CT (by decide) lk_CT_12 rfl ?_
  refine Z_iload_n (i := 1) hX d_CT_lockout_4 rfl rfl ?_
  refine Z_iload_n (i := 2) hX d_CT_lockout_5 rfl rfl ?_
  refine Z_cVi2 hX d_CT_lockout_6 c_Pl_isPort m_Pl_isPort rfl rfl lk_CT_85 ⟨by decide, by decide⟩ ⟨by decide, by decide⟩ (Nat.le_of_ble_eq_true rfl) ?_
  refine Z_cSv1 hX d_CT_lockout_9 (c_CT_refuseUnless h1) m_CT_refuseUnless rfl lk_CT_57 ⟨by decide, by decide⟩ ⟨by decide, by decide⟩ (Nat.le_of_ble_eq_true rfl) ?_
  refine Z_iload_n (i := 1) hX d_CT_lockout_12 rfl rfl ?_
  refine Z_iload_n (i := 2) hX d_CT_lockout_13 rfl rfl ?_
  refine Z_cSi2 hX d_CT_lockout_14 c_CT_slotOf m_CT_slotOf rfl lk_CT_89 ⟨by decide, by decide⟩ ⟨by decide, by decide⟩ (Nat.le_of_ble_eq_true rfl) ?_
  refine Z_istore hX d_CT_lockout_17 (by decide) rfl ?_
  refine Z_aload_n (i := 0) hX d_CT_lockout_19 rfl rfl ?_
  refine Z_getR (k0 := 0) hX d_CT_lockout_20 rfl rfl u_CT (by decide) lk_CT_12 rfl ?_
  refine Z_getR (k0 := 12) hX d_CT_lockout_23 rfl rfl u_Pl (by decide) lk_CT_135 rfl ?_
  refine Z_iload hX d_CT_lockout_26 rfl ?_
  refine Z_zald hX d_CT_lockout_28 rfl rfl (by omega) (by decide) ?_
  refine Z_istore hX d_CT_lockout_29 (by decide) rfl ?_
  refine Z_aload_n (i := 0) hX d_CT_lockout_31 rfl rfl ?_
  refine Z_getR (k0 := 0) hX d_CT_lockout_32 rfl rfl u_CT (by decide) lk_CT_12 rfl ?_
  refine Z_getR (k0 := 12) hX d_CT_lockout_35 rfl rfl u_Pl (by decide) lk_CT_135 rfl ?_
  refine Z_iload hX d_CT_lockout_38 rfl ?_
  refine Z_iload_n (i := 3) hX d_CT_lockout_40 rfl rfl ?_
  refine Z_zast01 hX d_CT_lockout_41 rfl rfl (by omega) (by decide) (zB_np _) ?_
  refine Z_iload hX d_CT_lockout_42 rfl ?_
  exact Z_ri (hR _ _ d_CT_lockout_44) (by exact ht) (by rfl) (by rfl)

set_option maxRecDepth 100000 in
set_option maxHeartbeats 4000000 in
theorem c_CT_fail {la : Launch} {G : zG} {I : zI} {J : zJ} {k : Nat} {o : Bool} (h1 : p_lk I (nI k) = true) : zCi la G y_CT_fail (Cond.code y_CT_fail prog_1_method_10_code 4 (some .boolean) :: TBL) (zR 3) [.ref (zad G 0), .int (nI k), .int (zB o)] I J (zB (!f_lw I 16 (nI k))) (f_sl I 16 (nI k) (zB o)) (J) := by
  refine zCi_of (by decide) (by simp [lg_sl, Value.category]) (zB_nar _) (fun X hla hX hR => ?_)
  subst hla
  refine Z_loc (l' := [(0, .ref (zad G 0)), (1, .int (nI k)), (2, .int (zB o))]) (by simp [lv_args, Value.category, List.lookup]) ?_
  refine Z_aload_n (i := 0) hX d_CT_fail_0 rfl rfl ?_
  refine Z_getR (k0 := 0) hX d_CT_fail_1 rfl rfl u_CT (by decide) lk_CT_12 rfl ?_
  refine Z_iload_n (i := 1) hX d_CT_fail_4 rfl rfl ?_
  refine Z_cVi1 hX d_CT_fail_5 c_Pl_isLink m_Pl_isLink rfl rfl lk_CT_138 ⟨by decide, by decide⟩ ⟨by decide, by decide⟩ (Nat.le_of_ble_eq_true rfl) ?_
  refine Z_cSv1 hX d_CT_fail_8 (c_CT_refuseUnless h1) m_CT_refuseUnless rfl lk_CT_57 ⟨by decide, by decide⟩ ⟨by decide, by decide⟩ (Nat.le_of_ble_eq_true rfl) ?_
  refine Z_aload_n (i := 0) hX d_CT_fail_11 rfl rfl ?_
  refine Z_getR (k0 := 1) hX d_CT_fail_12 rfl rfl u_CT (by decide) lk_CT_21 rfl ?_
  refine Z_iload_n (i := 1) hX d_CT_fail_15 rfl rfl ?_
  refine Z_cVi1 hX d_CT_fail_16 (c_Fl_isLinkWhole (Or.inl rfl)) m_Fl_isLinkWhole rfl rfl lk_CT_141 ⟨by decide, by decide⟩ ⟨by decide, by decide⟩ (Nat.le_of_ble_eq_true rfl) ?_
  refine Z_ifneB (tgt := 26) hX d_CT_fail_19 rfl (fun h19 => ?_) (fun h19 => ?_)
  · refine Z_iconst (v := 0) hX d_CT_fail_26 rfl ?_
    refine Z_istore_n (i := 3) hX d_CT_fail_27 rfl (by decide) rfl ?_
    refine Z_aload_n (i := 0) hX d_CT_fail_28 rfl rfl ?_
    refine Z_getR (k0 := 1) hX d_CT_fail_29 rfl rfl u_CT (by decide) lk_CT_21 rfl ?_
    refine Z_iload_n (i := 1) hX d_CT_fail_32 rfl rfl ?_
    refine Z_iload_n (i := 2) hX d_CT_fail_33 rfl rfl ?_
    refine Z_cVv2 hX d_CT_fail_34 (c_Fl_setLinkFailed (Or.inl rfl)) m_Fl_setLinkFailed rfl rfl lk_CT_144 ⟨by decide, by decide⟩ ⟨by decide, by decide⟩ (Nat.le_of_ble_eq_true rfl) ?_
    refine Z_iload_n (i := 3) hX d_CT_fail_37 rfl rfl ?_
    exact Z_ri (hR _ _ d_CT_fail_38) (by simp [zB, h19]) (by rfl) (by rfl)
  · refine Z_iconst (v := 1) hX d_CT_fail_22 rfl ?_
    refine Z_goto (tgt := 27) hX d_CT_fail_23 rfl ?_
    refine Z_istore_n (i := 3) hX d_CT_fail_27 rfl (by decide) rfl ?_
    refine Z_aload_n (i := 0) hX d_CT_fail_28 rfl rfl ?_
    refine Z_getR (k0 := 1) hX d_CT_fail_29 rfl rfl u_CT (by decide) lk_CT_21 rfl ?_
    refine Z_iload_n (i := 1) hX d_CT_fail_32 rfl rfl ?_
    refine Z_iload_n (i := 2) hX d_CT_fail_33 rfl rfl ?_
    refine Z_cVv2 hX d_CT_fail_34 (c_Fl_setLinkFailed (Or.inl rfl)) m_Fl_setLinkFailed rfl rfl lk_CT_144 ⟨by decide, by decide⟩ ⟨by decide, by decide⟩ (Nat.le_of_ble_eq_true rfl) ?_
    refine Z_iload_n (i := 3) hX d_CT_fail_37 rfl rfl ?_
    exact Z_ri (hR _ _ d_CT_fail_38) (by simp [zB, h19]) (by rfl) (by rfl)

set_option maxRecDepth 100000 in
set_option maxHeartbeats 4000000 in
theorem c_CT_failElement {la : Launch} {G : zG} {I : zI} {J : zJ} {e : Nat} (he : e < 16) {o : Bool} (h1 : p_th I (nI e) = true) : zCi la G y_CT_failElement (Cond.code y_CT_failElement prog_1_method_11_code 4 (some .boolean) :: TBL) (zR 4) [.ref (zad G 0), .int (nI e), .int (zB o)] I J (zB (!f_wh I 16 e)) (f_se I 16 e (zB o)) (J) := by
  refine zCi_of (by decide) (by simp [lg_sl, Value.category]) (zB_nar _) (fun X hla hX hR => ?_)
  subst hla
  refine Z_loc (l' := [(0, .ref (zad G 0)), (1, .int (nI e)), (2, .int (zB o))]) (by simp [lv_args, Value.category, List.lookup]) ?_
  refine Z_aload_n (i := 0) hX d_CT_failElement_0 rfl rfl ?_
  refine Z_getR (k0 := 0) hX d_CT_failElement_1 rfl rfl u_CT (by decide) lk_CT_12 rfl ?_
  refine Z_iload_n (i := 1) hX d_CT_failElement_4 rfl rfl ?_
  refine Z_cVi1 hX d_CT_failElement_5 c_Pl_isThere m_Pl_isThere rfl rfl lk_CT_119 ⟨by decide, by decide⟩ ⟨by decide, by decide⟩ (Nat.le_of_ble_eq_true rfl) ?_
  refine Z_cSv1 hX d_CT_failElement_8 (c_CT_refuseUnless h1) m_CT_refuseUnless rfl lk_CT_57 ⟨by decide, by decide⟩ ⟨by decide, by decide⟩ (Nat.le_of_ble_eq_true rfl) ?_
  refine Z_aload_n (i := 0) hX d_CT_failElement_11 rfl rfl ?_
  refine Z_getR (k0 := 1) hX d_CT_failElement_12 rfl rfl u_CT (by decide) lk_CT_21 rfl ?_
  refine Z_iload_n (i := 1) hX d_CT_failElement_15 rfl rfl ?_
  refine Z_cVi1 hX d_CT_failElement_16 (c_Fl_isWhole (Or.inl rfl) (by omega)) m_Fl_isWhole rfl rfl lk_CT_148 ⟨by decide, by decide⟩ ⟨by decide, by decide⟩ (Nat.le_of_ble_eq_true rfl) ?_
  refine Z_ifneB (tgt := 26) hX d_CT_failElement_19 rfl (fun h19 => ?_) (fun h19 => ?_)
  · refine Z_iconst (v := 0) hX d_CT_failElement_26 rfl ?_
    refine Z_istore_n (i := 3) hX d_CT_failElement_27 rfl (by decide) rfl ?_
    refine Z_aload_n (i := 0) hX d_CT_failElement_28 rfl rfl ?_
    refine Z_getR (k0 := 1) hX d_CT_failElement_29 rfl rfl u_CT (by decide) lk_CT_21 rfl ?_
    refine Z_iload_n (i := 1) hX d_CT_failElement_32 rfl rfl ?_
    refine Z_iload_n (i := 2) hX d_CT_failElement_33 rfl rfl ?_
    refine Z_cVv2 hX d_CT_failElement_34 (c_Fl_setElementFailed (Or.inl rfl) (by omega)) m_Fl_setElementFailed rfl rfl lk_CT_151 ⟨by decide, by decide⟩ ⟨by decide, by decide⟩ (Nat.le_of_ble_eq_true rfl) ?_
    refine Z_iload_n (i := 3) hX d_CT_failElement_37 rfl rfl ?_
    exact Z_ri (hR _ _ d_CT_failElement_38) (by simp [zB, h19]) (by rfl) (by rfl)
  · refine Z_iconst (v := 1) hX d_CT_failElement_22 rfl ?_
    refine Z_goto (tgt := 27) hX d_CT_failElement_23 rfl ?_
    refine Z_istore_n (i := 3) hX d_CT_failElement_27 rfl (by decide) rfl ?_
    refine Z_aload_n (i := 0) hX d_CT_failElement_28 rfl rfl ?_
    refine Z_getR (k0 := 1) hX d_CT_failElement_29 rfl rfl u_CT (by decide) lk_CT_21 rfl ?_
    refine Z_iload_n (i := 1) hX d_CT_failElement_32 rfl rfl ?_
    refine Z_iload_n (i := 2) hX d_CT_failElement_33 rfl rfl ?_
    refine Z_cVv2 hX d_CT_failElement_34 (c_Fl_setElementFailed (Or.inl rfl) (by omega)) m_Fl_setElementFailed rfl rfl lk_CT_151 ⟨by decide, by decide⟩ ⟨by decide, by decide⟩ (Nat.le_of_ble_eq_true rfl) ?_
    refine Z_iload_n (i := 3) hX d_CT_failElement_37 rfl rfl ?_
    exact Z_ri (hR _ _ d_CT_failElement_38) (by simp [zB, h19]) (by rfl) (by rfl)

set_option maxRecDepth 100000 in
set_option maxHeartbeats 4000000 in
theorem c_CT_lose {la : Launch} {G : zG} {I : zI} {J : zJ} {k x y : Nat} {o : Bool} (hk : k < 24) (h1 : p_lk I (nI k) = true) (hx : x < 64) (hx2 : I 15 k = nI x) (hy2 : I 10 x = nI y) : zCv la G y_CT_lose (Cond.code y_CT_lose prog_1_method_12_code 4 none :: TBL) (zR 3) [.ref (zad G 0), .int (nI k), .int (zB o)] I J (I) (f_lf J 16 (cond o y x)) := by
  refine zCv_of (by decide) (by simp [lg_sl, Value.category]) (fun X hla hX hR => ?_)
  subst hla
  refine Z_loc (l' := [(0, .ref (zad G 0)), (1, .int (nI k)), (2, .int (zB o))]) (by simp [lv_args, Value.category, List.lookup]) ?_
  refine Z_aload_n (i := 0) hX d_CT_lose_0 rfl rfl ?_
  refine Z_getR (k0 := 0) hX d_CT_lose_1 rfl rfl u_CT (by decide) lk_CT_12 rfl ?_
  refine Z_iload_n (i := 1) hX d_CT_lose_4 rfl rfl ?_
  refine Z_cVi1 hX d_CT_lose_5 c_Pl_isLink m_Pl_isLink rfl rfl lk_CT_138 ⟨by decide, by decide⟩ ⟨by decide, by decide⟩ (Nat.le_of_ble_eq_true rfl) ?_
  refine Z_cSv1 hX d_CT_lose_8 (c_CT_refuseUnless h1) m_CT_refuseUnless rfl lk_CT_57 ⟨by decide, by decide⟩ ⟨by decide, by decide⟩ (Nat.le_of_ble_eq_true rfl) ?_
  refine Z_aload_n (i := 0) hX d_CT_lose_11 rfl rfl ?_
  refine Z_getR (k0 := 0) hX d_CT_lose_12 rfl rfl u_CT (by decide) lk_CT_12 rfl ?_
  refine Z_getR (k0 := 13) hX d_CT_lose_15 rfl rfl u_Pl (by decide) lk_CT_154 rfl ?_
  refine Z_iload_n (i := 1) hX d_CT_lose_18 rfl rfl ?_
  refine Z_iald hX d_CT_lose_19 rfl rfl (by omega) (by decide) ?_
  refine Z_top hx2 ?_
  refine Z_istore_n (i := 3) hX d_CT_lose_20 rfl (by decide) rfl ?_
  refine Z_aload_n (i := 0) hX d_CT_lose_21 rfl rfl ?_
  refine Z_getR (k0 := 1) hX d_CT_lose_22 rfl rfl u_CT (by decide) lk_CT_21 rfl ?_
  refine Z_iload_n (i := 2) hX d_CT_lose_25 rfl rfl ?_
  refine Z_ifeqB (tgt := 41) hX d_CT_lose_26 rfl (fun h26 => ?_) (fun h26 => ?_)
  · refine Z_iload_n (i := 3) hX d_CT_lose_41 rfl rfl ?_
    refine Z_cVv1 hX d_CT_lose_42 (c_Fl_loseFrom (Or.inl rfl)) m_Fl_loseFrom rfl rfl lk_CT_160 ⟨by decide, by decide⟩ ⟨by decide, by decide⟩ (Nat.le_of_ble_eq_true rfl) ?_
    exact Z_mem (by rfl) (by (subst h26; rfl)) (hR _ _ d_CT_lose_45)
  · refine Z_aload_n (i := 0) hX d_CT_lose_29 rfl rfl ?_
    refine Z_getR (k0 := 0) hX d_CT_lose_30 rfl rfl u_CT (by decide) lk_CT_12 rfl ?_
    refine Z_getR (k0 := 8) hX d_CT_lose_33 rfl rfl u_Pl (by decide) lk_CT_157 rfl ?_
    refine Z_iload_n (i := 3) hX d_CT_lose_36 rfl rfl ?_
    refine Z_iald hX d_CT_lose_37 rfl rfl (by omega) (by decide) ?_
    refine Z_top hy2 ?_
    refine Z_goto (tgt := 42) hX d_CT_lose_38 rfl ?_
    refine Z_cVv1 hX d_CT_lose_42 (c_Fl_loseFrom (Or.inl rfl)) m_Fl_loseFrom rfl rfl lk_CT_160 ⟨by decide, by decide⟩ ⟨by decide, by decide⟩ (Nat.le_of_ble_eq_true rfl) ?_
    exact Z_mem (by rfl) (by (subst h26; rfl)) (hR _ _ d_CT_lose_45)

set_option maxRecDepth 100000 in
set_option maxHeartbeats 4000000 in
theorem c_CT_phase {la : Launch} {G : zG} {I : zI} {J : zJ} {e : Nat} (he : e < 16) (h1 : p_th I (nI e) = true) : zCl la G y_CT_phase (Cond.code y_CT_phase prog_1_method_16_code 2 (some .long) :: TBL) (zR 3) [.ref (zad G 0), .int (nI e)] I J (J 58 e) (I) (J) := by
  refine zCl_of (by decide) (by simp [lg_sl, Value.category]) (fun X hla hX hR => ?_)
  subst hla
  refine Z_loc (l' := [(0, .ref (zad G 0)), (1, .int (nI e))]) (by simp [lv_args, Value.category, List.lookup]) ?_
  refine Z_aload_n (i := 0) hX d_CT_phase_0 rfl rfl ?_
  refine Z_getR (k0 := 0) hX d_CT_phase_1 rfl rfl u_CT (by decide) lk_CT_12 rfl ?_
  refine Z_iload_n (i := 1) hX d_CT_phase_4 rfl rfl ?_
  refine Z_cVi1 hX d_CT_phase_5 c_Pl_isThere m_Pl_isThere rfl rfl lk_CT_119 ⟨by decide, by decide⟩ ⟨by decide, by decide⟩ (Nat.le_of_ble_eq_true rfl) ?_
  refine Z_cSv1 hX d_CT_phase_8 (c_CT_refuseUnless h1) m_CT_refuseUnless rfl lk_CT_57 ⟨by decide, by decide⟩ ⟨by decide, by decide⟩ (Nat.le_of_ble_eq_true rfl) ?_
  refine Z_aload_n (i := 0) hX d_CT_phase_11 rfl rfl ?_
  refine Z_getR (k0 := 3) hX d_CT_phase_12 rfl rfl u_CT (by decide) lk_CT_31 rfl ?_
  refine Z_getR (k0 := 3) hX d_CT_phase_15 rfl rfl u_Ck (by decide) lk_CT_195 rfl ?_
  refine Z_iload_n (i := 1) hX d_CT_phase_18 rfl rfl ?_
  refine Z_lald hX d_CT_phase_19 rfl rfl (by omega) (by decide) ?_
  exact Z_rl (hR _ _ d_CT_phase_20) (by rfl) rfl rfl

set_option maxRecDepth 100000 in
set_option maxHeartbeats 4000000 in
theorem c_CT_sends {la : Launch} {G : zG} {I : zI} {J : zJ} {e p : Nat} (he : e < 16) (hp : p < 4) (h1 : p_po I (nI e) (nI p) = true) : zCi la G y_CT_sends (Cond.code y_CT_sends prog_1_method_17_code 3 (some .int) :: TBL) (zR 4) [.ref (zad G 0), .int (nI e), .int (nI p)] I J (I 22 (4 * e + p)) (I) (J) := by
  refine zCi_of (by decide) (by simp [lg_sl, Value.category]) (rfl) (fun X hla hX hR => ?_)
  subst hla
  refine Z_loc (l' := [(0, .ref (zad G 0)), (1, .int (nI e)), (2, .int (nI p))]) (by simp [lv_args, Value.category, List.lookup]) ?_
  refine Z_aload_n (i := 0) hX d_CT_sends_0 rfl rfl ?_
  refine Z_getR (k0 := 0) hX d_CT_sends_1 rfl rfl u_CT (by decide) lk_CT_12 rfl ?_
  refine Z_iload_n (i := 1) hX d_CT_sends_4 rfl rfl ?_
  refine Z_iload_n (i := 2) hX d_CT_sends_5 rfl rfl ?_
  refine Z_cVi2 hX d_CT_sends_6 c_Pl_isPort m_Pl_isPort rfl rfl lk_CT_85 ⟨by decide, by decide⟩ ⟨by decide, by decide⟩ (Nat.le_of_ble_eq_true rfl) ?_
  refine Z_cSv1 hX d_CT_sends_9 (c_CT_refuseUnless h1) m_CT_refuseUnless rfl lk_CT_57 ⟨by decide, by decide⟩ ⟨by decide, by decide⟩ (Nat.le_of_ble_eq_true rfl) ?_
  refine Z_aload_n (i := 0) hX d_CT_sends_12 rfl rfl ?_
  refine Z_getR (k0 := 1) hX d_CT_sends_13 rfl rfl u_CT (by decide) lk_CT_21 rfl ?_
  refine Z_getR (k0 := 2) hX d_CT_sends_16 rfl rfl u_Fl (by decide) lk_CT_199 rfl ?_
  refine Z_getR (k0 := 0) hX d_CT_sends_19 rfl rfl u_Wo (by decide) lk_CT_203 rfl ?_
  refine Z_iload_n (i := 1) hX d_CT_sends_22 rfl rfl ?_
  refine Z_iload_n (i := 2) hX d_CT_sends_23 rfl rfl ?_
  refine Z_cSi2 hX d_CT_sends_24 c_CT_slotOf m_CT_slotOf rfl lk_CT_89 ⟨by decide, by decide⟩ ⟨by decide, by decide⟩ (Nat.le_of_ble_eq_true rfl) ?_
  refine Z_iald hX d_CT_sends_27 rfl rfl (by omega) (by decide) ?_
  exact Z_ri (hR _ _ d_CT_sends_28) (by rfl) rfl rfl

set_option maxRecDepth 100000 in
set_option maxHeartbeats 4000000 in
theorem c_CT_traced {la : Launch} {G : zG} {I : zI} {J : zJ} {e : Nat} (he : e < 16) (h1 : p_th I (nI e) = true) (hL : okL I) (hK : ∀ e, e < 16 → okK I 16 e) : zCi la G y_CT_traced (Cond.code y_CT_traced prog_1_method_18_code 3 (some .int) :: TBL) (zR 3) [.ref (zad G 0), .int (nI e)] I J (if f_fo I 16 16 e = -2 then -1 else f_fo I 16 16 e) (I) (J) := by
  refine zCi_of (by decide) (by simp [lg_sl, Value.category]) (rfl) (fun X hla hX hR => ?_)
  subst hla
  refine Z_loc (l' := [(0, .ref (zad G 0)), (1, .int (nI e))]) (by simp [lv_args, Value.category, List.lookup]) ?_
  refine Z_aload_n (i := 0) hX d_CT_traced_0 rfl rfl ?_
  refine Z_getR (k0 := 0) hX d_CT_traced_1 rfl rfl u_CT (by decide) lk_CT_12 rfl ?_
  refine Z_iload_n (i := 1) hX d_CT_traced_4 rfl rfl ?_
  refine Z_cVi1 hX d_CT_traced_5 c_Pl_isThere m_Pl_isThere rfl rfl lk_CT_119 ⟨by decide, by decide⟩ ⟨by decide, by decide⟩ (Nat.le_of_ble_eq_true rfl) ?_
  refine Z_cSv1 hX d_CT_traced_8 (c_CT_refuseUnless h1) m_CT_refuseUnless rfl lk_CT_57 ⟨by decide, by decide⟩ ⟨by decide, by decide⟩ (Nat.le_of_ble_eq_true rfl) ?_
  refine Z_aload_n (i := 0) hX d_CT_traced_11 rfl rfl ?_
  refine Z_getR (k0 := 1) hX d_CT_traced_12 rfl rfl u_CT (by decide) lk_CT_21 rfl ?_
  refine Z_iload_n (i := 1) hX d_CT_traced_15 rfl rfl ?_
  refine Z_cVi1 hX d_CT_traced_16 (c_Fl_follow (Or.inl rfl) he hL hK) m_Fl_follow rfl rfl lk_CT_206 ⟨by decide, by decide⟩ ⟨by decide, by decide⟩ (Nat.le_of_ble_eq_true rfl) ?_
  refine Z_istore_n (i := 2) hX d_CT_traced_19 rfl (by decide) rfl ?_
  refine Z_iload_n (i := 2) hX d_CT_traced_20 rfl rfl ?_
  refine Z_bipush (v := (-2)) hX d_CT_traced_21 rfl ?_
  refine Z_icne (tgt := 30) hX d_CT_traced_23 rfl (fun h23 => ?_) (fun h23 => ?_)
  · refine Z_iload_n (i := 2) hX d_CT_traced_30 rfl rfl ?_
    exact Z_ri (hR _ _ d_CT_traced_31) (by exact (if_neg h23).symm) rfl rfl
  · refine Z_iconst (v := (-1)) hX d_CT_traced_26 rfl ?_
    refine Z_goto (tgt := 31) hX d_CT_traced_27 rfl ?_
    exact Z_ri (hR _ _ d_CT_traced_31) (by exact (if_pos h23).symm) rfl rfl

set_option maxRecDepth 100000 in
set_option maxHeartbeats 4000000 in
theorem c_CT_best {la : Launch} {G : zG} {I : zI} {J : zJ} {e m : Nat} (he : e < 16) (h1 : p_th I (nI e) = true) (hE : okE I m) : zCi la G y_CT_best (Cond.code y_CT_best prog_1_method_20_code 2 (some .int) :: TBL) (zR 5) [.ref (zad G 0), .int (nI e)] I J (f_br I 16 m e) (I) (J) := by
  refine zCi_of (by decide) (by simp [lg_sl, Value.category]) (rfl) (fun X hla hX hR => ?_)
  subst hla
  refine Z_loc (l' := [(0, .ref (zad G 0)), (1, .int (nI e))]) (by simp [lv_args, Value.category, List.lookup]) ?_
  refine Z_aload_n (i := 0) hX d_CT_best_0 rfl rfl ?_
  refine Z_getR (k0 := 0) hX d_CT_best_1 rfl rfl u_CT (by decide) lk_CT_12 rfl ?_
  refine Z_iload_n (i := 1) hX d_CT_best_4 rfl rfl ?_
  refine Z_cVi1 hX d_CT_best_5 c_Pl_isThere m_Pl_isThere rfl rfl lk_CT_119 ⟨by decide, by decide⟩ ⟨by decide, by decide⟩ (Nat.le_of_ble_eq_true rfl) ?_
  refine Z_cSv1 hX d_CT_best_8 (c_CT_refuseUnless h1) m_CT_refuseUnless rfl lk_CT_57 ⟨by decide, by decide⟩ ⟨by decide, by decide⟩ (Nat.le_of_ble_eq_true rfl) ?_
  refine Z_aload_n (i := 0) hX d_CT_best_11 rfl rfl ?_
  refine Z_getR (k0 := 1) hX d_CT_best_12 rfl rfl u_CT (by decide) lk_CT_21 rfl ?_
  refine Z_iload_n (i := 1) hX d_CT_best_15 rfl rfl ?_
  refine Z_cVi1 hX d_CT_best_16 (c_Fl_bestReached (Or.inl rfl) he hE) m_Fl_bestReached rfl rfl lk_CT_209 ⟨by decide, by decide⟩ ⟨by decide, by decide⟩ (Nat.le_of_ble_eq_true rfl) ?_
  exact Z_ri (hR _ _ d_CT_best_19) (by rfl) rfl rfl

set_option maxRecDepth 100000 in
set_option maxHeartbeats 4000000 in
theorem c_CT_finding {la : Launch} {G : zG} {I : zI} {J : zJ} {k : Nat} (hk : k < 100) {w : Int32} (h1 : (p_in (nI k) 0 (I 0 7 - 1) && p_in w 0 1) = true) : zCi la G y_CT_finding (Cond.code y_CT_finding prog_1_method_22_code 3 (some .int) :: TBL) (zR 2) [.ref (zad G 0), .int (nI k), .int w] I J (if w = 0 then I 62 k else I 63 k) (I) (J) := by
  refine zCi_of (by decide) (by simp [lg_sl, Value.category]) (rfl) (fun X hla hX hR => ?_)
  subst hla
  refine Z_loc (l' := [(0, .ref (zad G 0)), (1, .int (nI k)), (2, .int w)]) (by simp [lv_args, Value.category, List.lookup]) ?_
  refine Z_cutw (pc' := 28) (w := zB (p_in (nI k) 0 (I 0 7 - 1) && p_in w 0 1)) ?_ (fun hJ28 => ?_)
  · refine Z_id ?_
    refine Z_cSv1 hX d_CT_finding_28 (c_CT_refuseUnless h1) m_CT_refuseUnless rfl lk_CT_57 ⟨by decide, by decide⟩ ⟨by decide, by decide⟩ (Nat.le_of_ble_eq_true rfl) ?_
    refine Z_iload_n (i := 2) hX d_CT_finding_31 rfl rfl ?_
    refine Z_ifne (tgt := 44) hX d_CT_finding_32 rfl (fun h32 => ?_) (fun h32 => ?_)
    · refine Z_aload_n (i := 0) hX d_CT_finding_44 rfl rfl ?_
      refine Z_getR (k0 := 6) hX d_CT_finding_45 rfl rfl u_CT (by decide) lk_CT_46 rfl ?_
      refine Z_iload_n (i := 1) hX d_CT_finding_48 rfl rfl ?_
      refine Z_iald hX d_CT_finding_49 rfl rfl (by omega) (by decide) ?_
      exact Z_ri (hR _ _ d_CT_finding_50) (by exact (if_neg h32).symm) rfl rfl
    · refine Z_aload_n (i := 0) hX d_CT_finding_35 rfl rfl ?_
      refine Z_getR (k0 := 5) hX d_CT_finding_36 rfl rfl u_CT (by decide) lk_CT_42 rfl ?_
      refine Z_iload_n (i := 1) hX d_CT_finding_39 rfl rfl ?_
      refine Z_iald hX d_CT_finding_40 rfl rfl (by omega) (by decide) ?_
      refine Z_goto (tgt := 50) hX d_CT_finding_41 rfl ?_
      exact Z_ri (hR _ _ d_CT_finding_50) (by exact (if_pos h32).symm) rfl rfl
  · refine Z_iload_n (i := 1) hX d_CT_finding_0 rfl rfl ?_
    refine Z_iconst (v := 0) hX d_CT_finding_1 rfl ?_
    refine Z_aload_n (i := 0) hX d_CT_finding_2 rfl rfl ?_
    refine Z_getI (k0 := 7) hX d_CT_finding_3 rfl rfl u_CT (by decide) lk_CT_49 rfl ?_
    refine Z_iconst (v := 1) hX d_CT_finding_6 rfl ?_
    refine Z_isub hX d_CT_finding_7 ?_
    refine Z_cSi3 hX d_CT_finding_8 c_CT_isWithin m_CT_isWithin rfl lk_CT_53 ⟨by decide, by decide⟩ ⟨by decide, by decide⟩ (Nat.le_of_ble_eq_true rfl) ?_
    refine Z_ifeqB (tgt := 27) hX d_CT_finding_11 rfl (fun h11 => ?_) (fun h11 => ?_)
    · refine Z_iconst (v := 0) hX d_CT_finding_27 rfl ?_
      exact hJ28 _ (by simp [zB, h11])
    · refine Z_iload_n (i := 2) hX d_CT_finding_14 rfl rfl ?_
      refine Z_iconst (v := 0) hX d_CT_finding_15 rfl ?_
      refine Z_iconst (v := 1) hX d_CT_finding_16 rfl ?_
      refine Z_cSi3 hX d_CT_finding_17 c_CT_isWithin m_CT_isWithin rfl lk_CT_53 ⟨by decide, by decide⟩ ⟨by decide, by decide⟩ (Nat.le_of_ble_eq_true rfl) ?_
      refine Z_ifeqB (tgt := 27) hX d_CT_finding_20 rfl (fun h20 => ?_) (fun h20 => ?_)
      · refine Z_iconst (v := 0) hX d_CT_finding_27 rfl ?_
        exact hJ28 _ (by simp [zB, h11, h20])
      · refine Z_iconst (v := 1) hX d_CT_finding_23 rfl ?_
        refine Z_goto (tgt := 28) hX d_CT_finding_24 rfl ?_
        exact hJ28 _ (by simp [zB, h11, h20])

set_option maxRecDepth 100000 in
set_option maxHeartbeats 4000000 in
theorem c_CT_state_0 {la : Launch} {G : zG} {I : zI} {J : zJ} {e : Nat} (he : e < 16) (h1 : p_th I (nI e) = true) : zCi la G y_CT_state (Cond.code y_CT_state prog_1_method_15_code 3 (some .int) :: TBL) (zR 3) [.ref (zad G 0), .int (nI e), .int 0] I J (f_sc I 16 e) (I) (J) := by
  refine zCi_of (by decide) (by simp [lg_sl, Value.category]) (rfl) (fun X hla hX hR => ?_)
  subst hla
  refine Z_loc (l' := [(0, .ref (zad G 0)), (1, .int (nI e)), (2, .int 0)]) (by simp [lv_args, Value.category, List.lookup]) ?_
  refine Z_aload_n (i := 0) hX d_CT_state_0 rfl rfl ?_
  refine Z_getR (k0 := 0) hX d_CT_state_1 rfl rfl u_CT (by decide) lk_CT_12 rfl ?_
  refine Z_iload_n (i := 1) hX d_CT_state_4 rfl rfl ?_
  refine Z_cVi1 hX d_CT_state_5 c_Pl_isThere m_Pl_isThere rfl rfl lk_CT_119 ⟨by decide, by decide⟩ ⟨by decide, by decide⟩ (Nat.le_of_ble_eq_true rfl) ?_
  refine Z_cSv1 hX d_CT_state_8 (c_CT_refuseUnless h1) m_CT_refuseUnless rfl lk_CT_57 ⟨by decide, by decide⟩ ⟨by decide, by decide⟩ (Nat.le_of_ble_eq_true rfl) ?_
  refine Z_iload_n (i := 2) hX d_CT_state_11 rfl rfl ?_
  refine Z_tabIn (tgt := 48) (off := 36) hX d_CT_state_12 (by decide) (by decide) (by decide) rfl ?_
  refine Z_aload_n (i := 0) hX d_CT_state_48 rfl rfl ?_
  refine Z_getR (k0 := 1) hX d_CT_state_49 rfl rfl u_CT (by decide) lk_CT_21 rfl ?_
  refine Z_iload_n (i := 1) hX d_CT_state_52 rfl rfl ?_
  refine Z_cVi1 hX d_CT_state_53 (c_Fl_shownCondition (Or.inl rfl) (by omega)) m_Fl_shownCondition rfl rfl lk_CT_176 ⟨by decide, by decide⟩ ⟨by decide, by decide⟩ (Nat.le_of_ble_eq_true rfl) ?_
  exact Z_ri (hR _ _ d_CT_state_56) (by rfl) rfl rfl

set_option maxRecDepth 100000 in
set_option maxHeartbeats 4000000 in
theorem c_CT_state_1 {la : Launch} {G : zG} {I : zI} {J : zJ} {e : Nat} (he : e < 16) (h1 : p_th I (nI e) = true) : zCi la G y_CT_state (Cond.code y_CT_state prog_1_method_15_code 3 (some .int) :: TBL) (zR 3) [.ref (zad G 0), .int (nI e), .int 1] I J (I 32 e) (I) (J) := by
  refine zCi_of (by decide) (by simp [lg_sl, Value.category]) (rfl) (fun X hla hX hR => ?_)
  subst hla
  refine Z_loc (l' := [(0, .ref (zad G 0)), (1, .int (nI e)), (2, .int 1)]) (by simp [lv_args, Value.category, List.lookup]) ?_
  refine Z_aload_n (i := 0) hX d_CT_state_0 rfl rfl ?_
  refine Z_getR (k0 := 0) hX d_CT_state_1 rfl rfl u_CT (by decide) lk_CT_12 rfl ?_
  refine Z_iload_n (i := 1) hX d_CT_state_4 rfl rfl ?_
  refine Z_cVi1 hX d_CT_state_5 c_Pl_isThere m_Pl_isThere rfl rfl lk_CT_119 ⟨by decide, by decide⟩ ⟨by decide, by decide⟩ (Nat.le_of_ble_eq_true rfl) ?_
  refine Z_cSv1 hX d_CT_state_8 (c_CT_refuseUnless h1) m_CT_refuseUnless rfl lk_CT_57 ⟨by decide, by decide⟩ ⟨by decide, by decide⟩ (Nat.le_of_ble_eq_true rfl) ?_
  refine Z_iload_n (i := 2) hX d_CT_state_11 rfl rfl ?_
  refine Z_tabIn (tgt := 57) (off := 45) hX d_CT_state_12 (by decide) (by decide) (by decide) rfl ?_
  refine Z_aload_n (i := 0) hX d_CT_state_57 rfl rfl ?_
  refine Z_getR (k0 := 1) hX d_CT_state_58 rfl rfl u_CT (by decide) lk_CT_21 rfl ?_
  refine Z_getR (k0 := 7) hX d_CT_state_61 rfl rfl u_Fl (by decide) lk_CT_180 rfl ?_
  refine Z_iload_n (i := 1) hX d_CT_state_64 rfl rfl ?_
  refine Z_iald hX d_CT_state_65 rfl rfl (by omega) (by decide) ?_
  exact Z_ri (hR _ _ d_CT_state_66) (by rfl) rfl rfl

set_option maxRecDepth 100000 in
set_option maxHeartbeats 4000000 in
theorem c_CT_state_2 {la : Launch} {G : zG} {I : zI} {J : zJ} {e : Nat} (he : e < 16) (h1 : p_th I (nI e) = true) : zCi la G y_CT_state (Cond.code y_CT_state prog_1_method_15_code 3 (some .int) :: TBL) (zR 3) [.ref (zad G 0), .int (nI e), .int 2] I J (I 33 e) (I) (J) := by
  refine zCi_of (by decide) (by simp [lg_sl, Value.category]) (rfl) (fun X hla hX hR => ?_)
  subst hla
  refine Z_loc (l' := [(0, .ref (zad G 0)), (1, .int (nI e)), (2, .int 2)]) (by simp [lv_args, Value.category, List.lookup]) ?_
  refine Z_aload_n (i := 0) hX d_CT_state_0 rfl rfl ?_
  refine Z_getR (k0 := 0) hX d_CT_state_1 rfl rfl u_CT (by decide) lk_CT_12 rfl ?_
  refine Z_iload_n (i := 1) hX d_CT_state_4 rfl rfl ?_
  refine Z_cVi1 hX d_CT_state_5 c_Pl_isThere m_Pl_isThere rfl rfl lk_CT_119 ⟨by decide, by decide⟩ ⟨by decide, by decide⟩ (Nat.le_of_ble_eq_true rfl) ?_
  refine Z_cSv1 hX d_CT_state_8 (c_CT_refuseUnless h1) m_CT_refuseUnless rfl lk_CT_57 ⟨by decide, by decide⟩ ⟨by decide, by decide⟩ (Nat.le_of_ble_eq_true rfl) ?_
  refine Z_iload_n (i := 2) hX d_CT_state_11 rfl rfl ?_
  refine Z_tabIn (tgt := 67) (off := 55) hX d_CT_state_12 (by decide) (by decide) (by decide) rfl ?_
  refine Z_aload_n (i := 0) hX d_CT_state_67 rfl rfl ?_
  refine Z_getR (k0 := 1) hX d_CT_state_68 rfl rfl u_CT (by decide) lk_CT_21 rfl ?_
  refine Z_getR (k0 := 8) hX d_CT_state_71 rfl rfl u_Fl (by decide) lk_CT_183 rfl ?_
  refine Z_iload_n (i := 1) hX d_CT_state_74 rfl rfl ?_
  refine Z_iald hX d_CT_state_75 rfl rfl (by omega) (by decide) ?_
  exact Z_ri (hR _ _ d_CT_state_76) (by rfl) rfl rfl

set_option maxRecDepth 100000 in
set_option maxHeartbeats 4000000 in
theorem c_CT_state_3 {la : Launch} {G : zG} {I : zI} {J : zJ} {e : Nat} (he : e < 16) (h1 : p_th I (nI e) = true) : zCi la G y_CT_state (Cond.code y_CT_state prog_1_method_15_code 3 (some .int) :: TBL) (zR 3) [.ref (zad G 0), .int (nI e), .int 3] I J (I 34 e) (I) (J) := by
  refine zCi_of (by decide) (by simp [lg_sl, Value.category]) (rfl) (fun X hla hX hR => ?_)
  subst hla
  refine Z_loc (l' := [(0, .ref (zad G 0)), (1, .int (nI e)), (2, .int 3)]) (by simp [lv_args, Value.category, List.lookup]) ?_
  refine Z_aload_n (i := 0) hX d_CT_state_0 rfl rfl ?_
  refine Z_getR (k0 := 0) hX d_CT_state_1 rfl rfl u_CT (by decide) lk_CT_12 rfl ?_
  refine Z_iload_n (i := 1) hX d_CT_state_4 rfl rfl ?_
  refine Z_cVi1 hX d_CT_state_5 c_Pl_isThere m_Pl_isThere rfl rfl lk_CT_119 ⟨by decide, by decide⟩ ⟨by decide, by decide⟩ (Nat.le_of_ble_eq_true rfl) ?_
  refine Z_cSv1 hX d_CT_state_8 (c_CT_refuseUnless h1) m_CT_refuseUnless rfl lk_CT_57 ⟨by decide, by decide⟩ ⟨by decide, by decide⟩ (Nat.le_of_ble_eq_true rfl) ?_
  refine Z_iload_n (i := 2) hX d_CT_state_11 rfl rfl ?_
  refine Z_tabIn (tgt := 77) (off := 65) hX d_CT_state_12 (by decide) (by decide) (by decide) rfl ?_
  refine Z_aload_n (i := 0) hX d_CT_state_77 rfl rfl ?_
  refine Z_getR (k0 := 1) hX d_CT_state_78 rfl rfl u_CT (by decide) lk_CT_21 rfl ?_
  refine Z_getR (k0 := 9) hX d_CT_state_81 rfl rfl u_Fl (by decide) lk_CT_186 rfl ?_
  refine Z_iload_n (i := 1) hX d_CT_state_84 rfl rfl ?_
  refine Z_iald hX d_CT_state_85 rfl rfl (by omega) (by decide) ?_
  exact Z_ri (hR _ _ d_CT_state_86) (by rfl) rfl rfl

set_option maxRecDepth 100000 in
set_option maxHeartbeats 4000000 in
theorem c_CT_state_4 {la : Launch} {G : zG} {I : zI} {J : zJ} {e : Nat} (he : e < 16) (h1 : p_th I (nI e) = true) : zCi la G y_CT_state (Cond.code y_CT_state prog_1_method_15_code 3 (some .int) :: TBL) (zR 3) [.ref (zad G 0), .int (nI e), .int 4] I J (I 55 e) (I) (J) := by
  refine zCi_of (by decide) (by simp [lg_sl, Value.category]) (rfl) (fun X hla hX hR => ?_)
  subst hla
  refine Z_loc (l' := [(0, .ref (zad G 0)), (1, .int (nI e)), (2, .int 4)]) (by simp [lv_args, Value.category, List.lookup]) ?_
  refine Z_aload_n (i := 0) hX d_CT_state_0 rfl rfl ?_
  refine Z_getR (k0 := 0) hX d_CT_state_1 rfl rfl u_CT (by decide) lk_CT_12 rfl ?_
  refine Z_iload_n (i := 1) hX d_CT_state_4 rfl rfl ?_
  refine Z_cVi1 hX d_CT_state_5 c_Pl_isThere m_Pl_isThere rfl rfl lk_CT_119 ⟨by decide, by decide⟩ ⟨by decide, by decide⟩ (Nat.le_of_ble_eq_true rfl) ?_
  refine Z_cSv1 hX d_CT_state_8 (c_CT_refuseUnless h1) m_CT_refuseUnless rfl lk_CT_57 ⟨by decide, by decide⟩ ⟨by decide, by decide⟩ (Nat.le_of_ble_eq_true rfl) ?_
  refine Z_iload_n (i := 2) hX d_CT_state_11 rfl rfl ?_
  refine Z_tabIn (tgt := 87) (off := 75) hX d_CT_state_12 (by decide) (by decide) (by decide) rfl ?_
  refine Z_aload_n (i := 0) hX d_CT_state_87 rfl rfl ?_
  refine Z_getR (k0 := 3) hX d_CT_state_88 rfl rfl u_CT (by decide) lk_CT_31 rfl ?_
  refine Z_getR (k0 := 0) hX d_CT_state_91 rfl rfl u_Ck (by decide) lk_CT_187 rfl ?_
  refine Z_iload_n (i := 1) hX d_CT_state_94 rfl rfl ?_
  refine Z_iald hX d_CT_state_95 rfl rfl (by omega) (by decide) ?_
  exact Z_ri (hR _ _ d_CT_state_96) (by rfl) rfl rfl

set_option maxRecDepth 100000 in
set_option maxHeartbeats 4000000 in
theorem c_CT_rounds {la : Launch} {G : zG} {I : zI} {J : zJ} {n : Nat} (hn : n < 1000) (h1 : p_in (nI n) 1 200 = true) (hP : okP I) (hK : ∀ e, e < 16 → okK I 16 e) (hKs : ∀ i e, i < n → e < 16 → okK (f_ro (c_rn I J i).1 (c_rn I J i).2 16) 16 e) : zCi la G y_CT_rounds (Cond.code y_CT_rounds prog_1_method_13_code 3 (some .int) :: TBL) (zR 6) [.ref (zad G 0), .int (nI n)] I J ((c_rn I J n).1 59 2) ((c_rn I J n).1) ((c_rn I J n).2) := by
  refine zCi_of (by decide) (by simp [lg_sl, Value.category]) (rfl) (fun X hla hX hR => ?_)
  subst hla
  refine Z_loc (l' := [(0, .ref (zad G 0)), (1, .int (nI n))]) (by simp [lv_args, Value.category, List.lookup]) ?_
  refine Z_iload_n (i := 1) hX d_CT_rounds_0 rfl rfl ?_
  refine Z_iconst (v := 1) hX d_CT_rounds_1 rfl ?_
  refine Z_sipush (v := 200) hX d_CT_rounds_2 rfl ?_
  refine Z_cSi3 hX d_CT_rounds_5 c_CT_isWithin m_CT_isWithin rfl lk_CT_53 ⟨by decide, by decide⟩ ⟨by decide, by decide⟩ (Nat.le_of_ble_eq_true rfl) ?_
  refine Z_cSv1 hX d_CT_rounds_8 (c_CT_refuseUnless h1) m_CT_refuseUnless rfl lk_CT_57 ⟨by decide, by decide⟩ ⟨by decide, by decide⟩ (Nat.le_of_ble_eq_true rfl) ?_
  refine Z_iconst (v := nI 0) hX d_CT_rounds_11 rfl ?_
  refine Z_istore_n (i := 2) hX d_CT_rounds_12 rfl (by decide) rfl ?_
  have hL13 : ∀ k i : Nat, k + i = n → Z X G 3 0 0 13 [(2, .int (nI i)), (1, .int (nI n)), (0, .ref (zad G 0))] [] (c_rn I J i).1 (c_rn I J i).2 := by
    intro k
    induction k with
    | zero =>
      intro i hi
      obtain rfl : n = i := by omega
      refine Z_iload_n (i := 2) hX d_CT_rounds_13 rfl rfl ?_
      refine Z_iload_n (i := 1) hX d_CT_rounds_14 rfl rfl ?_
      refine Z_icge (tgt := 57) hX d_CT_rounds_15 rfl (fun h15 => ?_) (fun h => absurd (nI_le (Nat.le_refl _) (by omega)) h)
      refine Z_aload_n (i := 0) hX d_CT_rounds_57 rfl rfl ?_
      refine Z_getR (k0 := 4) hX d_CT_rounds_58 rfl rfl u_CT (by decide) lk_CT_38 rfl ?_
      refine Z_getI (k0 := 2) hX d_CT_rounds_61 rfl rfl u_Ca (by decide) lk_CT_173 rfl ?_
      exact Z_ri (hR _ _ d_CT_rounds_64) (by rfl) (by rfl) (by rfl)
    | succ k ih =>
      intro i hi
      have hi2 : i < n := by omega
      have hPi : okP (c_rn I J i).1 := okP_of (fun c hc => fr_rn (by omega) i) hP
      refine Z_iload_n (i := 2) hX d_CT_rounds_13 rfl rfl ?_
      refine Z_iload_n (i := 1) hX d_CT_rounds_14 rfl rfl ?_
      refine Z_icge (tgt := 57) hX d_CT_rounds_15 rfl (fun h => absurd h (nI_ge hi2 (by omega))) (fun h15 => ?_)
      refine Z_aload_n (i := 0) hX d_CT_rounds_18 rfl rfl ?_
      refine Z_getR (k0 := 1) hX d_CT_rounds_19 rfl rfl u_CT (by decide) lk_CT_21 rfl ?_
      refine Z_cVv0 hX d_CT_rounds_22 (c_Fl_passRound (Or.inl rfl) hPi) m_Fl_passRound rfl rfl lk_CT_164 ⟨by decide, by decide⟩ ⟨by decide, by decide⟩ (Nat.le_of_ble_eq_true rfl) ?_
      refine Z_aload_n (i := 0) hX d_CT_rounds_25 rfl rfl ?_
      refine Z_getR (k0 := 3) hX d_CT_rounds_26 rfl rfl u_CT (by decide) lk_CT_31 rfl ?_
      refine Z_aload_n (i := 0) hX d_CT_rounds_29 rfl rfl ?_
      refine Z_getR (k0 := 0) hX d_CT_rounds_30 rfl rfl u_CT (by decide) lk_CT_12 rfl ?_
      refine Z_aload_n (i := 0) hX d_CT_rounds_33 rfl rfl ?_
      refine Z_getR (k0 := 1) hX d_CT_rounds_34 rfl rfl u_CT (by decide) lk_CT_21 rfl ?_
      refine Z_cVv2 hX d_CT_rounds_37 (c_Ck_passRound (okL_of (fr_ro (by omega)) (fr_ro (by omega)) hPi.1) (fun e he => hKs i e hi2 he)) m_Ck_passRound rfl rfl lk_CT_167 ⟨by decide, by decide⟩ ⟨by decide, by decide⟩ (Nat.le_of_ble_eq_true rfl) ?_
      refine Z_aload_n (i := 0) hX d_CT_rounds_40 rfl rfl ?_
      refine Z_getR (k0 := 4) hX d_CT_rounds_41 rfl rfl u_CT (by decide) lk_CT_38 rfl ?_
      refine Z_aload_n (i := 0) hX d_CT_rounds_44 rfl rfl ?_
      refine Z_getR (k0 := 1) hX d_CT_rounds_45 rfl rfl u_CT (by decide) lk_CT_21 rfl ?_
      refine Z_cVv1 hX d_CT_rounds_48 c_Ca_passRound m_Ca_passRound rfl rfl lk_CT_170 ⟨by decide, by decide⟩ ⟨by decide, by decide⟩ (Nat.le_of_ble_eq_true rfl) ?_
      refine Z_iinc (v := nI (i + 1)) hX d_CT_rounds_51 rfl (by rw [nI_succ]; rfl) (by decide) rfl ?_
      refine Z_goto (tgt := 13) hX d_CT_rounds_54 rfl ?_
      refine Z_loc ?_ (Z_mem ?_ ?_ (ih (i + 1) (by omega)))
      · rfl
      · rw [c_rn_1]
      · rw [c_rn_2]
  refine Z_loc ?_ (Z_mem ?_ ?_ (hL13 n 0 (by omega)))
  · rfl
  · rw [c_rn]
  · rw [c_rn]
