/-! The class's calls where they are refused: they throw, and the world is as it was. -/
def zRx (d : Nat) : Room := { frames := d, cells := 1, slots := 6, locals := 36 * d + 30 }
theorem p_out {w : Int32} (h : p_in w 0 4 = false) : w.toInt < 0 ∨ 4 < w.toInt := by
  unfold p_in at h
  simp only [Bool.and_eq_false_iff, decide_eq_false_iff_not, Decidable.not_not] at h
  rcases h with h | h
  · exact Or.inl (Int32.lt_iff_toInt_lt.mp h)
  · exact Or.inr (Int32.lt_iff_toInt_lt.mp h)
set_option maxRecDepth 100000 in
set_option maxHeartbeats 4000000 in
theorem c_CT_refuseUnless_x {la : Launch} (hst : la.stackTraces = false) {G : zG} {I : zI} {J : zJ} {w : Bool} (hw : w = false) : zCx la G y_CT_refuseUnless (Cond.code y_CT_refuseUnless prog_1_method_24_code 1 none :: TBL) (zRx 6) [.int (zB w)] I J zIA := by
  refine zCx_of hst (by decide) (by simp [lg_sl, Value.category]) (fun X hla hX hO hN hE => ?_)
  subst hla
  refine Z_loc (l' := [(0, .int (zB w))]) (by simp [lv_args, Value.category, List.lookup]) ?_
  refine Z_iload_n (i := 0) hX d_CT_refuseUnless_0 rfl rfl ?_
  refine Z_ifne (tgt := 14) hX d_CT_refuseUnless_1 rfl (fun h => absurd ((zB_ne h).symm.trans hw) (by decide)) (fun h1 => ?_)
  exact Z_throw (ic := 194) hX hO hN hE (by decide) ow_IA kl_IA in_IA is_IA (List.mem_of_getElem? (i := 0) rfl) d_CT_refuseUnless_4 d_CT_refuseUnless_7 d_CT_refuseUnless_8 d_CT_refuseUnless_10 d_CT_refuseUnless_13 ⟨by decide, by decide⟩ ⟨by decide, by decide⟩ (Nat.le_of_ble_eq_true rfl)

set_option maxRecDepth 100000 in
set_option maxHeartbeats 4000000 in
theorem c_CT_element_x1 {la : Launch} (hst : la.stackTraces = false) {G : zG} {I : zI} {J : zJ} {e q o s : Int32} (h1 : (p_in e 0 15 && p_in q 0 6) = false) : zCx la G y_CT_element (Cond.code y_CT_element prog_1_method_2_code 5 none :: TBL) (zRx 7) [.ref (zad G 0), .int e, .int q, .int o, .int s] I J zIA := by
  refine zCx_of hst (by decide) (by simp [lg_sl, Value.category]) (fun X hla hX hO hN hE => ?_)
  subst hla
  refine Z_loc (l' := [(0, .ref (zad G 0)), (1, .int e), (2, .int q), (3, .int o), (4, .int s)]) (by simp [lv_args, Value.category, List.lookup]) ?_
  refine Z_cutw (pc' := 25) (w := zB (p_in e 0 15 && p_in q 0 6)) ?_ (fun hJ25 => ?_)
  · refine Z_id ?_
    exact Z_cSx (As := [.int (zB (p_in e 0 15 && p_in q 0 6))]) hX hO d_CT_element_25 (c_CT_refuseUnless_x hst h1) m_CT_refuseUnless rfl lk_CT_57 ⟨by decide, by decide⟩ ⟨by decide, by decide⟩ (Nat.le_of_ble_eq_true rfl) (Zx_out hX hN hE)
  · refine Z_iload_n (i := 1) hX d_CT_element_0 rfl rfl ?_
    refine Z_iconst (v := 0) hX d_CT_element_1 rfl ?_
    refine Z_bipush (v := 15) hX d_CT_element_2 rfl ?_
    refine Z_cSi3 hX d_CT_element_4 c_CT_isWithin m_CT_isWithin rfl lk_CT_53 ⟨by decide, by decide⟩ ⟨by decide, by decide⟩ (Nat.le_of_ble_eq_true rfl) ?_
    refine Z_ifeqB (tgt := 24) hX d_CT_element_7 rfl (fun h7 => ?_) (fun h7 => ?_)
    · refine Z_iconst (v := 0) hX d_CT_element_24 rfl ?_
      exact hJ25 _ (by simp [zB, h7])
    · refine Z_iload_n (i := 2) hX d_CT_element_10 rfl rfl ?_
      refine Z_iconst (v := 0) hX d_CT_element_11 rfl ?_
      refine Z_bipush (v := 6) hX d_CT_element_12 rfl ?_
      refine Z_cSi3 hX d_CT_element_14 c_CT_isWithin m_CT_isWithin rfl lk_CT_53 ⟨by decide, by decide⟩ ⟨by decide, by decide⟩ (Nat.le_of_ble_eq_true rfl) ?_
      refine Z_ifeqB (tgt := 24) hX d_CT_element_17 rfl (fun h17 => ?_) (fun h17 => ?_)
      · refine Z_iconst (v := 0) hX d_CT_element_24 rfl ?_
        exact hJ25 _ (by simp [zB, h7, h17])
      · refine Z_iconst (v := 1) hX d_CT_element_20 rfl ?_
        refine Z_goto (tgt := 25) hX d_CT_element_21 rfl ?_
        exact hJ25 _ (by simp [zB, h7, h17])

set_option maxRecDepth 100000 in
set_option maxHeartbeats 4000000 in
theorem c_CT_element_x2 {la : Launch} (hst : la.stackTraces = false) {G : zG} {I : zI} {J : zJ} {e q o s : Int32} (h1 : (p_in e 0 15 && p_in q 0 6) = true) (h2 : p_in o (-1000) 1000 = false) : zCx la G y_CT_element (Cond.code y_CT_element prog_1_method_2_code 5 none :: TBL) (zRx 7) [.ref (zad G 0), .int e, .int q, .int o, .int s] I J zIA := by
  refine zCx_of hst (by decide) (by simp [lg_sl, Value.category]) (fun X hla hX hO hN hE => ?_)
  subst hla
  refine Z_loc (l' := [(0, .ref (zad G 0)), (1, .int e), (2, .int q), (3, .int o), (4, .int s)]) (by simp [lv_args, Value.category, List.lookup]) ?_
  refine Z_cutw (pc' := 25) (w := zB (p_in e 0 15 && p_in q 0 6)) ?_ (fun hJ25 => ?_)
  · refine Z_id ?_
    refine Z_cSv1 hX d_CT_element_25 (c_CT_refuseUnless h1) m_CT_refuseUnless rfl lk_CT_57 ⟨by decide, by decide⟩ ⟨by decide, by decide⟩ (Nat.le_of_ble_eq_true rfl) ?_
    refine Z_iload_n (i := 3) hX d_CT_element_28 rfl rfl ?_
    refine Z_sipush (v := (-1000)) hX d_CT_element_29 rfl ?_
    refine Z_sipush (v := 1000) hX d_CT_element_32 rfl ?_
    refine Z_cSi3 hX d_CT_element_35 c_CT_isWithin m_CT_isWithin rfl lk_CT_53 ⟨by decide, by decide⟩ ⟨by decide, by decide⟩ (Nat.le_of_ble_eq_true rfl) ?_
    exact Z_cSx (As := [.int (zB (p_in o (-1000) 1000))]) hX hO d_CT_element_38 (c_CT_refuseUnless_x hst h2) m_CT_refuseUnless rfl lk_CT_57 ⟨by decide, by decide⟩ ⟨by decide, by decide⟩ (Nat.le_of_ble_eq_true rfl) (Zx_out hX hN hE)
  · refine Z_iload_n (i := 1) hX d_CT_element_0 rfl rfl ?_
    refine Z_iconst (v := 0) hX d_CT_element_1 rfl ?_
    refine Z_bipush (v := 15) hX d_CT_element_2 rfl ?_
    refine Z_cSi3 hX d_CT_element_4 c_CT_isWithin m_CT_isWithin rfl lk_CT_53 ⟨by decide, by decide⟩ ⟨by decide, by decide⟩ (Nat.le_of_ble_eq_true rfl) ?_
    refine Z_ifeqB (tgt := 24) hX d_CT_element_7 rfl (fun h7 => ?_) (fun h7 => ?_)
    · refine Z_iconst (v := 0) hX d_CT_element_24 rfl ?_
      exact hJ25 _ (by simp [zB, h7])
    · refine Z_iload_n (i := 2) hX d_CT_element_10 rfl rfl ?_
      refine Z_iconst (v := 0) hX d_CT_element_11 rfl ?_
      refine Z_bipush (v := 6) hX d_CT_element_12 rfl ?_
      refine Z_cSi3 hX d_CT_element_14 c_CT_isWithin m_CT_isWithin rfl lk_CT_53 ⟨by decide, by decide⟩ ⟨by decide, by decide⟩ (Nat.le_of_ble_eq_true rfl) ?_
      refine Z_ifeqB (tgt := 24) hX d_CT_element_17 rfl (fun h17 => ?_) (fun h17 => ?_)
      · refine Z_iconst (v := 0) hX d_CT_element_24 rfl ?_
        exact hJ25 _ (by simp [zB, h7, h17])
      · refine Z_iconst (v := 1) hX d_CT_element_20 rfl ?_
        refine Z_goto (tgt := 25) hX d_CT_element_21 rfl ?_
        exact hJ25 _ (by simp [zB, h7, h17])

set_option maxRecDepth 100000 in
set_option maxHeartbeats 4000000 in
theorem c_CT_element_x3 {la : Launch} (hst : la.stackTraces = false) {G : zG} {I : zI} {J : zJ} {e q o s : Int32} (h1 : (p_in e 0 15 && p_in q 0 6) = true) (h2 : p_in o (-1000) 1000 = true) (h3 : p_in s (-9) 9 = false) : zCx la G y_CT_element (Cond.code y_CT_element prog_1_method_2_code 5 none :: TBL) (zRx 7) [.ref (zad G 0), .int e, .int q, .int o, .int s] I J zIA := by
  refine zCx_of hst (by decide) (by simp [lg_sl, Value.category]) (fun X hla hX hO hN hE => ?_)
  subst hla
  refine Z_loc (l' := [(0, .ref (zad G 0)), (1, .int e), (2, .int q), (3, .int o), (4, .int s)]) (by simp [lv_args, Value.category, List.lookup]) ?_
  refine Z_cutw (pc' := 25) (w := zB (p_in e 0 15 && p_in q 0 6)) ?_ (fun hJ25 => ?_)
  · refine Z_id ?_
    refine Z_cSv1 hX d_CT_element_25 (c_CT_refuseUnless h1) m_CT_refuseUnless rfl lk_CT_57 ⟨by decide, by decide⟩ ⟨by decide, by decide⟩ (Nat.le_of_ble_eq_true rfl) ?_
    refine Z_iload_n (i := 3) hX d_CT_element_28 rfl rfl ?_
    refine Z_sipush (v := (-1000)) hX d_CT_element_29 rfl ?_
    refine Z_sipush (v := 1000) hX d_CT_element_32 rfl ?_
    refine Z_cSi3 hX d_CT_element_35 c_CT_isWithin m_CT_isWithin rfl lk_CT_53 ⟨by decide, by decide⟩ ⟨by decide, by decide⟩ (Nat.le_of_ble_eq_true rfl) ?_
    refine Z_cSv1 hX d_CT_element_38 (c_CT_refuseUnless h2) m_CT_refuseUnless rfl lk_CT_57 ⟨by decide, by decide⟩ ⟨by decide, by decide⟩ (Nat.le_of_ble_eq_true rfl) ?_
    refine Z_iload hX d_CT_element_41 rfl ?_
    refine Z_bipush (v := (-9)) hX d_CT_element_43 rfl ?_
    refine Z_bipush (v := 9) hX d_CT_element_45 rfl ?_
    refine Z_cSi3 hX d_CT_element_47 c_CT_isWithin m_CT_isWithin rfl lk_CT_53 ⟨by decide, by decide⟩ ⟨by decide, by decide⟩ (Nat.le_of_ble_eq_true rfl) ?_
    exact Z_cSx (As := [.int (zB (p_in s (-9) 9))]) hX hO d_CT_element_50 (c_CT_refuseUnless_x hst h3) m_CT_refuseUnless rfl lk_CT_57 ⟨by decide, by decide⟩ ⟨by decide, by decide⟩ (Nat.le_of_ble_eq_true rfl) (Zx_out hX hN hE)
  · refine Z_iload_n (i := 1) hX d_CT_element_0 rfl rfl ?_
    refine Z_iconst (v := 0) hX d_CT_element_1 rfl ?_
    refine Z_bipush (v := 15) hX d_CT_element_2 rfl ?_
    refine Z_cSi3 hX d_CT_element_4 c_CT_isWithin m_CT_isWithin rfl lk_CT_53 ⟨by decide, by decide⟩ ⟨by decide, by decide⟩ (Nat.le_of_ble_eq_true rfl) ?_
    refine Z_ifeqB (tgt := 24) hX d_CT_element_7 rfl (fun h7 => ?_) (fun h7 => ?_)
    · refine Z_iconst (v := 0) hX d_CT_element_24 rfl ?_
      exact hJ25 _ (by simp [zB, h7])
    · refine Z_iload_n (i := 2) hX d_CT_element_10 rfl rfl ?_
      refine Z_iconst (v := 0) hX d_CT_element_11 rfl ?_
      refine Z_bipush (v := 6) hX d_CT_element_12 rfl ?_
      refine Z_cSi3 hX d_CT_element_14 c_CT_isWithin m_CT_isWithin rfl lk_CT_53 ⟨by decide, by decide⟩ ⟨by decide, by decide⟩ (Nat.le_of_ble_eq_true rfl) ?_
      refine Z_ifeqB (tgt := 24) hX d_CT_element_17 rfl (fun h17 => ?_) (fun h17 => ?_)
      · refine Z_iconst (v := 0) hX d_CT_element_24 rfl ?_
        exact hJ25 _ (by simp [zB, h7, h17])
      · refine Z_iconst (v := 1) hX d_CT_element_20 rfl ?_
        refine Z_goto (tgt := 25) hX d_CT_element_21 rfl ?_
        exact hJ25 _ (by simp [zB, h7, h17])

set_option maxRecDepth 100000 in
set_option maxHeartbeats 4000000 in
theorem c_CT_element_y {la : Launch} (hst : la.stackTraces = false) {G : zG} {I : zI} {J : zJ} {e : Nat} (he : e < 16) {q o s : Int32} (h1 : (p_in (nI e) 0 15 && p_in q 0 6) = true) (h2 : p_in o (-1000) 1000 = true) (h3 : p_in s (-9) 9 = true) (ht : ¬ I 2 e = 0) : zCx la G y_CT_element (Cond.code y_CT_element prog_1_method_2_code 5 none :: TBL) (zRx 7) [.ref (zad G 0), .int (nI e), .int q, .int o, .int s] I J zIS := by
  refine zCx_of hst (by decide) (by simp [lg_sl, Value.category]) (fun X hla hX hO hN hE => ?_)
  subst hla
  refine Z_loc (l' := [(0, .ref (zad G 0)), (1, .int (nI e)), (2, .int q), (3, .int o), (4, .int s)]) (by simp [lv_args, Value.category, List.lookup]) ?_
  refine Z_cutw (pc' := 25) (w := zB (p_in (nI e) 0 15 && p_in q 0 6)) ?_ (fun hJ25 => ?_)
  · refine Z_id ?_
    refine Z_cSv1 hX d_CT_element_25 (c_CT_refuseUnless h1) m_CT_refuseUnless rfl lk_CT_57 ⟨by decide, by decide⟩ ⟨by decide, by decide⟩ (Nat.le_of_ble_eq_true rfl) ?_
    refine Z_iload_n (i := 3) hX d_CT_element_28 rfl rfl ?_
    refine Z_sipush (v := (-1000)) hX d_CT_element_29 rfl ?_
    refine Z_sipush (v := 1000) hX d_CT_element_32 rfl ?_
    refine Z_cSi3 hX d_CT_element_35 c_CT_isWithin m_CT_isWithin rfl lk_CT_53 ⟨by decide, by decide⟩ ⟨by decide, by decide⟩ (Nat.le_of_ble_eq_true rfl) ?_
    refine Z_cSv1 hX d_CT_element_38 (c_CT_refuseUnless h2) m_CT_refuseUnless rfl lk_CT_57 ⟨by decide, by decide⟩ ⟨by decide, by decide⟩ (Nat.le_of_ble_eq_true rfl) ?_
    refine Z_iload hX d_CT_element_41 rfl ?_
    refine Z_bipush (v := (-9)) hX d_CT_element_43 rfl ?_
    refine Z_bipush (v := 9) hX d_CT_element_45 rfl ?_
    refine Z_cSi3 hX d_CT_element_47 c_CT_isWithin m_CT_isWithin rfl lk_CT_53 ⟨by decide, by decide⟩ ⟨by decide, by decide⟩ (Nat.le_of_ble_eq_true rfl) ?_
    refine Z_cSv1 hX d_CT_element_50 (c_CT_refuseUnless h3) m_CT_refuseUnless rfl lk_CT_57 ⟨by decide, by decide⟩ ⟨by decide, by decide⟩ (Nat.le_of_ble_eq_true rfl) ?_
    refine Z_aload_n (i := 0) hX d_CT_element_53 rfl rfl ?_
    refine Z_getR (k0 := 0) hX d_CT_element_54 rfl rfl u_CT (by decide) lk_CT_12 rfl ?_
    refine Z_getR (k0 := 0) hX d_CT_element_57 rfl rfl u_Pl (by decide) lk_CT_61 rfl ?_
    refine Z_iload_n (i := 1) hX d_CT_element_60 rfl rfl ?_
    refine Z_zald hX d_CT_element_61 rfl rfl (by omega) (by decide) ?_
    refine Z_ifeq (tgt := 75) hX d_CT_element_62 rfl (fun h => absurd h ht) (fun h62 => ?_)
    exact Z_throw (ic := 69) hX hO hN hE (by decide) ow_IS kl_IS in_IS is_IS (List.mem_of_getElem? (i := 1) rfl) d_CT_element_65 d_CT_element_68 d_CT_element_69 d_CT_element_71 d_CT_element_74 ⟨by decide, by decide⟩ ⟨by decide, by decide⟩ (Nat.le_of_ble_eq_true rfl)
  · refine Z_iload_n (i := 1) hX d_CT_element_0 rfl rfl ?_
    refine Z_iconst (v := 0) hX d_CT_element_1 rfl ?_
    refine Z_bipush (v := 15) hX d_CT_element_2 rfl ?_
    refine Z_cSi3 hX d_CT_element_4 c_CT_isWithin m_CT_isWithin rfl lk_CT_53 ⟨by decide, by decide⟩ ⟨by decide, by decide⟩ (Nat.le_of_ble_eq_true rfl) ?_
    refine Z_ifeqB (tgt := 24) hX d_CT_element_7 rfl (fun h7 => ?_) (fun h7 => ?_)
    · refine Z_iconst (v := 0) hX d_CT_element_24 rfl ?_
      exact hJ25 _ (by simp [zB, h7])
    · refine Z_iload_n (i := 2) hX d_CT_element_10 rfl rfl ?_
      refine Z_iconst (v := 0) hX d_CT_element_11 rfl ?_
      refine Z_bipush (v := 6) hX d_CT_element_12 rfl ?_
      refine Z_cSi3 hX d_CT_element_14 c_CT_isWithin m_CT_isWithin rfl lk_CT_53 ⟨by decide, by decide⟩ ⟨by decide, by decide⟩ (Nat.le_of_ble_eq_true rfl) ?_
      refine Z_ifeqB (tgt := 24) hX d_CT_element_17 rfl (fun h17 => ?_) (fun h17 => ?_)
      · refine Z_iconst (v := 0) hX d_CT_element_24 rfl ?_
        exact hJ25 _ (by simp [zB, h7, h17])
      · refine Z_iconst (v := 1) hX d_CT_element_20 rfl ?_
        refine Z_goto (tgt := 25) hX d_CT_element_21 rfl ?_
        exact hJ25 _ (by simp [zB, h7, h17])

set_option maxRecDepth 100000 in
set_option maxHeartbeats 4000000 in
theorem c_CT_link_x {la : Launch} (hst : la.stackTraces = false) {G : zG} {I : zI} {J : zJ} {a p b q : Int32} (h1 : (p_po I a p && p_po I b q && decide (¬ a = b)) = false) : zCx la G y_CT_link (Cond.code y_CT_link prog_1_method_3_code 7 (some .int) :: TBL) (zRx 7) [.ref (zad G 0), .int a, .int p, .int b, .int q] I J zIA := by
  refine zCx_of hst (by decide) (by simp [lg_sl, Value.category]) (fun X hla hX hO hN hE => ?_)
  subst hla
  refine Z_loc (l' := [(0, .ref (zad G 0)), (1, .int a), (2, .int p), (3, .int b), (4, .int q)]) (by simp [lv_args, Value.category, List.lookup]) ?_
  refine Z_cutw (pc' := 35) (w := zB (p_po I a p && p_po I b q && decide (¬ a = b))) ?_ (fun hJ35 => ?_)
  · refine Z_id ?_
    exact Z_cSx (As := [.int (zB (p_po I a p && p_po I b q && decide (¬ a = b)))]) hX hO d_CT_link_35 (c_CT_refuseUnless_x hst h1) m_CT_refuseUnless rfl lk_CT_57 ⟨by decide, by decide⟩ ⟨by decide, by decide⟩ (Nat.le_of_ble_eq_true rfl) (Zx_out hX hN hE)
  · refine Z_aload_n (i := 0) hX d_CT_link_0 rfl rfl ?_
    refine Z_getR (k0 := 0) hX d_CT_link_1 rfl rfl u_CT (by decide) lk_CT_12 rfl ?_
    refine Z_iload_n (i := 1) hX d_CT_link_4 rfl rfl ?_
    refine Z_iload_n (i := 2) hX d_CT_link_5 rfl rfl ?_
    refine Z_cVi2 hX d_CT_link_6 c_Pl_isPort m_Pl_isPort rfl rfl lk_CT_85 ⟨by decide, by decide⟩ ⟨by decide, by decide⟩ (Nat.le_of_ble_eq_true rfl) ?_
    refine Z_ifeqB (tgt := 34) hX d_CT_link_9 rfl (fun h9 => ?_) (fun h9 => ?_)
    · refine Z_iconst (v := 0) hX d_CT_link_34 rfl ?_
      exact hJ35 _ (by simp [zB, h9])
    · refine Z_aload_n (i := 0) hX d_CT_link_12 rfl rfl ?_
      refine Z_getR (k0 := 0) hX d_CT_link_13 rfl rfl u_CT (by decide) lk_CT_12 rfl ?_
      refine Z_iload_n (i := 3) hX d_CT_link_16 rfl rfl ?_
      refine Z_iload hX d_CT_link_17 rfl ?_
      refine Z_cVi2 hX d_CT_link_19 c_Pl_isPort m_Pl_isPort rfl rfl lk_CT_85 ⟨by decide, by decide⟩ ⟨by decide, by decide⟩ (Nat.le_of_ble_eq_true rfl) ?_
      refine Z_ifeqB (tgt := 34) hX d_CT_link_22 rfl (fun h22 => ?_) (fun h22 => ?_)
      · refine Z_iconst (v := 0) hX d_CT_link_34 rfl ?_
        exact hJ35 _ (by simp [zB, h9, h22])
      · refine Z_iload_n (i := 1) hX d_CT_link_25 rfl rfl ?_
        refine Z_iload_n (i := 3) hX d_CT_link_26 rfl rfl ?_
        refine Z_iceq (tgt := 34) hX d_CT_link_27 rfl (fun h27 => ?_) (fun h27 => ?_)
        · refine Z_iconst (v := 0) hX d_CT_link_34 rfl ?_
          exact hJ35 _ (by simp [zB, h9, h22, h27])
        · refine Z_iconst (v := 1) hX d_CT_link_30 rfl ?_
          refine Z_goto (tgt := 35) hX d_CT_link_31 rfl ?_
          exact hJ35 _ (by simp [zB, h9, h22, h27])

set_option maxRecDepth 100000 in
set_option maxHeartbeats 4000000 in
theorem c_CT_link_y {la : Launch} (hst : la.stackTraces = false) {G : zG} {I : zI} {J : zJ} {a p b q : Nat} (ha : a < 16) (hp : p < 4) (hb : b < 16) (hq : q < 4) (h1 : (p_po I (nI a) (nI p) && p_po I (nI b) (nI q) && decide (¬ nI a = nI b)) = true) (ht : (p_tk I (4 * a + p) || p_tk I (4 * b + q) || decide (¬ I 1 14 < 24)) = true) : zCx la G y_CT_link (Cond.code y_CT_link prog_1_method_3_code 7 (some .int) :: TBL) (zRx 7) [.ref (zad G 0), .int (nI a), .int (nI p), .int (nI b), .int (nI q)] I J zIS := by
  refine zCx_of hst (by decide) (by simp [lg_sl, Value.category]) (fun X hla hX hO hN hE => ?_)
  subst hla
  refine Z_loc (l' := [(0, .ref (zad G 0)), (1, .int (nI a)), (2, .int (nI p)), (3, .int (nI b)), (4, .int (nI q))]) (by simp [lv_args, Value.category, List.lookup]) ?_
  refine Z_cutw (pc' := 35) (w := zB (p_po I (nI a) (nI p) && p_po I (nI b) (nI q) && decide (¬ nI a = nI b))) ?_ (fun hJ35 => ?_)
  · refine Z_id ?_
    refine Z_cSv1 hX d_CT_link_35 (c_CT_refuseUnless h1) m_CT_refuseUnless rfl lk_CT_57 ⟨by decide, by decide⟩ ⟨by decide, by decide⟩ (Nat.le_of_ble_eq_true rfl) ?_
    refine Z_iload_n (i := 1) hX d_CT_link_38 rfl rfl ?_
    refine Z_iload_n (i := 2) hX d_CT_link_39 rfl rfl ?_
    refine Z_cSi2 hX d_CT_link_40 c_CT_slotOf m_CT_slotOf rfl lk_CT_89 ⟨by decide, by decide⟩ ⟨by decide, by decide⟩ (Nat.le_of_ble_eq_true rfl) ?_
    refine Z_istore hX d_CT_link_43 (by decide) rfl ?_
    refine Z_iload_n (i := 3) hX d_CT_link_45 rfl rfl ?_
    refine Z_iload hX d_CT_link_46 rfl ?_
    refine Z_cSi2 hX d_CT_link_48 c_CT_slotOf m_CT_slotOf rfl lk_CT_89 ⟨by decide, by decide⟩ ⟨by decide, by decide⟩ (Nat.le_of_ble_eq_true rfl) ?_
    refine Z_istore hX d_CT_link_51 (by decide) rfl ?_
    refine Z_aload_n (i := 0) hX d_CT_link_53 rfl rfl ?_
    refine Z_getR (k0 := 0) hX d_CT_link_54 rfl rfl u_CT (by decide) lk_CT_12 rfl ?_
    refine Z_iload hX d_CT_link_57 rfl ?_
    refine Z_cVi1 hX d_CT_link_59 (c_Pl_isTaken (by omega)) m_Pl_isTaken rfl rfl lk_CT_93 ⟨by decide, by decide⟩ ⟨by decide, by decide⟩ (Nat.le_of_ble_eq_true rfl) ?_
    refine Z_ifneB (tgt := 89) hX d_CT_link_62 rfl (fun h62 => ?_) (fun h62 => ?_)
    · exact Z_throw (ic := 69) hX hO hN hE (by decide) ow_IS kl_IS in_IS is_IS (List.mem_of_getElem? (i := 2) rfl) d_CT_link_89 d_CT_link_92 d_CT_link_93 d_CT_link_95 d_CT_link_98 ⟨by decide, by decide⟩ ⟨by decide, by decide⟩ (Nat.le_of_ble_eq_true rfl)
    · refine Z_aload_n (i := 0) hX d_CT_link_65 rfl rfl ?_
      refine Z_getR (k0 := 0) hX d_CT_link_66 rfl rfl u_CT (by decide) lk_CT_12 rfl ?_
      refine Z_iload hX d_CT_link_69 rfl ?_
      refine Z_cVi1 hX d_CT_link_71 (c_Pl_isTaken (by omega)) m_Pl_isTaken rfl rfl lk_CT_93 ⟨by decide, by decide⟩ ⟨by decide, by decide⟩ (Nat.le_of_ble_eq_true rfl) ?_
      refine Z_ifneB (tgt := 89) hX d_CT_link_74 rfl (fun h74 => ?_) (fun h74 => ?_)
      · exact Z_throw (ic := 69) hX hO hN hE (by decide) ow_IS kl_IS in_IS is_IS (List.mem_of_getElem? (i := 2) rfl) d_CT_link_89 d_CT_link_92 d_CT_link_93 d_CT_link_95 d_CT_link_98 ⟨by decide, by decide⟩ ⟨by decide, by decide⟩ (Nat.le_of_ble_eq_true rfl)
      · refine Z_aload_n (i := 0) hX d_CT_link_77 rfl rfl ?_
        refine Z_getR (k0 := 0) hX d_CT_link_78 rfl rfl u_CT (by decide) lk_CT_12 rfl ?_
        refine Z_getI (k0 := 14) hX d_CT_link_81 rfl rfl u_Pl (by decide) lk_CT_97 rfl ?_
        refine Z_bipush (v := 24) hX d_CT_link_84 rfl ?_
        refine Z_iclt (tgt := 99) hX d_CT_link_86 rfl (fun h => absurd ht (by simp [h62, h74, h])) (fun h86 => ?_)
        exact Z_throw (ic := 69) hX hO hN hE (by decide) ow_IS kl_IS in_IS is_IS (List.mem_of_getElem? (i := 2) rfl) d_CT_link_89 d_CT_link_92 d_CT_link_93 d_CT_link_95 d_CT_link_98 ⟨by decide, by decide⟩ ⟨by decide, by decide⟩ (Nat.le_of_ble_eq_true rfl)
  · refine Z_aload_n (i := 0) hX d_CT_link_0 rfl rfl ?_
    refine Z_getR (k0 := 0) hX d_CT_link_1 rfl rfl u_CT (by decide) lk_CT_12 rfl ?_
    refine Z_iload_n (i := 1) hX d_CT_link_4 rfl rfl ?_
    refine Z_iload_n (i := 2) hX d_CT_link_5 rfl rfl ?_
    refine Z_cVi2 hX d_CT_link_6 c_Pl_isPort m_Pl_isPort rfl rfl lk_CT_85 ⟨by decide, by decide⟩ ⟨by decide, by decide⟩ (Nat.le_of_ble_eq_true rfl) ?_
    refine Z_ifeqB (tgt := 34) hX d_CT_link_9 rfl (fun h9 => ?_) (fun h9 => ?_)
    · refine Z_iconst (v := 0) hX d_CT_link_34 rfl ?_
      exact hJ35 _ (by simp [zB, h9])
    · refine Z_aload_n (i := 0) hX d_CT_link_12 rfl rfl ?_
      refine Z_getR (k0 := 0) hX d_CT_link_13 rfl rfl u_CT (by decide) lk_CT_12 rfl ?_
      refine Z_iload_n (i := 3) hX d_CT_link_16 rfl rfl ?_
      refine Z_iload hX d_CT_link_17 rfl ?_
      refine Z_cVi2 hX d_CT_link_19 c_Pl_isPort m_Pl_isPort rfl rfl lk_CT_85 ⟨by decide, by decide⟩ ⟨by decide, by decide⟩ (Nat.le_of_ble_eq_true rfl) ?_
      refine Z_ifeqB (tgt := 34) hX d_CT_link_22 rfl (fun h22 => ?_) (fun h22 => ?_)
      · refine Z_iconst (v := 0) hX d_CT_link_34 rfl ?_
        exact hJ35 _ (by simp [zB, h9, h22])
      · refine Z_iload_n (i := 1) hX d_CT_link_25 rfl rfl ?_
        refine Z_iload_n (i := 3) hX d_CT_link_26 rfl rfl ?_
        refine Z_iceq (tgt := 34) hX d_CT_link_27 rfl (fun h27 => ?_) (fun h27 => ?_)
        · refine Z_iconst (v := 0) hX d_CT_link_34 rfl ?_
          exact hJ35 _ (by simp [zB, h9, h22, h27])
        · refine Z_iconst (v := 1) hX d_CT_link_30 rfl ?_
          refine Z_goto (tgt := 35) hX d_CT_link_31 rfl ?_
          exact hJ35 _ (by simp [zB, h9, h22, h27])

set_option maxRecDepth 100000 in
set_option maxHeartbeats 4000000 in
theorem c_CT_source_x1 {la : Launch} (hst : la.stackTraces = false) {G : zG} {I : zI} {J : zJ} {e p q o : Int32} (h1 : p_po I e p = false) : zCx la G y_CT_source (Cond.code y_CT_source prog_1_method_4_code 6 none :: TBL) (zRx 7) [.ref (zad G 0), .int e, .int p, .int q, .int o] I J zIA := by
  refine zCx_of hst (by decide) (by simp [lg_sl, Value.category]) (fun X hla hX hO hN hE => ?_)
  subst hla
  refine Z_loc (l' := [(0, .ref (zad G 0)), (1, .int e), (2, .int p), (3, .int q), (4, .int o)]) (by simp [lv_args, Value.category, List.lookup]) ?_
  refine Z_aload_n (i := 0) hX d_CT_source_0 rfl rfl ?_
  refine Z_getR (k0 := 0) hX d_CT_source_1 rfl rfl u_CT (by decide) lk_CT_12 rfl ?_
  refine Z_iload_n (i := 1) hX d_CT_source_4 rfl rfl ?_
  refine Z_iload_n (i := 2) hX d_CT_source_5 rfl rfl ?_
  refine Z_cVi2 hX d_CT_source_6 c_Pl_isPort m_Pl_isPort rfl rfl lk_CT_85 ⟨by decide, by decide⟩ ⟨by decide, by decide⟩ (Nat.le_of_ble_eq_true rfl) ?_
  exact Z_cSx (As := [.int (zB (p_po I e p))]) hX hO d_CT_source_9 (c_CT_refuseUnless_x hst h1) m_CT_refuseUnless rfl lk_CT_57 ⟨by decide, by decide⟩ ⟨by decide, by decide⟩ (Nat.le_of_ble_eq_true rfl) (Zx_out hX hN hE)

set_option maxRecDepth 100000 in
set_option maxHeartbeats 4000000 in
theorem c_CT_source_x2 {la : Launch} (hst : la.stackTraces = false) {G : zG} {I : zI} {J : zJ} {e p q o : Int32} (h1 : p_po I e p = true) (h2 : (decide (q = -1) || (p_in q 0 6 && p_in o (-1000) 1000)) = false) : zCx la G y_CT_source (Cond.code y_CT_source prog_1_method_4_code 6 none :: TBL) (zRx 7) [.ref (zad G 0), .int e, .int p, .int q, .int o] I J zIA := by
  refine zCx_of hst (by decide) (by simp [lg_sl, Value.category]) (fun X hla hX hO hN hE => ?_)
  subst hla
  refine Z_loc (l' := [(0, .ref (zad G 0)), (1, .int e), (2, .int p), (3, .int q), (4, .int o)]) (by simp [lv_args, Value.category, List.lookup]) ?_
  refine Z_aload_n (i := 0) hX d_CT_source_0 rfl rfl ?_
  refine Z_getR (k0 := 0) hX d_CT_source_1 rfl rfl u_CT (by decide) lk_CT_12 rfl ?_
  refine Z_iload_n (i := 1) hX d_CT_source_4 rfl rfl ?_
  refine Z_iload_n (i := 2) hX d_CT_source_5 rfl rfl ?_
  refine Z_cVi2 hX d_CT_source_6 c_Pl_isPort m_Pl_isPort rfl rfl lk_CT_85 ⟨by decide, by decide⟩ ⟨by decide, by decide⟩ (Nat.le_of_ble_eq_true rfl) ?_
  refine Z_cSv1 hX d_CT_source_9 (c_CT_refuseUnless h1) m_CT_refuseUnless rfl lk_CT_57 ⟨by decide, by decide⟩ ⟨by decide, by decide⟩ (Nat.le_of_ble_eq_true rfl) ?_
  refine Z_cutw (pc' := 46) (w := zB (decide (q = -1) || (p_in q 0 6 && p_in o (-1000) 1000))) ?_ (fun hJ46 => ?_)
  · refine Z_id ?_
    exact Z_cSx (As := [.int (zB (decide (q = -1) || (p_in q 0 6 && p_in o (-1000) 1000)))]) hX hO d_CT_source_46 (c_CT_refuseUnless_x hst h2) m_CT_refuseUnless rfl lk_CT_57 ⟨by decide, by decide⟩ ⟨by decide, by decide⟩ (Nat.le_of_ble_eq_true rfl) (Zx_out hX hN hE)
  · refine Z_iload_n (i := 3) hX d_CT_source_12 rfl rfl ?_
    refine Z_iconst (v := (-1)) hX d_CT_source_13 rfl ?_
    refine Z_iceq (tgt := 41) hX d_CT_source_14 rfl (fun h14 => ?_) (fun h14 => ?_)
    · refine Z_iconst (v := 1) hX d_CT_source_41 rfl ?_
      refine Z_goto (tgt := 46) hX d_CT_source_42 rfl ?_
      exact hJ46 _ (by simp [zB, h14])
    · refine Z_iload_n (i := 3) hX d_CT_source_17 rfl rfl ?_
      refine Z_iconst (v := 0) hX d_CT_source_18 rfl ?_
      refine Z_bipush (v := 6) hX d_CT_source_19 rfl ?_
      refine Z_cSi3 hX d_CT_source_21 c_CT_isWithin m_CT_isWithin rfl lk_CT_53 ⟨by decide, by decide⟩ ⟨by decide, by decide⟩ (Nat.le_of_ble_eq_true rfl) ?_
      refine Z_ifeqB (tgt := 45) hX d_CT_source_24 rfl (fun h24 => ?_) (fun h24 => ?_)
      · refine Z_iconst (v := 0) hX d_CT_source_45 rfl ?_
        exact hJ46 _ (by simp [zB, h14, h24])
      · refine Z_iload hX d_CT_source_27 rfl ?_
        refine Z_sipush (v := (-1000)) hX d_CT_source_29 rfl ?_
        refine Z_sipush (v := 1000) hX d_CT_source_32 rfl ?_
        refine Z_cSi3 hX d_CT_source_35 c_CT_isWithin m_CT_isWithin rfl lk_CT_53 ⟨by decide, by decide⟩ ⟨by decide, by decide⟩ (Nat.le_of_ble_eq_true rfl) ?_
        refine Z_ifeqB (tgt := 45) hX d_CT_source_38 rfl (fun h38 => ?_) (fun h38 => ?_)
        · refine Z_iconst (v := 0) hX d_CT_source_45 rfl ?_
          exact hJ46 _ (by simp [zB, h14, h24, h38])
        · refine Z_iconst (v := 1) hX d_CT_source_41 rfl ?_
          refine Z_goto (tgt := 46) hX d_CT_source_42 rfl ?_
          exact hJ46 _ (by simp [zB, h14, h24, h38])

set_option maxRecDepth 100000 in
set_option maxHeartbeats 4000000 in
theorem c_CT_source_y {la : Launch} (hst : la.stackTraces = false) {G : zG} {I : zI} {J : zJ} {e p : Nat} (he : e < 16) (hp : p < 4) {q o : Int32} (h1 : p_po I (nI e) (nI p) = true) (h2 : (decide (q = -1) || (p_in q 0 6 && p_in o (-1000) 1000)) = true) (ht : ¬ I 9 (4 * e + p) = -1) : zCx la G y_CT_source (Cond.code y_CT_source prog_1_method_4_code 6 none :: TBL) (zRx 7) [.ref (zad G 0), .int (nI e), .int (nI p), .int q, .int o] I J zIS := by
  refine zCx_of hst (by decide) (by simp [lg_sl, Value.category]) (fun X hla hX hO hN hE => ?_)
  subst hla
  refine Z_loc (l' := [(0, .ref (zad G 0)), (1, .int (nI e)), (2, .int (nI p)), (3, .int q), (4, .int o)]) (by simp [lv_args, Value.category, List.lookup]) ?_
  refine Z_aload_n (i := 0) hX d_CT_source_0 rfl rfl ?_
  refine Z_getR (k0 := 0) hX d_CT_source_1 rfl rfl u_CT (by decide) lk_CT_12 rfl ?_
  refine Z_iload_n (i := 1) hX d_CT_source_4 rfl rfl ?_
  refine Z_iload_n (i := 2) hX d_CT_source_5 rfl rfl ?_
  refine Z_cVi2 hX d_CT_source_6 c_Pl_isPort m_Pl_isPort rfl rfl lk_CT_85 ⟨by decide, by decide⟩ ⟨by decide, by decide⟩ (Nat.le_of_ble_eq_true rfl) ?_
  refine Z_cSv1 hX d_CT_source_9 (c_CT_refuseUnless h1) m_CT_refuseUnless rfl lk_CT_57 ⟨by decide, by decide⟩ ⟨by decide, by decide⟩ (Nat.le_of_ble_eq_true rfl) ?_
  refine Z_cutw (pc' := 46) (w := zB (decide (q = -1) || (p_in q 0 6 && p_in o (-1000) 1000))) ?_ (fun hJ46 => ?_)
  · refine Z_id ?_
    refine Z_cSv1 hX d_CT_source_46 (c_CT_refuseUnless h2) m_CT_refuseUnless rfl lk_CT_57 ⟨by decide, by decide⟩ ⟨by decide, by decide⟩ (Nat.le_of_ble_eq_true rfl) ?_
    refine Z_iload_n (i := 1) hX d_CT_source_49 rfl rfl ?_
    refine Z_iload_n (i := 2) hX d_CT_source_50 rfl rfl ?_
    refine Z_cSi2 hX d_CT_source_51 c_CT_slotOf m_CT_slotOf rfl lk_CT_89 ⟨by decide, by decide⟩ ⟨by decide, by decide⟩ (Nat.le_of_ble_eq_true rfl) ?_
    refine Z_istore hX d_CT_source_54 (by decide) rfl ?_
    refine Z_aload_n (i := 0) hX d_CT_source_56 rfl rfl ?_
    refine Z_getR (k0 := 0) hX d_CT_source_57 rfl rfl u_CT (by decide) lk_CT_12 rfl ?_
    refine Z_getR (k0 := 7) hX d_CT_source_60 rfl rfl u_Pl (by decide) lk_CT_105 rfl ?_
    refine Z_iload hX d_CT_source_63 rfl ?_
    refine Z_iald hX d_CT_source_65 rfl rfl (by omega) (by decide) ?_
    refine Z_iconst (v := (-1)) hX d_CT_source_66 rfl ?_
    refine Z_iceq (tgt := 80) hX d_CT_source_67 rfl (fun h => absurd h ht) (fun h67 => ?_)
    exact Z_throw (ic := 69) hX hO hN hE (by decide) ow_IS kl_IS in_IS is_IS (List.mem_of_getElem? (i := 3) rfl) d_CT_source_70 d_CT_source_73 d_CT_source_74 d_CT_source_76 d_CT_source_79 ⟨by decide, by decide⟩ ⟨by decide, by decide⟩ (Nat.le_of_ble_eq_true rfl)
  · refine Z_iload_n (i := 3) hX d_CT_source_12 rfl rfl ?_
    refine Z_iconst (v := (-1)) hX d_CT_source_13 rfl ?_
    refine Z_iceq (tgt := 41) hX d_CT_source_14 rfl (fun h14 => ?_) (fun h14 => ?_)
    · refine Z_iconst (v := 1) hX d_CT_source_41 rfl ?_
      refine Z_goto (tgt := 46) hX d_CT_source_42 rfl ?_
      exact hJ46 _ (by simp [zB, h14])
    · refine Z_iload_n (i := 3) hX d_CT_source_17 rfl rfl ?_
      refine Z_iconst (v := 0) hX d_CT_source_18 rfl ?_
      refine Z_bipush (v := 6) hX d_CT_source_19 rfl ?_
      refine Z_cSi3 hX d_CT_source_21 c_CT_isWithin m_CT_isWithin rfl lk_CT_53 ⟨by decide, by decide⟩ ⟨by decide, by decide⟩ (Nat.le_of_ble_eq_true rfl) ?_
      refine Z_ifeqB (tgt := 45) hX d_CT_source_24 rfl (fun h24 => ?_) (fun h24 => ?_)
      · refine Z_iconst (v := 0) hX d_CT_source_45 rfl ?_
        exact hJ46 _ (by simp [zB, h14, h24])
      · refine Z_iload hX d_CT_source_27 rfl ?_
        refine Z_sipush (v := (-1000)) hX d_CT_source_29 rfl ?_
        refine Z_sipush (v := 1000) hX d_CT_source_32 rfl ?_
        refine Z_cSi3 hX d_CT_source_35 c_CT_isWithin m_CT_isWithin rfl lk_CT_53 ⟨by decide, by decide⟩ ⟨by decide, by decide⟩ (Nat.le_of_ble_eq_true rfl) ?_
        refine Z_ifeqB (tgt := 45) hX d_CT_source_38 rfl (fun h38 => ?_) (fun h38 => ?_)
        · refine Z_iconst (v := 0) hX d_CT_source_45 rfl ?_
          exact hJ46 _ (by simp [zB, h14, h24, h38])
        · refine Z_iconst (v := 1) hX d_CT_source_41 rfl ?_
          refine Z_goto (tgt := 46) hX d_CT_source_42 rfl ?_
          exact hJ46 _ (by simp [zB, h14, h24, h38])

set_option maxRecDepth 100000 in
set_option maxHeartbeats 4000000 in
theorem c_CT_priority_x {la : Launch} (hst : la.stackTraces = false) {G : zG} {I : zI} {J : zJ} {e p v : Int32} (h1 : (p_po I e p && p_in v 0 9) = false) : zCx la G y_CT_priority (Cond.code y_CT_priority prog_1_method_5_code 6 (some .int) :: TBL) (zRx 7) [.ref (zad G 0), .int e, .int p, .int v] I J zIA := by
  refine zCx_of hst (by decide) (by simp [lg_sl, Value.category]) (fun X hla hX hO hN hE => ?_)
  subst hla
  refine Z_loc (l' := [(0, .ref (zad G 0)), (1, .int e), (2, .int p), (3, .int v)]) (by simp [lv_args, Value.category, List.lookup]) ?_
  refine Z_cutw (pc' := 27) (w := zB (p_po I e p && p_in v 0 9)) ?_ (fun hJ27 => ?_)
  · refine Z_id ?_
    exact Z_cSx (As := [.int (zB (p_po I e p && p_in v 0 9))]) hX hO d_CT_priority_27 (c_CT_refuseUnless_x hst h1) m_CT_refuseUnless rfl lk_CT_57 ⟨by decide, by decide⟩ ⟨by decide, by decide⟩ (Nat.le_of_ble_eq_true rfl) (Zx_out hX hN hE)
  · refine Z_aload_n (i := 0) hX d_CT_priority_0 rfl rfl ?_
    refine Z_getR (k0 := 0) hX d_CT_priority_1 rfl rfl u_CT (by decide) lk_CT_12 rfl ?_
    refine Z_iload_n (i := 1) hX d_CT_priority_4 rfl rfl ?_
    refine Z_iload_n (i := 2) hX d_CT_priority_5 rfl rfl ?_
    refine Z_cVi2 hX d_CT_priority_6 c_Pl_isPort m_Pl_isPort rfl rfl lk_CT_85 ⟨by decide, by decide⟩ ⟨by decide, by decide⟩ (Nat.le_of_ble_eq_true rfl) ?_
    refine Z_ifeqB (tgt := 26) hX d_CT_priority_9 rfl (fun h9 => ?_) (fun h9 => ?_)
    · refine Z_iconst (v := 0) hX d_CT_priority_26 rfl ?_
      exact hJ27 _ (by simp [zB, h9])
    · refine Z_iload_n (i := 3) hX d_CT_priority_12 rfl rfl ?_
      refine Z_iconst (v := 0) hX d_CT_priority_13 rfl ?_
      refine Z_bipush (v := 9) hX d_CT_priority_14 rfl ?_
      refine Z_cSi3 hX d_CT_priority_16 c_CT_isWithin m_CT_isWithin rfl lk_CT_53 ⟨by decide, by decide⟩ ⟨by decide, by decide⟩ (Nat.le_of_ble_eq_true rfl) ?_
      refine Z_ifeqB (tgt := 26) hX d_CT_priority_19 rfl (fun h19 => ?_) (fun h19 => ?_)
      · refine Z_iconst (v := 0) hX d_CT_priority_26 rfl ?_
        exact hJ27 _ (by simp [zB, h9, h19])
      · refine Z_iconst (v := 1) hX d_CT_priority_22 rfl ?_
        refine Z_goto (tgt := 27) hX d_CT_priority_23 rfl ?_
        exact hJ27 _ (by simp [zB, h9, h19])

set_option maxRecDepth 100000 in
set_option maxHeartbeats 4000000 in
theorem c_CT_restore_x {la : Launch} (hst : la.stackTraces = false) {G : zG} {I : zI} {J : zJ} {e v : Int32} (h1 : (p_th I e && p_in v 0 10) = false) : zCx la G y_CT_restore (Cond.code y_CT_restore prog_1_method_6_code 4 (some .int) :: TBL) (zRx 7) [.ref (zad G 0), .int e, .int v] I J zIA := by
  refine zCx_of hst (by decide) (by simp [lg_sl, Value.category]) (fun X hla hX hO hN hE => ?_)
  subst hla
  refine Z_loc (l' := [(0, .ref (zad G 0)), (1, .int e), (2, .int v)]) (by simp [lv_args, Value.category, List.lookup]) ?_
  refine Z_cutw (pc' := 26) (w := zB (p_th I e && p_in v 0 10)) ?_ (fun hJ26 => ?_)
  · refine Z_id ?_
    exact Z_cSx (As := [.int (zB (p_th I e && p_in v 0 10))]) hX hO d_CT_restore_26 (c_CT_refuseUnless_x hst h1) m_CT_refuseUnless rfl lk_CT_57 ⟨by decide, by decide⟩ ⟨by decide, by decide⟩ (Nat.le_of_ble_eq_true rfl) (Zx_out hX hN hE)
  · refine Z_aload_n (i := 0) hX d_CT_restore_0 rfl rfl ?_
    refine Z_getR (k0 := 0) hX d_CT_restore_1 rfl rfl u_CT (by decide) lk_CT_12 rfl ?_
    refine Z_iload_n (i := 1) hX d_CT_restore_4 rfl rfl ?_
    refine Z_cVi1 hX d_CT_restore_5 c_Pl_isThere m_Pl_isThere rfl rfl lk_CT_119 ⟨by decide, by decide⟩ ⟨by decide, by decide⟩ (Nat.le_of_ble_eq_true rfl) ?_
    refine Z_ifeqB (tgt := 25) hX d_CT_restore_8 rfl (fun h8 => ?_) (fun h8 => ?_)
    · refine Z_iconst (v := 0) hX d_CT_restore_25 rfl ?_
      exact hJ26 _ (by simp [zB, h8])
    · refine Z_iload_n (i := 2) hX d_CT_restore_11 rfl rfl ?_
      refine Z_iconst (v := 0) hX d_CT_restore_12 rfl ?_
      refine Z_bipush (v := 10) hX d_CT_restore_13 rfl ?_
      refine Z_cSi3 hX d_CT_restore_15 c_CT_isWithin m_CT_isWithin rfl lk_CT_53 ⟨by decide, by decide⟩ ⟨by decide, by decide⟩ (Nat.le_of_ble_eq_true rfl) ?_
      refine Z_ifeqB (tgt := 25) hX d_CT_restore_18 rfl (fun h18 => ?_) (fun h18 => ?_)
      · refine Z_iconst (v := 0) hX d_CT_restore_25 rfl ?_
        exact hJ26 _ (by simp [zB, h8, h18])
      · refine Z_iconst (v := 1) hX d_CT_restore_21 rfl ?_
        refine Z_goto (tgt := 26) hX d_CT_restore_22 rfl ?_
        exact hJ26 _ (by simp [zB, h8, h18])

set_option maxRecDepth 100000 in
set_option maxHeartbeats 4000000 in
theorem c_CT_command_x1 {la : Launch} (hst : la.stackTraces = false) {G : zG} {I : zI} {J : zJ} {e w v : Int32} (h1 : (p_th I e && p_in w 0 1) = false) : zCx la G y_CT_command (Cond.code y_CT_command prog_1_method_8_code 6 (some .int) :: TBL) (zRx 7) [.ref (zad G 0), .int e, .int w, .int v] I J zIA := by
  refine zCx_of hst (by decide) (by simp [lg_sl, Value.category]) (fun X hla hX hO hN hE => ?_)
  subst hla
  refine Z_loc (l' := [(0, .ref (zad G 0)), (1, .int e), (2, .int w), (3, .int v)]) (by simp [lv_args, Value.category, List.lookup]) ?_
  refine Z_cutw (pc' := 25) (w := zB (p_th I e && p_in w 0 1)) ?_ (fun hJ25 => ?_)
  · refine Z_id ?_
    exact Z_cSx (As := [.int (zB (p_th I e && p_in w 0 1))]) hX hO d_CT_command_25 (c_CT_refuseUnless_x hst h1) m_CT_refuseUnless rfl lk_CT_57 ⟨by decide, by decide⟩ ⟨by decide, by decide⟩ (Nat.le_of_ble_eq_true rfl) (Zx_out hX hN hE)
  · refine Z_aload_n (i := 0) hX d_CT_command_0 rfl rfl ?_
    refine Z_getR (k0 := 0) hX d_CT_command_1 rfl rfl u_CT (by decide) lk_CT_12 rfl ?_
    refine Z_iload_n (i := 1) hX d_CT_command_4 rfl rfl ?_
    refine Z_cVi1 hX d_CT_command_5 c_Pl_isThere m_Pl_isThere rfl rfl lk_CT_119 ⟨by decide, by decide⟩ ⟨by decide, by decide⟩ (Nat.le_of_ble_eq_true rfl) ?_
    refine Z_ifeqB (tgt := 24) hX d_CT_command_8 rfl (fun h8 => ?_) (fun h8 => ?_)
    · refine Z_iconst (v := 0) hX d_CT_command_24 rfl ?_
      exact hJ25 _ (by simp [zB, h8])
    · refine Z_iload_n (i := 2) hX d_CT_command_11 rfl rfl ?_
      refine Z_iconst (v := 0) hX d_CT_command_12 rfl ?_
      refine Z_iconst (v := 1) hX d_CT_command_13 rfl ?_
      refine Z_cSi3 hX d_CT_command_14 c_CT_isWithin m_CT_isWithin rfl lk_CT_53 ⟨by decide, by decide⟩ ⟨by decide, by decide⟩ (Nat.le_of_ble_eq_true rfl) ?_
      refine Z_ifeqB (tgt := 24) hX d_CT_command_17 rfl (fun h17 => ?_) (fun h17 => ?_)
      · refine Z_iconst (v := 0) hX d_CT_command_24 rfl ?_
        exact hJ25 _ (by simp [zB, h8, h17])
      · refine Z_iconst (v := 1) hX d_CT_command_20 rfl ?_
        refine Z_goto (tgt := 25) hX d_CT_command_21 rfl ?_
        exact hJ25 _ (by simp [zB, h8, h17])

set_option maxRecDepth 100000 in
set_option maxHeartbeats 4000000 in
theorem c_CT_command_x2 {la : Launch} (hst : la.stackTraces = false) {G : zG} {I : zI} {J : zJ} {e w v : Int32} (h1 : (p_th I e && p_in w 0 1) = true) (h2 : (decide (v = -1) || p_in v 0 3) = false) : zCx la G y_CT_command (Cond.code y_CT_command prog_1_method_8_code 6 (some .int) :: TBL) (zRx 7) [.ref (zad G 0), .int e, .int w, .int v] I J zIA := by
  refine zCx_of hst (by decide) (by simp [lg_sl, Value.category]) (fun X hla hX hO hN hE => ?_)
  subst hla
  refine Z_loc (l' := [(0, .ref (zad G 0)), (1, .int e), (2, .int w), (3, .int v)]) (by simp [lv_args, Value.category, List.lookup]) ?_
  refine Z_cutw (pc' := 25) (w := zB (p_th I e && p_in w 0 1)) ?_ (fun hJ25 => ?_)
  · refine Z_id ?_
    refine Z_cSv1 hX d_CT_command_25 (c_CT_refuseUnless h1) m_CT_refuseUnless rfl lk_CT_57 ⟨by decide, by decide⟩ ⟨by decide, by decide⟩ (Nat.le_of_ble_eq_true rfl) ?_
    refine Z_cutw (pc' := 47) (w := zB (decide (v = -1) || p_in v 0 3)) ?_ (fun hJ47 => ?_)
    · refine Z_id ?_
      exact Z_cSx (As := [.int (zB (decide (v = -1) || p_in v 0 3))]) hX hO d_CT_command_47 (c_CT_refuseUnless_x hst h2) m_CT_refuseUnless rfl lk_CT_57 ⟨by decide, by decide⟩ ⟨by decide, by decide⟩ (Nat.le_of_ble_eq_true rfl) (Zx_out hX hN hE)
    · refine Z_iload_n (i := 3) hX d_CT_command_28 rfl rfl ?_
      refine Z_iconst (v := (-1)) hX d_CT_command_29 rfl ?_
      refine Z_iceq (tgt := 42) hX d_CT_command_30 rfl (fun h30 => ?_) (fun h30 => ?_)
      · refine Z_iconst (v := 1) hX d_CT_command_42 rfl ?_
        refine Z_goto (tgt := 47) hX d_CT_command_43 rfl ?_
        exact hJ47 _ (by simp [zB, h30])
      · refine Z_iload_n (i := 3) hX d_CT_command_33 rfl rfl ?_
        refine Z_iconst (v := 0) hX d_CT_command_34 rfl ?_
        refine Z_iconst (v := 3) hX d_CT_command_35 rfl ?_
        refine Z_cSi3 hX d_CT_command_36 c_CT_isWithin m_CT_isWithin rfl lk_CT_53 ⟨by decide, by decide⟩ ⟨by decide, by decide⟩ (Nat.le_of_ble_eq_true rfl) ?_
        refine Z_ifeqB (tgt := 46) hX d_CT_command_39 rfl (fun h39 => ?_) (fun h39 => ?_)
        · refine Z_iconst (v := 0) hX d_CT_command_46 rfl ?_
          exact hJ47 _ (by simp [zB, h30, h39])
        · refine Z_iconst (v := 1) hX d_CT_command_42 rfl ?_
          refine Z_goto (tgt := 47) hX d_CT_command_43 rfl ?_
          exact hJ47 _ (by simp [zB, h30, h39])
  · refine Z_aload_n (i := 0) hX d_CT_command_0 rfl rfl ?_
    refine Z_getR (k0 := 0) hX d_CT_command_1 rfl rfl u_CT (by decide) lk_CT_12 rfl ?_
    refine Z_iload_n (i := 1) hX d_CT_command_4 rfl rfl ?_
    refine Z_cVi1 hX d_CT_command_5 c_Pl_isThere m_Pl_isThere rfl rfl lk_CT_119 ⟨by decide, by decide⟩ ⟨by decide, by decide⟩ (Nat.le_of_ble_eq_true rfl) ?_
    refine Z_ifeqB (tgt := 24) hX d_CT_command_8 rfl (fun h8 => ?_) (fun h8 => ?_)
    · refine Z_iconst (v := 0) hX d_CT_command_24 rfl ?_
      exact hJ25 _ (by simp [zB, h8])
    · refine Z_iload_n (i := 2) hX d_CT_command_11 rfl rfl ?_
      refine Z_iconst (v := 0) hX d_CT_command_12 rfl ?_
      refine Z_iconst (v := 1) hX d_CT_command_13 rfl ?_
      refine Z_cSi3 hX d_CT_command_14 c_CT_isWithin m_CT_isWithin rfl lk_CT_53 ⟨by decide, by decide⟩ ⟨by decide, by decide⟩ (Nat.le_of_ble_eq_true rfl) ?_
      refine Z_ifeqB (tgt := 24) hX d_CT_command_17 rfl (fun h17 => ?_) (fun h17 => ?_)
      · refine Z_iconst (v := 0) hX d_CT_command_24 rfl ?_
        exact hJ25 _ (by simp [zB, h8, h17])
      · refine Z_iconst (v := 1) hX d_CT_command_20 rfl ?_
        refine Z_goto (tgt := 25) hX d_CT_command_21 rfl ?_
        exact hJ25 _ (by simp [zB, h8, h17])

set_option maxRecDepth 100000 in
set_option maxHeartbeats 4000000 in
theorem c_CT_lockout_x {la : Launch} (hst : la.stackTraces = false) {G : zG} {I : zI} {J : zJ} {e p v : Int32} (h1 : (p_po I e p) = false) : zCx la G y_CT_lockout (Cond.code y_CT_lockout prog_1_method_9_code 6 (some .boolean) :: TBL) (zRx 7) [.ref (zad G 0), .int e, .int p, .int v] I J zIA := by
  refine zCx_of hst (by decide) (by simp [lg_sl, Value.category]) (fun X hla hX hO hN hE => ?_)
  subst hla
  refine Z_loc (l' := [(0, .ref (zad G 0)), (1, .int e), (2, .int p), (3, .int v)]) (by simp [lv_args, Value.category, List.lookup]) ?_
  refine Z_aload_n (i := 0) hX d_CT_lockout_0 rfl rfl ?_
  refine Z_getR (k0 := 0) hX d_CT_lockout_1 rfl rfl u_CT (by decide) lk_CT_12 rfl ?_
  refine Z_iload_n (i := 1) hX d_CT_lockout_4 rfl rfl ?_
  refine Z_iload_n (i := 2) hX d_CT_lockout_5 rfl rfl ?_
  refine Z_cVi2 hX d_CT_lockout_6 c_Pl_isPort m_Pl_isPort rfl rfl lk_CT_85 ⟨by decide, by decide⟩ ⟨by decide, by decide⟩ (Nat.le_of_ble_eq_true rfl) ?_
  exact Z_cSx (As := [.int (zB (p_po I e p))]) hX hO d_CT_lockout_9 (c_CT_refuseUnless_x hst h1) m_CT_refuseUnless rfl lk_CT_57 ⟨by decide, by decide⟩ ⟨by decide, by decide⟩ (Nat.le_of_ble_eq_true rfl) (Zx_out hX hN hE)

set_option maxRecDepth 100000 in
set_option maxHeartbeats 4000000 in
theorem c_CT_fail_x {la : Launch} (hst : la.stackTraces = false) {G : zG} {I : zI} {J : zJ} {k v : Int32} (h1 : (p_lk I k) = false) : zCx la G y_CT_fail (Cond.code y_CT_fail prog_1_method_10_code 4 (some .boolean) :: TBL) (zRx 7) [.ref (zad G 0), .int k, .int v] I J zIA := by
  refine zCx_of hst (by decide) (by simp [lg_sl, Value.category]) (fun X hla hX hO hN hE => ?_)
  subst hla
  refine Z_loc (l' := [(0, .ref (zad G 0)), (1, .int k), (2, .int v)]) (by simp [lv_args, Value.category, List.lookup]) ?_
  refine Z_aload_n (i := 0) hX d_CT_fail_0 rfl rfl ?_
  refine Z_getR (k0 := 0) hX d_CT_fail_1 rfl rfl u_CT (by decide) lk_CT_12 rfl ?_
  refine Z_iload_n (i := 1) hX d_CT_fail_4 rfl rfl ?_
  refine Z_cVi1 hX d_CT_fail_5 c_Pl_isLink m_Pl_isLink rfl rfl lk_CT_138 ⟨by decide, by decide⟩ ⟨by decide, by decide⟩ (Nat.le_of_ble_eq_true rfl) ?_
  exact Z_cSx (As := [.int (zB (p_lk I k))]) hX hO d_CT_fail_8 (c_CT_refuseUnless_x hst h1) m_CT_refuseUnless rfl lk_CT_57 ⟨by decide, by decide⟩ ⟨by decide, by decide⟩ (Nat.le_of_ble_eq_true rfl) (Zx_out hX hN hE)

set_option maxRecDepth 100000 in
set_option maxHeartbeats 4000000 in
theorem c_CT_failElement_x {la : Launch} (hst : la.stackTraces = false) {G : zG} {I : zI} {J : zJ} {e v : Int32} (h1 : (p_th I e) = false) : zCx la G y_CT_failElement (Cond.code y_CT_failElement prog_1_method_11_code 4 (some .boolean) :: TBL) (zRx 7) [.ref (zad G 0), .int e, .int v] I J zIA := by
  refine zCx_of hst (by decide) (by simp [lg_sl, Value.category]) (fun X hla hX hO hN hE => ?_)
  subst hla
  refine Z_loc (l' := [(0, .ref (zad G 0)), (1, .int e), (2, .int v)]) (by simp [lv_args, Value.category, List.lookup]) ?_
  refine Z_aload_n (i := 0) hX d_CT_failElement_0 rfl rfl ?_
  refine Z_getR (k0 := 0) hX d_CT_failElement_1 rfl rfl u_CT (by decide) lk_CT_12 rfl ?_
  refine Z_iload_n (i := 1) hX d_CT_failElement_4 rfl rfl ?_
  refine Z_cVi1 hX d_CT_failElement_5 c_Pl_isThere m_Pl_isThere rfl rfl lk_CT_119 ⟨by decide, by decide⟩ ⟨by decide, by decide⟩ (Nat.le_of_ble_eq_true rfl) ?_
  exact Z_cSx (As := [.int (zB (p_th I e))]) hX hO d_CT_failElement_8 (c_CT_refuseUnless_x hst h1) m_CT_refuseUnless rfl lk_CT_57 ⟨by decide, by decide⟩ ⟨by decide, by decide⟩ (Nat.le_of_ble_eq_true rfl) (Zx_out hX hN hE)

set_option maxRecDepth 100000 in
set_option maxHeartbeats 4000000 in
theorem c_CT_lose_x {la : Launch} (hst : la.stackTraces = false) {G : zG} {I : zI} {J : zJ} {k v : Int32} (h1 : (p_lk I k) = false) : zCx la G y_CT_lose (Cond.code y_CT_lose prog_1_method_12_code 4 none :: TBL) (zRx 7) [.ref (zad G 0), .int k, .int v] I J zIA := by
  refine zCx_of hst (by decide) (by simp [lg_sl, Value.category]) (fun X hla hX hO hN hE => ?_)
  subst hla
  refine Z_loc (l' := [(0, .ref (zad G 0)), (1, .int k), (2, .int v)]) (by simp [lv_args, Value.category, List.lookup]) ?_
  refine Z_aload_n (i := 0) hX d_CT_lose_0 rfl rfl ?_
  refine Z_getR (k0 := 0) hX d_CT_lose_1 rfl rfl u_CT (by decide) lk_CT_12 rfl ?_
  refine Z_iload_n (i := 1) hX d_CT_lose_4 rfl rfl ?_
  refine Z_cVi1 hX d_CT_lose_5 c_Pl_isLink m_Pl_isLink rfl rfl lk_CT_138 ⟨by decide, by decide⟩ ⟨by decide, by decide⟩ (Nat.le_of_ble_eq_true rfl) ?_
  exact Z_cSx (As := [.int (zB (p_lk I k))]) hX hO d_CT_lose_8 (c_CT_refuseUnless_x hst h1) m_CT_refuseUnless rfl lk_CT_57 ⟨by decide, by decide⟩ ⟨by decide, by decide⟩ (Nat.le_of_ble_eq_true rfl) (Zx_out hX hN hE)

set_option maxRecDepth 100000 in
set_option maxHeartbeats 4000000 in
theorem c_CT_rounds_x {la : Launch} (hst : la.stackTraces = false) {G : zG} {I : zI} {J : zJ} {n : Int32} (h1 : (p_in n 1 200) = false) : zCx la G y_CT_rounds (Cond.code y_CT_rounds prog_1_method_13_code 3 (some .int) :: TBL) (zRx 7) [.ref (zad G 0), .int n] I J zIA := by
  refine zCx_of hst (by decide) (by simp [lg_sl, Value.category]) (fun X hla hX hO hN hE => ?_)
  subst hla
  refine Z_loc (l' := [(0, .ref (zad G 0)), (1, .int n)]) (by simp [lv_args, Value.category, List.lookup]) ?_
  refine Z_iload_n (i := 1) hX d_CT_rounds_0 rfl rfl ?_
  refine Z_iconst (v := 1) hX d_CT_rounds_1 rfl ?_
  refine Z_sipush (v := 200) hX d_CT_rounds_2 rfl ?_
  refine Z_cSi3 hX d_CT_rounds_5 c_CT_isWithin m_CT_isWithin rfl lk_CT_53 ⟨by decide, by decide⟩ ⟨by decide, by decide⟩ (Nat.le_of_ble_eq_true rfl) ?_
  exact Z_cSx (As := [.int (zB (p_in n 1 200))]) hX hO d_CT_rounds_8 (c_CT_refuseUnless_x hst h1) m_CT_refuseUnless rfl lk_CT_57 ⟨by decide, by decide⟩ ⟨by decide, by decide⟩ (Nat.le_of_ble_eq_true rfl) (Zx_out hX hN hE)

set_option maxRecDepth 100000 in
set_option maxHeartbeats 4000000 in
theorem c_CT_state_x1 {la : Launch} (hst : la.stackTraces = false) {G : zG} {I : zI} {J : zJ} {e w : Int32} (h1 : (p_th I e) = false) : zCx la G y_CT_state (Cond.code y_CT_state prog_1_method_15_code 3 (some .int) :: TBL) (zRx 7) [.ref (zad G 0), .int e, .int w] I J zIA := by
  refine zCx_of hst (by decide) (by simp [lg_sl, Value.category]) (fun X hla hX hO hN hE => ?_)
  subst hla
  refine Z_loc (l' := [(0, .ref (zad G 0)), (1, .int e), (2, .int w)]) (by simp [lv_args, Value.category, List.lookup]) ?_
  refine Z_aload_n (i := 0) hX d_CT_state_0 rfl rfl ?_
  refine Z_getR (k0 := 0) hX d_CT_state_1 rfl rfl u_CT (by decide) lk_CT_12 rfl ?_
  refine Z_iload_n (i := 1) hX d_CT_state_4 rfl rfl ?_
  refine Z_cVi1 hX d_CT_state_5 c_Pl_isThere m_Pl_isThere rfl rfl lk_CT_119 ⟨by decide, by decide⟩ ⟨by decide, by decide⟩ (Nat.le_of_ble_eq_true rfl) ?_
  exact Z_cSx (As := [.int (zB (p_th I e))]) hX hO d_CT_state_8 (c_CT_refuseUnless_x hst h1) m_CT_refuseUnless rfl lk_CT_57 ⟨by decide, by decide⟩ ⟨by decide, by decide⟩ (Nat.le_of_ble_eq_true rfl) (Zx_out hX hN hE)

set_option maxRecDepth 100000 in
set_option maxHeartbeats 4000000 in
theorem c_CT_state_x2 {la : Launch} (hst : la.stackTraces = false) {G : zG} {I : zI} {J : zJ} {e w : Int32} (h1 : p_th I e = true) (h2 : p_in w 0 4 = false) : zCx la G y_CT_state (Cond.code y_CT_state prog_1_method_15_code 3 (some .int) :: TBL) (zRx 7) [.ref (zad G 0), .int e, .int w] I J zIA := by
  refine zCx_of hst (by decide) (by simp [lg_sl, Value.category]) (fun X hla hX hO hN hE => ?_)
  subst hla
  refine Z_loc (l' := [(0, .ref (zad G 0)), (1, .int e), (2, .int w)]) (by simp [lv_args, Value.category, List.lookup]) ?_
  refine Z_aload_n (i := 0) hX d_CT_state_0 rfl rfl ?_
  refine Z_getR (k0 := 0) hX d_CT_state_1 rfl rfl u_CT (by decide) lk_CT_12 rfl ?_
  refine Z_iload_n (i := 1) hX d_CT_state_4 rfl rfl ?_
  refine Z_cVi1 hX d_CT_state_5 c_Pl_isThere m_Pl_isThere rfl rfl lk_CT_119 ⟨by decide, by decide⟩ ⟨by decide, by decide⟩ (Nat.le_of_ble_eq_true rfl) ?_
  refine Z_cSv1 hX d_CT_state_8 (c_CT_refuseUnless h1) m_CT_refuseUnless rfl lk_CT_57 ⟨by decide, by decide⟩ ⟨by decide, by decide⟩ (Nat.le_of_ble_eq_true rfl) ?_
  refine Z_iload_n (i := 2) hX d_CT_state_11 rfl rfl ?_
  refine Z_tabOut (tgt := 97) hX d_CT_state_12 (p_out h2) rfl ?_
  exact Z_throw (ic := 194) hX hO hN hE (by decide) ow_IA kl_IA in_IA is_IA (List.mem_of_getElem? (i := 4) rfl) d_CT_state_97 d_CT_state_100 d_CT_state_101 d_CT_state_103 d_CT_state_106 ⟨by decide, by decide⟩ ⟨by decide, by decide⟩ (Nat.le_of_ble_eq_true rfl)

set_option maxRecDepth 100000 in
set_option maxHeartbeats 4000000 in
theorem c_CT_phase_x {la : Launch} (hst : la.stackTraces = false) {G : zG} {I : zI} {J : zJ} {e : Int32} (h1 : (p_th I e) = false) : zCx la G y_CT_phase (Cond.code y_CT_phase prog_1_method_16_code 2 (some .long) :: TBL) (zRx 7) [.ref (zad G 0), .int e] I J zIA := by
  refine zCx_of hst (by decide) (by simp [lg_sl, Value.category]) (fun X hla hX hO hN hE => ?_)
  subst hla
  refine Z_loc (l' := [(0, .ref (zad G 0)), (1, .int e)]) (by simp [lv_args, Value.category, List.lookup]) ?_
  refine Z_aload_n (i := 0) hX d_CT_phase_0 rfl rfl ?_
  refine Z_getR (k0 := 0) hX d_CT_phase_1 rfl rfl u_CT (by decide) lk_CT_12 rfl ?_
  refine Z_iload_n (i := 1) hX d_CT_phase_4 rfl rfl ?_
  refine Z_cVi1 hX d_CT_phase_5 c_Pl_isThere m_Pl_isThere rfl rfl lk_CT_119 ⟨by decide, by decide⟩ ⟨by decide, by decide⟩ (Nat.le_of_ble_eq_true rfl) ?_
  exact Z_cSx (As := [.int (zB (p_th I e))]) hX hO d_CT_phase_8 (c_CT_refuseUnless_x hst h1) m_CT_refuseUnless rfl lk_CT_57 ⟨by decide, by decide⟩ ⟨by decide, by decide⟩ (Nat.le_of_ble_eq_true rfl) (Zx_out hX hN hE)

set_option maxRecDepth 100000 in
set_option maxHeartbeats 4000000 in
theorem c_CT_sends_x {la : Launch} (hst : la.stackTraces = false) {G : zG} {I : zI} {J : zJ} {e p : Int32} (h1 : (p_po I e p) = false) : zCx la G y_CT_sends (Cond.code y_CT_sends prog_1_method_17_code 3 (some .int) :: TBL) (zRx 7) [.ref (zad G 0), .int e, .int p] I J zIA := by
  refine zCx_of hst (by decide) (by simp [lg_sl, Value.category]) (fun X hla hX hO hN hE => ?_)
  subst hla
  refine Z_loc (l' := [(0, .ref (zad G 0)), (1, .int e), (2, .int p)]) (by simp [lv_args, Value.category, List.lookup]) ?_
  refine Z_aload_n (i := 0) hX d_CT_sends_0 rfl rfl ?_
  refine Z_getR (k0 := 0) hX d_CT_sends_1 rfl rfl u_CT (by decide) lk_CT_12 rfl ?_
  refine Z_iload_n (i := 1) hX d_CT_sends_4 rfl rfl ?_
  refine Z_iload_n (i := 2) hX d_CT_sends_5 rfl rfl ?_
  refine Z_cVi2 hX d_CT_sends_6 c_Pl_isPort m_Pl_isPort rfl rfl lk_CT_85 ⟨by decide, by decide⟩ ⟨by decide, by decide⟩ (Nat.le_of_ble_eq_true rfl) ?_
  exact Z_cSx (As := [.int (zB (p_po I e p))]) hX hO d_CT_sends_9 (c_CT_refuseUnless_x hst h1) m_CT_refuseUnless rfl lk_CT_57 ⟨by decide, by decide⟩ ⟨by decide, by decide⟩ (Nat.le_of_ble_eq_true rfl) (Zx_out hX hN hE)

set_option maxRecDepth 100000 in
set_option maxHeartbeats 4000000 in
theorem c_CT_traced_x {la : Launch} (hst : la.stackTraces = false) {G : zG} {I : zI} {J : zJ} {e : Int32} (h1 : (p_th I e) = false) : zCx la G y_CT_traced (Cond.code y_CT_traced prog_1_method_18_code 3 (some .int) :: TBL) (zRx 7) [.ref (zad G 0), .int e] I J zIA := by
  refine zCx_of hst (by decide) (by simp [lg_sl, Value.category]) (fun X hla hX hO hN hE => ?_)
  subst hla
  refine Z_loc (l' := [(0, .ref (zad G 0)), (1, .int e)]) (by simp [lv_args, Value.category, List.lookup]) ?_
  refine Z_aload_n (i := 0) hX d_CT_traced_0 rfl rfl ?_
  refine Z_getR (k0 := 0) hX d_CT_traced_1 rfl rfl u_CT (by decide) lk_CT_12 rfl ?_
  refine Z_iload_n (i := 1) hX d_CT_traced_4 rfl rfl ?_
  refine Z_cVi1 hX d_CT_traced_5 c_Pl_isThere m_Pl_isThere rfl rfl lk_CT_119 ⟨by decide, by decide⟩ ⟨by decide, by decide⟩ (Nat.le_of_ble_eq_true rfl) ?_
  exact Z_cSx (As := [.int (zB (p_th I e))]) hX hO d_CT_traced_8 (c_CT_refuseUnless_x hst h1) m_CT_refuseUnless rfl lk_CT_57 ⟨by decide, by decide⟩ ⟨by decide, by decide⟩ (Nat.le_of_ble_eq_true rfl) (Zx_out hX hN hE)

set_option maxRecDepth 100000 in
set_option maxHeartbeats 4000000 in
theorem c_CT_best_x {la : Launch} (hst : la.stackTraces = false) {G : zG} {I : zI} {J : zJ} {e : Int32} (h1 : (p_th I e) = false) : zCx la G y_CT_best (Cond.code y_CT_best prog_1_method_20_code 2 (some .int) :: TBL) (zRx 7) [.ref (zad G 0), .int e] I J zIA := by
  refine zCx_of hst (by decide) (by simp [lg_sl, Value.category]) (fun X hla hX hO hN hE => ?_)
  subst hla
  refine Z_loc (l' := [(0, .ref (zad G 0)), (1, .int e)]) (by simp [lv_args, Value.category, List.lookup]) ?_
  refine Z_aload_n (i := 0) hX d_CT_best_0 rfl rfl ?_
  refine Z_getR (k0 := 0) hX d_CT_best_1 rfl rfl u_CT (by decide) lk_CT_12 rfl ?_
  refine Z_iload_n (i := 1) hX d_CT_best_4 rfl rfl ?_
  refine Z_cVi1 hX d_CT_best_5 c_Pl_isThere m_Pl_isThere rfl rfl lk_CT_119 ⟨by decide, by decide⟩ ⟨by decide, by decide⟩ (Nat.le_of_ble_eq_true rfl) ?_
  exact Z_cSx (As := [.int (zB (p_th I e))]) hX hO d_CT_best_8 (c_CT_refuseUnless_x hst h1) m_CT_refuseUnless rfl lk_CT_57 ⟨by decide, by decide⟩ ⟨by decide, by decide⟩ (Nat.le_of_ble_eq_true rfl) (Zx_out hX hN hE)

set_option maxRecDepth 100000 in
set_option maxHeartbeats 4000000 in
theorem c_CT_finding_x {la : Launch} (hst : la.stackTraces = false) {G : zG} {I : zI} {J : zJ} {k w : Int32} (h1 : (p_in k 0 (I 0 7 - 1) && p_in w 0 1) = false) : zCx la G y_CT_finding (Cond.code y_CT_finding prog_1_method_22_code 3 (some .int) :: TBL) (zRx 7) [.ref (zad G 0), .int k, .int w] I J zIA := by
  refine zCx_of hst (by decide) (by simp [lg_sl, Value.category]) (fun X hla hX hO hN hE => ?_)
  subst hla
  refine Z_loc (l' := [(0, .ref (zad G 0)), (1, .int k), (2, .int w)]) (by simp [lv_args, Value.category, List.lookup]) ?_
  refine Z_cutw (pc' := 28) (w := zB (p_in k 0 (I 0 7 - 1) && p_in w 0 1)) ?_ (fun hJ28 => ?_)
  · refine Z_id ?_
    exact Z_cSx (As := [.int (zB (p_in k 0 (I 0 7 - 1) && p_in w 0 1))]) hX hO d_CT_finding_28 (c_CT_refuseUnless_x hst h1) m_CT_refuseUnless rfl lk_CT_57 ⟨by decide, by decide⟩ ⟨by decide, by decide⟩ (Nat.le_of_ble_eq_true rfl) (Zx_out hX hN hE)
  · refine Z_iload_n (i := 1) hX d_CT_finding_0 rfl rfl ?_
    refine Z_iconst (v := 0) hX d_CT_finding_1 rfl ?_
    refine Z_aload_n (i := 0) hX d_CT_finding_2 rfl rfl ?_
    refine Z_getI (k0 := 7) hX d_CT_finding_3 rfl rfl u_CT (by decide) lk_CT_49 rfl ?_
    refine Z_iconst (v := 1) hX d_CT_finding_6 rfl ?_
    refine Z_isub hX d_CT_finding_7 ?_
    refine Z_cSi3 hX d_CT_finding_8 c_CT_isWithin m_CT_isWithin rfl lk_CT_53 ⟨by decide, by decide⟩ ⟨by decide, by decide⟩ (Nat.le_of_ble_eq_true rfl) ?_
    refine Z_ifeqB (tgt := 27) hX d_CT_finding_11 rfl (fun h11 => ?_) (fun h11 => ?_)
    · refine Z_iconst (v := 0) hX d_CT_finding_27 rfl ?_
      exact hJ28 _ (by simp [zB, h11])
    · refine Z_iload_n (i := 2) hX d_CT_finding_14 rfl rfl ?_
      refine Z_iconst (v := 0) hX d_CT_finding_15 rfl ?_
      refine Z_iconst (v := 1) hX d_CT_finding_16 rfl ?_
      refine Z_cSi3 hX d_CT_finding_17 c_CT_isWithin m_CT_isWithin rfl lk_CT_53 ⟨by decide, by decide⟩ ⟨by decide, by decide⟩ (Nat.le_of_ble_eq_true rfl) ?_
      refine Z_ifeqB (tgt := 27) hX d_CT_finding_20 rfl (fun h20 => ?_) (fun h20 => ?_)
      · refine Z_iconst (v := 0) hX d_CT_finding_27 rfl ?_
        exact hJ28 _ (by simp [zB, h11, h20])
      · refine Z_iconst (v := 1) hX d_CT_finding_23 rfl ?_
        refine Z_goto (tgt := 28) hX d_CT_finding_24 rfl ?_
        exact hJ28 _ (by simp [zB, h11, h20])
