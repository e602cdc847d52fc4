/-! the reference's calls: refused ones set thrownCode alone -/
def m_t (I : zI) (v : Int32) : zI := zup I 64 0 v
theorem m_t_0 {I : zI} {v : Int32} : zup I 64 0 v 64 0 = v := by rw [zup_same, pk_us]
theorem zB_c {w v : Bool} (h : w = v) : zB w = zB v := by rw [h]
def m_el (I : zI) (e : Nat) (q o s : Int32) : zI := zup (zup (zup (zup (zup (zup (zup (zup (zup (m_t I 0) 65 e 1) 66 e q) 67 e o) 68 e s) 79 (560 + e) o) 79 (576 + e) o) 79 (592 + e) o) 79 (608 + e) (-1)) 79 (624 + e) (-1)
def m_elw (e q o s : Int32) : Bool := decide (e < 0) || decide (15 < e) || decide (q < 0) || decide (6 < q) || decide (o < -1000) || decide (1000 < o) || decide (s < -9) || decide (¬ s ≤ 9)
def m_lkw (I : zI) (a p b q : Int32) : Bool := m_np I a p || m_np I b q || decide (a = b)
def m_lkt (I : zI) (x y : Nat) : Bool := decide (0 ≤ I 72 x) || decide (0 ≤ I 72 y) || decide (0 ≤ I 74 x) || decide (0 ≤ I 74 y) || decide (I 64 14 = 24)
def m_ln (I : zI) (k x y : Nat) : zI := zup (zup (zup (zup (zup (m_t I 0) 77 k (nI x)) 78 k (nI y)) 74 x (nI k)) 74 y (nI k)) 64 14 (nI (k + 1))
def m_sow (I : zI) (e p q o : Int32) : Bool := m_np I e p || decide (q < -1) || decide (6 < q) || (decide (¬ q < 0) && (decide (o < -1000) || decide (¬ o ≤ 1000)))
def m_prw (I : zI) (e p v : Int32) : Bool := m_np I e p || decide (v < 0) || decide (¬ v ≤ 9)
def m_rew (I : zI) (e n : Int32) : Bool := m_ne I e || decide (n < 0) || decide (¬ n ≤ 10)
def m_cow (I : zI) (e w p : Int32) : Bool := m_ne I e || decide (w < 0) || decide (1 < w) || decide (p < -1) || decide (¬ p ≤ 3)
def m_row (n : Int32) : Bool := decide (n < 1) || decide (¬ n ≤ 200)
def m_stw (I : zI) (e w : Int32) : Bool := m_ne I e || decide (w < 0) || decide (¬ w ≤ 4)
def m_fiw (I : zI) (k w : Int32) : Bool := decide (k < 0) || decide (I 64 22 ≤ k) || decide (w < 0) || decide (¬ w ≤ 1)
def m_itI (I : zI) : Nat → zI
  | 0 => I
  | n + 1 => m_ro (m_itI I n)
def m_itJ (I : zI) (J : zJ) : Nat → zJ
  | 0 => J
  | n + 1 => m_roJ (m_itI I n) (m_itJ I J n)
theorem fr_it {I : zI} {c : Nat} (hc : c ≠ 79) (hc2 : c ≠ 83) : ∀ n, m_itI I n c = I c
  | 0 => rfl
  | n + 1 => by
    unfold m_itI
    rw [fr_mro hc hc2, fr_it hc hc2 n]
def okMQ (I : zI) : Prop := ∀ e, e < 16 → okQ (I 70 e) ∧ okQ (I 71 e)
theorem okMQ_of {I I' : zI} (h0 : I' 70 = I 70) (h1 : I' 71 = I 71) (h : okMQ I) : okMQ I' := by
  unfold okMQ
  rw [h0, h1]
  exact h
set_option maxRecDepth 100000 in
set_option maxHeartbeats 4000000 in
theorem c_Mo_priority_x {la : Launch} {G : zG} {I : zI} {J : zJ} {e p v : Int32} (hw : m_prw I e p v = true)  : zCi la G y_Mo_priority (Cond.code y_Mo_priority prog_8_method_31_code 5 (some .int) :: TBL) (zR 3) [.ref (zad G 64), .int e, .int p, .int v] I J (0) (m_t I 1) (J) := by
  refine zCi_of (by decide) (by simp [lg_sl, Value.category]) (rfl) (fun X hla hX hR => ?_)
  subst hla
  refine Z_loc (l' := [(0, .ref (zad G 64)), (1, .int e), (2, .int p), (3, .int v)]) (by simp [lv_args, Value.category, List.lookup]) ?_
  refine Z_aload_n (i := 0) hX d_Mo_priority_0 rfl rfl ?_
  refine Z_cutw (pc' := 25) (w := zB (m_prw I e p v)) ?_ (fun hJ25 => ?_)
  · refine Z_id ?_
    refine Z_top (y := 1) (by rw [hw]; rfl) ?_
    refine Z_putI (k0 := 0) hX d_Mo_priority_25 rfl rfl u_Mo (by decide) lk_Mo_7 rfl t_Mo to_Mo n_Mo rfl rfl rfl rfl ?_
    refine Z_aload_n (i := 0) hX d_Mo_priority_28 rfl rfl ?_
    refine Z_getI (k0 := 0) hX d_Mo_priority_29 rfl rfl u_Mo (by decide) lk_Mo_7 rfl ?_
    refine Z_top (y := 1) m_t_0 ?_
    refine Z_ifeq (tgt := 37) hX d_Mo_priority_32 rfl (fun h => absurd h (by decide)) (fun h32 => ?_)
    refine Z_iconst (v := 0) hX d_Mo_priority_35 rfl ?_
    exact Z_ri (hR _ _ d_Mo_priority_36) (by rfl) (by rfl) (by rfl)
  · refine Z_aload_n (i := 0) hX d_Mo_priority_1 rfl rfl ?_
    refine Z_iload_n (i := 1) hX d_Mo_priority_2 rfl rfl ?_
    refine Z_iload_n (i := 2) hX d_Mo_priority_3 rfl rfl ?_
    refine Z_cVi2 hX d_Mo_priority_4 c_Mo_noPort m_Mo_noPort rfl rfl lk_Mo_152 ⟨by decide, by decide⟩ ⟨by decide, by decide⟩ (Nat.le_of_ble_eq_true rfl) ?_
    refine Z_ifneB (tgt := 20) hX d_Mo_priority_7 rfl (fun h7 => ?_) (fun h7 => ?_)
    · refine Z_iconst (v := 1) hX d_Mo_priority_20 rfl ?_
      refine Z_goto (tgt := 25) hX d_Mo_priority_21 rfl ?_
      exact hJ25 _ (by simp [m_prw, zB, h7])
    · refine Z_iload_n (i := 3) hX d_Mo_priority_10 rfl rfl ?_
      refine Z_iflt (tgt := 20) hX d_Mo_priority_11 rfl (fun h11 => ?_) (fun h11 => ?_)
      · refine Z_iconst (v := 1) hX d_Mo_priority_20 rfl ?_
        refine Z_goto (tgt := 25) hX d_Mo_priority_21 rfl ?_
        exact hJ25 _ (by simp [m_prw, zB, h7, h11])
      · refine Z_iload_n (i := 3) hX d_Mo_priority_14 rfl rfl ?_
        refine Z_bipush (v := 9) hX d_Mo_priority_15 rfl ?_
        refine Z_icle (tgt := 24) hX d_Mo_priority_17 rfl (fun h17 => ?_) (fun h17 => ?_)
        · refine Z_iconst (v := 0) hX d_Mo_priority_24 rfl ?_
          exact hJ25 _ (by simp [m_prw, zB, h7, h11, h17])
        · refine Z_iconst (v := 1) hX d_Mo_priority_20 rfl ?_
          refine Z_goto (tgt := 25) hX d_Mo_priority_21 rfl ?_
          exact hJ25 _ (by simp [m_prw, zB, h7, h11, h17])

set_option maxRecDepth 100000 in
set_option maxHeartbeats 4000000 in
theorem c_Mo_priority {la : Launch} {G : zG} {I : zI} {J : zJ} {e p : Nat} (he : e < 16) (hp : p < 4) {v : Int32} (hw : m_prw I (nI e) (nI p) v = false)  : zCi la G y_Mo_priority (Cond.code y_Mo_priority prog_8_method_31_code 5 (some .int) :: TBL) (zR 3) [.ref (zad G 64), .int (nI e), .int (nI p), .int v] I J (I 75 (4 * e + p)) (zup (m_t I 0) 75 (4 * e + p) v) (J) := by
  refine zCi_of (by decide) (by simp [lg_sl, Value.category]) (rfl) (fun X hla hX hR => ?_)
  subst hla
  refine Z_loc (l' := [(0, .ref (zad G 64)), (1, .int (nI e)), (2, .int (nI p)), (3, .int v)]) (by simp [lv_args, Value.category, List.lookup]) ?_
  refine Z_aload_n (i := 0) hX d_Mo_priority_0 rfl rfl ?_
  refine Z_cutw (pc' := 25) (w := zB (m_prw I (nI e) (nI p) v)) ?_ (fun hJ25 => ?_)
  · refine Z_id ?_
    refine Z_top (y := 0) (by rw [hw]; rfl) ?_
    refine Z_putI (k0 := 0) hX d_Mo_priority_25 rfl rfl u_Mo (by decide) lk_Mo_7 rfl t_Mo to_Mo n_Mo rfl rfl rfl rfl ?_
    refine Z_aload_n (i := 0) hX d_Mo_priority_28 rfl rfl ?_
    refine Z_getI (k0 := 0) hX d_Mo_priority_29 rfl rfl u_Mo (by decide) lk_Mo_7 rfl ?_
    refine Z_top (y := 0) m_t_0 ?_
    refine Z_ifeq (tgt := 37) hX d_Mo_priority_32 rfl (fun h32 => ?_) (fun h => absurd rfl h)
    refine Z_aload_n (i := 0) hX d_Mo_priority_37 rfl rfl ?_
    refine Z_getR (k0 := 12) hX d_Mo_priority_38 rfl rfl u_Mo (by decide) lk_Mo_49 rfl ?_
    refine Z_iconst (v := nI 4) hX d_Mo_priority_41 rfl ?_
    refine Z_iload_n (i := 1) hX d_Mo_priority_42 rfl rfl ?_
    refine Z_imulN hX d_Mo_priority_43 ?_
    refine Z_iload_n (i := 2) hX d_Mo_priority_44 rfl rfl ?_
    refine Z_iaddN hX d_Mo_priority_45 ?_
    refine Z_iald hX d_Mo_priority_46 rfl rfl (by omega) (by decide) ?_
    refine Z_istore hX d_Mo_priority_47 (by decide) rfl ?_
    refine Z_aload_n (i := 0) hX d_Mo_priority_49 rfl rfl ?_
    refine Z_getR (k0 := 12) hX d_Mo_priority_50 rfl rfl u_Mo (by decide) lk_Mo_49 rfl ?_
    refine Z_iconst (v := nI 4) hX d_Mo_priority_53 rfl ?_
    refine Z_iload_n (i := 1) hX d_Mo_priority_54 rfl rfl ?_
    refine Z_imulN hX d_Mo_priority_55 ?_
    refine Z_iload_n (i := 2) hX d_Mo_priority_56 rfl rfl ?_
    refine Z_iaddN hX d_Mo_priority_57 ?_
    refine Z_iload_n (i := 3) hX d_Mo_priority_58 rfl rfl ?_
    refine Z_iast hX d_Mo_priority_59 rfl rfl (by omega) (by decide) ?_
    refine Z_iload hX d_Mo_priority_60 rfl ?_
    exact Z_ri (hR _ _ d_Mo_priority_62) (by (first | rfl | (exact congrFun (zup_ne (by decide)) _))) (by rfl) (by rfl)
  · refine Z_aload_n (i := 0) hX d_Mo_priority_1 rfl rfl ?_
    refine Z_iload_n (i := 1) hX d_Mo_priority_2 rfl rfl ?_
    refine Z_iload_n (i := 2) hX d_Mo_priority_3 rfl rfl ?_
    refine Z_cVi2 hX d_Mo_priority_4 c_Mo_noPort m_Mo_noPort rfl rfl lk_Mo_152 ⟨by decide, by decide⟩ ⟨by decide, by decide⟩ (Nat.le_of_ble_eq_true rfl) ?_
    refine Z_ifneB (tgt := 20) hX d_Mo_priority_7 rfl (fun h7 => ?_) (fun h7 => ?_)
    · refine Z_iconst (v := 1) hX d_Mo_priority_20 rfl ?_
      refine Z_goto (tgt := 25) hX d_Mo_priority_21 rfl ?_
      exact hJ25 _ (by simp [m_prw, zB, h7])
    · refine Z_iload_n (i := 3) hX d_Mo_priority_10 rfl rfl ?_
      refine Z_iflt (tgt := 20) hX d_Mo_priority_11 rfl (fun h11 => ?_) (fun h11 => ?_)
      · refine Z_iconst (v := 1) hX d_Mo_priority_20 rfl ?_
        refine Z_goto (tgt := 25) hX d_Mo_priority_21 rfl ?_
        exact hJ25 _ (by simp [m_prw, zB, h7, h11])
      · refine Z_iload_n (i := 3) hX d_Mo_priority_14 rfl rfl ?_
        refine Z_bipush (v := 9) hX d_Mo_priority_15 rfl ?_
        refine Z_icle (tgt := 24) hX d_Mo_priority_17 rfl (fun h17 => ?_) (fun h17 => ?_)
        · refine Z_iconst (v := 0) hX d_Mo_priority_24 rfl ?_
          exact hJ25 _ (by simp [m_prw, zB, h7, h11, h17])
        · refine Z_iconst (v := 1) hX d_Mo_priority_20 rfl ?_
          refine Z_goto (tgt := 25) hX d_Mo_priority_21 rfl ?_
          exact hJ25 _ (by simp [m_prw, zB, h7, h11, h17])

set_option maxRecDepth 100000 in
set_option maxHeartbeats 4000000 in
theorem c_Mo_restore_x {la : Launch} {G : zG} {I : zI} {J : zJ} {e v : Int32} (hw : m_rew I e v = true)  : zCi la G y_Mo_restore (Cond.code y_Mo_restore prog_8_method_32_code 4 (some .int) :: TBL) (zR 2) [.ref (zad G 64), .int e, .int v] I J (0) (m_t I 1) (J) := by
  refine zCi_of (by decide) (by simp [lg_sl, Value.category]) (rfl) (fun X hla hX hR => ?_)
  subst hla
  refine Z_loc (l' := [(0, .ref (zad G 64)), (1, .int e), (2, .int v)]) (by simp [lv_args, Value.category, List.lookup]) ?_
  refine Z_aload_n (i := 0) hX d_Mo_restore_0 rfl rfl ?_
  refine Z_cutw (pc' := 24) (w := zB (m_rew I e v)) ?_ (fun hJ24 => ?_)
  · refine Z_id ?_
    refine Z_top (y := 1) (by rw [hw]; rfl) ?_
    refine Z_putI (k0 := 0) hX d_Mo_restore_24 rfl rfl u_Mo (by decide) lk_Mo_7 rfl t_Mo to_Mo n_Mo rfl rfl rfl rfl ?_
    refine Z_aload_n (i := 0) hX d_Mo_restore_27 rfl rfl ?_
    refine Z_getI (k0 := 0) hX d_Mo_restore_28 rfl rfl u_Mo (by decide) lk_Mo_7 rfl ?_
    refine Z_top (y := 1) m_t_0 ?_
    refine Z_ifeq (tgt := 36) hX d_Mo_restore_31 rfl (fun h => absurd h (by decide)) (fun h31 => ?_)
    refine Z_iconst (v := 0) hX d_Mo_restore_34 rfl ?_
    exact Z_ri (hR _ _ d_Mo_restore_35) (by rfl) (by rfl) (by rfl)
  · refine Z_aload_n (i := 0) hX d_Mo_restore_1 rfl rfl ?_
    refine Z_iload_n (i := 1) hX d_Mo_restore_2 rfl rfl ?_
    refine Z_cVi1 hX d_Mo_restore_3 c_Mo_noElement m_Mo_noElement rfl rfl lk_Mo_149 ⟨by decide, by decide⟩ ⟨by decide, by decide⟩ (Nat.le_of_ble_eq_true rfl) ?_
    refine Z_ifneB (tgt := 19) hX d_Mo_restore_6 rfl (fun h6 => ?_) (fun h6 => ?_)
    · refine Z_iconst (v := 1) hX d_Mo_restore_19 rfl ?_
      refine Z_goto (tgt := 24) hX d_Mo_restore_20 rfl ?_
      exact hJ24 _ (by simp [m_rew, zB, h6])
    · refine Z_iload_n (i := 2) hX d_Mo_restore_9 rfl rfl ?_
      refine Z_iflt (tgt := 19) hX d_Mo_restore_10 rfl (fun h10 => ?_) (fun h10 => ?_)
      · refine Z_iconst (v := 1) hX d_Mo_restore_19 rfl ?_
        refine Z_goto (tgt := 24) hX d_Mo_restore_20 rfl ?_
        exact hJ24 _ (by simp [m_rew, zB, h6, h10])
      · refine Z_iload_n (i := 2) hX d_Mo_restore_13 rfl rfl ?_
        refine Z_bipush (v := 10) hX d_Mo_restore_14 rfl ?_
        refine Z_icle (tgt := 23) hX d_Mo_restore_16 rfl (fun h16 => ?_) (fun h16 => ?_)
        · refine Z_iconst (v := 0) hX d_Mo_restore_23 rfl ?_
          exact hJ24 _ (by simp [m_rew, zB, h6, h10, h16])
        · refine Z_iconst (v := 1) hX d_Mo_restore_19 rfl ?_
          refine Z_goto (tgt := 24) hX d_Mo_restore_20 rfl ?_
          exact hJ24 _ (by simp [m_rew, zB, h6, h10, h16])

set_option maxRecDepth 100000 in
set_option maxHeartbeats 4000000 in
theorem c_Mo_restore {la : Launch} {G : zG} {I : zI} {J : zJ} {e : Nat} (he : e < 16) {v : Int32} (hw : m_rew I (nI e) v = false)  : zCi la G y_Mo_restore (Cond.code y_Mo_restore prog_8_method_32_code 4 (some .int) :: TBL) (zR 2) [.ref (zad G 64), .int (nI e), .int v] I J (I 69 e) (zup (m_t I 0) 69 e v) (J) := by
  refine zCi_of (by decide) (by simp [lg_sl, Value.category]) (rfl) (fun X hla hX hR => ?_)
  subst hla
  refine Z_loc (l' := [(0, .ref (zad G 64)), (1, .int (nI e)), (2, .int v)]) (by simp [lv_args, Value.category, List.lookup]) ?_
  refine Z_aload_n (i := 0) hX d_Mo_restore_0 rfl rfl ?_
  refine Z_cutw (pc' := 24) (w := zB (m_rew I (nI e) v)) ?_ (fun hJ24 => ?_)
  · refine Z_id ?_
    refine Z_top (y := 0) (by rw [hw]; rfl) ?_
    refine Z_putI (k0 := 0) hX d_Mo_restore_24 rfl rfl u_Mo (by decide) lk_Mo_7 rfl t_Mo to_Mo n_Mo rfl rfl rfl rfl ?_
    refine Z_aload_n (i := 0) hX d_Mo_restore_27 rfl rfl ?_
    refine Z_getI (k0 := 0) hX d_Mo_restore_28 rfl rfl u_Mo (by decide) lk_Mo_7 rfl ?_
    refine Z_top (y := 0) m_t_0 ?_
    refine Z_ifeq (tgt := 36) hX d_Mo_restore_31 rfl (fun h31 => ?_) (fun h => absurd rfl h)
    refine Z_aload_n (i := 0) hX d_Mo_restore_36 rfl rfl ?_
    refine Z_getR (k0 := 6) hX d_Mo_restore_37 rfl rfl u_Mo (by decide) lk_Mo_31 rfl ?_
    refine Z_iload_n (i := 1) hX d_Mo_restore_40 rfl rfl ?_
    refine Z_iald hX d_Mo_restore_41 rfl rfl (by omega) (by decide) ?_
    refine Z_istore_n (i := 3) hX d_Mo_restore_42 rfl (by decide) rfl ?_
    refine Z_aload_n (i := 0) hX d_Mo_restore_43 rfl rfl ?_
    refine Z_getR (k0 := 6) hX d_Mo_restore_44 rfl rfl u_Mo (by decide) lk_Mo_31 rfl ?_
    refine Z_iload_n (i := 1) hX d_Mo_restore_47 rfl rfl ?_
    refine Z_iload_n (i := 2) hX d_Mo_restore_48 rfl rfl ?_
    refine Z_iast hX d_Mo_restore_49 rfl rfl (by omega) (by decide) ?_
    refine Z_iload_n (i := 3) hX d_Mo_restore_50 rfl rfl ?_
    exact Z_ri (hR _ _ d_Mo_restore_51) (by (exact congrFun (zup_ne (by decide)) _)) (by rfl) (by rfl)
  · refine Z_aload_n (i := 0) hX d_Mo_restore_1 rfl rfl ?_
    refine Z_iload_n (i := 1) hX d_Mo_restore_2 rfl rfl ?_
    refine Z_cVi1 hX d_Mo_restore_3 c_Mo_noElement m_Mo_noElement rfl rfl lk_Mo_149 ⟨by decide, by decide⟩ ⟨by decide, by decide⟩ (Nat.le_of_ble_eq_true rfl) ?_
    refine Z_ifneB (tgt := 19) hX d_Mo_restore_6 rfl (fun h6 => ?_) (fun h6 => ?_)
    · refine Z_iconst (v := 1) hX d_Mo_restore_19 rfl ?_
      refine Z_goto (tgt := 24) hX d_Mo_restore_20 rfl ?_
      exact hJ24 _ (by simp [m_rew, zB, h6])
    · refine Z_iload_n (i := 2) hX d_Mo_restore_9 rfl rfl ?_
      refine Z_iflt (tgt := 19) hX d_Mo_restore_10 rfl (fun h10 => ?_) (fun h10 => ?_)
      · refine Z_iconst (v := 1) hX d_Mo_restore_19 rfl ?_
        refine Z_goto (tgt := 24) hX d_Mo_restore_20 rfl ?_
        exact hJ24 _ (by simp [m_rew, zB, h6, h10])
      · refine Z_iload_n (i := 2) hX d_Mo_restore_13 rfl rfl ?_
        refine Z_bipush (v := 10) hX d_Mo_restore_14 rfl ?_
        refine Z_icle (tgt := 23) hX d_Mo_restore_16 rfl (fun h16 => ?_) (fun h16 => ?_)
        · refine Z_iconst (v := 0) hX d_Mo_restore_23 rfl ?_
          exact hJ24 _ (by simp [m_rew, zB, h6, h10, h16])
        · refine Z_iconst (v := 1) hX d_Mo_restore_19 rfl ?_
          refine Z_goto (tgt := 24) hX d_Mo_restore_20 rfl ?_
          exact hJ24 _ (by simp [m_rew, zB, h6, h10, h16])

set_option maxRecDepth 100000 in
set_option maxHeartbeats 4000000 in
theorem c_Mo_tracing {la : Launch} {G : zG} {I : zI} {J : zJ} {o t : Bool} (ht : I 64 1 = zB t) : zCi la G y_Mo_tracing (Cond.code y_Mo_tracing prog_8_method_33_code 3 (some .boolean) :: TBL) (zR 1) [.ref (zad G 64), .int (zB o)] I J (zB t) (zup (m_t I 0) 64 1 (zB o)) (J) := by
  refine zCi_of (by decide) (by simp [lg_sl, Value.category]) (zB_nar _) (fun X hla hX hR => ?_)
  subst hla
  refine Z_loc (l' := [(0, .ref (zad G 64)), (1, .int (zB o))]) (by simp [lv_args, Value.category, List.lookup]) ?_
  refine Z_aload_n (i := 0) hX d_Mo_tracing_0 rfl rfl ?_
  refine Z_iconst (v := 0) hX d_Mo_tracing_1 rfl ?_
  refine Z_putI (k0 := 0) hX d_Mo_tracing_2 rfl rfl u_Mo (by decide) lk_Mo_7 rfl t_Mo to_Mo n_Mo rfl rfl rfl rfl ?_
  refine Z_aload_n (i := 0) hX d_Mo_tracing_5 rfl rfl ?_
  refine Z_getI (k0 := 1) hX d_Mo_tracing_6 rfl rfl u_Mo (by decide) lk_Mo_13 rfl ?_
  refine Z_istore_n (i := 2) hX d_Mo_tracing_9 rfl (by decide) rfl ?_
  refine Z_aload_n (i := 0) hX d_Mo_tracing_10 rfl rfl ?_
  refine Z_iload_n (i := 1) hX d_Mo_tracing_11 rfl rfl ?_
  refine Z_putI (k0 := 1) hX d_Mo_tracing_12 rfl rfl u_Mo (by decide) lk_Mo_13 rfl t_Mo to_Mo n_Mo rfl rfl (zB_nar _) (zB_fit _) ?_
  refine Z_iload_n (i := 2) hX d_Mo_tracing_15 rfl rfl ?_
  exact Z_ri (hR _ _ d_Mo_tracing_16) (by (rw [← ht, zup_same]; exact pk_un (by decide))) (by rfl) (by rfl)

set_option maxRecDepth 100000 in
set_option maxHeartbeats 4000000 in
theorem c_Mo_command_x {la : Launch} {G : zG} {I : zI} {J : zJ} {e w v : Int32} (hw : m_cow I e w v = true)  : zCi la G y_Mo_command (Cond.code y_Mo_command prog_8_method_34_code 5 (some .int) :: TBL) (zR 2) [.ref (zad G 64), .int e, .int w, .int v] I J (0) (m_t I 1) (J) := by
  refine zCi_of (by decide) (by simp [lg_sl, Value.category]) (rfl) (fun X hla hX hR => ?_)
  subst hla
  refine Z_loc (l' := [(0, .ref (zad G 64)), (1, .int e), (2, .int w), (3, .int v)]) (by simp [lv_args, Value.category, List.lookup]) ?_
  refine Z_aload_n (i := 0) hX d_Mo_command_0 rfl rfl ?_
  refine Z_cutw (pc' := 33) (w := zB (m_cow I e w v)) ?_ (fun hJ33 => ?_)
  · refine Z_id ?_
    refine Z_top (y := 1) (by rw [hw]; rfl) ?_
    refine Z_putI (k0 := 0) hX d_Mo_command_33 rfl rfl u_Mo (by decide) lk_Mo_7 rfl t_Mo to_Mo n_Mo rfl rfl rfl rfl ?_
    refine Z_aload_n (i := 0) hX d_Mo_command_36 rfl rfl ?_
    refine Z_getI (k0 := 0) hX d_Mo_command_37 rfl rfl u_Mo (by decide) lk_Mo_7 rfl ?_
    refine Z_top (y := 1) m_t_0 ?_
    refine Z_ifeq (tgt := 45) hX d_Mo_command_40 rfl (fun h => absurd h (by decide)) (fun h40 => ?_)
    refine Z_iconst (v := 0) hX d_Mo_command_43 rfl ?_
    exact Z_ri (hR _ _ d_Mo_command_44) (by rfl) (by rfl) (by rfl)
  · refine Z_aload_n (i := 0) hX d_Mo_command_1 rfl rfl ?_
    refine Z_iload_n (i := 1) hX d_Mo_command_2 rfl rfl ?_
    refine Z_cVi1 hX d_Mo_command_3 c_Mo_noElement m_Mo_noElement rfl rfl lk_Mo_149 ⟨by decide, by decide⟩ ⟨by decide, by decide⟩ (Nat.le_of_ble_eq_true rfl) ?_
    refine Z_ifneB (tgt := 28) hX d_Mo_command_6 rfl (fun h6 => ?_) (fun h6 => ?_)
    · refine Z_iconst (v := 1) hX d_Mo_command_28 rfl ?_
      refine Z_goto (tgt := 33) hX d_Mo_command_29 rfl ?_
      exact hJ33 _ (by simp [m_cow, zB, h6])
    · refine Z_iload_n (i := 2) hX d_Mo_command_9 rfl rfl ?_
      refine Z_iflt (tgt := 28) hX d_Mo_command_10 rfl (fun h10 => ?_) (fun h10 => ?_)
      · refine Z_iconst (v := 1) hX d_Mo_command_28 rfl ?_
        refine Z_goto (tgt := 33) hX d_Mo_command_29 rfl ?_
        exact hJ33 _ (by simp [m_cow, zB, h6, h10])
      · refine Z_iload_n (i := 2) hX d_Mo_command_13 rfl rfl ?_
        refine Z_iconst (v := 1) hX d_Mo_command_14 rfl ?_
        refine Z_icgt (tgt := 28) hX d_Mo_command_15 rfl (fun h15 => ?_) (fun h15 => ?_)
        · refine Z_iconst (v := 1) hX d_Mo_command_28 rfl ?_
          refine Z_goto (tgt := 33) hX d_Mo_command_29 rfl ?_
          exact hJ33 _ (by simp [m_cow, zB, h6, h10, h15])
        · refine Z_iload_n (i := 3) hX d_Mo_command_18 rfl rfl ?_
          refine Z_iconst (v := (-1)) hX d_Mo_command_19 rfl ?_
          refine Z_iclt (tgt := 28) hX d_Mo_command_20 rfl (fun h20 => ?_) (fun h20 => ?_)
          · refine Z_iconst (v := 1) hX d_Mo_command_28 rfl ?_
            refine Z_goto (tgt := 33) hX d_Mo_command_29 rfl ?_
            exact hJ33 _ (by simp [m_cow, zB, h6, h10, h15, h20])
          · refine Z_iload_n (i := 3) hX d_Mo_command_23 rfl rfl ?_
            refine Z_iconst (v := 3) hX d_Mo_command_24 rfl ?_
            refine Z_icle (tgt := 32) hX d_Mo_command_25 rfl (fun h25 => ?_) (fun h25 => ?_)
            · refine Z_iconst (v := 0) hX d_Mo_command_32 rfl ?_
              exact hJ33 _ (by simp [m_cow, zB, h6, h10, h15, h20, h25])
            · refine Z_iconst (v := 1) hX d_Mo_command_28 rfl ?_
              refine Z_goto (tgt := 33) hX d_Mo_command_29 rfl ?_
              exact hJ33 _ (by simp [m_cow, zB, h6, h10, h15, h20, h25])

set_option maxRecDepth 100000 in
set_option maxHeartbeats 4000000 in
theorem c_Mo_command {la : Launch} {G : zG} {I : zI} {J : zJ} {e : Nat} (he : e < 16) {w v : Int32} (hw : m_cow I (nI e) w v = false)  : zCi la G y_Mo_command (Cond.code y_Mo_command prog_8_method_34_code 5 (some .int) :: TBL) (zR 2) [.ref (zad G 64), .int (nI e), .int w, .int v] I J (if w = 0 then I 70 e else I 71 e) (if w = 0 then zup (m_t I 0) 70 e v else zup (m_t I 0) 71 e v) (J) := by
  refine zCi_of (by decide) (by simp [lg_sl, Value.category]) (rfl) (fun X hla hX hR => ?_)
  subst hla
  refine Z_loc (l' := [(0, .ref (zad G 64)), (1, .int (nI e)), (2, .int w), (3, .int v)]) (by simp [lv_args, Value.category, List.lookup]) ?_
  refine Z_aload_n (i := 0) hX d_Mo_command_0 rfl rfl ?_
  refine Z_cutw (pc' := 33) (w := zB (m_cow I (nI e) w v)) ?_ (fun hJ33 => ?_)
  · refine Z_id ?_
    refine Z_top (y := 0) (by rw [hw]; rfl) ?_
    refine Z_putI (k0 := 0) hX d_Mo_command_33 rfl rfl u_Mo (by decide) lk_Mo_7 rfl t_Mo to_Mo n_Mo rfl rfl rfl rfl ?_
    refine Z_aload_n (i := 0) hX d_Mo_command_36 rfl rfl ?_
    refine Z_getI (k0 := 0) hX d_Mo_command_37 rfl rfl u_Mo (by decide) lk_Mo_7 rfl ?_
    refine Z_top (y := 0) m_t_0 ?_
    refine Z_ifeq (tgt := 45) hX d_Mo_command_40 rfl (fun h40 => ?_) (fun h => absurd rfl h)
    refine Z_iload_n (i := 2) hX d_Mo_command_45 rfl rfl ?_
    refine Z_ifne (tgt := 58) hX d_Mo_command_46 rfl (fun h46 => ?_) (fun h46 => ?_)
    · refine Z_aload_n (i := 0) hX d_Mo_command_58 rfl rfl ?_
      refine Z_getR (k0 := 8) hX d_Mo_command_59 rfl rfl u_Mo (by decide) lk_Mo_37 rfl ?_
      refine Z_iload_n (i := 1) hX d_Mo_command_62 rfl rfl ?_
      refine Z_iald hX d_Mo_command_63 rfl rfl (by omega) (by decide) ?_
      refine Z_istore hX d_Mo_command_64 (by decide) rfl ?_
      refine Z_iload_n (i := 2) hX d_Mo_command_66 rfl rfl ?_
      refine Z_ifne (tgt := 80) hX d_Mo_command_67 rfl (fun h67 => ?_) (fun h => absurd h h46)
      refine Z_aload_n (i := 0) hX d_Mo_command_80 rfl rfl ?_
      refine Z_getR (k0 := 8) hX d_Mo_command_81 rfl rfl u_Mo (by decide) lk_Mo_37 rfl ?_
      refine Z_iload_n (i := 1) hX d_Mo_command_84 rfl rfl ?_
      refine Z_iload_n (i := 3) hX d_Mo_command_85 rfl rfl ?_
      refine Z_iast hX d_Mo_command_86 rfl rfl (by omega) (by decide) ?_
      refine Z_iload hX d_Mo_command_87 rfl ?_
      exact Z_ri (hR _ _ d_Mo_command_89) (by (rw [if_neg h46]; exact congrFun (zup_ne (by decide)) _)) (by (rw [if_neg h46]; rfl)) (by rfl)
    · refine Z_aload_n (i := 0) hX d_Mo_command_49 rfl rfl ?_
      refine Z_getR (k0 := 7) hX d_Mo_command_50 rfl rfl u_Mo (by decide) lk_Mo_34 rfl ?_
      refine Z_iload_n (i := 1) hX d_Mo_command_53 rfl rfl ?_
      refine Z_iald hX d_Mo_command_54 rfl rfl (by omega) (by decide) ?_
      refine Z_goto (tgt := 64) hX d_Mo_command_55 rfl ?_
      refine Z_istore hX d_Mo_command_64 (by decide) rfl ?_
      refine Z_iload_n (i := 2) hX d_Mo_command_66 rfl rfl ?_
      refine Z_ifne (tgt := 80) hX d_Mo_command_67 rfl (fun h => absurd h46 h) (fun h67 => ?_)
      refine Z_aload_n (i := 0) hX d_Mo_command_70 rfl rfl ?_
      refine Z_getR (k0 := 7) hX d_Mo_command_71 rfl rfl u_Mo (by decide) lk_Mo_34 rfl ?_
      refine Z_iload_n (i := 1) hX d_Mo_command_74 rfl rfl ?_
      refine Z_iload_n (i := 3) hX d_Mo_command_75 rfl rfl ?_
      refine Z_iast hX d_Mo_command_76 rfl rfl (by omega) (by decide) ?_
      refine Z_goto (tgt := 87) hX d_Mo_command_77 rfl ?_
      refine Z_iload hX d_Mo_command_87 rfl ?_
      exact Z_ri (hR _ _ d_Mo_command_89) (by (rw [if_pos h46]; exact congrFun (zup_ne (by decide)) _)) (by (rw [if_pos h46]; rfl)) (by rfl)
  · refine Z_aload_n (i := 0) hX d_Mo_command_1 rfl rfl ?_
    refine Z_iload_n (i := 1) hX d_Mo_command_2 rfl rfl ?_
    refine Z_cVi1 hX d_Mo_command_3 c_Mo_noElement m_Mo_noElement rfl rfl lk_Mo_149 ⟨by decide, by decide⟩ ⟨by decide, by decide⟩ (Nat.le_of_ble_eq_true rfl) ?_
    refine Z_ifneB (tgt := 28) hX d_Mo_command_6 rfl (fun h6 => ?_) (fun h6 => ?_)
    · refine Z_iconst (v := 1) hX d_Mo_command_28 rfl ?_
      refine Z_goto (tgt := 33) hX d_Mo_command_29 rfl ?_
      exact hJ33 _ (by simp [m_cow, zB, h6])
    · refine Z_iload_n (i := 2) hX d_Mo_command_9 rfl rfl ?_
      refine Z_iflt (tgt := 28) hX d_Mo_command_10 rfl (fun h10 => ?_) (fun h10 => ?_)
      · refine Z_iconst (v := 1) hX d_Mo_command_28 rfl ?_
        refine Z_goto (tgt := 33) hX d_Mo_command_29 rfl ?_
        exact hJ33 _ (by simp [m_cow, zB, h6, h10])
      · refine Z_iload_n (i := 2) hX d_Mo_command_13 rfl rfl ?_
        refine Z_iconst (v := 1) hX d_Mo_command_14 rfl ?_
        refine Z_icgt (tgt := 28) hX d_Mo_command_15 rfl (fun h15 => ?_) (fun h15 => ?_)
        · refine Z_iconst (v := 1) hX d_Mo_command_28 rfl ?_
          refine Z_goto (tgt := 33) hX d_Mo_command_29 rfl ?_
          exact hJ33 _ (by simp [m_cow, zB, h6, h10, h15])
        · refine Z_iload_n (i := 3) hX d_Mo_command_18 rfl rfl ?_
          refine Z_iconst (v := (-1)) hX d_Mo_command_19 rfl ?_
          refine Z_iclt (tgt := 28) hX d_Mo_command_20 rfl (fun h20 => ?_) (fun h20 => ?_)
          · refine Z_iconst (v := 1) hX d_Mo_command_28 rfl ?_
            refine Z_goto (tgt := 33) hX d_Mo_command_29 rfl ?_
            exact hJ33 _ (by simp [m_cow, zB, h6, h10, h15, h20])
          · refine Z_iload_n (i := 3) hX d_Mo_command_23 rfl rfl ?_
            refine Z_iconst (v := 3) hX d_Mo_command_24 rfl ?_
            refine Z_icle (tgt := 32) hX d_Mo_command_25 rfl (fun h25 => ?_) (fun h25 => ?_)
            · refine Z_iconst (v := 0) hX d_Mo_command_32 rfl ?_
              exact hJ33 _ (by simp [m_cow, zB, h6, h10, h15, h20, h25])
            · refine Z_iconst (v := 1) hX d_Mo_command_28 rfl ?_
              refine Z_goto (tgt := 33) hX d_Mo_command_29 rfl ?_
              exact hJ33 _ (by simp [m_cow, zB, h6, h10, h15, h20, h25])

set_option maxRecDepth 100000 in
set_option maxHeartbeats 4000000 in
theorem c_Mo_lockout_x {la : Launch} {G : zG} {I : zI} {J : zJ} {e p : Int32} {o : Bool} (hw : m_np I e p = true)  : zCi la G y_Mo_lockout (Cond.code y_Mo_lockout prog_8_method_35_code 5 (some .boolean) :: TBL) (zR 3) [.ref (zad G 64), .int e, .int p, .int (zB o)] I J (0) (m_t I 1) (J) := by
  refine zCi_of (by decide) (by simp [lg_sl, Value.category]) (rfl) (fun X hla hX hR => ?_)
  subst hla
  refine Z_loc (l' := [(0, .ref (zad G 64)), (1, .int e), (2, .int p), (3, .int (zB o))]) (by simp [lv_args, Value.category, List.lookup]) ?_
  refine Z_aload_n (i := 0) hX d_Mo_lockout_0 rfl rfl ?_
  refine Z_cutw (pc' := 15) (w := zB (m_np I e p)) ?_ (fun hJ15 => ?_)
  · refine Z_id ?_
    refine Z_top (y := 1) (by rw [hw]; rfl) ?_
    refine Z_putI (k0 := 0) hX d_Mo_lockout_15 rfl rfl u_Mo (by decide) lk_Mo_7 rfl t_Mo to_Mo n_Mo rfl rfl rfl rfl ?_
    refine Z_aload_n (i := 0) hX d_Mo_lockout_18 rfl rfl ?_
    refine Z_getI (k0 := 0) hX d_Mo_lockout_19 rfl rfl u_Mo (by decide) lk_Mo_7 rfl ?_
    refine Z_top (y := 1) m_t_0 ?_
    refine Z_ifeq (tgt := 27) hX d_Mo_lockout_22 rfl (fun h => absurd h (by decide)) (fun h22 => ?_)
    refine Z_iconst (v := 0) hX d_Mo_lockout_25 rfl ?_
    exact Z_ri (hR _ _ d_Mo_lockout_26) (by rfl) (by rfl) (by rfl)
  · refine Z_aload_n (i := 0) hX d_Mo_lockout_1 rfl rfl ?_
    refine Z_iload_n (i := 1) hX d_Mo_lockout_2 rfl rfl ?_
    refine Z_iload_n (i := 2) hX d_Mo_lockout_3 rfl rfl ?_
    refine Z_cVi2 hX d_Mo_lockout_4 c_Mo_noPort m_Mo_noPort rfl rfl lk_Mo_152 ⟨by decide, by decide⟩ ⟨by decide, by decide⟩ (Nat.le_of_ble_eq_true rfl) ?_
    refine Z_ifeqB (tgt := 14) hX d_Mo_lockout_7 rfl (fun h7 => ?_) (fun h7 => ?_)
    · refine Z_iconst (v := 0) hX d_Mo_lockout_14 rfl ?_
      exact hJ15 _ (by simp [zB, h7])
    · refine Z_iconst (v := 1) hX d_Mo_lockout_10 rfl ?_
      refine Z_goto (tgt := 15) hX d_Mo_lockout_11 rfl ?_
      exact hJ15 _ (by simp [zB, h7])

set_option maxRecDepth 100000 in
set_option maxHeartbeats 4000000 in
theorem c_Mo_lockout {la : Launch} {G : zG} {I : zI} {J : zJ} {e p : Nat} (he : e < 16) (hp : p < 4) {o t : Bool} (hw : m_np I (nI e) (nI p) = false) (ht : I 76 (4 * e + p) = zB t) : zCi la G y_Mo_lockout (Cond.code y_Mo_lockout prog_8_method_35_code 5 (some .boolean) :: TBL) (zR 3) [.ref (zad G 64), .int (nI e), .int (nI p), .int (zB o)] I J (zB t) (zup (m_t I 0) 76 (4 * e + p) (zB o)) (J) := by
  refine zCi_of (by decide) (by simp [lg_sl, Value.category]) (zB_nar _) (fun X hla hX hR => ?_)
  subst hla
  refine Z_loc (l' := [(0, .ref (zad G 64)), (1, .int (nI e)), (2, .int (nI p)), (3, .int (zB o))]) (by simp [lv_args, Value.category, List.lookup]) ?_
  refine Z_aload_n (i := 0) hX d_Mo_lockout_0 rfl rfl ?_
  refine Z_cutw (pc' := 15) (w := zB (m_np I (nI e) (nI p))) ?_ (fun hJ15 => ?_)
  · refine Z_id ?_
    refine Z_top (y := 0) (by rw [hw]; rfl) ?_
    refine Z_putI (k0 := 0) hX d_Mo_lockout_15 rfl rfl u_Mo (by decide) lk_Mo_7 rfl t_Mo to_Mo n_Mo rfl rfl rfl rfl ?_
    refine Z_aload_n (i := 0) hX d_Mo_lockout_18 rfl rfl ?_
    refine Z_getI (k0 := 0) hX d_Mo_lockout_19 rfl rfl u_Mo (by decide) lk_Mo_7 rfl ?_
    refine Z_top (y := 0) m_t_0 ?_
    refine Z_ifeq (tgt := 27) hX d_Mo_lockout_22 rfl (fun h22 => ?_) (fun h => absurd rfl h)
    refine Z_aload_n (i := 0) hX d_Mo_lockout_27 rfl rfl ?_
    refine Z_getR (k0 := 13) hX d_Mo_lockout_28 rfl rfl u_Mo (by decide) lk_Mo_52 rfl ?_
    refine Z_iconst (v := nI 4) hX d_Mo_lockout_31 rfl ?_
    refine Z_iload_n (i := 1) hX d_Mo_lockout_32 rfl rfl ?_
    refine Z_imulN hX d_Mo_lockout_33 ?_
    refine Z_iload_n (i := 2) hX d_Mo_lockout_34 rfl rfl ?_
    refine Z_iaddN hX d_Mo_lockout_35 ?_
    refine Z_zald hX d_Mo_lockout_36 rfl rfl (by omega) (by decide) ?_
    refine Z_istore hX d_Mo_lockout_37 (by decide) rfl ?_
    refine Z_aload_n (i := 0) hX d_Mo_lockout_39 rfl rfl ?_
    refine Z_getR (k0 := 13) hX d_Mo_lockout_40 rfl rfl u_Mo (by decide) lk_Mo_52 rfl ?_
    refine Z_iconst (v := nI 4) hX d_Mo_lockout_43 rfl ?_
    refine Z_iload_n (i := 1) hX d_Mo_lockout_44 rfl rfl ?_
    refine Z_imulN hX d_Mo_lockout_45 ?_
    refine Z_iload_n (i := 2) hX d_Mo_lockout_46 rfl rfl ?_
    refine Z_iaddN hX d_Mo_lockout_47 ?_
    refine Z_iload_n (i := 3) hX d_Mo_lockout_48 rfl rfl ?_
    refine Z_zast01 hX d_Mo_lockout_49 rfl rfl (by omega) (by decide) (zB_np _) ?_
    refine Z_iload hX d_Mo_lockout_50 rfl ?_
    exact Z_ri (hR _ _ d_Mo_lockout_52) (by (rw [← ht]; exact congrFun (zup_ne (by decide)) _)) (by rfl) (by rfl)
  · refine Z_aload_n (i := 0) hX d_Mo_lockout_1 rfl rfl ?_
    refine Z_iload_n (i := 1) hX d_Mo_lockout_2 rfl rfl ?_
    refine Z_iload_n (i := 2) hX d_Mo_lockout_3 rfl rfl ?_
    refine Z_cVi2 hX d_Mo_lockout_4 c_Mo_noPort m_Mo_noPort rfl rfl lk_Mo_152 ⟨by decide, by decide⟩ ⟨by decide, by decide⟩ (Nat.le_of_ble_eq_true rfl) ?_
    refine Z_ifeqB (tgt := 14) hX d_Mo_lockout_7 rfl (fun h7 => ?_) (fun h7 => ?_)
    · refine Z_iconst (v := 0) hX d_Mo_lockout_14 rfl ?_
      exact hJ15 _ (by simp [zB, h7])
    · refine Z_iconst (v := 1) hX d_Mo_lockout_10 rfl ?_
      refine Z_goto (tgt := 15) hX d_Mo_lockout_11 rfl ?_
      exact hJ15 _ (by simp [zB, h7])

set_option maxRecDepth 100000 in
set_option maxHeartbeats 4000000 in
theorem c_Mo_fail_x {la : Launch} {G : zG} {I : zI} {J : zJ} {k : Int32} {o : Bool} (hw : m_nl I k = true)  : zCi la G y_Mo_fail (Cond.code y_Mo_fail prog_8_method_36_code 4 (some .boolean) :: TBL) (zR 2) [.ref (zad G 64), .int k, .int (zB o)] I J (0) (m_t I 1) (J) := by
  refine zCi_of (by decide) (by simp [lg_sl, Value.category]) (rfl) (fun X hla hX hR => ?_)
  subst hla
  refine Z_loc (l' := [(0, .ref (zad G 64)), (1, .int k), (2, .int (zB o))]) (by simp [lv_args, Value.category, List.lookup]) ?_
  refine Z_aload_n (i := 0) hX d_Mo_fail_0 rfl rfl ?_
  refine Z_cutw (pc' := 14) (w := zB (m_nl I k)) ?_ (fun hJ14 => ?_)
  · refine Z_id ?_
    refine Z_top (y := 1) (by rw [hw]; rfl) ?_
    refine Z_putI (k0 := 0) hX d_Mo_fail_14 rfl rfl u_Mo (by decide) lk_Mo_7 rfl t_Mo to_Mo n_Mo rfl rfl rfl rfl ?_
    refine Z_aload_n (i := 0) hX d_Mo_fail_17 rfl rfl ?_
    refine Z_getI (k0 := 0) hX d_Mo_fail_18 rfl rfl u_Mo (by decide) lk_Mo_7 rfl ?_
    refine Z_top (y := 1) m_t_0 ?_
    refine Z_ifeq (tgt := 26) hX d_Mo_fail_21 rfl (fun h => absurd h (by decide)) (fun h21 => ?_)
    refine Z_iconst (v := 0) hX d_Mo_fail_24 rfl ?_
    exact Z_ri (hR _ _ d_Mo_fail_25) (by rfl) (by rfl) (by rfl)
  · refine Z_aload_n (i := 0) hX d_Mo_fail_1 rfl rfl ?_
    refine Z_iload_n (i := 1) hX d_Mo_fail_2 rfl rfl ?_
    refine Z_cVi1 hX d_Mo_fail_3 c_Mo_noLink m_Mo_noLink rfl rfl lk_Mo_155 ⟨by decide, by decide⟩ ⟨by decide, by decide⟩ (Nat.le_of_ble_eq_true rfl) ?_
    refine Z_ifeqB (tgt := 13) hX d_Mo_fail_6 rfl (fun h6 => ?_) (fun h6 => ?_)
    · refine Z_iconst (v := 0) hX d_Mo_fail_13 rfl ?_
      exact hJ14 _ (by simp [zB, h6])
    · refine Z_iconst (v := 1) hX d_Mo_fail_9 rfl ?_
      refine Z_goto (tgt := 14) hX d_Mo_fail_10 rfl ?_
      exact hJ14 _ (by simp [zB, h6])

set_option maxRecDepth 100000 in
set_option maxHeartbeats 4000000 in
theorem c_Mo_fail {la : Launch} {G : zG} {I : zI} {J : zJ} {k : Nat} (hk : k < 24) {o : Bool} (hw : m_nl I (nI k) = false)  : zCi la G y_Mo_fail (Cond.code y_Mo_fail prog_8_method_36_code 4 (some .boolean) :: TBL) (zR 2) [.ref (zad G 64), .int (nI k), .int (zB o)] I J (zB (decide (I 79 (688 + k) = 1))) (zup (m_t I 0) 79 (688 + k) (zB o)) (J) := by
  refine zCi_of (by decide) (by simp [lg_sl, Value.category]) (zB_nar _) (fun X hla hX hR => ?_)
  subst hla
  refine Z_loc (l' := [(0, .ref (zad G 64)), (1, .int (nI k)), (2, .int (zB o))]) (by simp [lv_args, Value.category, List.lookup]) ?_
  refine Z_aload_n (i := 0) hX d_Mo_fail_0 rfl rfl ?_
  refine Z_cutw (pc' := 14) (w := zB (m_nl I (nI k))) ?_ (fun hJ14 => ?_)
  · refine Z_id ?_
    refine Z_top (y := 0) (by rw [hw]; rfl) ?_
    refine Z_putI (k0 := 0) hX d_Mo_fail_14 rfl rfl u_Mo (by decide) lk_Mo_7 rfl t_Mo to_Mo n_Mo rfl rfl rfl rfl ?_
    refine Z_aload_n (i := 0) hX d_Mo_fail_17 rfl rfl ?_
    refine Z_getI (k0 := 0) hX d_Mo_fail_18 rfl rfl u_Mo (by decide) lk_Mo_7 rfl ?_
    refine Z_top (y := 0) m_t_0 ?_
    refine Z_ifeq (tgt := 26) hX d_Mo_fail_21 rfl (fun h21 => ?_) (fun h => absurd rfl h)
    refine Z_cutw (pc' := 45) (w := zB (decide (I 79 (688 + k) = 1))) ?_ (fun hJ45 => ?_)
    · refine Z_id ?_
      refine Z_istore_n (i := 3) hX d_Mo_fail_45 rfl (by decide) rfl ?_
      refine Z_aload_n (i := 0) hX d_Mo_fail_46 rfl rfl ?_
      refine Z_getR (k0 := 17) hX d_Mo_fail_47 rfl rfl u_Mo (by decide) lk_Mo_64 rfl ?_
      refine Z_sipush (v := nI 688) hX d_Mo_fail_50 rfl ?_
      refine Z_iload_n (i := 1) hX d_Mo_fail_53 rfl rfl ?_
      refine Z_iaddN hX d_Mo_fail_54 ?_
      refine Z_cutw (pc' := 64) (w := zB o) ?_ (fun hJ64 => ?_)
      · refine Z_id ?_
        refine Z_iast hX d_Mo_fail_64 rfl rfl (by omega) (by decide) ?_
        refine Z_iload_n (i := 3) hX d_Mo_fail_65 rfl rfl ?_
        exact Z_ri (hR _ _ d_Mo_fail_66) (by rfl) (by rfl) (by rfl)
      · refine Z_iload_n (i := 2) hX d_Mo_fail_55 rfl rfl ?_
        refine Z_ifeqB (tgt := 63) hX d_Mo_fail_56 rfl (fun h56 => ?_) (fun h56 => ?_)
        · refine Z_iconst (v := 0) hX d_Mo_fail_63 rfl ?_
          exact hJ64 _ (by (rw [h56]; rfl))
        · refine Z_iconst (v := 1) hX d_Mo_fail_59 rfl ?_
          refine Z_goto (tgt := 64) hX d_Mo_fail_60 rfl ?_
          exact hJ64 _ (by (rw [h56]; rfl))
    · refine Z_aload_n (i := 0) hX d_Mo_fail_26 rfl rfl ?_
      refine Z_getR (k0 := 17) hX d_Mo_fail_27 rfl rfl u_Mo (by decide) lk_Mo_64 rfl ?_
      refine Z_sipush (v := nI 688) hX d_Mo_fail_30 rfl ?_
      refine Z_iload_n (i := 1) hX d_Mo_fail_33 rfl rfl ?_
      refine Z_iaddN hX d_Mo_fail_34 ?_
      refine Z_iald hX d_Mo_fail_35 rfl rfl (by omega) (by decide) ?_
      refine Z_iconst (v := 1) hX d_Mo_fail_36 rfl ?_
      refine Z_icne (tgt := 44) hX d_Mo_fail_37 rfl (fun h37 => ?_) (fun h37 => ?_)
      · refine Z_iconst (v := 0) hX d_Mo_fail_44 rfl ?_
        exact hJ45 _ (by (have h9 : m_t I 0 79 (688 + k) = I 79 (688 + k) := congrFun (zup_ne (by decide)) _; rw [show zup I 64 0 0 = m_t I 0 from rfl, h9] at h37; simp [h37, zB]))
      · refine Z_iconst (v := 1) hX d_Mo_fail_40 rfl ?_
        refine Z_goto (tgt := 45) hX d_Mo_fail_41 rfl ?_
        exact hJ45 _ (by (have h9 : m_t I 0 79 (688 + k) = I 79 (688 + k) := congrFun (zup_ne (by decide)) _; rw [show zup I 64 0 0 = m_t I 0 from rfl, h9] at h37; simp [h37, zB]))
  · refine Z_aload_n (i := 0) hX d_Mo_fail_1 rfl rfl ?_
    refine Z_iload_n (i := 1) hX d_Mo_fail_2 rfl rfl ?_
    refine Z_cVi1 hX d_Mo_fail_3 c_Mo_noLink m_Mo_noLink rfl rfl lk_Mo_155 ⟨by decide, by decide⟩ ⟨by decide, by decide⟩ (Nat.le_of_ble_eq_true rfl) ?_
    refine Z_ifeqB (tgt := 13) hX d_Mo_fail_6 rfl (fun h6 => ?_) (fun h6 => ?_)
    · refine Z_iconst (v := 0) hX d_Mo_fail_13 rfl ?_
      exact hJ14 _ (by simp [zB, h6])
    · refine Z_iconst (v := 1) hX d_Mo_fail_9 rfl ?_
      refine Z_goto (tgt := 14) hX d_Mo_fail_10 rfl ?_
      exact hJ14 _ (by simp [zB, h6])

set_option maxRecDepth 100000 in
set_option maxHeartbeats 4000000 in
theorem c_Mo_lose_x {la : Launch} {G : zG} {I : zI} {J : zJ} {k : Int32} {o : Bool} (hw : m_nl I k = true)  : zCv la G y_Mo_lose (Cond.code y_Mo_lose prog_8_method_38_code 3 none :: TBL) (zR 2) [.ref (zad G 64), .int k, .int (zB o)] I J (m_t I 1) (J) := by
  refine zCv_of (by decide) (by simp [lg_sl, Value.category]) (fun X hla hX hR => ?_)
  subst hla
  refine Z_loc (l' := [(0, .ref (zad G 64)), (1, .int k), (2, .int (zB o))]) (by simp [lv_args, Value.category, List.lookup]) ?_
  refine Z_aload_n (i := 0) hX d_Mo_lose_0 rfl rfl ?_
  refine Z_cutw (pc' := 14) (w := zB (m_nl I k)) ?_ (fun hJ14 => ?_)
  · refine Z_id ?_
    refine Z_top (y := 1) (by rw [hw]; rfl) ?_
    refine Z_putI (k0 := 0) hX d_Mo_lose_14 rfl rfl u_Mo (by decide) lk_Mo_7 rfl t_Mo to_Mo n_Mo rfl rfl rfl rfl ?_
    refine Z_aload_n (i := 0) hX d_Mo_lose_17 rfl rfl ?_
    refine Z_getI (k0 := 0) hX d_Mo_lose_18 rfl rfl u_Mo (by decide) lk_Mo_7 rfl ?_
    refine Z_top (y := 1) m_t_0 ?_
    refine Z_ifne (tgt := 47) hX d_Mo_lose_21 rfl (fun h21 => ?_) (fun h => absurd h (by decide))
    exact Z_mem (by rfl) (by rfl) (hR _ _ d_Mo_lose_47)
  · refine Z_aload_n (i := 0) hX d_Mo_lose_1 rfl rfl ?_
    refine Z_iload_n (i := 1) hX d_Mo_lose_2 rfl rfl ?_
    refine Z_cVi1 hX d_Mo_lose_3 c_Mo_noLink m_Mo_noLink rfl rfl lk_Mo_155 ⟨by decide, by decide⟩ ⟨by decide, by decide⟩ (Nat.le_of_ble_eq_true rfl) ?_
    refine Z_ifeqB (tgt := 13) hX d_Mo_lose_6 rfl (fun h6 => ?_) (fun h6 => ?_)
    · refine Z_iconst (v := 0) hX d_Mo_lose_13 rfl ?_
      exact hJ14 _ (by simp [zB, h6])
    · refine Z_iconst (v := 1) hX d_Mo_lose_9 rfl ?_
      refine Z_goto (tgt := 14) hX d_Mo_lose_10 rfl ?_
      exact hJ14 _ (by simp [zB, h6])

set_option maxRecDepth 100000 in
set_option maxHeartbeats 4000000 in
theorem c_Mo_lose {la : Launch} {G : zG} {I : zI} {J : zJ} {k : Nat} (hk : k < 24) {o : Bool} (hw : m_nl I (nI k) = false)  : zCv la G y_Mo_lose (Cond.code y_Mo_lose prog_8_method_38_code 3 none :: TBL) (zR 2) [.ref (zad G 64), .int (nI k), .int (zB o)] I J (zup (m_t I 0) 79 (712 + 2 * k + cond o 1 0) 1) (J) := by
  refine zCv_of (by decide) (by simp [lg_sl, Value.category]) (fun X hla hX hR => ?_)
  subst hla
  refine Z_loc (l' := [(0, .ref (zad G 64)), (1, .int (nI k)), (2, .int (zB o))]) (by simp [lv_args, Value.category, List.lookup]) ?_
  refine Z_aload_n (i := 0) hX d_Mo_lose_0 rfl rfl ?_
  refine Z_cutw (pc' := 14) (w := zB (m_nl I (nI k))) ?_ (fun hJ14 => ?_)
  · refine Z_id ?_
    refine Z_top (y := 0) (by rw [hw]; rfl) ?_
    refine Z_putI (k0 := 0) hX d_Mo_lose_14 rfl rfl u_Mo (by decide) lk_Mo_7 rfl t_Mo to_Mo n_Mo rfl rfl rfl rfl ?_
    refine Z_aload_n (i := 0) hX d_Mo_lose_17 rfl rfl ?_
    refine Z_getI (k0 := 0) hX d_Mo_lose_18 rfl rfl u_Mo (by decide) lk_Mo_7 rfl ?_
    refine Z_top (y := 0) m_t_0 ?_
    refine Z_ifne (tgt := 47) hX d_Mo_lose_21 rfl (fun h => absurd rfl h) (fun h21 => ?_)
    refine Z_aload_n (i := 0) hX d_Mo_lose_24 rfl rfl ?_
    refine Z_getR (k0 := 17) hX d_Mo_lose_25 rfl rfl u_Mo (by decide) lk_Mo_64 rfl ?_
    refine Z_sipush (v := nI 712) hX d_Mo_lose_28 rfl ?_
    refine Z_iconst (v := nI 2) hX d_Mo_lose_31 rfl ?_
    refine Z_iload_n (i := 1) hX d_Mo_lose_32 rfl rfl ?_
    refine Z_imulN hX d_Mo_lose_33 ?_
    refine Z_iaddN hX d_Mo_lose_34 ?_
    refine Z_cutw (pc' := 44) (w := nI (cond o 1 0)) ?_ (fun hJ44 => ?_)
    · refine Z_id ?_
      refine Z_iaddN hX d_Mo_lose_44 ?_
      refine Z_iconst (v := 1) hX d_Mo_lose_45 rfl ?_
      refine Z_iast (k0 := 712 + 2 * k + cond o 1 0) hX d_Mo_lose_46 rfl rfl (by cases o <;> simp <;> omega) (by decide) ?_
      exact Z_mem (by rfl) (by rfl) (hR _ _ d_Mo_lose_47)
    · refine Z_iload_n (i := 2) hX d_Mo_lose_35 rfl rfl ?_
      refine Z_ifeqB (tgt := 43) hX d_Mo_lose_36 rfl (fun h36 => ?_) (fun h36 => ?_)
      · refine Z_iconst (v := 0) hX d_Mo_lose_43 rfl ?_
        exact hJ44 _ (by (rw [h36]; rfl))
      · refine Z_iconst (v := 1) hX d_Mo_lose_39 rfl ?_
        refine Z_goto (tgt := 44) hX d_Mo_lose_40 rfl ?_
        exact hJ44 _ (by (rw [h36]; rfl))
  · refine Z_aload_n (i := 0) hX d_Mo_lose_1 rfl rfl ?_
    refine Z_iload_n (i := 1) hX d_Mo_lose_2 rfl rfl ?_
    refine Z_cVi1 hX d_Mo_lose_3 c_Mo_noLink m_Mo_noLink rfl rfl lk_Mo_155 ⟨by decide, by decide⟩ ⟨by decide, by decide⟩ (Nat.le_of_ble_eq_true rfl) ?_
    refine Z_ifeqB (tgt := 13) hX d_Mo_lose_6 rfl (fun h6 => ?_) (fun h6 => ?_)
    · refine Z_iconst (v := 0) hX d_Mo_lose_13 rfl ?_
      exact hJ14 _ (by simp [zB, h6])
    · refine Z_iconst (v := 1) hX d_Mo_lose_9 rfl ?_
      refine Z_goto (tgt := 14) hX d_Mo_lose_10 rfl ?_
      exact hJ14 _ (by simp [zB, h6])

set_option maxRecDepth 100000 in
set_option maxHeartbeats 4000000 in
theorem c_Mo_settled {la : Launch} {G : zG} {I : zI} {J : zJ}  : zCi la G y_Mo_settled (Cond.code y_Mo_settled prog_8_method_40_code 1 (some .int) :: TBL) (zR 1) [.ref (zad G 64)] I J (I 79 761) (m_t I 0) (J) := by
  refine zCi_of (by decide) (by simp [lg_sl, Value.category]) (rfl) (fun X hla hX hR => ?_)
  subst hla
  refine Z_loc (l' := [(0, .ref (zad G 64))]) (by simp [lv_args, Value.category, List.lookup]) ?_
  refine Z_aload_n (i := 0) hX d_Mo_settled_0 rfl rfl ?_
  refine Z_iconst (v := 0) hX d_Mo_settled_1 rfl ?_
  refine Z_putI (k0 := 0) hX d_Mo_settled_2 rfl rfl u_Mo (by decide) lk_Mo_7 rfl t_Mo to_Mo n_Mo rfl rfl rfl rfl ?_
  refine Z_aload_n (i := 0) hX d_Mo_settled_5 rfl rfl ?_
  refine Z_getR (k0 := 17) hX d_Mo_settled_6 rfl rfl u_Mo (by decide) lk_Mo_64 rfl ?_
  refine Z_sipush (v := nI 761) hX d_Mo_settled_9 rfl ?_
  refine Z_iald hX d_Mo_settled_12 rfl rfl (by omega) (by decide) ?_
  exact Z_ri (hR _ _ d_Mo_settled_13) (by (exact congrFun (zup_ne (by decide)) _)) (by rfl) (by rfl)
