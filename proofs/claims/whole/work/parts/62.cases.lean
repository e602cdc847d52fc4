/-! The 21 calls, over the relation. -/
theorem j86 {J : zJ} {w : Int64} : zupL J 86 0 w 86 0 = w := by rw [zupL_same, pk_uLs]
theorem t64 {I : zI} {v : Int32} : m_t I v 64 0 = v := m_t_0
theorem n1_0 {p : Prop} (h : (1 : Int32) = 0) : p := absurd h (by decide)
theorem n2_0 {p : Prop} (h : (2 : Int32) = 0) : p := absurd h (by decide)
section KC
variable {X : zX} {G : zG} {b0 L : Nat} {xs : Nat → Int32}
theorem k_element (hX : zOk X G code 8 "ClockTreeLaw" room_1) (hO : zOx X) (hst : X.2.1.stackTraces = false) (hS : zSc X b0 L xs) (hL : L ≤ 2560) : wSu X G b0 L 136 := by
  intro j i a b I J hj hR hi ha hb hk
  obtain ⟨m, r, hr, hA, hN⟩ := id hR
  cases h1 : (p_in (xs (i + 1)) 0 15 && p_in (xs (i + 2)) 0 6) with
  | false => exact w_element (q := 1) hX hO hS hi hL ha hb (by decide) (h_La_element_x hst (c_CT_element_x1 hst h1)) (c_Mo_element_x (by rw [B_el, h1]; rfl)) t64 (hk _ _ (G_t hR))
  | true =>
    cases h2 : p_in (xs (i + 3)) (-1000) 1000 with
    | false => exact w_element (q := 1) hX hO hS hi hL ha hb (by decide) (h_La_element_x hst (c_CT_element_x2 hst h1 h2)) (c_Mo_element_x (by rw [B_el, h1, h2]; rfl)) t64 (hk _ _ (G_t hR))
    | true =>
      cases h3 : p_in (xs (i + 4)) (-9) 9 with
      | false => exact w_element (q := 1) hX hO hS hi hL ha hb (by decide) (h_La_element_x hst (c_CT_element_x3 hst h1 h2 h3)) (c_Mo_element_x (by rw [B_el, h1, h2, h3]; rfl)) t64 (hk _ _ (G_t hR))
      | true =>
        have h4 := h1
        simp only [Bool.and_eq_true] at h4
        obtain ⟨e1, he⟩ := p_in_ix (n := 15) (by decide) h4.1
        have hw : m_elw (xs (i + 1)) (xs (i + 2)) (xs (i + 3)) (xs (i + 4)) = false := by rw [B_el, h1, h2, h3]; rfl
        generalize (xs (i + 1)).toNatClampNeg = e at e1 he
        rw [e1] at h1 hw
        by_cases ht : I 2 e = 0
        · refine w_element (I1 := c_el I e (xs (i + 2)) (xs (i + 3)) (xs (i + 4))) (J1 := J) (I2 := m_el (c_el I e (xs (i + 2)) (xs (i + 3)) (xs (i + 4))) e (xs (i + 2)) (xs (i + 3)) (xs (i + 4))) (J2 := J) (k := 0) (q := 1) hX hO hS hi hL ha hb (by decide) ?_ ?_ ?_ (hk _ _ (G_element hR (by omega) ht h4.2))
          · rw [e1]; exact h_La_element (k := 2) hst (by decide) (c_CT_element (by omega) h1 h2 h3 ht)
          · rw [e1]; exact c_Mo_element (by omega) hw (by rw [el_c (by omega), ← hA.P.p2]; exact ht)
          · unfold m_el
            rw [zz_c (by decide), zz_c (by decide), zz_c (by decide), zz_c (by decide), zz_c (by decide), zz_c (by decide), zz_c (by decide), zz_c (by decide), zz_c (by decide)]
            exact t64
        · refine w_element (I1 := I) (J1 := J) (I2 := m_t I 2) (J2 := J) (k := 2) (q := 1) hX hO hS hi hL ha hb (by decide) ?_ ?_ t64 (hk _ _ (G_t hR))
          · rw [e1]; exact h_La_element_y hst (c_CT_element_y hst (by omega) h1 h2 h3 ht)
          · rw [e1]; exact c_Mo_element_y (by omega) hw (by rw [← hA.P.p2]; exact ht)
theorem k_link (hX : zOk X G code 8 "ClockTreeLaw" room_1) (hO : zOx X) (hst : X.2.1.stackTraces = false) (hS : zSc X b0 L xs) (hL : L ≤ 2560) : wSu X G b0 L 208 := by
  intro j i a b I J hj hR hi ha hb hk
  obtain ⟨m, r, hr, hA, hN⟩ := id hR
  cases h1 : (p_po I (xs (i + 1)) (xs (i + 2)) && p_po I (xs (i + 3)) (xs (i + 4)) && decide (¬ xs (i + 1) = xs (i + 3))) with
  | false => exact w_link (q := 3) hX hO hS hi hL ha hb (by decide) (h_La_link_x hst (c_CT_link_x hst h1)) (c_Mo_link_x (by rw [B_lkw hA.P, h1]; rfl)) t64 n1_0 (hk _ _ (G_t hR))
  | true =>
    have h4 := h1
    simp only [Bool.and_eq_true, decide_eq_true_eq] at h4
    obtain ⟨e, p, he, hp, e1, e2, he2⟩ := p_po_ix h4.1.1
    obtain ⟨f, q, hf, hq, e3, e4, hf2⟩ := p_po_ix h4.1.2
    have hef : e ≠ f := by rintro rfl; exact h4.2 (by rw [e1, e3])
    have hw : m_lkw I (xs (i + 1)) (xs (i + 2)) (xs (i + 3)) (xs (i + 4)) = false := by rw [B_lkw hA.P, h1]; rfl
    rw [e1, e2, e3, e4] at h1 hw
    have h24 := hA.L.m24
    cases ht : (p_tk I (4 * e + p) || p_tk I (4 * f + q) || decide (¬ I 1 14 < 24)) with
    | true =>
      refine w_link (I1 := I) (J1 := J) (I2 := zup (zup I 64 0 0) 64 0 2) (J2 := J) (k := 2) (r := 0) (q := 3) hX hO hS hi hL ha hb (by decide) ?_ ?_ m_t_0 n2_0 (hk _ _ (G_t2 hR))
      · rw [e1, e2, e3, e4]; exact h_La_link_y hst (c_CT_link_y hst he hp hf hq h1 ht)
      · rw [e1, e2, e3, e4]; exact c_Mo_link_y he hp hf hq hw (by rw [B_lkt hA.P hA.L (by omega) (by omega)]; exact ht)
    | false =>
      have h5 := ht
      simp only [Bool.or_eq_false_iff] at h5
      have hm : m < 24 := by
        have h6 := of_decide_eq_false h5.2
        rw [hA.L.cnt, show (24 : Int32) = nI 24 from rfl, nI_ltI (by omega) (by omega)] at h6
        omega
      have hB : RA I J (p_jo I m (4 * e + p) (4 * f + q)) J m r := RA_I hA (fun c q1 q2 => jo_c (by omega)) rfl
      refine w_link (I1 := p_jo I m (4 * e + p) (4 * f + q)) (J1 := zupL J 86 0 (nI m).toInt64) (I2 := m_ln (p_jo I m (4 * e + p) (4 * f + q)) m (4 * e + p) (4 * f + q)) (J2 := zupL J 86 0 (nI m).toInt64) (k := 0) (r := nI m) (q := 3) hX hO hS hi hL ha hb (by decide) ?_ ?_ ?_ (fun _ => j86) (hk _ _ (G_link hR hA.L.cnt hm (by omega) (by omega) (by omega) (by rw [show (4 * e + p) / 4 = e by omega]; exact he2) (by rw [show (4 * f + q) / 4 = f by omega]; exact hf2) h5.1.1 h5.1.2))
      · rw [e1, e2, e3, e4]; exact h_La_link (k := 4) hst (by decide) (c_CT_link he hp hf hq h1 hA.L.cnt hm h5.1.1 h5.1.2)
      · rw [e1, e2, e3, e4]; exact c_Mo_link he hp hf hq (by rw [B_lkw hB.P, h1]; rfl) (by rw [← hB.P.pL]; exact hA.L.cnt) hm (by rw [B_lkt hB.P hB.L (by omega) (by omega)]; exact ht)
      · unfold m_ln
        rw [zz_k (by decide), zz_c (by decide), zz_c (by decide), zz_c (by decide), zz_c (by decide)]
        exact t64
theorem k_source (hX : zOk X G code 8 "ClockTreeLaw" room_1) (hO : zOx X) (hst : X.2.1.stackTraces = false) (hS : zSc X b0 L xs) (hL : L ≤ 2560) : wSu X G b0 L 300 := by
  intro j i a b I J hj hR hi ha hb hk
  obtain ⟨m, r, hr, hA, hN⟩ := id hR
  cases h1 : p_po I (xs (i + 1)) (xs (i + 2)) with
  | false => exact w_source (q := 3) hX hO hS hi hL ha hb (by decide) (h_La_source_x hst (c_CT_source_x1 hst h1)) (c_Mo_source_x (by rw [B_sow hA.P, h1]; rfl)) t64 (hk _ _ (G_t hR))
  | true =>
    cases h2 : (decide (xs (i + 3) = -1) || (p_in (xs (i + 3)) 0 6 && p_in (xs (i + 4)) (-1000) 1000)) with
    | false => exact w_source (q := 3) hX hO hS hi hL ha hb (by decide) (h_La_source_x hst (c_CT_source_x2 hst h1 h2)) (c_Mo_source_x (by rw [B_sow hA.P, h1, h2]; rfl)) t64 (hk _ _ (G_t hR))
    | true =>
      obtain ⟨e, p, he, hp, e1, e2, he2⟩ := p_po_ix h1
      have hw : m_sow I (xs (i + 1)) (xs (i + 2)) (xs (i + 3)) (xs (i + 4)) = false := by rw [B_sow hA.P, h1, h2]; rfl
      rw [e1, e2] at h1 hw
      by_cases ht : I 9 (4 * e + p) = -1
      · have hB : RA I J (zup (zup I 11 (4 * e + p) (xs (i + 3))) 12 (4 * e + p) (xs (i + 4))) J m r := RA_I hA (fun c q1 q2 => by rw [up_ne (by omega), up_ne (by omega)]) rfl
        refine w_source (I1 := zup (zup I 11 (4 * e + p) (xs (i + 3))) 12 (4 * e + p) (xs (i + 4))) (J1 := J) (I2 := zup (zup (m_t (zup (zup I 11 (4 * e + p) (xs (i + 3))) 12 (4 * e + p) (xs (i + 4))) 0) 72 (4 * e + p) (xs (i + 3))) 73 (4 * e + p) (xs (i + 4))) (J2 := J) (k := 0) (q := 3) hX hO hS hi hL ha hb (by decide) ?_ ?_ ?_ (hk _ _ (G_source hR ht h2))
        · rw [e1, e2]; exact h_La_source (k := 4) hst (by decide) (c_CT_source he hp h1 h2 ht)
        · rw [e1, e2]; exact c_Mo_source he hp (by rw [B_sow hB.P, h1, h2]; rfl) (by rw [← hB.P.p9, ht]; decide)
        · rw [zz_c (by decide), zz_c (by decide)]
          exact t64
      · refine w_source (I1 := I) (J1 := J) (I2 := m_t I 2) (J2 := J) (k := 2) (q := 3) hX hO hS hi hL ha hb (by decide) ?_ ?_ t64 (hk _ _ (G_t hR))
        · rw [e1, e2]; exact h_La_source_y hst (c_CT_source_y hst he hp h1 h2 ht)
        · rw [e1, e2]; exact c_Mo_source_y he hp hw (by rw [← hA.P.p9]; exact fun q => ht ((R9_lt hA.L (by omega)).mp q))
theorem k_priority (hX : zOk X G code 8 "ClockTreeLaw" room_1) (hO : zOx X) (hst : X.2.1.stackTraces = false) (hS : zSc X b0 L xs) (hL : L ≤ 2560) : wSu X G b0 L 372 := by
  intro j i a b I J hj hR hi ha hb hk
  obtain ⟨m, r, hr, hA, hN⟩ := id hR
  cases h1 : (p_po I (xs (i + 1)) (xs (i + 2)) && p_in (xs (i + 3)) 0 9) with
  | false => exact w_priority (q := 3) hX hO hS hi hL ha hb (by decide) (h_La_priority_x hst (c_CT_priority_x hst h1)) (c_Mo_priority_x (by rw [B_prw hA.P, h1]; rfl)) t64 n1_0 (hk _ _ (G_t hR))
  | true =>
    have h4 := h1
    simp only [Bool.and_eq_true] at h4
    obtain ⟨e, p, he, hp, e1, e2, he2⟩ := p_po_ix h4.1
    rw [e1, e2] at h1
    have hB : RA I J (zup I 13 (4 * e + p) (xs (i + 3))) J m r := RA_I hA (fun c q1 q2 => up_ne (by omega)) rfl
    refine w_priority (I1 := zup I 13 (4 * e + p) (xs (i + 3))) (J1 := zupL J 86 0 (I 13 (4 * e + p)).toInt64) (I2 := zup (m_t (zup I 13 (4 * e + p) (xs (i + 3))) 0) 75 (4 * e + p) (xs (i + 3))) (J2 := zupL J 86 0 (I 13 (4 * e + p)).toInt64) (k := 0) (r := zup I 13 (4 * e + p) (xs (i + 3)) 75 (4 * e + p)) (q := 3) hX hO hS hi hL ha hb (by decide) ?_ ?_ ?_ (fun _ => ?_) (hk _ _ (G_priority hR))
    · rw [e1, e2]; exact h_La_priority (k := 4) hst (by decide) (c_CT_priority he hp h1)
    · rw [e1, e2]; exact c_Mo_priority he hp (by rw [B_prw hB.P, h1]; rfl)
    · rw [zz_c (by decide)]; exact t64
    · rw [j86, zz_c (by decide), ← hA.P.p13]
theorem k_restore (hX : zOk X G code 8 "ClockTreeLaw" room_1) (hO : zOx X) (hst : X.2.1.stackTraces = false) (hS : zSc X b0 L xs) (hL : L ≤ 2560) : wSu X G b0 L 452 := by
  intro j i a b I J hj hR hi ha hb hk
  obtain ⟨m, r, hr, hA, hN⟩ := id hR
  cases h1 : (p_th I (xs (i + 1)) && p_in (xs (i + 2)) 0 10) with
  | false => exact w_restore (q := 2) hX hO hS hi hL ha hb (by decide) (h_La_restore_x hst (c_CT_restore_x hst h1)) (c_Mo_restore_x (by rw [B_rew hA.P, h1]; rfl)) t64 n1_0 (hk _ _ (G_t hR))
  | true =>
    have h4 := h1
    simp only [Bool.and_eq_true] at h4
    obtain ⟨e, he, e1, he2⟩ := p_th_ix h4.1
    rw [e1] at h1
    have hB : RA I J (zup I 6 e (xs (i + 2))) J m r := RA_I hA (fun c q1 q2 => up_ne (by omega)) rfl
    refine w_restore (I1 := zup I 6 e (xs (i + 2))) (J1 := zupL J 86 0 (I 6 e).toInt64) (I2 := zup (m_t (zup I 6 e (xs (i + 2))) 0) 69 e (xs (i + 2))) (J2 := zupL J 86 0 (I 6 e).toInt64) (k := 0) (r := zup I 6 e (xs (i + 2)) 69 e) (q := 2) hX hO hS hi hL ha hb (by decide) ?_ ?_ ?_ (fun _ => ?_) (hk _ _ (G_restore hR he he2 h4.2))
    · rw [e1]; exact h_La_restore (k := 3) hst (by decide) (c_CT_restore he h1)
    · rw [e1]; exact c_Mo_restore he (by rw [B_rew hB.P, h1]; rfl)
    · rw [zz_c (by decide)]; exact t64
    · rw [j86, zz_c (by decide), ← hA.P.p6]
theorem k_tracing (hX : zOk X G code 8 "ClockTreeLaw" room_1) (hO : zOx X) (hst : X.2.1.stackTraces = false) (hS : zSc X b0 L xs) (hL : L ≤ 2560) : wSu X G b0 L 520 := by
  intro j i a b I J hj hR hi ha hb hk
  obtain ⟨m, r, hr, hA, hN⟩ := id hR
  have ht : ∃ t, I 1 15 = zB t := by
    rcases hA.L.tr with q | q
    · exact ⟨false, q⟩
    · exact ⟨true, q⟩
  obtain ⟨t, ht⟩ := ht
  exact w_tracing (p := 1) (q := 1) hX hO hS hi hL ha hb (by decide) (by decide) (c_CT_tracing ht) (c_Mo_tracing (by rw [zz_c (by decide), ← hA.P.pT]; exact ht)) (Z_wid (Nat.le_succ a) (by omega) (hk _ _ (G_tracing hR)))
theorem k_command (hX : zOk X G code 8 "ClockTreeLaw" room_1) (hO : zOx X) (hst : X.2.1.stackTraces = false) (hS : zSc X b0 L xs) (hL : L ≤ 2560) : wSu X G b0 L 561 := by
  intro j i a b I J hj hR hi ha hb hk
  obtain ⟨m, r, hr, hA, hN⟩ := id hR
  cases h1 : (p_th I (xs (i + 1)) && p_in (xs (i + 2)) 0 1) with
  | false => exact w_command (q := 2) hX hO hS hi hL ha hb (by decide) (h_La_command_x hst (c_CT_command_x1 hst h1)) (c_Mo_command_x (by rw [B_cow hA.P, h1]; rfl)) t64 n1_0 (hk _ _ (G_t hR))
  | true =>
    cases h2 : (decide (xs (i + 3) = -1) || p_in (xs (i + 3)) 0 3) with
    | false => exact w_command (q := 2) hX hO hS hi hL ha hb (by decide) (h_La_command_x hst (c_CT_command_x2 hst h1 h2)) (c_Mo_command_x (by rw [B_cow hA.P, h1, h2]; rfl)) t64 n1_0 (hk _ _ (G_t hR))
    | true =>
      have h4 := h1
      simp only [Bool.and_eq_true] at h4
      obtain ⟨e, he, e1, he2⟩ := p_th_ix h4.1
      rw [e1] at h1
      have hc : ∀ c, 64 ≤ c → (if xs (i + 2) = 0 then zup I 7 e (xs (i + 3)) else zup I 8 e (xs (i + 3))) c = I c := by
        intro c hc
        split <;> exact up_ne (by omega)
      have hB : RA I J (if xs (i + 2) = 0 then zup I 7 e (xs (i + 3)) else zup I 8 e (xs (i + 3))) J m r := RA_I hA (fun c q1 q2 => hc c q1) rfl
      refine w_command (I1 := if xs (i + 2) = 0 then zup I 7 e (xs (i + 3)) else zup I 8 e (xs (i + 3))) (J1 := zupL J 86 0 (if xs (i + 2) = 0 then I 7 e else I 8 e).toInt64) (I2 := if xs (i + 2) = 0 then zup (m_t (if xs (i + 2) = 0 then zup I 7 e (xs (i + 3)) else zup I 8 e (xs (i + 3))) 0) 70 e (xs (i + 3)) else zup (m_t (if xs (i + 2) = 0 then zup I 7 e (xs (i + 3)) else zup I 8 e (xs (i + 3))) 0) 71 e (xs (i + 3))) (J2 := zupL J 86 0 (if xs (i + 2) = 0 then I 7 e else I 8 e).toInt64) (k := 0) (r := if xs (i + 2) = 0 then (if xs (i + 2) = 0 then zup I 7 e (xs (i + 3)) else zup I 8 e (xs (i + 3))) 70 e else (if xs (i + 2) = 0 then zup I 7 e (xs (i + 3)) else zup I 8 e (xs (i + 3))) 71 e) (q := 2) hX hO hS hi hL ha hb (by decide) ?_ ?_ ?_ (fun _ => ?_) (hk _ _ (G_command hR (okQ_in h2)))
      · rw [e1]; exact h_La_command (k := 3) hst (by decide) (c_CT_command he h1 h2)
      · rw [e1]; exact c_Mo_command he (by rw [B_cow hB.P, h1, h2]; rfl)
      · split <;> (rw [zz_c (by decide)]; exact t64)
      · rw [j86, hc 70 (by decide), hc 71 (by decide), ← hA.P.p7, ← hA.P.p8]
theorem k_lockout (hX : zOk X G code 8 "ClockTreeLaw" room_1) (hO : zOx X) (hst : X.2.1.stackTraces = false) (hS : zSc X b0 L xs) (hL : L ≤ 2560) : wSu X G b0 L 641 := by
  intro j i a b I J hj hR hi ha hb hk
  obtain ⟨m, r, hr, hA, hN⟩ := id hR
  cases h1 : p_po I (xs (i + 1)) (xs (i + 2)) with
  | false => exact w_lockout (q := 3) (t := false) hX hO hS hi hL ha hb (by decide) (h_La_lockout_x hst (c_CT_lockout_x hst h1)) (c_Mo_lockout_x (by rw [B_np hA.P, h1]; rfl)) t64 n1_0 (hk _ _ (G_t hR))
  | true =>
    obtain ⟨e, p, he, hp, e1, e2, he2⟩ := p_po_ix h1
    rw [e1, e2] at h1
    have ht : ∃ t, I 14 (4 * e + p) = zB t := by
      rcases hA.L.lo (4 * e + p) (by omega) with q | q
      · exact ⟨false, q⟩
      · exact ⟨true, q⟩
    obtain ⟨t, ht⟩ := ht
    generalize ho : decide (¬ xs (i + 3) = 0) = o
    have hB : RA I J (zup I 14 (4 * e + p) (zB o)) J m r := RA_I hA (fun c q1 q2 => up_ne (by omega)) rfl
    refine w_lockout (I1 := zup I 14 (4 * e + p) (zB o)) (J1 := zupL J 86 0 (zB t).toInt64) (I2 := zup (m_t (zup I 14 (4 * e + p) (zB o)) 0) 76 (4 * e + p) (zB o)) (J2 := zupL J 86 0 (zB t).toInt64) (k := 0) (t := t) (q := 3) hX hO hS hi hL ha hb (by decide) ?_ ?_ ?_ (fun _ => j86) (hk _ _ (G_lockout hR))
    · rw [e1, e2, ho]; exact h_La_lockout (k := 4) hst (by decide) (c_CT_lockout he hp h1 ht)
    · rw [e1, e2, ho]; exact c_Mo_lockout he hp (by rw [B_np hB.P, h1]; rfl) (by rw [zz_c (by decide), ← hA.P.p14]; exact ht)
    · rw [zz_c (by decide)]; exact t64
theorem k_fail (hX : zOk X G code 8 "ClockTreeLaw" room_1) (hO : zOx X) (hst : X.2.1.stackTraces = false) (hS : zSc X b0 L xs) (hL : L ≤ 2560) : wSu X G b0 L 744 := by
  intro j i a b I J hj hR hi ha hb hk
  obtain ⟨m, r, hr, hA, hN⟩ := id hR
  cases h1 : p_lk I (xs (i + 1)) with
  | false => exact w_fail (q := 2) (t := false) hX hO hS hi hL ha hb (by decide) (h_La_fail_x hst (c_CT_fail_x hst h1)) (c_Mo_fail_x (by rw [B_nl hA.P hA.L, h1]; rfl)) t64 n1_0 (hk _ _ (G_t hR))
  | true =>
    obtain ⟨k, hkm, e1⟩ := p_lk_ix hA.L h1
    have h24 := hA.L.m24
    rw [e1] at h1
    generalize ho : decide (¬ xs (i + 2) = 0) = o
    have hB : RA I J (f_sl I 16 (nI k) (zB o)) J m r := RA_I hA (fun c q1 q2 => fr_sl (by omega)) rfl
    have hans : (!f_lw I 16 (nI k)) = decide (f_sl I 16 (nI k) (zB o) 79 (688 + k) = 1) := A_fail hB.F (by omega)
    refine w_fail (I1 := f_sl I 16 (nI k) (zB o)) (J1 := zupL J 86 0 (zB (!f_lw I 16 (nI k))).toInt64) (I2 := zup (m_t (f_sl I 16 (nI k) (zB o)) 0) 79 (688 + k) (zB o)) (J2 := zupL J 86 0 (zB (!f_lw I 16 (nI k))).toInt64) (k := 0) (t := !f_lw I 16 (nI k)) (q := 2) hX hO hS hi hL ha hb (by decide) ?_ ?_ ?_ (fun _ => j86) (hk _ _ (G_fail hR (by omega)))
    · rw [e1, ho]; exact h_La_fail (k := 3) hst (by decide) (c_CT_fail h1)
    · rw [e1, ho, hans]; exact c_Mo_fail (by omega) (by rw [B_nl hB.P hB.L, h1]; rfl)
    · rw [zz_c (by decide)]; exact t64
theorem k_failElement (hX : zOk X G code 8 "ClockTreeLaw" room_1) (hO : zOx X) (hst : X.2.1.stackTraces = false) (hS : zSc X b0 L xs) (hL : L ≤ 2560) : wSu X G b0 L 835 := by
  intro j i a b I J hj hR hi ha hb hk
  obtain ⟨m, r, hr, hA, hN⟩ := id hR
  cases h1 : p_th I (xs (i + 1)) with
  | false => exact w_failElement (q := 2) (t := false) hX hO hS hi hL ha hb (by decide) (h_La_failElement_x hst (c_CT_failElement_x hst h1)) (c_Mo_failElement_x (by rw [B_ne hA.P, h1]; rfl)) t64 n1_0 (hk _ _ (G_t hR))
  | true =>
    obtain ⟨e, he, e1, he2⟩ := p_th_ix h1
    rw [e1] at h1
    generalize ho : decide (¬ xs (i + 2) = 0) = o
    have hB : RA I J (f_se I 16 e (zB o)) J m r := RA_I hA (fun c q1 q2 => fr_se (by omega)) rfl
    have hans : (!f_wh I 16 e) = decide (f_se I 16 e (zB o) 79 (672 + e) = 1) := A_failElement hB.F he he2
    refine w_failElement (I1 := f_se I 16 e (zB o)) (J1 := zupL J 86 0 (zB (!f_wh I 16 e)).toInt64) (I2 := m_fe (m_t (f_se I 16 e (zB o)) 0) e o) (J2 := zupL J 86 0 (zB (!f_wh I 16 e)).toInt64) (k := 0) (t := !f_wh I 16 e) (q := 3) hX hO hS hi hL ha hb (by decide) ?_ ?_ ?_ (fun _ => j86) (hk _ _ (G_failElement hR he he2))
    · rw [e1, ho]; exact h_La_failElement (k := 4) hst (by decide) (c_CT_failElement he h1)
    · rw [e1, ho, hans]; exact c_Mo_failElement he (by rw [B_ne hB.P, h1]; rfl)
    · rw [fe_c (by decide)]; exact t64
theorem k_lose (hX : zOk X G code 8 "ClockTreeLaw" room_1) (hO : zOx X) (hst : X.2.1.stackTraces = false) (hS : zSc X b0 L xs) (hL : L ≤ 2560) : wSu X G b0 L 926 := by
  intro j i a b I J hj hR hi ha hb hk
  obtain ⟨m, r, hr, hA, hN⟩ := id hR
  cases h1 : p_lk I (xs (i + 1)) with
  | false => exact w_lose (q := 2) hX hO hS hi hL ha hb (by decide) (h_La_lose_x hst (c_CT_lose_x hst h1)) (c_Mo_lose_x (by rw [B_nl hA.P hA.L, h1]; rfl)) t64 (hk _ _ (G_t hR))
  | true =>
    obtain ⟨k, hkm, e1⟩ := p_lk_ix hA.L h1
    have h24 := hA.L.m24
    rw [e1] at h1
    generalize ho : decide (¬ xs (i + 2) = 0) = o
    obtain ⟨x, y, hx, hy, hxy, e77, e78, e15, h9x, h9y, h10x, efe, epe⟩ := RL_fe hA.L hkm
    have hB : RA I J I (f_lf J 16 (cond o y x)) m r := RA_I hA (fun _ _ _ => rfl) (by unfold f_lf; rw [zupL_ne (by decide)])
    refine w_lose (I1 := I) (J1 := f_lf J 16 (cond o y x)) (I2 := zup (m_t I 0) 79 (712 + 2 * k + cond o 1 0) 1) (J2 := f_lf J 16 (cond o y x)) (k := 0) (q := 2) hX hO hS hi hL ha hb (by decide) ?_ ?_ ?_ (hk _ _ (G_lose hR (fun m' r' h' => ?_) hx hy hxy e77 e78 h9x h9y))
    · rw [e1, ho]; exact h_La_lose (k := 3) hst (by decide) (c_CT_lose (by omega) h1 hx e15 h10x)
    · rw [e1, ho]; exact c_Mo_lose (by omega) (by rw [B_nl hB.P hB.L, h1]; rfl)
    · rw [zz_c (by decide)]; exact t64
    · have h5 := h'.L.cnt
      have h6 := h'.L.m24
      rw [hA.L.cnt, nI_eq (by omega) (by omega)] at h5
      omega
theorem k_rounds (hX : zOk X G code 8 "ClockTreeLaw" room_1) (hO : zOx X) (hst : X.2.1.stackTraces = false) (hS : zSc X b0 L xs) (hL : L ≤ 2560) : wSu X G b0 L 990 := by
  intro j i a b I J hj hR hi ha hb hk
  obtain ⟨m, r, hr, hA, hN⟩ := id hR
  cases h1 : p_in (xs (i + 1)) 1 200 with
  | false => exact w_rounds (q := 1) hX hO hS hi hL ha hb (by decide) (h_La_rounds_x hst (c_CT_rounds_x hst h1)) (c_Mo_rounds_x (by rw [B_row, h1]; rfl)) t64 n1_0 (hk _ _ (G_t hR))
  | true =>
    have hn : ∃ n, n ≤ 200 ∧ xs (i + 1) = nI n := by
      have h4 := h1
      unfold p_in at h4
      simp only [Bool.and_eq_true, decide_eq_true_eq, i_lt, l_1', l_200] at h4
      obtain ⟨n, hn, e1⟩ := nI_of (x := xs (i + 1)) (by rw [i_lt, l_0]; omega)
      refine ⟨n, ?_, e1⟩
      rw [e1, nI_toInt hn] at h4
      omega
    obtain ⟨n, hn, e1⟩ := hn
    rw [e1] at h1
    have c1 : ∀ c, 64 ≤ c → (c_rn I J n).1 c = I c := fun c q1 => fr_rn (by omega) n
    have hB : RA I J (c_rn I J n).1 (c_rn I J n).2 m r := RA_I hA (fun c q1 q2 => c1 c q1) (rn_J (by decide) (by decide) n)
    obtain ⟨g1, g2⟩ := G_rounds (w := ((c_rn I J n).1 59 2).toInt64) hR hj hn
    refine w_rounds (I1 := (c_rn I J n).1) (J1 := zupL (c_rn I J n).2 86 0 ((c_rn I J n).1 59 2).toInt64) (I2 := m_itI (m_t (c_rn I J n).1 0) n) (J2 := m_itJ (m_t (c_rn I J n).1 0) (zupL (c_rn I J n).2 86 0 ((c_rn I J n).1 59 2).toInt64) n) (k := 0) (r := m_itI (m_t (c_rn I J n).1 0) n 79 761) (q := 7) hX hO hS hi hL ha hb (by decide) ?_ ?_ ?_ (fun _ => ?_) (hk _ _ g1)
    · rw [e1]; exact h_La_rounds (k := 6) hst (by decide) (c_CT_rounds (by omega) h1 (okP_R hA.P hA.L) (okK_R hA.F) (K_rounds hR hj hn))
    · rw [e1]; exact c_Mo_rounds (by omega) (by rw [B_row, h1]; rfl) (okM_R hB.P hB.L) (okMQ_R hB.P hB.L)
    · rw [fr_it (by decide) (by decide)]; exact t64
    · rw [itJ_n (by decide), j86, g2]
theorem k_settled (hX : zOk X G code 8 "ClockTreeLaw" room_1) (hO : zOx X) (hst : X.2.1.stackTraces = false) (hS : zSc X b0 L xs) (hL : L ≤ 2560) : wSu X G b0 L 1046 := by
  intro j i a b I J hj hR hi ha hb hk
  obtain ⟨m, r, hr, hA, hN⟩ := id hR
  refine w_settled (v := I 59 2) (p := 1) (q := 1) hX hO hS hi hL ha hb (by decide) (by decide) c_CT_settled ?_ (Z_wid (Nat.le_succ a) (by omega) (hk _ _ (G_t (v := 0) hR)))
  rw [hA.C.st]
  exact c_Mo_settled
theorem k_state (hX : zOk X G code 8 "ClockTreeLaw" room_1) (hO : zOx X) (hst : X.2.1.stackTraces = false) (hS : zSc X b0 L xs) (hL : L ≤ 2560) : wSu X G b0 L 1059 := by
  intro j i a b I J hj hR hi ha hb hk
  obtain ⟨m, r, hr, hA, hN⟩ := id hR
  cases h1 : p_th I (xs (i + 1)) with
  | false => exact w_state (q := 2) hX hO hS hi hL ha hb (by decide) (h_La_state_x hst (c_CT_state_x1 hst h1)) (c_Mo_state_x (by rw [B_stw hA.P, h1]; rfl)) t64 n1_0 (hk _ _ (G_t hR))
  | true =>
    cases h2 : p_in (xs (i + 2)) 0 4 with
    | false => exact w_state (q := 2) hX hO hS hi hL ha hb (by decide) (h_La_state_x hst (c_CT_state_x2 hst h1 h2)) (c_Mo_state_x (by rw [B_stw hA.P, h1, h2]; rfl)) t64 n1_0 (hk _ _ (G_t hR))
    | true =>
      obtain ⟨e, he, e1, he2⟩ := p_th_ix h1
      have hw : m_stw I (nI e) (xs (i + 2)) = false := by rw [← e1, B_stw hA.P, h1, h2]; rfl
      rw [e1] at h1
      obtain ⟨s0, s1, s2, s3, s4⟩ := A_state (w := xs (i + 2)) (S_t (v := 0) hA) he
      have fin : ∀ v, v = m_st (m_t I 0) e (xs (i + 2)) → zCi X.2.1 G y_CT_state (Cond.code y_CT_state prog_1_method_15_code 3 (some .int) :: TBL) (zR 3) [.ref (zad G 0), .int (nI e), .int (xs (i + 2))] I J v I J → Z X G 8 a b 1059 [(4, .int (nI i)), (3, .ref (zad G 86)), (2, .ref (zad G 64)), (1, .ref (zad G 0)), (0, .ref b0)] [] I J := by
        intro v hv hC
        refine w_state (I1 := I) (J1 := zupL J 86 0 v.toInt64) (I2 := m_t I 0) (J2 := zupL J 86 0 v.toInt64) (k := 0) (r := m_st (m_t I 0) e (xs (i + 2))) (q := 2) hX hO hS hi hL ha hb (by decide) ?_ ?_ t64 (fun _ => ?_) (hk _ _ (G_o hR))
        · rw [e1]; exact h_La_state (k := 3) hst (by decide) hC
        · rw [e1]; exact c_Mo_state he hw
        · rw [j86, hv]
      obtain ⟨x1, x2⟩ := p_in_ix (n := 4) (by decide) h2
      generalize (xs (i + 2)).toNatClampNeg = w at x1 x2
      have hw5 : w = 0 ∨ w = 1 ∨ w = 2 ∨ w = 3 ∨ w = 4 := by omega
      rcases hw5 with rfl | rfl | rfl | rfl | rfl
      · exact fin _ (s0 x1) (by rw [x1]; exact c_CT_state_0 he h1)
      · exact fin _ (s1 x1) (by rw [x1]; exact c_CT_state_1 he h1)
      · exact fin _ (s2 x1) (by rw [x1]; exact c_CT_state_2 he h1)
      · exact fin _ (s3 x1) (by rw [x1]; exact c_CT_state_3 he h1)
      · exact fin _ (s4 x1) (by rw [x1]; exact c_CT_state_4 he h1)
theorem k_phase (hX : zOk X G code 8 "ClockTreeLaw" room_1) (hO : zOx X) (hst : X.2.1.stackTraces = false) (hS : zSc X b0 L xs) (hL : L ≤ 2560) : wSu X G b0 L 1127 := by
  intro j i a b I J hj hR hi ha hb hk
  obtain ⟨m, r, hr, hA, hN⟩ := id hR
  cases h1 : p_th I (xs (i + 1)) with
  | false => exact w_phase (q := 2) hX hO hS hi hL ha hb (by decide) (h_La_phase_x hst (c_CT_phase_x hst h1)) (c_Mo_phase_x (by rw [B_ne hA.P, h1]; rfl)) t64 n1_0 (hk _ _ (G_t hR))
  | true =>
    obtain ⟨e, he, e1, he2⟩ := p_th_ix h1
    rw [e1] at h1
    refine w_phase (I1 := I) (J1 := zupL J 86 0 (J 58 e)) (I2 := m_t I 0) (J2 := zupL J 86 0 (J 58 e)) (k := 0) (r := zupL J 86 0 (J 58 e) 81 e) (q := 2) hX hO hS hi hL ha hb (by decide) ?_ ?_ t64 (fun _ => ?_) (hk _ _ (G_o hR))
    · rw [e1]; exact h_La_phase (k := 3) hst (by decide) (c_CT_phase he h1)
    · rw [e1]; exact c_Mo_phase he (by rw [B_ne hA.P, h1]; rfl)
    · rw [j86, zupL_ne (by decide), hA.C.ph e he]
theorem k_sends (hX : zOk X G code 8 "ClockTreeLaw" room_1) (hO : zOx X) (hst : X.2.1.stackTraces = false) (hS : zSc X b0 L xs) (hL : L ≤ 2560) : wSu X G b0 L 1182 := by
  intro j i a b I J hj hR hi ha hb hk
  obtain ⟨m, r, hr, hA, hN⟩ := id hR
  cases h1 : p_po I (xs (i + 1)) (xs (i + 2)) with
  | false => exact w_sends (q := 3) hX hO hS hi hL ha hb (by decide) (h_La_sends_x hst (c_CT_sends_x hst h1)) (c_Mo_sends_x (by rw [B_np hA.P, h1]; rfl)) t64 n1_0 (hk _ _ (G_t hR))
  | true =>
    obtain ⟨e, p, he, hp, e1, e2, he2⟩ := p_po_ix h1
    rw [e1, e2] at h1
    refine w_sends (I1 := I) (J1 := zupL J 86 0 (I 22 (4 * e + p)).toInt64) (I2 := m_t I 0) (J2 := zupL J 86 0 (I 22 (4 * e + p)).toInt64) (k := 0) (r := I 79 (256 + (4 * e + p))) (q := 3) hX hO hS hi hL ha hb (by decide) ?_ ?_ t64 (fun _ => ?_) (hk _ _ (G_o hR))
    · rw [e1, e2]; exact h_La_sends (k := 4) hst (by decide) (c_CT_sends he hp h1)
    · rw [e1, e2]; exact c_Mo_sends he hp (by rw [B_np hA.P, h1]; rfl)
    · rw [j86]
      exact congrArg Int32.toInt64 (hA.F.se (4 * e + p) (by omega)).1
theorem k_traced (hX : zOk X G code 8 "ClockTreeLaw" room_1) (hO : zOx X) (hst : X.2.1.stackTraces = false) (hS : zSc X b0 L xs) (hL : L ≤ 2560) : wSu X G b0 L 1250 := by
  intro j i a b I J hj hR hi ha hb hk
  obtain ⟨m, r, hr, hA, hN⟩ := id hR
  cases h1 : p_th I (xs (i + 1)) with
  | false => exact w_traced (q := 2) hX hO hS hi hL ha hb (by decide) (h_La_traced_x hst (c_CT_traced_x hst h1)) (c_Mo_traced_x (by rw [B_ne hA.P, h1]; rfl)) t64 n1_0 (hk _ _ (G_t hR))
  | true =>
    obtain ⟨e, he, e1, he2⟩ := p_th_ix h1
    rw [e1] at h1
    have hB := S_t (v := 0) hA
    have hans := A_traced hB.P hB.L hB.F he
    refine w_traced (I1 := I) (J1 := zupL J 86 0 (if f_fo I 16 16 e = -2 then -1 else f_fo I 16 16 e).toInt64) (I2 := m_t I 0) (J2 := zupL J 86 0 (if f_fo I 16 16 e = -2 then -1 else f_fo I 16 16 e).toInt64) (k := 0) (r := if 16 ≤ m_tr (m_t I 0) 17 (nI e) then m_tr (m_t I 0) 17 (nI e) - 16 else -1) (q := 3) hX hO hS hi hL ha hb (by decide) ?_ ?_ t64 (fun _ => ?_) (hk _ _ (G_o hR))
    · rw [e1]; exact h_La_traced (k := 3) hst (by decide) (c_CT_traced he h1 (okL_R hA.P hA.L) (okK_R hA.F))
    · rw [e1]; exact c_Mo_traced he (by rw [B_ne hA.P, h1]; rfl) (okM_R hB.P hB.L) (okMK_R hB.F)
    · rw [j86, hans]
theorem k_loop (hX : zOk X G code 8 "ClockTreeLaw" room_1) (hO : zOx X) (hst : X.2.1.stackTraces = false) (hS : zSc X b0 L xs) (hL : L ≤ 2560) : wSu X G b0 L 1306 := by
  intro j i a b I J hj hR hi ha hb hk
  obtain ⟨m, r, hr, hA, hN⟩ := id hR
  have hB := S_t (v := 0) hA
  refine w_loop (v := zB (c_lo I 16)) (p := 3) (q := 3) hX hO hS hi hL ha hb (by decide) (by decide) (c_CT_loop (okL_R hA.P hA.L) (okK_R hA.F)) ?_ (Z_wid (Nat.le_succ a) (by omega) (hk _ _ (G_t (v := 0) hR)))
  rw [A_loop hB.P hB.L hB.F 16 (Nat.le_refl _)]
  exact c_Mo_loop (okM_R hB.P hB.L) (okMK_R hB.F)
theorem k_best (hX : zOk X G code 8 "ClockTreeLaw" room_1) (hO : zOx X) (hst : X.2.1.stackTraces = false) (hS : zSc X b0 L xs) (hL : L ≤ 2560) : wSu X G b0 L 1319 := by
  intro j i a b I J hj hR hi ha hb hk
  obtain ⟨m, r, hr, hA, hN⟩ := id hR
  cases h1 : p_th I (xs (i + 1)) with
  | false => exact w_best (q := 2) hX hO hS hi hL ha hb (by decide) (h_La_best_x hst (c_CT_best_x hst h1)) (c_Mo_best_x (by rw [B_ne hA.P, h1]; rfl)) t64 n1_0 (hk _ _ (G_t hR))
  | true =>
    obtain ⟨e, he, e1, he2⟩ := p_th_ix h1
    rw [e1] at h1
    have hB := S_t (v := 0) hA
    have hx := m_rx_ok (okME_R hB.P hB.L) he
    have hans := br_eq hB.P hB.L hB.F he hx
    refine w_best (I1 := I) (J1 := zupL J 86 0 (f_br I 16 m e).toInt64) (I2 := m_t I 0) (J2 := zupL J 86 0 (f_br I 16 m e).toInt64) (k := 0) (r := m_bf (m_t I 0) e (m_rx (m_t I 0) m e)) (q := 4) hX hO hS hi hL ha hb (by decide) ?_ ?_ t64 (fun _ => ?_) (hk _ _ (G_o hR))
    · rw [e1]; exact h_La_best (k := 5) hst (by decide) (c_CT_best he h1 (okE_R hA.L))
    · rw [e1]; exact c_Mo_best he (by rw [B_ne hA.P, h1]; rfl) (okME_R hB.P hB.L) hx
    · rw [j86, hans]
theorem k_check (hX : zOk X G code 8 "ClockTreeLaw" room_1) (hO : zOx X) (hst : X.2.1.stackTraces = false) (hS : zSc X b0 L xs) (hL : L ≤ 2560) : wSu X G b0 L 1375 := by
  intro j i a b I J hj hR hi ha hb hk
  obtain ⟨m, r, hr, hA, hN⟩ := id hR
  obtain ⟨rn, hrn, r1, r2⟩ := lo_rn hA.P hA.L
  have c1 : ∀ c, 64 ≤ c → (c_ck m rn I J).1 c = I c := fun c q1 => fr_ck ⟨by omega, by omega, by omega, by omega⟩
  have hB : RA I J (c_ck m rn I J).1 (c_ck m rn I J).2 m r := RA_I hA (fun c q1 q2 => c1 c q1) (cck_J (by decide))
  obtain ⟨g1, g2⟩ := G_check (rn := rn) hA hr hj hrn
  obtain ⟨k1, -⟩ := lo_eq hB.P hB.L 16 (Nat.le_refl _)
  refine w_check (v := (c_ck m rn I J).1 0 7) (p := 7) (q := 8) hX hO hS hi hL ha hb (by decide) (by decide) (c_CT_check (okE_R hA.L) (okP_R hA.P hA.L) r1 hrn) ?_ (Z_wid (Nat.le_succ a) (by omega) (hk _ _ g1))
  rw [g2]
  exact c_Mo_check ⟨okM_R hB.P hB.L, okMQ_R hB.P hB.L, okME_R hB.P hB.L, by rw [← k1]; exact r1⟩ hrn
theorem k_finding (hX : zOk X G code 8 "ClockTreeLaw" room_1) (hO : zOx X) (hst : X.2.1.stackTraces = false) (hS : zSc X b0 L xs) (hL : L ≤ 2560) : wSu X G b0 L 1388 := by
  intro j i a b I J hj hR hi ha hb hk
  obtain ⟨m, r, hr, hA, hN⟩ := id hR
  cases h1 : (p_in (xs (i + 1)) 0 (I 0 7 - 1) && p_in (xs (i + 2)) 0 1) with
  | false => exact w_finding (q := 1) hX hO hS hi hL ha hb (by decide) (h_La_finding_x hst (c_CT_finding_x hst h1)) (c_Mo_finding_x (by rw [B_fiw hN, h1]; rfl)) t64 n1_0 (hk _ _ (G_t hR))
  | true =>
    have hw : m_fiw I (xs (i + 1)) (xs (i + 2)) = false := by rw [B_fiw hN, h1]; rfl
    obtain ⟨c, hc, c1, c2, c3⟩ := id hN
    have hn : ∃ n, n < c ∧ xs (i + 1) = nI n := by
      have h4 := h1
      unfold p_in at h4
      rw [c1] at h4
      simp only [Bool.and_eq_true, decide_eq_true_eq] at h4
      obtain ⟨n, hn, e1⟩ := nI_of h4.1.1
      refine ⟨n, ?_, e1⟩
      have h5 := h4.1.2
      rw [i_lt, i_m1 (by omega), e1, nI_toInt hn] at h5
      omega
    obtain ⟨n, hn, e1⟩ := hn
    rw [e1] at h1 hw
    obtain ⟨d1, d2⟩ := c3 n hn
    refine w_finding (I1 := I) (J1 := zupL J 86 0 (if xs (i + 2) = 0 then I 62 n else I 63 n).toInt64) (I2 := m_t I 0) (J2 := zupL J 86 0 (if xs (i + 2) = 0 then I 62 n else I 63 n).toInt64) (k := 0) (r := if xs (i + 2) = 0 then I 84 n else I 85 n) (q := 1) hX hO hS hi hL ha hb (by decide) ?_ ?_ t64 (fun _ => ?_) (hk _ _ (G_o hR))
    · rw [e1]; exact h_La_finding (k := 2) hst (by decide) (c_CT_finding (by omega) h1)
    · rw [e1]; exact c_Mo_finding (by omega) hw
    · rw [j86, d1, d2]
end KC
