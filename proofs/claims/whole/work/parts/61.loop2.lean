/-! The law's loop, over the relation, counted by the calls. -/
def wSu (X : zX) (G : zG) (b0 L : Nat) (pc : Nat) : Prop := ∀ (j i a b : Nat) (I : zI) (J : zJ), j ≤ 512 → Rel j I J → i + 4 < L → a + 1 ≤ 1116 → b + 6 ≤ 13107 → (∀ (I2 : zI) (J2 : zJ), Rel (j + 1) I2 J2 → Z X G 8 (a + 1) (b + 6) 1456 [(4, .int (nI i)), (3, .ref (zad G 86)), (2, .ref (zad G 64)), (1, .ref (zad G 0)), (0, .ref b0)] [] I2 J2) → Z X G 8 a b pc [(4, .int (nI i)), (3, .ref (zad G 86)), (2, .ref (zad G 64)), (1, .ref (zad G 0)), (0, .ref b0)] [] I J
set_option maxRecDepth 100000 in
set_option maxHeartbeats 4000000 in
theorem law_lp2 {X : zX} {G : zG} {b0 L : Nat} {xs : Nat → Int32} (hX : zOk X G code 8 "ClockTreeLaw" room_1) (hS : zSc X b0 L xs) (hL : L ≤ 2560) (hend : ∀ (l9 : List (Nat × Value)) (I : zI) (J : zJ), Z X G 8 1116 13107 1463 l9 [.int 1] I J) (s0 : wSu X G b0 L 136) (s1 : wSu X G b0 L 208) (s2 : wSu X G b0 L 300) (s3 : wSu X G b0 L 372) (s4 : wSu X G b0 L 452) (s5 : wSu X G b0 L 520) (s6 : wSu X G b0 L 561) (s7 : wSu X G b0 L 641) (s8 : wSu X G b0 L 744) (s9 : wSu X G b0 L 835) (s10 : wSu X G b0 L 926) (s11 : wSu X G b0 L 990) (s12 : wSu X G b0 L 1046) (s13 : wSu X G b0 L 1059) (s14 : wSu X G b0 L 1127) (s15 : wSu X G b0 L 1182) (s16 : wSu X G b0 L 1250) (s17 : wSu X G b0 L 1306) (s18 : wSu X G b0 L 1319) (s19 : wSu X G b0 L 1375) (s20 : wSu X G b0 L 1388) :
    ∀ (n j a b : Nat) (I : zI) (J : zJ), L ≤ 5 * j + n → j ≤ 512 → a ≤ 87 + j → b ≤ 4885 + 6 * j → Rel j I J → Z X G 8 a b 23 [(4, .int (nI (5 * j))), (3, .ref (zad G 86)), (2, .ref (zad G 64)), (1, .ref (zad G 0)), (0, .ref b0)] [] I J := by
  intro n
  induction n with
  | zero =>
    intro j a b I J hn hj ha hb hR
    refine Z_iload hX d_La_law_23 rfl ?_
    refine Z_aload_n (i := 0) hX d_La_law_25 rfl rfl ?_
    refine Z_slen hX hS d_La_law_26 ?_
    refine Z_iconst (v := 5) hX d_La_law_27 rfl ?_
    refine Z_isub hX d_La_law_28 ?_
    refine Z_icgt (tgt := 1462) hX d_La_law_29 rfl (fun h => ?_) (fun h => absurd (law_go hL (by omega) h) (by omega))
    refine Z_iconst (v := 1) hX d_La_law_1462 rfl ?_
    exact Z_wid (by omega) (by omega) (hend _ _ _)
  | succ n ih =>
    intro j a b I J hn hj ha hb hR
    refine Z_iload hX d_La_law_23 rfl ?_
    refine Z_aload_n (i := 0) hX d_La_law_25 rfl rfl ?_
    refine Z_slen hX hS d_La_law_26 ?_
    refine Z_iconst (v := 5) hX d_La_law_27 rfl ?_
    refine Z_isub hX d_La_law_28 ?_
    refine Z_icgt (tgt := 1462) hX d_La_law_29 rfl (fun h => ?_) (fun h => ?_)
    · refine Z_iconst (v := 1) hX d_La_law_1462 rfl ?_
      exact Z_wid (by omega) (by omega) (hend _ _ _)
    · have hi := law_go hL (by omega) h
      have hnext : ∀ (I2 : zI) (J2 : zJ), Rel (j + 1) I2 J2 → Z X G 8 (a + 1) (b + 6) 1456 [(4, .int (nI (5 * j))), (3, .ref (zad G 86)), (2, .ref (zad G 64)), (1, .ref (zad G 0)), (0, .ref b0)] [] I2 J2 := by
        intro I2 J2 hR2
        refine Z_iinc (v := nI (5 * (j + 1))) hX d_La_law_1456 rfl (by rw [show 5 * (j + 1) = 5 * j + 5 by omega]; exact nI_add (5 * j) 5) (by decide) rfl ?_
        refine Z_goto (tgt := 23) hX d_La_law_1459 rfl ?_
        exact Z_loc rfl (ih (j + 1) (a + 1) (b + 6) I2 J2 (by omega) (by omega) (by omega) (by omega) hR2)
      refine Z_aload_n (i := 0) hX d_La_law_32 rfl rfl ?_
      refine Z_iload hX d_La_law_33 rfl ?_
      refine Z_sld hX hS d_La_law_35 rfl (by omega) hL ?_
      refine Z_bipush (v := 31) hX d_La_law_36 rfl ?_
      refine Z_iand hX d_La_law_38 ?_
      rcases law_op (xs (5 * j) &&& 31) with ⟨k, hk, he⟩ | h
      · refine Z_top he ?_
        match k, hk with
        | 0, _ => exact Z_tabIn (tgt := 136) (off := 97) hX d_La_law_39 (by decide) (by decide) (by decide) rfl (s0 j (5 * j) a b I J hj hR hi (by omega) (by omega) hnext)
        | 1, _ => exact Z_tabIn (tgt := 208) (off := 169) hX d_La_law_39 (by decide) (by decide) (by decide) rfl (s1 j (5 * j) a b I J hj hR hi (by omega) (by omega) hnext)
        | 2, _ => exact Z_tabIn (tgt := 300) (off := 261) hX d_La_law_39 (by decide) (by decide) (by decide) rfl (s2 j (5 * j) a b I J hj hR hi (by omega) (by omega) hnext)
        | 3, _ => exact Z_tabIn (tgt := 372) (off := 333) hX d_La_law_39 (by decide) (by decide) (by decide) rfl (s3 j (5 * j) a b I J hj hR hi (by omega) (by omega) hnext)
        | 4, _ => exact Z_tabIn (tgt := 452) (off := 413) hX d_La_law_39 (by decide) (by decide) (by decide) rfl (s4 j (5 * j) a b I J hj hR hi (by omega) (by omega) hnext)
        | 5, _ => exact Z_tabIn (tgt := 520) (off := 481) hX d_La_law_39 (by decide) (by decide) (by decide) rfl (s5 j (5 * j) a b I J hj hR hi (by omega) (by omega) hnext)
        | 6, _ => exact Z_tabIn (tgt := 561) (off := 522) hX d_La_law_39 (by decide) (by decide) (by decide) rfl (s6 j (5 * j) a b I J hj hR hi (by omega) (by omega) hnext)
        | 7, _ => exact Z_tabIn (tgt := 641) (off := 602) hX d_La_law_39 (by decide) (by decide) (by decide) rfl (s7 j (5 * j) a b I J hj hR hi (by omega) (by omega) hnext)
        | 8, _ => exact Z_tabIn (tgt := 744) (off := 705) hX d_La_law_39 (by decide) (by decide) (by decide) rfl (s8 j (5 * j) a b I J hj hR hi (by omega) (by omega) hnext)
        | 9, _ => exact Z_tabIn (tgt := 835) (off := 796) hX d_La_law_39 (by decide) (by decide) (by decide) rfl (s9 j (5 * j) a b I J hj hR hi (by omega) (by omega) hnext)
        | 10, _ => exact Z_tabIn (tgt := 926) (off := 887) hX d_La_law_39 (by decide) (by decide) (by decide) rfl (s10 j (5 * j) a b I J hj hR hi (by omega) (by omega) hnext)
        | 11, _ => exact Z_tabIn (tgt := 990) (off := 951) hX d_La_law_39 (by decide) (by decide) (by decide) rfl (s11 j (5 * j) a b I J hj hR hi (by omega) (by omega) hnext)
        | 12, _ => exact Z_tabIn (tgt := 1046) (off := 1007) hX d_La_law_39 (by decide) (by decide) (by decide) rfl (s12 j (5 * j) a b I J hj hR hi (by omega) (by omega) hnext)
        | 13, _ => exact Z_tabIn (tgt := 1059) (off := 1020) hX d_La_law_39 (by decide) (by decide) (by decide) rfl (s13 j (5 * j) a b I J hj hR hi (by omega) (by omega) hnext)
        | 14, _ => exact Z_tabIn (tgt := 1127) (off := 1088) hX d_La_law_39 (by decide) (by decide) (by decide) rfl (s14 j (5 * j) a b I J hj hR hi (by omega) (by omega) hnext)
        | 15, _ => exact Z_tabIn (tgt := 1182) (off := 1143) hX d_La_law_39 (by decide) (by decide) (by decide) rfl (s15 j (5 * j) a b I J hj hR hi (by omega) (by omega) hnext)
        | 16, _ => exact Z_tabIn (tgt := 1250) (off := 1211) hX d_La_law_39 (by decide) (by decide) (by decide) rfl (s16 j (5 * j) a b I J hj hR hi (by omega) (by omega) hnext)
        | 17, _ => exact Z_tabIn (tgt := 1306) (off := 1267) hX d_La_law_39 (by decide) (by decide) (by decide) rfl (s17 j (5 * j) a b I J hj hR hi (by omega) (by omega) hnext)
        | 18, _ => exact Z_tabIn (tgt := 1319) (off := 1280) hX d_La_law_39 (by decide) (by decide) (by decide) rfl (s18 j (5 * j) a b I J hj hR hi (by omega) (by omega) hnext)
        | 19, _ => exact Z_tabIn (tgt := 1375) (off := 1336) hX d_La_law_39 (by decide) (by decide) (by decide) rfl (s19 j (5 * j) a b I J hj hR hi (by omega) (by omega) hnext)
        | 20, _ => exact Z_tabIn (tgt := 1388) (off := 1349) hX d_La_law_39 (by decide) (by decide) (by decide) rfl (s20 j (5 * j) a b I J hj hR hi (by omega) (by omega) hnext)
        | k + 21, hk => exact absurd hk (by omega)
      · refine Z_tabOut (tgt := 1456) hX d_La_law_39 h rfl ?_
        exact Z_wid (Nat.le_succ a) (by omega) (hnext I J (G_mono hR))
