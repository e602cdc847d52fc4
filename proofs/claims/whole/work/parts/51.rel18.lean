section R18
variable {A A' B B' : zI} {JA JB : zJ} {b m r : Nat}
theorem S_fail {k : Nat} {o : Bool} (h : RA A JA B JB m r) (hk : k < 24) : RA (f_sl A 16 (nI k) (zB o)) JA (zup (m_t B 0) 79 (688 + k) (zB o)) JB m r := by
  have h := S_t (v := 0) h
  generalize m_t B 0 = B at *
  refine ⟨RP_of h.P (fun c h1 h2 => fr_sl (by omega)) (fun c h1 h2 => up_ne (by omega)) (zz_c (by decide)) (zz_c (by decide)), RL_of h.L (fun c h1 h2 => fr_sl (by omega)) (up_ne (by decide)) (up_ne (by decide)), RF_fail (Nat.le_refl _) h.F hk, ?_⟩
  have z := h.C
  have c : ∀ c, c ≠ 16 → f_sl A 16 (nI k) (zB o) c = A c := fun c hc => fr_sl hc
  have q : ∀ j, j < 688 ∨ 712 ≤ j → zup B 79 (688 + k) (zB o) 79 j = B 79 j := fun j hj => zz_k (by omega)
  refine ⟨fun e he => ?_, fun e he => ?_, fun e he => ?_, z.ph, fun e he => ?_, fun e he => ?_, ?_⟩
  · rw [c _ (by omega), q _ (by omega)]; exact z.no e he
  · rw [c _ (by omega), q _ (by omega)]; exact z.la e he
  · rw [c _ (by omega), q _ (by omega)]; exact z.be e he
  · rw [c _ (by omega), q _ (by omega)]; exact z.ca e he
  · rw [c _ (by omega), q _ (by omega)]; exact z.cp e he
  · rw [c _ (by omega), q _ (by omega)]; exact z.st
theorem A_fail {k : Nat} (h : RF b A JA B r) (hk : k < 24) : (!f_lw A b (nI k)) = decide (B 79 (688 + k) = 1) := by
  unfold f_lw
  rw [← h.fl k hk]
  rcases b_01 (A b 12) (e := k) (by omega) with q | q <;> rw [q] <;> rfl
theorem fe_c {e c : Nat} {o : Bool} (h : c ≠ 79) : m_fe B e o c = B c := by
  unfold m_fe
  split
  · split
    · rfl
    · exact fr_bd h
  · split
    · exact fr_cb h
    · rfl
theorem fe_n {e k : Nat} {o : Bool} (he : e < 16) (h : (560 ≤ k ∧ k < 608) ∨ (640 ≤ k ∧ k < 672) ∨ 688 ≤ k) : m_fe B e o 79 k = B 79 k := by
  unfold m_fe
  split
  · split
    · rfl
    · exact bd_n he (by omega) (by omega)
  · split
    · exact cb_n (by omega) (fun p hp => by omega)
    · rfl
theorem S_failElement {e : Nat} {o : Bool} (h : RA A JA B JB m r) (he : e < 16) (h2 : ¬ A 2 e = 0) : RA (f_se A 16 e (zB o)) JA (m_fe (m_t B 0) e o) JB m r := by
  have h := S_t (v := 0) h
  generalize m_t B 0 = B at *
  refine ⟨RP_of h.P (fun c h1 h2 => fr_se (by omega)) (fun c h1 h2 => fe_c (by omega)) (by rw [fe_c (by decide)]) (by rw [fe_c (by decide)]), RL_of h.L (fun c h1 h2 => fr_se (by omega)) (fe_c (by decide)) (fe_c (by decide)), RF_fe (Nat.le_refl _) h.F he h2, ?_⟩
  have q := h.C
  have c : ∀ c, 35 ≤ c → f_se A 16 e (zB o) c = A c := fun c hc => fr_se (by omega)
  refine ⟨fun x hx => ?_, fun x hx => ?_, fun x hx => ?_, q.ph, fun x hx => ?_, fun x hx => ?_, ?_⟩
  · rw [c _ (by omega), fe_n he (by omega)]; exact q.no x hx
  · rw [c _ (by omega), fe_n he (by omega)]; exact q.la x hx
  · rw [c _ (by omega), fe_n he (by omega)]; exact q.be x hx
  · rw [c _ (by omega), fe_n he (by omega)]; exact q.ca x hx
  · rw [c _ (by omega), fe_n he (by omega)]; exact q.cp x hx
  · rw [c _ (by omega), fe_n he (by omega)]; exact q.st
theorem A_failElement {e : Nat} (h : RF b A JA B r) (he : e < 16) (h2 : ¬ A 2 e = 0) : (!f_wh A b e) = decide (B 79 (672 + e) = 1) := by
  unfold f_wh
  rw [← h.fe e he]
  rcases b_01 (A b 11) (e := e) (by omega) with q | q <;> rw [q] <;> simp [h2]
/-- a word is lost -/
theorem S_lose {k x y : Nat} {o : Bool} (h : RA A JA B JB m r) (hk : k < m) (hx : x < 64) (hy : y < 64) (hxy : x ≠ y) (h77 : B 77 k = nI x) (h78 : B 78 k = nI y) (h9x : A 9 x = nI k) (h9y : A 9 y = nI k) : RA A (f_lf JA 16 (cond o y x)) (zup (m_t B 0) 79 (712 + 2 * k + cond o 1 0) 1) JB m r := by
  have h := S_t (v := 0) h
  rw [← mt_ne (I := B) (v := 0) (a := 77) (by decide)] at h77
  rw [← mt_ne (I := B) (v := 0) (a := 78) (by decide)] at h78
  generalize m_t B 0 = B at *
  have h24 := h.L.m24
  have hi : cond o 1 0 < 2 := by cases o <;> decide
  have hsl : cond o y x < 64 := by cases o <;> assumption
  have hs9 : A 9 (cond o y x) = nI k := by cases o <;> assumption
  have q : ∀ j, j ≠ 712 + 2 * k + cond o 1 0 → zup B 79 (712 + 2 * k + cond o 1 0) 1 79 j = B 79 j := fun j hj => zz_k hj
  have q77 : zup B 79 (712 + 2 * k + cond o 1 0) 1 77 = B 77 := zup_ne (by decide)
  have hix : (if B 77 k = nI (cond o y x) then 0 else 1) = cond o 1 0 := by
    cases o
    · show (if B 77 k = nI x then 0 else 1) = 0
      rw [if_pos h77]
    · show (if B 77 k = nI y then 0 else 1) = 1
      rw [h77, if_neg]
      rw [nI_eq (by omega) (by omega)]; exact hxy
  refine ⟨RP_of h.P (fun _ _ _ => rfl) (fun c h1 h2 => up_ne (by omega)) (zz_c (by decide)) (zz_c (by decide)), RL_of h.L (fun _ _ _ => rfl) (up_ne (by decide)) (up_ne (by decide)), ?_, ?_⟩
  · have f := h.F
    refine ⟨fun e he => ?_, fun l hl => ?_, fun s l hs hl h9 => ?_, ?_, fun e he hw => ?_, f.wk, fun s hs hw => ?_, fun s hs hw => ?_, f.nw, f.ns, fun e he h2 => ?_, fun s hs h9 => ?_, fun s hs => ?_, fun s hs h9 => ?_, fun l hl h9 => ?_, fun y hy h5 => ?_⟩
    · rw [q _ (by omega)]; exact f.fe e he
    · rw [q _ (by omega)]; exact f.fl l hl
    · rw [f_lf_v hsl hs, q77, f.lo s l hs hl h9]
      by_cases hss : cond o y x = s
      · rw [hss] at hs9 hix
        have hlk : l = k := by
          rw [h9, nI_eq (by omega) (by omega)] at hs9; exact hs9
        subst hlk
        rw [hix, zz_e, decide_eq_true hss]
        simp
      · rw [decide_eq_false hss, Bool.not_false, Bool.and_true, q]
        by_cases hlk : l = k
        · subst hlk
          intro hz
          apply hss
          have hz2 : (if B 77 l = nI s then 0 else 1) = cond o 1 0 := by omega
          obtain ⟨l', q', hl', hq', hqs, e9, e74, h9q, h10, h10q, epe, elk, eax, hends⟩ := RL_at h.P h.L hs (by rw [h9]; exact nI_neg1 (by omega))
          have ell : l' = l := by rw [h9, nI_eq (by omega) (by omega)] at e9; exact e9.symm
          subst ell
          cases o
          · show x = s
            have : B 77 l' = nI s := by
              by_cases hz3 : B 77 l' = nI s
              · exact hz3
              · rw [if_neg hz3] at hz2; exact absurd hz2 (by decide)
            rw [h77, nI_eq (by omega) (by omega)] at this
            exact this
          · show y = s
            have hn : ¬ B 77 l' = nI s := by
              intro hz3
              rw [if_pos hz3] at hz2; exact absurd hz2 (by decide)
            rcases hends with ⟨z1, z2⟩ | ⟨z1, z2⟩
            · exact absurd z1 hn
            · rw [h78, nI_eq (by omega) (by omega)] at z2
              exact z2
        · have : (if B 77 l = nI s then 0 else 1) < 2 := by split <;> decide
          omega
    · rw [q _ (by omega)]; exact f.ro
    · rw [q _ (by omega), q _ (by omega), q _ (by omega), q _ (by omega), q _ (by omega)]; exact f.wh e he hw
    · rw [q _ (by omega)]; exact f.us s hs hw
    · have z := f.ag s hs hw
      unfold RW at z ⊢
      rw [q _ (by omega), q _ (by omega), q _ (by omega), q _ (by omega)]; exact z
    · obtain ⟨a1, a2, a3, a4, a5⟩ := f.ab e he h2
      refine ⟨?_, ?_, ?_, ?_, fun p hp => ?_⟩ <;> rw [q _ (by omega)]
      · exact a1
      · exact a2
      · exact a3
      · exact a4
      · exact a5 p hp
    · rw [q _ (by omega)]; exact f.un s hs h9
    · rw [q _ (by omega), q _ (by omega), q _ (by omega)]; exact f.se s hs
    · rw [f_lf_v hsl hs, f.lu s hs h9, decide_eq_false]
      · rfl
      · intro z
        rw [← z, hs9] at h9
        exact absurd h9 (nI_neg1 (by omega))
    · have hlk : l ≠ k := by
        rintro rfl
        exact h9 _ hsl hs9
      rw [q _ (by omega), q _ (by omega)]; exact f.lz l hl h9
    · rw [q _ (by omega)] at h5
      rw [q _ (by omega)]; exact f.mk y hy h5
  · have z := h.C
    refine ⟨fun x hx => ?_, fun x hx => ?_, fun x hx => ?_, ?_, fun x hx => ?_, fun x hx => ?_, ?_⟩
    · rw [q _ (by omega)]; exact z.no x hx
    · rw [q _ (by omega)]; exact z.la x hx
    · rw [q _ (by omega)]; exact z.be x hx
    · unfold f_lf
      rw [zupL_ne (by decide)]; exact z.ph
    · rw [q _ (by omega)]; exact z.ca x hx
    · rw [q _ (by omega)]; exact z.cp x hx
    · rw [q _ (by omega)]; exact z.st
end R18
