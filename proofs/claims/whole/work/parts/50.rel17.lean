section R17
variable {A A' B B' : zI} {JA JB : zJ} {b m r : Nat}
/-- an element fails -/
theorem RF_down {e : Nat} (hb : 16 ≤ b) (h : RF b A JA B r) (he : e < 16) (h2 : ¬ A 2 e = 0) (B' : zI) (hB1 : B' 79 (672 + e) = 1) (hB2 : ∀ p, p < 4 → B' 79 (256 + (4 * e + p)) = -1) (hB3 : ∀ k, k ≠ 672 + e → (k < 256 ∨ 320 ≤ k ∨ (k - 256) / 4 ≠ e) → B' 79 k = B 79 k) (hB4 : B' 77 = B 77) : RF b (f_se A b e 1) JA B' r := by
  have e0 : f_se A b e 1 = f_fg (zup A b 11 (A b 11 ||| 1 <<< (nI e &&& 31))) b e := if_neg (by decide)
  rw [e0]
  have cA : ∀ c k, (c ≠ b ∨ (k ≠ 10 ∧ k ≠ 11)) → (k ≠ e ∨ c < b + 15 ∨ b + 19 ≤ c) → (k / 4 ≠ e ∨ (c < b + 6 ∨ (b + 9 ≤ c ∧ c < b + 13) ∨ b + 15 ≤ c)) → f_fg (zup A b 11 (A b 11 ||| 1 <<< (nI e &&& 31))) b e c k = A c k := by
    intro c k h1 h2 h3
    rw [fg_n (by omega) h2 h3, zz_n (by omega)]
  have cC : ∀ c, c < b → f_fg (zup A b 11 (A b 11 ||| 1 <<< (nI e &&& 31))) b e c = A c := fun c hc => by
    funext k
    exact cA c k (by omega) (by omega) (by omega)
  have v11 : f_fg (zup A b 11 (A b 11 ||| 1 <<< (nI e &&& 31))) b e b 11 = A b 11 ||| 1 <<< (nI e &&& 31) := by rw [fg_n (by omega) (by omega) (by omega), zz_e]
  have v12 : f_fg (zup A b 11 (A b 11 ||| 1 <<< (nI e &&& 31))) b e b 12 = A b 12 := cA _ _ (by omega) (by omega) (by omega)
  have v10 : f_fg (zup A b 11 (A b 11 ||| 1 <<< (nI e &&& 31))) b e b 10 = A b 10 &&& (1 <<< (nI e &&& 31) ^^^ (-1)) := by rw [fg_v.2.2.2.2, zz_k (by decide)]
  obtain ⟨g15, g16, g17, g18, -⟩ := fg_v (I := zup A b 11 (A b 11 ||| 1 <<< (nI e &&& 31))) (b := b) (e := e)
  have gs : ∀ s, s / 4 = e → f_fg (zup A b 11 (A b 11 ||| 1 <<< (nI e &&& 31))) b e (b + 6) s = -1 ∧ f_fg (zup A b 11 (A b 11 ||| 1 <<< (nI e &&& 31))) b e (b + 13) s = 3 ∧ f_fg (zup A b 11 (A b 11 ||| 1 <<< (nI e &&& 31))) b e (b + 14) s = 0 := by
    intro s hs
    have := fg_s (I := zup A b 11 (A b 11 ||| 1 <<< (nI e &&& 31))) (b := b) (e := e) (p := s % 4) (by omega)
    rw [show 4 * e + s % 4 = s by omega] at this
    exact this
  have bs : ∀ s, s / 4 = e → B' 79 (256 + s) = -1 := by
    intro s hs
    have := hB2 (s % 4) (by omega)
    rw [show 4 * e + s % 4 = s by omega] at this
    exact this
  generalize f_fg (zup A b 11 (A b 11 ||| 1 <<< (nI e &&& 31))) b e = X at *
  have we : f_wh X b e = false := by
    unfold f_wh
    rw [v11, b_set _ (by omega) (by omega), if_pos rfl]
    simp
  have wn : ∀ x, x < 16 → x ≠ e → f_wh X b x = f_wh A b x := by
    intro x hx hne
    unfold f_wh
    rw [v11, b_set _ (by omega) (by omega), if_neg (fun q => hne q.symm), cC 2 (by omega)]
  refine ⟨fun x hx => ?_, fun l hl => ?_, fun s l hs hl h9 => ?_, ?_, fun x hx hw => ?_, fun x hx hw => ?_, fun s hs hw => ?_, fun s hs hw => ?_, fun x hx hw => ?_, fun s hs hw => ?_, fun x hx h2 => ?_, fun s hs h9 => ?_, fun s hs => ?_, fun s hs h9 => ?_, fun l hl h9 => ?_, fun y hy h5 => ?_⟩
  · rw [v11, b_set _ (by omega) (by omega)]
    by_cases hxe : e = x
    · subst hxe; rw [if_pos rfl, hB1]
    · rw [if_neg hxe, hB3 _ (by omega) (by omega)]; exact h.fe x hx
  · rw [v12, hB3 _ (by omega) (by omega)]; exact h.fl l hl
  · rw [cC 9 (by omega)] at h9
    rw [hB4, hB3 _ (by split <;> omega) (by split <;> omega)]; exact h.lo s l hs hl h9
  · rw [hB3 _ (by omega) (by omega)]; exact h.ro
  · have hxe : x ≠ e := by rintro rfl; rw [we] at hw; cases hw
    rw [wn x hx hxe] at hw
    rw [v10, b_clr _ (by omega) (by omega), if_neg (fun q => hxe q.symm), cA _ _ (by omega) (by omega) (by omega), cA _ _ (by omega) (by omega) (by omega), cA _ _ (by omega) (by omega) (by omega), cA _ _ (by omega) (by omega) (by omega), hB3 _ (by omega) (by omega), hB3 _ (by omega) (by omega), hB3 _ (by omega) (by omega), hB3 _ (by omega) (by omega), hB3 _ (by omega) (by omega)]
    exact h.wh x hx hw
  · have hxe : x ≠ e := by rintro rfl; rw [we] at hw; cases hw
    rw [wn x hx hxe] at hw
    rw [cA _ _ (by omega) (by omega) (by omega), cA _ _ (by omega) (by omega) (by omega), cA _ _ (by omega) (by omega) (by omega), cA _ _ (by omega) (by omega) (by omega)]
    exact h.wk x hx hw
  · have hxe : s / 4 ≠ e := by intro q; rw [q, we] at hw; cases hw
    rw [wn _ (by omega) hxe] at hw
    rw [cA _ _ (by omega) (by omega) (by omega), hB3 _ (by omega) (by omega)]
    exact h.us s hs hw
  · have hxe : s / 4 ≠ e := by intro q; rw [q, we] at hw; cases hw
    rw [wn _ (by omega) hxe] at hw
    have o := h.ag s hs hw
    unfold RW at o ⊢
    rw [cA _ _ (by omega) (by omega) (by omega), cA _ _ (by omega) (by omega) (by omega), cA _ _ (by omega) (by omega) (by omega), cA _ _ (by omega) (by omega) (by omega), hB3 _ (by omega) (by omega), hB3 _ (by omega) (by omega), hB3 _ (by omega) (by omega), hB3 _ (by omega) (by omega)]
    exact o
  · rw [v10, b_clr _ (by omega) (by omega)]
    by_cases hxe : e = x
    · subst hxe
      rw [g15, g16, g17, g18, if_pos rfl]
      exact ⟨rfl, rfl, rfl, rfl, rfl⟩
    · rw [wn x hx (fun q => hxe q.symm)] at hw
      rw [if_neg hxe, cA _ _ (by omega) (by omega) (by omega), cA _ _ (by omega) (by omega) (by omega), cA _ _ (by omega) (by omega) (by omega), cA _ _ (by omega) (by omega) (by omega)]
      exact h.nw x hx hw
  · by_cases hxe : s / 4 = e
    · obtain ⟨a1, a2, a3⟩ := gs s hxe
      exact ⟨a2, a3, a1⟩
    · rw [wn _ (by omega) hxe] at hw
      rw [cA _ _ (by omega) (by omega) (by omega), cA _ _ (by omega) (by omega) (by omega), cA _ _ (by omega) (by omega) (by omega)]
      exact h.ns s hs hw
  · rw [cC 2 (by omega)] at h2
    have hxe : x ≠ e := by rintro rfl; contradiction
    obtain ⟨a1, a2, a3, a4, a5⟩ := h.ab x hx h2
    refine ⟨?_, ?_, ?_, ?_, fun p hp => ?_⟩ <;> rw [hB3 _ (by omega) (by omega)]
    · exact a1
    · exact a2
    · exact a3
    · exact a4
    · exact a5 p hp
  · rw [cC 9 (by omega)] at h9
    rw [hB3 _ (by omega) (by omega)]
    obtain ⟨u1, u2, u3⟩ := h.un s hs h9
    by_cases hxe : s / 4 = e
    · obtain ⟨a1, a2, a3⟩ := gs s hxe
      exact ⟨u1, a2, a1⟩
    · rw [cA _ _ (by omega) (by omega) (by omega), cA _ _ (by omega) (by omega) (by omega)]
      exact ⟨u1, u2, u3⟩
  · by_cases hxe : s / 4 = e
    · rw [(gs s hxe).1, bs s hxe]
      exact ⟨rfl, Or.inl rfl⟩
    · rw [cA _ _ (by omega) (by omega) (by omega), cA _ _ (by omega) (by omega) (by omega), cA _ _ (by omega) (by omega) (by omega), hB3 _ (by omega) (by omega), hB3 _ (by omega) (by omega), hB3 _ (by omega) (by omega)]
      exact h.se s hs
  · rw [cC 9 (by omega)] at h9
    exact h.lu s hs h9
  · rw [cC 9 (by omega)] at h9
    rw [hB3 _ (by omega) (by omega), hB3 _ (by omega) (by omega)]; exact h.lz l hl h9
  · rw [hB3 _ (by omega) (by omega)] at h5
    rw [hB3 _ (by omega) (by omega)]; exact h.mk y hy h5
/-- an element comes back -/
theorem RF_up {e : Nat} (hb : 16 ≤ b) (h : RF b A JA B r) (he : e < 16) (h2 : ¬ A 2 e = 0) : RF b (f_se A b e 0) JA (if B 79 (672 + e) = 1 then m_cb B e else B) r := by
  have e0 : f_se A b e 0 = zup A b 11 (A b 11 &&& (1 <<< (nI e &&& 31) ^^^ (-1))) := if_pos rfl
  rw [e0]
  have c : ∀ c, c ≠ b → zup A b 11 (A b 11 &&& (1 <<< (nI e &&& 31) ^^^ (-1))) c = A c := fun c hc => zup_ne hc
  have c0 : ∀ j, j ≠ 11 → zup A b 11 (A b 11 &&& (1 <<< (nI e &&& 31) ^^^ (-1))) b j = A b j := fun j hj => zz_k hj
  have v11 : zup A b 11 (A b 11 &&& (1 <<< (nI e &&& 31) ^^^ (-1))) b 11 = A b 11 &&& (1 <<< (nI e &&& 31) ^^^ (-1)) := zz_e
  generalize zup A b 11 (A b 11 &&& (1 <<< (nI e &&& 31) ^^^ (-1))) = X at *
  have bit : ∀ x, x < 16 → f_bit (X b 11) (nI x) = if e = x then 0 else f_bit (A b 11) (nI x) := fun x hx => by rw [v11, b_clr _ (by omega) (by omega)]
  have wn : ∀ x, x < 16 → x ≠ e → f_wh X b x = f_wh A b x := by
    intro x hx hne
    unfold f_wh
    rw [bit x hx, if_neg (fun q => hne q.symm), c 2 (by omega)]
  have we : f_wh X b e = true := by
    unfold f_wh
    rw [bit e he, if_pos rfl, c 2 (by omega)]
    simp [h2]
  by_cases hf : B 79 (672 + e) = 1
  · rw [if_pos hf]
    have wA : f_wh A b e = false := by
      unfold f_wh
      rw [h.fe e he, hf]
      simp
    obtain ⟨v1, v2, v3, v4, v5, v6, v7⟩ := cb_v (I := B) he
    have q : ∀ k, (k ≠ 672 + e ∧ k ≠ 512 + e ∧ k ≠ 528 + e ∧ k ≠ 544 + e ∧ k ≠ 608 + e ∧ k ≠ 624 + e) → (∀ p, p < 4 → k ≠ 256 + (4 * e + p) ∧ k ≠ 4 * e + p ∧ k ≠ 448 + (4 * e + p)) → m_cb B e 79 k = B 79 k := fun k h1 h2 => cb_n h1 h2
    have q77 : m_cb B e 77 = B 77 := fr_cb (by decide)
    have vs : ∀ s, s / 4 = e → m_cb B e 79 (256 + s) = -1 ∧ m_cb B e 79 s = -1 ∧ m_cb B e 79 (448 + s) = 0 := by
      intro s hs
      have := v7 (s % 4) (by omega)
      rw [show 4 * e + s % 4 = s by omega] at this
      exact this
    generalize m_cb B e = Y at *
    refine ⟨fun x hx => ?_, fun l hl => ?_, fun s l hs hl h9 => ?_, ?_, fun x hx hw => ?_, fun x hx hw => ?_, fun s hs hw => ?_, fun s hs hw => ?_, fun x hx hw => ?_, fun s hs hw => ?_, fun x hx h2 => ?_, fun s hs h9 => ?_, fun s hs => ?_, fun s hs h9 => ?_, fun l hl h9 => ?_, fun y hy h5 => ?_⟩
    · rw [bit x hx]
      by_cases hxe : e = x
      · subst hxe; rw [if_pos rfl, v1]
      · rw [if_neg hxe, q _ (by omega) (by omega)]; exact h.fe x hx
    · rw [c0 12 (by decide), q _ (by omega) (by omega)]; exact h.fl l hl
    · rw [c 9 (by omega)] at h9
      rw [q77, q _ (by split <;> omega) (by split <;> omega)]; exact h.lo s l hs hl h9
    · rw [q _ (by omega) (by omega)]; exact h.ro
    · rw [c _ (by omega), c _ (by omega), c _ (by omega), c _ (by omega), c0 10 (by decide)]
      by_cases hxe : x = e
      · subst hxe
        rw [v2, v3, v4, v5, v6]
        exact h.nw x hx wA
      · rw [wn x hx hxe] at hw
        rw [q _ (by omega) (by omega), q _ (by omega) (by omega), q _ (by omega) (by omega), q _ (by omega) (by omega), q _ (by omega) (by omega)]
        exact h.wh x hx hw
    · rw [c _ (by omega), c _ (by omega), c _ (by omega), c _ (by omega)]
      by_cases hxe : x = e
      · subst hxe
        obtain ⟨n1, n2, n3, n4, n5⟩ := h.nw x hx wA
        rw [n1, n3, n4]
        exact ⟨fun q => absurd q (by decide), fun _ => ⟨rfl, rfl⟩⟩
      · rw [wn x hx hxe] at hw
        exact h.wk x hx hw
    · rw [c _ (by omega)]
      by_cases hxe : s / 4 = e
      · rw [(vs s hxe).2.2]
        have wA' : f_wh A b (s / 4) = false := by rw [hxe]; exact wA
        rw [(h.ns s hs wA').2.1]
        exact ⟨0, by omega, rfl, rfl⟩
      · rw [wn _ (by omega) hxe] at hw
        rw [q _ (by omega) (by omega)]
        exact h.us s hs hw
    · unfold RW
      rw [c _ (by omega), c _ (by omega), c _ (by omega), c _ (by omega)]
      by_cases hxe : s / 4 = e
      · have wA' : f_wh A b (s / 4) = false := by rw [hxe]; exact wA
        left
        rw [(vs s hxe).2.1]
        exact ⟨(h.ns s hs wA').1, by decide⟩
      · rw [wn _ (by omega) hxe] at hw
        rw [q _ (by omega) (by omega), q _ (by omega) (by omega), q _ (by omega) (by omega), q _ (by omega) (by omega)]
        exact h.ag s hs hw
    · have hxe : x ≠ e := by rintro rfl; rw [we] at hw; cases hw
      rw [wn x hx hxe] at hw
      rw [c _ (by omega), c _ (by omega), c _ (by omega), c _ (by omega), c0 10 (by decide)]
      exact h.nw x hx hw
    · have hxe : s / 4 ≠ e := by intro z; rw [z, we] at hw; cases hw
      rw [wn _ (by omega) hxe] at hw
      rw [c _ (by omega), c _ (by omega), c _ (by omega)]
      exact h.ns s hs hw
    · rw [c 2 (by omega)] at h2
      have hxe : x ≠ e := by rintro rfl; contradiction
      obtain ⟨a1, a2, a3, a4, a5⟩ := h.ab x hx h2
      refine ⟨?_, ?_, ?_, ?_, fun p hp => ?_⟩ <;> rw [q _ (by omega) (by omega)]
      · exact a1
      · exact a2
      · exact a3
      · exact a4
      · exact a5 p hp
    · rw [c 9 (by omega)] at h9
      rw [c _ (by omega), c _ (by omega)]
      obtain ⟨u1, u2, u3⟩ := h.un s hs h9
      refine ⟨?_, u2, u3⟩
      by_cases hxe : s / 4 = e
      · rw [(vs s hxe).2.1]; decide
      · rw [q _ (by omega) (by omega)]; exact u1
    · rw [c _ (by omega), c _ (by omega), c _ (by omega)]
      by_cases hxe : s / 4 = e
      · have wA' : f_wh A b (s / 4) = false := by rw [hxe]; exact wA
        rw [(vs s hxe).1, (h.ns s hs wA').2.2]
        exact ⟨rfl, Or.inl rfl⟩
      · rw [q _ (by omega) (by omega), q _ (by omega) (by omega), q _ (by omega) (by omega)]
        exact h.se s hs
    · rw [c 9 (by omega)] at h9
      exact h.lu s hs h9
    · rw [c 9 (by omega)] at h9
      rw [q _ (by omega) (by omega), q _ (by omega) (by omega)]; exact h.lz l hl h9
    · by_cases hxe : y = e
      · rw [hxe, v2] at h5; exact absurd h5 (by decide)
      · rw [q _ (by omega) (by omega)] at h5
        rw [q _ (by omega) (by omega)]; exact h.mk y hy h5
  · rw [if_neg hf]
    have b0 : f_bit (A b 11) (nI e) = 0 := by
      rcases b_01 (A b 11) (e := e) (by omega) with z | z
      · exact z
      · rw [h.fe e he] at z; exact absurd z hf
    have bit' : ∀ x, x < 16 → f_bit (X b 11) (nI x) = f_bit (A b 11) (nI x) := by
      intro x hx
      rw [bit x hx]
      split
      · rename_i z; rw [← z, b0]
      · rfl
    have w : ∀ x, x < 16 → f_wh X b x = f_wh A b x := by
      intro x hx
      unfold f_wh
      rw [bit' x hx, c 2 (by omega)]
    refine ⟨fun x hx => ?_, fun l hl => ?_, fun s l hs hl h9 => ?_, h.ro, fun x hx hw => ?_, fun x hx hw => ?_, fun s hs hw => ?_, fun s hs hw => ?_, fun x hx hw => ?_, fun s hs hw => ?_, fun x hx h2 => ?_, fun s hs h9 => ?_, fun s hs => ?_, fun s hs h9 => ?_, fun l hl h9 => ?_, h.mk⟩
    · rw [bit' x hx]; exact h.fe x hx
    · rw [c0 12 (by decide)]; exact h.fl l hl
    · rw [c 9 (by omega)] at h9; exact h.lo s l hs hl h9
    · rw [w x hx] at hw
      rw [c _ (by omega), c _ (by omega), c _ (by omega), c _ (by omega), c0 10 (by decide)]; exact h.wh x hx hw
    · rw [w x hx] at hw
      rw [c _ (by omega), c _ (by omega), c _ (by omega), c _ (by omega)]; exact h.wk x hx hw
    · rw [w _ (by omega)] at hw
      rw [c _ (by omega)]; exact h.us s hs hw
    · rw [w _ (by omega)] at hw
      unfold RW
      rw [c _ (by omega), c _ (by omega), c _ (by omega), c _ (by omega)]; exact h.ag s hs hw
    · rw [w x hx] at hw
      rw [c _ (by omega), c _ (by omega), c _ (by omega), c _ (by omega), c0 10 (by decide)]; exact h.nw x hx hw
    · rw [w _ (by omega)] at hw
      rw [c _ (by omega), c _ (by omega), c _ (by omega)]; exact h.ns s hs hw
    · rw [c 2 (by omega)] at h2; exact h.ab x hx h2
    · rw [c 9 (by omega)] at h9
      rw [c _ (by omega), c _ (by omega)]; exact h.un s hs h9
    · rw [c _ (by omega), c _ (by omega), c _ (by omega)]; exact h.se s hs
    · rw [c 9 (by omega)] at h9; exact h.lu s hs h9
    · rw [c 9 (by omega)] at h9; exact h.lz l hl h9
/-- an element fails or comes back, as the reference has it -/
theorem RF_fe {e : Nat} {o : Bool} (hb : 16 ≤ b) (h : RF b A JA B r) (he : e < 16) (h2 : ¬ A 2 e = 0) : RF b (f_se A b e (zB o)) JA (m_fe B e o) r := by
  cases o with
  | false =>
    have e1 : m_fe B e false = if B 79 (672 + e) = 1 then m_cb B e else B := by
      unfold m_fe
      rw [if_neg (by decide)]
      by_cases hf : B 79 (672 + e) = 1
      · rw [if_pos hf, if_pos (decide_eq_true hf)]
      · rw [if_neg hf, if_neg (by simp [hf])]
    rw [e1]
    exact RF_up hb h he h2
  | true =>
    by_cases hf : B 79 (672 + e) = 1
    · have e1 : m_fe B e true = B := by unfold m_fe; rw [if_pos rfl, if_pos (decide_eq_true hf)]
      rw [e1]
      have wA : f_wh A b e = false := by
        unfold f_wh
        rw [h.fe e he, hf]
        simp
      refine RF_down hb h he h2 B hf (fun p hp => ?_) (fun _ _ _ => rfl) rfl
      have := h.ns (4 * e + p) (by omega) (by rw [show (4 * e + p) / 4 = e by omega]; exact wA)
      rw [← (h.se (4 * e + p) (by omega)).1]
      exact this.2.2
    · have e1 : m_fe B e true = m_bd B e := by unfold m_fe; rw [if_pos rfl, if_neg (by simp [hf])]
      rw [e1]
      exact RF_down hb h he h2 _ (bd_v he).1 (bd_v he).2 (fun k h1 h2 => bd_n he h1 h2) (fr_bd (by decide))
end R17
