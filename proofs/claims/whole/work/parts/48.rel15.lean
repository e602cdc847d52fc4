/-! What each call does to the relation: the plan. -/
section R15
variable {A A' B B' : zI} {JA JB : zJ} {b m r : Nat}
theorem RL_of2 (h : RL A B m) (hA : ∀ c, c = 2 ∨ c = 3 ∨ c = 6 ∨ c = 7 ∨ c = 8 ∨ c = 9 ∨ c = 10 ∨ c = 11 ∨ c = 14 ∨ c = 15 → A' c = A c) (h114 : A' 1 14 = A 1 14) (h115 : A' 1 15 = A 1 15) (h77 : B' 77 = B 77) (h78 : B' 78 = B 78) : RL A' B' m := by
  unfold RL at h ⊢
  rw [h114, h115, hA 2 (by decide), hA 3 (by decide), hA 6 (by decide), hA 7 (by decide), hA 8 (by decide), hA 9 (by decide), hA 10 (by decide), hA 11 (by decide), hA 14 (by decide), hA 15 (by decide), h77, h78]
  exact h
theorem up_ne {I : zI} {c k a : Nat} {v : Int32} (h : a ≠ c) : zup I c k v a = I a := zup_ne h
theorem mt_ne {I : zI} {a : Nat} {v : Int32} (h : a ≠ 64) : m_t I v a = I a := by unfold m_t; exact zup_ne h
theorem mt_k {I : zI} {k : Nat} {v : Int32} (h : k ≠ 0) : m_t I v 64 k = I 64 k := by unfold m_t; exact zz_k h
/-- a refused call -/
theorem S_t {v : Int32} (h : RA A JA B JB m r) : RA A JA (m_t B v) JB m r := RA_B h (fun c h1 h2 => mt_ne (by omega)) (mt_k (by decide)) (mt_k (by decide)) rfl
theorem S_t2 {v w : Int32} (h : RA A JA B JB m r) : RA A JA (zup (zup B 64 0 v) 64 0 w) JB m r := S_t (S_t h)
theorem S_priority {s : Nat} {v : Int32} (h : RA A JA B JB m r) : RA (zup A 13 s v) JA (zup (m_t B 0) 75 s v) JB m r := by
  refine ⟨?_, RL_of2 h.L (fun c hc => up_ne (by omega)) (zz_c (by decide)) (zz_c (by decide)) ?_ ?_, RF_of h.F (fun c hc => up_ne (by omega)) rfl ?_ ?_, RC_of h.C (fun c h1 h2 => up_ne (by omega)) rfl ?_ rfl⟩
  · obtain ⟨h2, h3, h4, h5, h6, h7, h8, h9, h11, h12, h13, h14, hL, hT⟩ := h.P
    simp [RP, m_t, zup, upd, *]
  all_goals (rw [up_ne (by decide), mt_ne (by decide)])
theorem S_restore {e : Nat} {v : Int32} (h : RA A JA B JB m r) (he : e < 16) (h2 : ¬ A 2 e = 0) (hv : p_in v 0 10 = true) : RA (zup A 6 e v) JA (zup (m_t B 0) 69 e v) JB m r := by
  refine ⟨?_, ?_, RF_of h.F (fun c hc => up_ne (by omega)) rfl ?_ ?_, RC_of h.C (fun c h1 h2 => up_ne (by omega)) rfl ?_ rfl⟩
  · obtain ⟨h2, h3, h4, h5, h6, h7, h8, h9, h11, h12, h13, h14, hL, hT⟩ := h.P
    simp [RP, m_t, zup, upd, *]
  · obtain ⟨v1, v2⟩ := p_in_ix (n := 10) (by decide) hv
    have o := h.L
    have c : ∀ c, c ≠ 6 → zup A 6 e v c = A c := fun c hc => up_ne hc
    have q77 : zup (m_t B 0) 69 e v 77 = B 77 := by rw [up_ne (by decide), mt_ne (by decide)]
    have q78 : zup (m_t B 0) 69 e v 78 = B 78 := by rw [up_ne (by decide), mt_ne (by decide)]
    unfold RL
    rw [c 1 (by decide), c 2 (by decide), c 3 (by decide), c 7 (by decide), c 8 (by decide), c 9 (by decide), c 10 (by decide), c 11 (by decide), c 14 (by decide), c 15 (by decide), q77, q78]
    refine ⟨o.m24, o.cnt, o.lk, o.sl, o.src, o.ls, o.lo, o.ab, o.q7, o.q3, fun x hx => ?_, fun x hx h0 => ?_, o.th, o.tr⟩
    · by_cases hxe : x = e
      · rw [hxe, zz_e]; exact ⟨_, v2, v1⟩
      · rw [zz_k hxe]; exact o.q6 x hx
    · by_cases hxe : x = e
      · rw [hxe] at h0; exact absurd h0 h2
      · rw [zz_k hxe]; exact o.q6z x hx h0
  all_goals (rw [up_ne (by decide), mt_ne (by decide)])
theorem S_tracing {o : Bool} (h : RA A JA B JB m r) : RA (zup A 1 15 (zB o)) JA (zup (m_t B 0) 64 1 (zB o)) JB m r := by
  refine ⟨?_, ?_, RF_of h.F (fun c hc => up_ne (by omega)) rfl ?_ ?_, RC_of h.C (fun c h1 h2 => up_ne (by omega)) rfl ?_ rfl⟩
  · obtain ⟨h2, h3, h4, h5, h6, h7, h8, h9, h11, h12, h13, h14, hL, hT⟩ := h.P
    simp [RP, m_t, zup, upd, *]
  · have o9 := h.L
    have c : ∀ c, c ≠ 1 → zup A 1 15 (zB o) c = A c := fun c hc => up_ne hc
    have q77 : zup (m_t B 0) 64 1 (zB o) 77 = B 77 := by rw [up_ne (by decide), mt_ne (by decide)]
    have q78 : zup (m_t B 0) 64 1 (zB o) 78 = B 78 := by rw [up_ne (by decide), mt_ne (by decide)]
    unfold RL
    rw [zz_k (by decide), zz_e, c 6 (by decide), c 2 (by decide), c 3 (by decide), c 7 (by decide), c 8 (by decide), c 9 (by decide), c 10 (by decide), c 11 (by decide), c 14 (by decide), c 15 (by decide), q77, q78]
    exact ⟨o9.m24, o9.cnt, o9.lk, o9.sl, o9.src, o9.ls, o9.lo, o9.ab, o9.q7, o9.q3, o9.q6, o9.q6z, o9.th, by cases o; exact Or.inl rfl; exact Or.inr rfl⟩
  all_goals (rw [up_ne (by decide), mt_ne (by decide)])
theorem okQ_in {v : Int32} (h : (decide (v = -1) || p_in v 0 3) = true) : okQ v := by
  simp only [Bool.or_eq_true, decide_eq_true_eq] at h
  rcases h with h | h
  · exact Or.inl h
  · exact Or.inr (p_in_3 h)
theorem S_com7 {e : Nat} {v : Int32} (h : RA A JA B JB m r) (hv : okQ v) : RA (zup A 7 e v) JA (zup (m_t B 0) 70 e v) JB m r := by
  refine ⟨?_, ?_, RF_of h.F (fun c hc => up_ne (by omega)) rfl ?_ ?_, RC_of h.C (fun c h1 h2 => up_ne (by omega)) rfl ?_ rfl⟩
  · obtain ⟨h2, h3, h4, h5, h6, h7, h8, h9, h11, h12, h13, h14, hL, hT⟩ := h.P
    simp [RP, m_t, zup, upd, *]
  · have o := h.L
    have c : ∀ c, c ≠ 7 → zup A 7 e v c = A c := fun c hc => up_ne hc
    have q77 : zup (m_t B 0) 70 e v 77 = B 77 := by rw [up_ne (by decide), mt_ne (by decide)]
    have q78 : zup (m_t B 0) 70 e v 78 = B 78 := by rw [up_ne (by decide), mt_ne (by decide)]
    unfold RL
    rw [c 1 (by decide), c 2 (by decide), c 3 (by decide), c 6 (by decide), c 8 (by decide), c 9 (by decide), c 10 (by decide), c 11 (by decide), c 14 (by decide), c 15 (by decide), q77, q78]
    refine ⟨o.m24, o.cnt, o.lk, o.sl, o.src, o.ls, o.lo, o.ab, fun x hx => ⟨?_, (o.q7 x hx).2⟩, o.q3, o.q6, o.q6z, o.th, o.tr⟩
    by_cases hxe : x = e
    · rw [hxe, zz_e]; exact hv
    · rw [zz_k hxe]; exact (o.q7 x hx).1
  all_goals (rw [up_ne (by decide), mt_ne (by decide)])
theorem S_com8 {e : Nat} {v : Int32} (h : RA A JA B JB m r) (hv : okQ v) : RA (zup A 8 e v) JA (zup (m_t B 0) 71 e v) JB m r := by
  refine ⟨?_, ?_, RF_of h.F (fun c hc => up_ne (by omega)) rfl ?_ ?_, RC_of h.C (fun c h1 h2 => up_ne (by omega)) rfl ?_ rfl⟩
  · obtain ⟨h2, h3, h4, h5, h6, h7, h8, h9, h11, h12, h13, h14, hL, hT⟩ := h.P
    simp [RP, m_t, zup, upd, *]
  · have o := h.L
    have c : ∀ c, c ≠ 8 → zup A 8 e v c = A c := fun c hc => up_ne hc
    have q77 : zup (m_t B 0) 71 e v 77 = B 77 := by rw [up_ne (by decide), mt_ne (by decide)]
    have q78 : zup (m_t B 0) 71 e v 78 = B 78 := by rw [up_ne (by decide), mt_ne (by decide)]
    unfold RL
    rw [c 1 (by decide), c 2 (by decide), c 3 (by decide), c 6 (by decide), c 7 (by decide), c 9 (by decide), c 10 (by decide), c 11 (by decide), c 14 (by decide), c 15 (by decide), q77, q78]
    refine ⟨o.m24, o.cnt, o.lk, o.sl, o.src, o.ls, o.lo, o.ab, fun x hx => ⟨(o.q7 x hx).1, ?_⟩, o.q3, o.q6, o.q6z, o.th, o.tr⟩
    by_cases hxe : x = e
    · rw [hxe, zz_e]; exact hv
    · rw [zz_k hxe]; exact (o.q7 x hx).2
  all_goals (rw [up_ne (by decide), mt_ne (by decide)])
theorem S_lockout {s : Nat} {o : Bool} (h : RA A JA B JB m r) : RA (zup A 14 s (zB o)) JA (zup (m_t B 0) 76 s (zB o)) JB m r := by
  refine ⟨?_, ?_, RF_of h.F (fun c hc => up_ne (by omega)) rfl ?_ ?_, RC_of h.C (fun c h1 h2 => up_ne (by omega)) rfl ?_ rfl⟩
  · obtain ⟨h2, h3, h4, h5, h6, h7, h8, h9, h11, h12, h13, h14, hL, hT⟩ := h.P
    simp [RP, m_t, zup, upd, *]
  · have o9 := h.L
    have c : ∀ c, c ≠ 14 → zup A 14 s (zB o) c = A c := fun c hc => up_ne hc
    have q77 : zup (m_t B 0) 76 s (zB o) 77 = B 77 := by rw [up_ne (by decide), mt_ne (by decide)]
    have q78 : zup (m_t B 0) 76 s (zB o) 78 = B 78 := by rw [up_ne (by decide), mt_ne (by decide)]
    unfold RL
    rw [c 1 (by decide), c 2 (by decide), c 3 (by decide), c 6 (by decide), c 7 (by decide), c 8 (by decide), c 9 (by decide), c 10 (by decide), c 11 (by decide), c 15 (by decide), q77, q78]
    refine ⟨o9.m24, o9.cnt, o9.lk, o9.sl, o9.src, o9.ls, fun x hx => ?_, o9.ab, o9.q7, o9.q3, o9.q6, o9.q6z, o9.th, o9.tr⟩
    by_cases hxe : x = s
    · rw [hxe, zz_e]; cases o; exact Or.inl rfl; exact Or.inr rfl
    · rw [zz_k hxe]; exact o9.lo x hx
  all_goals (rw [up_ne (by decide), mt_ne (by decide)])
theorem S_source {s : Nat} {q o : Int32} (h : RA A JA B JB m r) (h9 : A 9 s = -1) (hv : (decide (q = -1) || (p_in q 0 6 && p_in o (-1000) 1000)) = true) : RA (zup (zup A 11 s q) 12 s o) JA (zup (zup (m_t B 0) 72 s q) 73 s o) JB m r := by
  refine ⟨?_, ?_, RF_of h.F (fun c hc => ?_) rfl ?_ ?_, RC_of h.C (fun c h1 h2 => ?_) rfl ?_ rfl⟩
  · obtain ⟨h2, h3, h4, h5, h6, h7, h8, h9, h11, h12, h13, h14, hL, hT⟩ := h.P
    simp [RP, m_t, zup, upd, *]
  · have o9 := h.L
    have c : ∀ c, c ≠ 11 → c ≠ 12 → zup (zup A 11 s q) 12 s o c = A c := fun c h1 h2 => by rw [up_ne h2, up_ne h1]
    have c11 : zup (zup A 11 s q) 12 s o 11 = zup A 11 s q 11 := up_ne (by decide)
    have q77 : zup (zup (m_t B 0) 72 s q) 73 s o 77 = B 77 := by rw [up_ne (by decide), up_ne (by decide), mt_ne (by decide)]
    have q78 : zup (zup (m_t B 0) 72 s q) 73 s o 78 = B 78 := by rw [up_ne (by decide), up_ne (by decide), mt_ne (by decide)]
    unfold RL
    rw [c11, c 1 (by decide) (by decide), c 2 (by decide) (by decide), c 3 (by decide) (by decide), c 6 (by decide) (by decide), c 7 (by decide) (by decide), c 8 (by decide) (by decide), c 9 (by decide) (by decide), c 10 (by decide) (by decide), c 14 (by decide) (by decide), c 15 (by decide) (by decide), q77, q78]
    refine ⟨o9.m24, o9.cnt, o9.lk, o9.sl, fun x hx => ?_, fun x hx h0 => ?_, o9.lo, o9.ab, o9.q7, o9.q3, o9.q6, o9.q6z, o9.th, o9.tr⟩
    · by_cases hxe : x = s
      · rw [hxe, zz_e]
        simp only [Bool.or_eq_true, Bool.and_eq_true, decide_eq_true_eq] at hv
        rcases hv with hv | hv
        · exact Or.inl hv
        · obtain ⟨v1, v2⟩ := p_in_ix (n := 6) (by decide) hv.1
          exact Or.inr ⟨_, v2, v1⟩
      · rw [zz_k hxe]; exact o9.src x hx
    · by_cases hxe : x = s
      · rw [hxe] at h0; exact absurd h9 h0
      · rw [zz_k hxe]; exact o9.ls x hx h0
  · rw [up_ne (by omega), up_ne (by omega)]
  · rw [up_ne (by decide), up_ne (by decide), mt_ne (by decide)]
  · rw [up_ne (by decide), up_ne (by decide), mt_ne (by decide)]
  · rw [up_ne (by omega), up_ne (by omega)]
  · rw [up_ne (by decide), up_ne (by decide), mt_ne (by decide)]
end R15
