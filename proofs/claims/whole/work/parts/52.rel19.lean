section R19
variable {A B : zI} {JA JB : zJ} {m r : Nat}
/-- an element is made -/
theorem S_element {e : Nat} {q o s : Int32} (h : RA A JA B JB m r) (he : e < 16) (h0 : A 2 e = 0) (hq : p_in q 0 6 = true) : RA (c_el A e q o s) JA (m_el B e q o s) JB m r := by
  have hw0 : f_wh A 16 e = false := by unfold f_wh; rw [h0]; rfl
  obtain ⟨ab1, ab2, ab3, ab4, ab5⟩ := h.F.ab e he h0
  have cn : ∀ c, c ≠ 2 → c ≠ 3 → c ≠ 4 → c ≠ 5 → c ≠ 55 → c ≠ 56 → c_el A e q o s c = A c := fun c h2 h3 h4 h5 h6 h7 => by
    unfold c_el
    rw [up_ne h7, up_ne h6, up_ne h5, up_ne h4, up_ne h3, up_ne h2]
  have c2 : c_el A e q o s 2 = upd (A 2) e 1 := by
    unfold c_el
    rw [up_ne (by decide), up_ne (by decide), up_ne (by decide), up_ne (by decide), up_ne (by decide), zup_same]
  have c3 : c_el A e q o s 3 = upd (A 3) e q := by
    unfold c_el
    rw [up_ne (by decide), up_ne (by decide), up_ne (by decide), up_ne (by decide), zup_same, up_ne (by decide)]
  have c4 : c_el A e q o s 4 = upd (A 4) e o := by
    unfold c_el
    rw [up_ne (by decide), up_ne (by decide), up_ne (by decide), zup_same, up_ne (by decide), up_ne (by decide)]
  have c5 : c_el A e q o s 5 = upd (A 5) e s := by
    unfold c_el
    rw [up_ne (by decide), up_ne (by decide), zup_same, up_ne (by decide), up_ne (by decide), up_ne (by decide)]
  have c55 : c_el A e q o s 55 = upd (A 55) e o := by
    unfold c_el
    rw [up_ne (by decide), zup_same, up_ne (by decide), up_ne (by decide), up_ne (by decide), up_ne (by decide)]
  have c56 : c_el A e q o s 56 = upd (A 56) e o := by
    unfold c_el
    rw [zup_same, up_ne (by decide), up_ne (by decide), up_ne (by decide), up_ne (by decide), up_ne (by decide)]
  have bn : ∀ c, c ≠ 64 → c ≠ 65 → c ≠ 66 → c ≠ 67 → c ≠ 68 → c ≠ 79 → m_el B e q o s c = B c := fun c h1 h2 h3 h4 h5 h6 => by
    unfold m_el
    rw [up_ne h6, up_ne h6, up_ne h6, up_ne h6, up_ne h6, up_ne h5, up_ne h4, up_ne h3, up_ne h2, mt_ne h1]
  have b64 : ∀ k, k ≠ 0 → m_el B e q o s 64 k = B 64 k := fun k hk => by
    unfold m_el
    rw [up_ne (by decide), up_ne (by decide), up_ne (by decide), up_ne (by decide), up_ne (by decide), up_ne (by decide), up_ne (by decide), up_ne (by decide), up_ne (by decide), mt_k hk]
  have b65 : m_el B e q o s 65 = upd (B 65) e 1 := by
    unfold m_el
    rw [up_ne (by decide), up_ne (by decide), up_ne (by decide), up_ne (by decide), up_ne (by decide), up_ne (by decide), up_ne (by decide), up_ne (by decide), zup_same, mt_ne (by decide)]
  have b66 : m_el B e q o s 66 = upd (B 66) e q := by
    unfold m_el
    rw [up_ne (by decide), up_ne (by decide), up_ne (by decide), up_ne (by decide), up_ne (by decide), up_ne (by decide), up_ne (by decide), zup_same, up_ne (by decide), mt_ne (by decide)]
  have b67 : m_el B e q o s 67 = upd (B 67) e o := by
    unfold m_el
    rw [up_ne (by decide), up_ne (by decide), up_ne (by decide), up_ne (by decide), up_ne (by decide), up_ne (by decide), zup_same, up_ne (by decide), up_ne (by decide), mt_ne (by decide)]
  have b68 : m_el B e q o s 68 = upd (B 68) e s := by
    unfold m_el
    rw [up_ne (by decide), up_ne (by decide), up_ne (by decide), up_ne (by decide), up_ne (by decide), zup_same, up_ne (by decide), up_ne (by decide), up_ne (by decide), mt_ne (by decide)]
  have n79 : ∀ k, k ≠ 560 + e → k ≠ 576 + e → k ≠ 592 + e → k ≠ 608 + e → k ≠ 624 + e → m_el B e q o s 79 k = B 79 k := fun k h1 h2 h3 h4 h5 => by
    unfold m_el
    rw [zz_k h5, zz_k h4, zz_k h3, zz_k h2, zz_k h1, up_ne (by decide), up_ne (by decide), up_ne (by decide), up_ne (by decide), mt_ne (by decide)]
  have v560 : m_el B e q o s 79 (560 + e) = o := by unfold m_el; rw [zz_k (by omega), zz_k (by omega), zz_k (by omega), zz_k (by omega), zz_e]
  have v576 : m_el B e q o s 79 (576 + e) = o := by unfold m_el; rw [zz_k (by omega), zz_k (by omega), zz_k (by omega), zz_e]
  have v592 : m_el B e q o s 79 (592 + e) = o := by unfold m_el; rw [zz_k (by omega), zz_k (by omega), zz_e]
  have v608 : m_el B e q o s 79 (608 + e) = -1 := by unfold m_el; rw [zz_k (by omega), zz_e]
  have v624 : m_el B e q o s 79 (624 + e) = -1 := by unfold m_el; rw [zz_e]
  generalize c_el A e q o s = X at *
  generalize m_el B e q o s = Y at *
  have we : f_wh X 16 e = true := by
    unfold f_wh
    rw [c2, pk_us, cn 16 (by decide) (by decide) (by decide) (by decide) (by decide) (by decide), h.F.fe e he, ab4]
    decide
  have wn : ∀ x, x ≠ e → f_wh X 16 x = f_wh A 16 x := by
    intro x hx
    unfold f_wh
    rw [c2, pk_un hx, cn 16 (by decide) (by decide) (by decide) (by decide) (by decide) (by decide)]
  have cf : ∀ c, 6 ≤ c → c < 55 → X c = A c := fun c h1 h2 => cn c (by omega) (by omega) (by omega) (by omega) (by omega) (by omega)
  refine ⟨?_, ?_, ?_, ?_⟩
  · have p := h.P
    refine ⟨?_, ?_, ?_, ?_, ?_, ?_, ?_, ?_, ?_, ?_, ?_, ?_, ?_, ?_⟩
    · rw [c2, b65, p.p2]
    · rw [c3, b66, p.p3]
    · rw [c4, b67, p.p4]
    · rw [c5, b68, p.p5]
    · rw [cf 6 (by decide) (by decide), bn 69 (by decide) (by decide) (by decide) (by decide) (by decide) (by decide)]; exact p.p6
    · rw [cf 7 (by decide) (by decide), bn 70 (by decide) (by decide) (by decide) (by decide) (by decide) (by decide)]; exact p.p7
    · rw [cf 8 (by decide) (by decide), bn 71 (by decide) (by decide) (by decide) (by decide) (by decide) (by decide)]; exact p.p8
    · rw [cf 9 (by decide) (by decide), bn 74 (by decide) (by decide) (by decide) (by decide) (by decide) (by decide)]; exact p.p9
    · rw [cf 11 (by decide) (by decide), bn 72 (by decide) (by decide) (by decide) (by decide) (by decide) (by decide)]; exact p.p11
    · rw [cf 12 (by decide) (by decide), bn 73 (by decide) (by decide) (by decide) (by decide) (by decide) (by decide)]; exact p.p12
    · rw [cf 13 (by decide) (by decide), bn 75 (by decide) (by decide) (by decide) (by decide) (by decide) (by decide)]; exact p.p13
    · rw [cf 14 (by decide) (by decide), bn 76 (by decide) (by decide) (by decide) (by decide) (by decide) (by decide)]; exact p.p14
    · rw [cn 1 (by decide) (by decide) (by decide) (by decide) (by decide) (by decide), b64 14 (by decide)]; exact p.pL
    · rw [cn 1 (by decide) (by decide) (by decide) (by decide) (by decide) (by decide), b64 1 (by decide)]; exact p.pT
  · have l := h.L
    unfold RL
    rw [cn 1 (by decide) (by decide) (by decide) (by decide) (by decide) (by decide), cf 6 (by decide) (by decide), cf 7 (by decide) (by decide), cf 8 (by decide) (by decide), cf 9 (by decide) (by decide), cf 10 (by decide) (by decide), cf 11 (by decide) (by decide), cf 14 (by decide) (by decide), cf 15 (by decide) (by decide), c2, c3, bn 77 (by decide) (by decide) (by decide) (by decide) (by decide) (by decide), bn 78 (by decide) (by decide) (by decide) (by decide) (by decide) (by decide)]
    refine ⟨l.m24, l.cnt, l.lk, l.sl, l.src, l.ls, l.lo, fun x hx h9 => ?_, l.q7, fun x hx => ?_, l.q6, fun x hx h9 => ?_, fun x hx => ?_, l.tr⟩
    · by_cases hxe : x / 4 = e
      · rw [hxe, pk_us] at h9; exact absurd h9 (by decide)
      · rw [pk_un hxe] at h9; exact l.ab x hx h9
    · by_cases hxe : x = e
      · rw [hxe, pk_us]
        obtain ⟨v1, v2⟩ := p_in_ix (n := 6) (by decide) hq
        exact ⟨_, v2, v1⟩
      · rw [pk_un hxe]; exact l.q3 x hx
    · by_cases hxe : x = e
      · rw [hxe, pk_us] at h9; exact absurd h9 (by decide)
      · rw [pk_un hxe] at h9; exact l.q6z x hx h9
    · by_cases hxe : x = e
      · rw [hxe, pk_us]; exact Or.inr rfl
      · rw [pk_un hxe]; exact l.th x hx
  · have f := h.F
    have un0 : ∀ x, x < 64 → x / 4 = e → A 9 x = -1 := fun x hx hxe => h.L.ab x hx (by rw [hxe]; exact h0)
    refine ⟨fun x hx => ?_, fun l hl => ?_, fun x l hx hl h9 => ?_, ?_, fun x hx hw => ?_, fun x hx hw => ?_, fun x hx hw => ?_, fun x hx hw => ?_, fun x hx hw => ?_, fun x hx hw => ?_, fun x hx h2 => ?_, fun x hx h9 => ?_, fun x hx => ?_, fun x hx h9 => ?_, fun l hl h9 => ?_, fun y hy h5 => ?_⟩
    · rw [cf 16 (by decide) (by decide), n79 _ (by omega) (by omega) (by omega) (by omega) (by omega)]; exact f.fe x hx
    · rw [cf 16 (by decide) (by decide), n79 _ (by omega) (by omega) (by omega) (by omega) (by omega)]; exact f.fl l hl
    · rw [cf 9 (by decide) (by decide)] at h9
      rw [bn 77 (by decide) (by decide) (by decide) (by decide) (by decide) (by decide), n79 _ (by omega) (by omega) (by omega) (by omega) (by omega)]; exact f.lo x l hx hl h9
    · rw [n79 _ (by omega) (by omega) (by omega) (by omega) (by omega)]; exact f.ro
    · rw [cf _ (by omega) (by omega), cf _ (by omega) (by omega), cf _ (by omega) (by omega), cf _ (by omega) (by omega), cf 16 (by decide) (by decide)]
      by_cases hxe : x = e
      · subst hxe
        obtain ⟨n1, n2, n3, n4, n5⟩ := f.nw x hx hw0
        rw [v608, v624, n79 _ (by omega) (by omega) (by omega) (by omega) (by omega), n79 _ (by omega) (by omega) (by omega) (by omega) (by omega), n79 _ (by omega) (by omega) (by omega) (by omega) (by omega), ab1, ab2, ab3]
        exact ⟨n1, n2, n3, n4, n5⟩
      · rw [wn x hxe] at hw
        rw [n79 _ (by omega) (by omega) (by omega) (by omega) (by omega), n79 _ (by omega) (by omega) (by omega) (by omega) (by omega), n79 _ (by omega) (by omega) (by omega) (by omega) (by omega), n79 _ (by omega) (by omega) (by omega) (by omega) (by omega), n79 _ (by omega) (by omega) (by omega) (by omega) (by omega)]
        exact f.wh x hx hw
    · rw [cf _ (by omega) (by omega), cf _ (by omega) (by omega), cf _ (by omega) (by omega), cf _ (by omega) (by omega)]
      by_cases hxe : x = e
      · subst hxe
        obtain ⟨n1, n2, n3, n4, n5⟩ := f.nw x hx hw0
        rw [n1, n3, n4]
        exact ⟨fun q => absurd q (by decide), fun _ => ⟨rfl, rfl⟩⟩
      · rw [wn x hxe] at hw
        exact f.wk x hx hw
    · rw [cf _ (by omega) (by omega), n79 _ (by omega) (by omega) (by omega) (by omega) (by omega)]
      by_cases hxe : x / 4 = e
      · have z := ab5 (x % 4) (by omega)
        rw [show 4 * e + x % 4 = x by omega] at z
        rw [z, (f.ns x hx (by rw [hxe]; exact hw0)).2.1]
        exact ⟨0, by omega, rfl, rfl⟩
      · rw [wn _ hxe] at hw
        exact f.us x hx hw
    · unfold RW
      rw [cf _ (by omega) (by omega), cf _ (by omega) (by omega), cf _ (by omega) (by omega), cf _ (by omega) (by omega), n79 _ (by omega) (by omega) (by omega) (by omega) (by omega), n79 _ (by omega) (by omega) (by omega) (by omega) (by omega), n79 _ (by omega) (by omega) (by omega) (by omega) (by omega), n79 _ (by omega) (by omega) (by omega) (by omega) (by omega)]
      by_cases hxe : x / 4 = e
      · obtain ⟨u1, u2, u3⟩ := f.un x hx (un0 x hx hxe)
        exact Or.inl ⟨u2, u1⟩
      · rw [wn _ hxe] at hw
        exact f.ag x hx hw
    · have hxe : x ≠ e := by rintro rfl; rw [we] at hw; cases hw
      rw [wn x hxe] at hw
      rw [cf _ (by omega) (by omega), cf _ (by omega) (by omega), cf _ (by omega) (by omega), cf _ (by omega) (by omega), cf 16 (by decide) (by decide)]
      exact f.nw x hx hw
    · have hxe : x / 4 ≠ e := by intro z; rw [z, we] at hw; cases hw
      rw [wn _ hxe] at hw
      rw [cf _ (by omega) (by omega), cf _ (by omega) (by omega), cf _ (by omega) (by omega)]
      exact f.ns x hx hw
    · have hxe : x ≠ e := by rintro rfl; rw [c2, pk_us] at h2; exact absurd h2 (by decide)
      rw [c2, pk_un hxe] at h2
      obtain ⟨a1, a2, a3, a4, a5⟩ := f.ab x hx h2
      refine ⟨?_, ?_, ?_, ?_, fun p hp => ?_⟩ <;> rw [n79 _ (by omega) (by omega) (by omega) (by omega) (by omega)]
      · exact a1
      · exact a2
      · exact a3
      · exact a4
      · exact a5 p hp
    · rw [cf 9 (by decide) (by decide)] at h9
      rw [cf _ (by omega) (by omega), cf _ (by omega) (by omega), n79 _ (by omega) (by omega) (by omega) (by omega) (by omega)]
      exact f.un x hx h9
    · rw [cf _ (by omega) (by omega), cf _ (by omega) (by omega), cf _ (by omega) (by omega), n79 _ (by omega) (by omega) (by omega) (by omega) (by omega), n79 _ (by omega) (by omega) (by omega) (by omega) (by omega), n79 _ (by omega) (by omega) (by omega) (by omega) (by omega)]
      exact f.se x hx
    · rw [cf 9 (by decide) (by decide)] at h9
      exact f.lu x hx h9
    · rw [cf 9 (by decide) (by decide)] at h9
      rw [n79 _ (by omega) (by omega) (by omega) (by omega) (by omega), n79 _ (by omega) (by omega) (by omega) (by omega) (by omega)]
      exact f.lz l hl h9
    · rw [n79 _ (by omega) (by omega) (by omega) (by omega) (by omega)] at h5
      rw [n79 _ (by omega) (by omega) (by omega) (by omega) (by omega)]; exact f.mk y hy h5
  · have z := h.C
    have cz : ∀ c, 57 ≤ c → X c = A c := fun c h1 => cn c (by omega) (by omega) (by omega) (by omega) (by omega) (by omega)
    refine ⟨fun x hx => ?_, fun x hx => ?_, fun x hx => ?_, z.ph, fun x hx => ?_, fun x hx => ?_, ?_⟩
    · rw [c55]
      by_cases hxe : x = e
      · rw [hxe, pk_us, v560]
      · rw [pk_un hxe, n79 _ (by omega) (by omega) (by omega) (by omega) (by omega)]; exact z.no x hx
    · rw [c55]
      by_cases hxe : x = e
      · rw [hxe, pk_us, v576]
      · rw [pk_un hxe, n79 _ (by omega) (by omega) (by omega) (by omega) (by omega)]; exact z.la x hx
    · rw [c56]
      by_cases hxe : x = e
      · rw [hxe, pk_us, v592]
      · rw [pk_un hxe, n79 _ (by omega) (by omega) (by omega) (by omega) (by omega)]; exact z.be x hx
    · rw [cz _ (by omega), n79 _ (by omega) (by omega) (by omega) (by omega) (by omega)]; exact z.ca x hx
    · rw [cz _ (by omega), n79 _ (by omega) (by omega) (by omega) (by omega) (by omega)]; exact z.cp x hx
    · rw [cz _ (by omega), n79 _ (by omega) (by omega) (by omega) (by omega) (by omega)]; exact z.st
/-- two ports are linked -/
theorem S_link {s t : Nat} (h : RA A JA B JB m r) (hm : m < 24) (hs : s < 64) (ht : t < 64) (hst : s ≠ t) (s2 : ¬ A 2 (s / 4) = 0) (t2 : ¬ A 2 (t / 4) = 0) (s9 : A 9 s = -1) (t9 : A 9 t = -1) (s11 : A 11 s = -1) (t11 : A 11 t = -1) : RA (p_jo A m s t) JA (m_ln B m s t) JB (m + 1) r := by
  have cn : ∀ c, c ≠ 1 → c ≠ 9 → c ≠ 10 → c ≠ 15 → p_jo A m s t c = A c := fun c h1 h2 h3 h4 => by
    unfold p_jo
    try simp only
    rw [up_ne h3, up_ne h3, up_ne h2, up_ne h2, up_ne h4, up_ne h1]
  have c1 : ∀ k, k ≠ 14 → p_jo A m s t 1 k = A 1 k := fun k hk => by
    unfold p_jo
    try simp only
    rw [up_ne (by decide), up_ne (by decide), up_ne (by decide), up_ne (by decide), up_ne (by decide), zz_k hk]
  have c14 : p_jo A m s t 1 14 = nI (m + 1) := by
    unfold p_jo
    try simp only
    rw [up_ne (by decide), up_ne (by decide), up_ne (by decide), up_ne (by decide), up_ne (by decide), zz_e, h.L.cnt, nI_1]
  have c15 : p_jo A m s t 15 = upd (A 15) m (nI s) := by
    unfold p_jo
    try simp only
    rw [up_ne (by decide), up_ne (by decide), up_ne (by decide), up_ne (by decide), zup_same, up_ne (by decide)]
  have c9 : p_jo A m s t 9 = upd (upd (A 9) s (nI m)) t (nI m) := by
    unfold p_jo
    try simp only
    rw [up_ne (by decide), up_ne (by decide), zup_same, zup_same, up_ne (by decide), up_ne (by decide)]
  have c10 : p_jo A m s t 10 = upd (upd (A 10) s (nI t)) t (nI s) := by
    unfold p_jo
    try simp only
    rw [zup_same, zup_same, up_ne (by decide), up_ne (by decide), up_ne (by decide), up_ne (by decide)]
  have bn : ∀ c, c ≠ 64 → c ≠ 74 → c ≠ 77 → c ≠ 78 → m_ln B m s t c = B c := fun c h1 h2 h3 h4 => by
    unfold m_ln
    rw [up_ne h1, up_ne h2, up_ne h2, up_ne h4, up_ne h3, mt_ne h1]
  have b14 : m_ln B m s t 64 14 = nI (m + 1) := by unfold m_ln; rw [zz_e]
  have b64 : ∀ k, k ≠ 14 → k ≠ 0 → m_ln B m s t 64 k = B 64 k := fun k h1 h2 => by
    unfold m_ln
    rw [zz_k h1, up_ne (by decide), up_ne (by decide), up_ne (by decide), up_ne (by decide), mt_k h2]
  have b74 : m_ln B m s t 74 = upd (upd (B 74) s (nI m)) t (nI m) := by
    unfold m_ln
    rw [up_ne (by decide), zup_same, zup_same, up_ne (by decide), up_ne (by decide), mt_ne (by decide)]
  have b77 : m_ln B m s t 77 = upd (B 77) m (nI s) := by
    unfold m_ln
    rw [up_ne (by decide), up_ne (by decide), up_ne (by decide), up_ne (by decide), zup_same, mt_ne (by decide)]
  have b78 : m_ln B m s t 78 = upd (B 78) m (nI t) := by
    unfold m_ln
    rw [up_ne (by decide), up_ne (by decide), up_ne (by decide), zup_same, up_ne (by decide), mt_ne (by decide)]
  generalize p_jo A m s t = X at *
  generalize m_ln B m s t = Y at *
  have n9 : ∀ x, x ≠ s → x ≠ t → X 9 x = A 9 x := fun x h1 h2 => by rw [c9, pk_un h2, pk_un h1]
  have v9s : X 9 s = nI m := by rw [c9, pk_un hst, pk_us]
  have v9t : X 9 t = nI m := by rw [c9, pk_us]
  have n10 : ∀ x, x ≠ s → x ≠ t → X 10 x = A 10 x := fun x h1 h2 => by rw [c10, pk_un h2, pk_un h1]
  have l := h.L
  have f := h.F
  refine ⟨?_, ?_, ?_, ?_⟩
  · have p := h.P
    refine ⟨?_, ?_, ?_, ?_, ?_, ?_, ?_, ?_, ?_, ?_, ?_, ?_, ?_, ?_⟩
    · rw [cn 2 (by decide) (by decide) (by decide) (by decide), bn 65 (by decide) (by decide) (by decide) (by decide)]; exact p.p2
    · rw [cn 3 (by decide) (by decide) (by decide) (by decide), bn 66 (by decide) (by decide) (by decide) (by decide)]; exact p.p3
    · rw [cn 4 (by decide) (by decide) (by decide) (by decide), bn 67 (by decide) (by decide) (by decide) (by decide)]; exact p.p4
    · rw [cn 5 (by decide) (by decide) (by decide) (by decide), bn 68 (by decide) (by decide) (by decide) (by decide)]; exact p.p5
    · rw [cn 6 (by decide) (by decide) (by decide) (by decide), bn 69 (by decide) (by decide) (by decide) (by decide)]; exact p.p6
    · rw [cn 7 (by decide) (by decide) (by decide) (by decide), bn 70 (by decide) (by decide) (by decide) (by decide)]; exact p.p7
    · rw [cn 8 (by decide) (by decide) (by decide) (by decide), bn 71 (by decide) (by decide) (by decide) (by decide)]; exact p.p8
    · rw [c9, b74, p.p9]
    · rw [cn 11 (by decide) (by decide) (by decide) (by decide), bn 72 (by decide) (by decide) (by decide) (by decide)]; exact p.p11
    · rw [cn 12 (by decide) (by decide) (by decide) (by decide), bn 73 (by decide) (by decide) (by decide) (by decide)]; exact p.p12
    · rw [cn 13 (by decide) (by decide) (by decide) (by decide), bn 75 (by decide) (by decide) (by decide) (by decide)]; exact p.p13
    · rw [cn 14 (by decide) (by decide) (by decide) (by decide), bn 76 (by decide) (by decide) (by decide) (by decide)]; exact p.p14
    · rw [c14, b14]
    · rw [c1 15 (by decide), b64 1 (by decide) (by decide)]; exact p.pT
  · refine ⟨by omega, c14, fun k hk => ?_, fun x hx => ?_, ?_, fun x hx h9 => ?_, ?_, fun x hx h2 => ?_, ?_, ?_, ?_, ?_, ?_, ?_⟩
    · by_cases hkm : k = m
      · subst hkm
        refine ⟨s, t, hs, ht, hst, by rw [b77, pk_us], by rw [b78, pk_us], by rw [c15, pk_us], v9s, v9t, by rw [c10, pk_un hst, pk_us], by rw [c10, pk_us]⟩
      · obtain ⟨x, y, hx, hy, hxy, e77, e78, e15, h9x, h9y, h10x, h10y⟩ := l.lk k (by omega)
        have xs : x ≠ s := by rintro rfl; rw [s9] at h9x; exact absurd h9x.symm (nI_neg1 (by omega))
        have xt : x ≠ t := by rintro rfl; rw [t9] at h9x; exact absurd h9x.symm (nI_neg1 (by omega))
        have ys : y ≠ s := by rintro rfl; rw [s9] at h9y; exact absurd h9y.symm (nI_neg1 (by omega))
        have yt : y ≠ t := by rintro rfl; rw [t9] at h9y; exact absurd h9y.symm (nI_neg1 (by omega))
        exact ⟨x, y, hx, hy, hxy, by rw [b77, pk_un hkm, e77], by rw [b78, pk_un hkm, e78], by rw [c15, pk_un hkm, e15], by rw [n9 x xs xt, h9x], by rw [n9 y ys yt, h9y], by rw [n10 x xs xt, h10x], by rw [n10 y ys yt, h10y]⟩
    · by_cases xs : x = s
      · subst xs; exact Or.inr ⟨m, by omega, v9s, Or.inl (by rw [b77, pk_us])⟩
      · by_cases xt : x = t
        · subst xt; exact Or.inr ⟨m, by omega, v9t, Or.inr (by rw [b78, pk_us])⟩
        · rw [n9 x xs xt]
          rcases l.sl x hx with z | ⟨k, hk, z1, z2⟩
          · exact Or.inl z
          · refine Or.inr ⟨k, by omega, z1, ?_⟩
            rw [b77, b78, pk_un (by omega), pk_un (by omega)]
            exact z2
    · rw [cn 11 (by decide) (by decide) (by decide) (by decide)]; exact l.src
    · rw [cn 11 (by decide) (by decide) (by decide) (by decide)]
      by_cases xs : x = s
      · rw [xs]; exact s11
      · by_cases xt : x = t
        · rw [xt]; exact t11
        · rw [n9 x xs xt] at h9; exact l.ls x hx h9
    · rw [cn 14 (by decide) (by decide) (by decide) (by decide)]; exact l.lo
    · rw [cn 2 (by decide) (by decide) (by decide) (by decide)] at h2
      have xs : x ≠ s := by rintro rfl; exact s2 h2
      have xt : x ≠ t := by rintro rfl; exact t2 h2
      rw [n9 x xs xt]; exact l.ab x hx h2
    · rw [cn 7 (by decide) (by decide) (by decide) (by decide), cn 8 (by decide) (by decide) (by decide) (by decide)]; exact l.q7
    · rw [cn 3 (by decide) (by decide) (by decide) (by decide)]; exact l.q3
    · rw [cn 6 (by decide) (by decide) (by decide) (by decide)]; exact l.q6
    · rw [cn 2 (by decide) (by decide) (by decide) (by decide), cn 6 (by decide) (by decide) (by decide) (by decide)]; exact l.q6z
    · rw [cn 2 (by decide) (by decide) (by decide) (by decide)]; exact l.th
    · rw [c1 15 (by decide)]; exact l.tr
  · have cf : ∀ c, 16 ≤ c → X c = A c := fun c h1 => cn c (by omega) (by omega) (by omega) (by omega)
    have w : ∀ e, f_wh X 16 e = f_wh A 16 e := fun e => by unfold f_wh; rw [cn 2 (by decide) (by decide) (by decide) (by decide), cf 16 (by decide)]
    have q79 : Y 79 = B 79 := bn 79 (by decide) (by decide) (by decide) (by decide)
    have free : ∀ x, x < 64 → ¬ A 9 x = nI m := by
      intro x hx h9
      rcases l.sl x hx with z | ⟨k, hk, z1, z2⟩
      · rw [z] at h9; exact nI_neg1 (by omega) h9.symm
      · rw [z1, nI_eq (by omega) (by omega)] at h9; omega
    obtain ⟨lz1, lz2⟩ := f.lz m hm free
    refine ⟨fun x hx => ?_, fun l hl => ?_, fun x k hx hk h9 => ?_, ?_, fun x hx hw => ?_, fun x hx hw => ?_, fun x hx hw => ?_, fun x hx hw => ?_, fun x hx hw => ?_, fun x hx hw => ?_, fun x hx h2 => ?_, fun x hx h9 => ?_, fun x hx => ?_, fun x hx h9 => ?_, fun k hk h9 => ?_, fun y hy h5 => ?_⟩
    · rw [cf 16 (by decide), q79]; exact f.fe x hx
    · rw [cf 16 (by decide), q79]; exact f.fl l hl
    · rw [q79]
      by_cases hxst : x = s ∨ x = t
      · have hkm : k = m := by
          have : X 9 x = nI m := by rcases hxst with rfl | rfl; exact v9s; exact v9t
          rw [h9, nI_eq (by omega) (by omega)] at this; exact this
        subst hkm
        have hl : f_ls JA 16 x = true := by
          refine f.lu x hx ?_
          rcases hxst with rfl | rfl
          · exact s9
          · exact t9
        rw [hl]
        split
        · rw [Nat.add_zero, lz1]; decide
        · rw [lz2]; decide
      · have xs : x ≠ s := fun z => hxst (Or.inl z)
        have xt : x ≠ t := fun z => hxst (Or.inr z)
        rw [n9 x xs xt] at h9
        have hkm : k ≠ m := by rintro rfl; exact free x hx h9
        rw [b77, pk_un hkm]
        exact f.lo x k hx hk h9
    · rw [q79]; exact f.ro
    · rw [w] at hw
      rw [q79, cf _ (by omega), cf _ (by omega), cf _ (by omega), cf _ (by omega), cf 16 (by decide)]; exact f.wh x hx hw
    · rw [w] at hw
      rw [cf _ (by omega), cf _ (by omega), cf _ (by omega), cf _ (by omega)]; exact f.wk x hx hw
    · rw [w] at hw
      rw [q79, cf _ (by omega)]; exact f.us x hx hw
    · rw [w] at hw
      unfold RW
      rw [q79, cf _ (by omega), cf _ (by omega), cf _ (by omega), cf _ (by omega)]; exact f.ag x hx hw
    · rw [w] at hw
      rw [cf _ (by omega), cf _ (by omega), cf _ (by omega), cf _ (by omega), cf 16 (by decide)]; exact f.nw x hx hw
    · rw [w] at hw
      rw [cf _ (by omega), cf _ (by omega), cf _ (by omega)]; exact f.ns x hx hw
    · rw [cn 2 (by decide) (by decide) (by decide) (by decide)] at h2
      rw [q79]; exact f.ab x hx h2
    · have xs : x ≠ s := by rintro rfl; rw [v9s] at h9; exact nI_neg1 (by omega) h9
      have xt : x ≠ t := by rintro rfl; rw [v9t] at h9; exact nI_neg1 (by omega) h9
      rw [n9 x xs xt] at h9
      rw [q79, cf _ (by omega), cf _ (by omega)]; exact f.un x hx h9
    · rw [q79, cf _ (by omega), cf _ (by omega), cf _ (by omega)]; exact f.se x hx
    · have xs : x ≠ s := by rintro rfl; rw [v9s] at h9; exact nI_neg1 (by omega) h9
      have xt : x ≠ t := by rintro rfl; rw [v9t] at h9; exact nI_neg1 (by omega) h9
      rw [n9 x xs xt] at h9
      exact f.lu x hx h9
    · rw [q79]
      refine f.lz k hk (fun x hx hz => ?_)
      have xs : x ≠ s := by rintro rfl; rw [s9] at hz; exact nI_neg1 (by omega) hz.symm
      have xt : x ≠ t := by rintro rfl; rw [t9] at hz; exact nI_neg1 (by omega) hz.symm
      exact h9 x hx (by rw [n9 x xs xt]; exact hz)
    · rw [q79] at h5 ⊢; exact f.mk y hy h5
  · exact RC_of h.C (fun c h1 h2 => cn c (by omega) (by omega) (by omega) (by omega)) rfl (bn 79 (by decide) (by decide) (by decide) (by decide)) rfl
end R19
