/-! What each call does to the relation: elements, failures, lost words. -/
theorem b_sm64 : ∀ n, n < 64 → (((nI n).toInt64 &&& 63).toBitVec.smod 64).toNat = n := by decide
theorem f_ls_is {J : zJ} {b q : Nat} (hq : q < 64) : f_ls J b q = !(J b 13).toBitVec.getLsbD q := by
  unfold f_ls
  have e1 : ((J b 13 >>> ((nI q).toInt64 &&& 63)) &&& 1).toBitVec = (J b 13).toBitVec.sshiftRight q &&& 1#64 := by
    rw [Int64.toBitVec_and, Int64.toBitVec_shiftRight, BitVec.sshiftRight', b_sm64 q hq]
    rfl
  have e2 : ((J b 13 >>> ((nI q).toInt64 &&& 63)) &&& 1 = 0) ↔ (J b 13).toBitVec.getLsbD q = false := by
    rw [← Int64.toBitVec_inj, e1]
    constructor
    · intro h
      have h0 := congrArg (fun z => BitVec.getLsbD z 0) h
      simp only [BitVec.getLsbD_and, BitVec.getLsbD_sshiftRight] at h0
      have q1 : (1#64).getLsbD 0 = true := rfl
      have q2 : (0 : Int64).toBitVec.getLsbD 0 = false := rfl
      rw [q1, q2] at h0
      simpa [hq] using h0
    · intro h
      apply BitVec.eq_of_getLsbD_eq
      intro i hi
      have q2 : (0 : Int64).toBitVec.getLsbD i = false := by
        have : (0 : Int64).toBitVec = 0#64 := rfl
        rw [this]; exact BitVec.getLsbD_zero
      rw [q2, BitVec.getLsbD_and, BitVec.getLsbD_sshiftRight]
      by_cases h0 : i = 0
      · subst h0
        have h' : (J b 13).toBitVec[q] = false := by rw [← BitVec.getLsbD_eq_getElem]; exact h
        simp [hq, h']
      · have q1 : (1#64).getLsbD i = false := by
          rw [BitVec.getLsbD_one]
          simp [h0]
        rw [q1, Bool.and_false]
  by_cases hx : J b 13 >>> ((nI q).toInt64 &&& 63) &&& 1 = 0
  · rw [e2.mp hx]
    exact decide_eq_true ((lg_cmp_eq _ _).mpr hx)
  · have h1 : (J b 13).toBitVec.getLsbD q = true := by
      cases hz : (J b 13).toBitVec.getLsbD q with
      | true => rfl
      | false => exact absurd (e2.mpr hz) hx
    rw [h1]
    exact decide_eq_false (fun h => hx ((lg_cmp_eq _ _).mp h))
theorem b_pw64 {s i : Nat} (hs : s < 64) (hi : i < 64) : ((1 : Int64) <<< ((nI s).toInt64 &&& 63)).toBitVec.getLsbD i = decide (s = i) := by
  rw [Int64.toBitVec_shiftLeft]
  have e1 : (1 : Int64).toBitVec <<< (((nI s).toInt64 &&& 63).toBitVec.smod 64) = (1#64) <<< s := by
    rw [BitVec.shiftLeft_eq', b_sm64 s hs]
    rfl
  rw [e1, BitVec.getLsbD_shiftLeft, BitVec.getLsbD_one]
  by_cases h : s = i
  · subst h; simp [hs]
  · by_cases h2 : i < s
    · simp [h, h2]
    · have h3 : ¬ i - s = 0 := by omega
      simp [h, h2, h3]
theorem f_lf_v {J : zJ} {b s q : Nat} (hs : s < 64) (hq : q < 64) : f_ls (f_lf J b s) b q = (f_ls J b q && !decide (s = q)) := by
  rw [f_ls_is hq, f_ls_is hq]
  unfold f_lf
  rw [zupL_same, pk_uLs, Int64.toBitVec_or, BitVec.getLsbD_or, b_pw64 hs hq]
  cases (J b 13).toBitVec.getLsbD q <;> cases decide (s = q) <;> rfl
section R16
variable {A A' B B' : zI} {JA JB : zJ} {b m r : Nat}
/-- a link fails, or is whole again -/
theorem RF_fail {k : Nat} {o : Bool} (hb : 16 ≤ b) (h : RF b A JA B r) (hk : k < 24) : RF b (f_sl A b (nI k) (zB o)) JA (zup B 79 (688 + k) (zB o)) r := by
  have c : ∀ c, c ≠ b → f_sl A b (nI k) (zB o) c = A c := fun c hc => fr_sl hc
  have c0 : ∀ j, j ≠ 12 → f_sl A b (nI k) (zB o) b j = A b j := fun j hj => zz_k hj
  have q : ∀ j, j ≠ 688 + k → zup B 79 (688 + k) (zB o) 79 j = B 79 j := fun j hj => zz_k hj
  have q77 : zup B 79 (688 + k) (zB o) 77 = B 77 := zup_ne (by decide)
  have w : ∀ e, f_wh (f_sl A b (nI k) (zB o)) b e = f_wh A b e := fun e => by unfold f_wh; rw [c 2 (by omega), c0 11 (by decide)]
  refine ⟨fun e he => ?_, fun l hl => ?_, fun s l hs hl h9 => ?_, ?_, fun e he hw => ?_, fun e he hw => ?_, fun s hs hw => ?_, fun s hs hw => ?_, fun e he hw => ?_, fun s hs hw => ?_, fun e he h2 => ?_, fun s hs h9 => ?_, fun s hs => ?_, fun s hs h9 => ?_, fun l hl h9 => ?_, fun y hy h5 => ?_⟩
  · rw [c0 11 (by decide), q _ (by omega)]; exact h.fe e he
  · have v : f_sl A b (nI k) (zB o) b 12 = if zB o = 0 then A b 12 &&& (1 <<< (nI k &&& 31) ^^^ (-1)) else A b 12 ||| 1 <<< (nI k &&& 31) := zz_e
    rw [v]
    by_cases hlk : k = l
    · subst hlk
      rw [zz_e]
      cases o
      · rw [if_pos zB_f, b_clr _ (by omega) (by omega), if_pos rfl]; rfl
      · rw [if_neg (by decide), b_set _ (by omega) (by omega), if_pos rfl]; rfl
    · rw [q _ (by omega), ← h.fl l hl]
      cases o
      · rw [if_pos zB_f, b_clr _ (by omega) (by omega), if_neg hlk]
      · rw [if_neg (by decide), b_set _ (by omega) (by omega), if_neg hlk]
  · rw [c 9 (by omega)] at h9
    rw [q77, q _ (by split <;> omega)]; exact h.lo s l hs hl h9
  · rw [q _ (by omega)]; exact h.ro
  · rw [w] at hw
    rw [c _ (by omega), c _ (by omega), c _ (by omega), c _ (by omega), c0 10 (by decide), q _ (by omega), q _ (by omega), q _ (by omega), q _ (by omega), q _ (by omega)]
    exact h.wh e he hw
  · rw [w] at hw
    rw [c _ (by omega), c _ (by omega), c _ (by omega), c _ (by omega)]; exact h.wk e he hw
  · rw [w] at hw
    rw [c _ (by omega), q _ (by omega)]; exact h.us s hs hw
  · rw [w] at hw
    have o := h.ag s hs hw
    unfold RW at o ⊢
    rw [c _ (by omega), c _ (by omega), c _ (by omega), c _ (by omega), q _ (by omega), q _ (by omega), q _ (by omega), q _ (by omega)]
    exact o
  · rw [w] at hw
    rw [c _ (by omega), c _ (by omega), c _ (by omega), c _ (by omega), c0 10 (by decide)]; exact h.nw e he hw
  · rw [w] at hw
    rw [c _ (by omega), c _ (by omega), c _ (by omega)]; exact h.ns s hs hw
  · rw [c 2 (by omega)] at h2
    obtain ⟨a1, a2, a3, a4, a5⟩ := h.ab e he h2
    refine ⟨?_, ?_, ?_, ?_, fun p hp => ?_⟩ <;> rw [q _ (by omega)]
    · exact a1
    · exact a2
    · exact a3
    · exact a4
    · exact a5 p hp
  · rw [c 9 (by omega)] at h9
    rw [c _ (by omega), c _ (by omega), q _ (by omega)]; exact h.un s hs h9
  · rw [c _ (by omega), c _ (by omega), c _ (by omega), q _ (by omega), q _ (by omega), q _ (by omega)]; exact h.se s hs
  · rw [c 9 (by omega)] at h9
    exact h.lu s hs h9
  · rw [c 9 (by omega)] at h9
    rw [q _ (by omega), q _ (by omega)]; exact h.lz l hl h9
  · rw [q _ (by omega)] at h5
    rw [q _ (by omega)]; exact h.mk y hy h5
theorem fl_n' {I : zI} {e c k : Nat} : ∀ n, (∀ p, p < n → k ≠ 4 * e + p) ∨ (c < b + 6 ∨ (b + 9 ≤ c ∧ c < b + 13) ∨ b + 15 ≤ c) → f_fl I b e n c k = I c k
  | 0, _ => rfl
  | n + 1, h => by
    have ih := fl_n' (I := I) (e := e) (c := c) (k := k) n (h.imp (fun h p hp => h p (by omega)) id)
    have h2 : k ≠ 4 * e + n ∨ (c < b + 6 ∨ (b + 9 ≤ c ∧ c < b + 13) ∨ b + 15 ≤ c) := h.imp (fun h => h n (by omega)) id
    unfold f_fl f_fp
    rw [zz_n (by omega), zz_n (by omega), wr_n (by omega), ih]
theorem fl_v' {I : zI} {e p : Nat} : ∀ n, p < n → f_fl I b e n (b + 6) (4 * e + p) = -1 ∧ f_fl I b e n (b + 13) (4 * e + p) = 3 ∧ f_fl I b e n (b + 14) (4 * e + p) = 0
  | 0, h => absurd h (by omega)
  | n + 1, h => by
    unfold f_fl f_fp
    by_cases hp : p = n
    · subst hp
      refine ⟨?_, ?_, ?_⟩
      · rw [zz_c (by omega), zz_c (by omega), show b + 6 = b + 5 + 1 by omega, wr_1]
      · rw [zz_c (by omega), zz_e]
      · rw [zz_e]
    · obtain ⟨i1, i2, i3⟩ := fl_v' (I := I) (e := e) n (show p < n by omega)
      refine ⟨?_, ?_, ?_⟩
      · rw [zz_c (by omega), zz_c (by omega), wr_n (by omega), i1]
      · rw [zz_c (by omega), zz_k (by omega), wr_n (by omega), i2]
      · rw [zz_k (by omega), zz_c (by omega), wr_n (by omega), i3]
theorem fg_n {I : zI} {e c k : Nat} (h1 : c ≠ b ∨ k ≠ 10) (h2 : k ≠ e ∨ c < b + 15 ∨ b + 19 ≤ c) (h3 : k / 4 ≠ e ∨ (c < b + 6 ∨ (b + 9 ≤ c ∧ c < b + 13) ∨ b + 15 ≤ c)) : f_fg I b e c k = I c k := by
  unfold f_fg
  rw [fl_n' 4 (h3.imp (fun h p hp => by omega) id)]
  unfold f_fg0
  try simp only
  rw [zz_n (by omega), zz_n (by omega), zz_n (by omega), zz_n (by omega), zz_n (by omega)]
theorem fg_v {I : zI} {e : Nat} : f_fg I b e (b + 15) e = 0 ∧ f_fg I b e (b + 16) e = -1 ∧ f_fg I b e (b + 17) e = -1 ∧ f_fg I b e (b + 18) e = -1 ∧ f_fg I b e b 10 = I b 10 &&& (1 <<< (nI e &&& 31) ^^^ (-1)) := by
  unfold f_fg
  rw [fl_n' 4 (by omega), fl_n' 4 (by omega), fl_n' 4 (by omega), fl_n' 4 (by omega), fl_n' 4 (by omega)]
  unfold f_fg0
  try simp only
  refine ⟨?_, ?_, ?_, ?_, ?_⟩
  · rw [zz_c (by omega), zz_c (by omega), zz_c (by omega), zz_c (by omega), zz_e]
  · rw [zz_c (by omega), zz_c (by omega), zz_c (by omega), zz_e]
  · rw [zz_c (by omega), zz_c (by omega), zz_e]
  · rw [zz_c (by omega), zz_e]
  · rw [zz_e, zz_c (by omega), zz_c (by omega), zz_c (by omega), zz_c (by omega)]
theorem fg_s {I : zI} {e p : Nat} (hp : p < 4) : f_fg I b e (b + 6) (4 * e + p) = -1 ∧ f_fg I b e (b + 13) (4 * e + p) = 3 ∧ f_fg I b e (b + 14) (4 * e + p) = 0 := by
  unfold f_fg
  exact fl_v' 4 hp
theorem sn_n {I : zI} {e k : Nat} : ∀ n, (∀ p, p < n → k ≠ 256 + (4 * e + p)) → m_sn I e n 79 k = I 79 k
  | 0, _ => rfl
  | n + 1, h => by
    unfold m_sn
    rw [zz_k (h n (by omega)), sn_n n (fun p hp => h p (by omega))]
theorem sn_v {I : zI} {e p : Nat} : ∀ n, p < n → m_sn I e n 79 (256 + (4 * e + p)) = -1
  | 0, h => absurd h (by omega)
  | n + 1, h => by
    unfold m_sn
    by_cases hp : p = n
    · rw [hp, zz_e]
    · rw [zz_k (by omega), sn_v n (by omega)]
theorem bd_n {I : zI} {e k : Nat} (he : e < 16) (h : k ≠ 672 + e) (h2 : k < 256 ∨ 320 ≤ k ∨ (k - 256) / 4 ≠ e) : m_bd I e 79 k = I 79 k := by
  unfold m_bd
  rw [sn_n 4 (fun p hp => by omega), zz_k h]
theorem bd_v {I : zI} {e : Nat} (he : e < 16) : m_bd I e 79 (672 + e) = 1 ∧ ∀ p, p < 4 → m_bd I e 79 (256 + (4 * e + p)) = -1 := by
  unfold m_bd
  exact ⟨by rw [sn_n 4 (fun p hp => by omega), zz_e], fun p hp => sn_v 4 hp⟩
theorem cbl_n {I : zI} {e k : Nat} : ∀ n, (∀ p, p < n → k ≠ 4 * e + p ∧ k ≠ 448 + (4 * e + p)) → m_cbl I e n 79 k = I 79 k
  | 0, _ => rfl
  | n + 1, h => by
    unfold m_cbl
    rw [zz_k (h n (by omega)).2, zz_k (h n (by omega)).1, cbl_n n (fun p hp => h p (by omega))]
theorem cbl_v {I : zI} {e p : Nat} (he : e < 16) : ∀ n, n ≤ 4 → p < n → m_cbl I e n 79 (4 * e + p) = -1 ∧ m_cbl I e n 79 (448 + (4 * e + p)) = 0
  | 0, _, h => absurd h (by omega)
  | n + 1, hn, h => by
    unfold m_cbl
    by_cases hp : p = n
    · subst hp
      exact ⟨by rw [zz_k (by omega), zz_e], by rw [zz_e]⟩
    · obtain ⟨i1, i2⟩ := cbl_v (I := I) he n (by omega) (show p < n by omega)
      exact ⟨by rw [zz_k (by omega), zz_k (by omega), i1], by rw [zz_k (by omega), zz_k (by omega), i2]⟩
theorem cb_v {I : zI} {e : Nat} (he : e < 16) : m_cb I e 79 (672 + e) = 0 ∧ m_cb I e 79 (512 + e) = 0 ∧ m_cb I e 79 (528 + e) = -1 ∧ m_cb I e 79 (544 + e) = 0 ∧ m_cb I e 79 (608 + e) = -1 ∧ m_cb I e 79 (624 + e) = -1 ∧ ∀ p, p < 4 → m_cb I e 79 (256 + (4 * e + p)) = -1 ∧ m_cb I e 79 (4 * e + p) = -1 ∧ m_cb I e 79 (448 + (4 * e + p)) = 0 := by
  unfold m_cb
  refine ⟨?_, ?_, ?_, ?_, ?_, ?_, fun p hp => ⟨?_, cbl_v he 4 (Nat.le_refl _) hp⟩⟩ <;> (rw [cbl_n 4 (fun p hp => by omega)]; unfold m_cb0)
  · rw [zz_k (by omega), zz_k (by omega), zz_k (by omega), zz_k (by omega), zz_k (by omega), sn_n 4 (fun p hp => by omega), zz_e]
  · rw [zz_k (by omega), zz_k (by omega), zz_k (by omega), zz_k (by omega), zz_e]
  · rw [zz_k (by omega), zz_k (by omega), zz_k (by omega), zz_e]
  · rw [zz_k (by omega), zz_k (by omega), zz_e]
  · rw [zz_k (by omega), zz_e]
  · rw [zz_e]
  · rw [zz_k (by omega), zz_k (by omega), zz_k (by omega), zz_k (by omega), zz_k (by omega), sn_v 4 hp]
theorem cb_n {I : zI} {e k : Nat} (h : k ≠ 672 + e ∧ k ≠ 512 + e ∧ k ≠ 528 + e ∧ k ≠ 544 + e ∧ k ≠ 608 + e ∧ k ≠ 624 + e) (h2 : ∀ p, p < 4 → k ≠ 256 + (4 * e + p) ∧ k ≠ 4 * e + p ∧ k ≠ 448 + (4 * e + p)) : m_cb I e 79 k = I 79 k := by
  unfold m_cb
  rw [cbl_n 4 (fun p hp => (h2 p hp).2)]
  unfold m_cb0
  rw [zz_k (by omega), zz_k (by omega), zz_k (by omega), zz_k (by omega), zz_k (by omega), sn_n 4 (fun p hp => (h2 p hp).1), zz_k (by omega)]
theorem fr_cb {I : zI} {e c : Nat} (h : c ≠ 79) : m_cb I e c = I c := by
  have key : ∀ (X : zI) n, m_cbl X e n c = X c := by
    intro X n
    induction n with
    | zero => rfl
    | succ n ih => unfold m_cbl; rw [zup_ne h, zup_ne h, ih]
  unfold m_cb
  rw [key]
  unfold m_cb0
  rw [zup_ne h, zup_ne h, zup_ne h, zup_ne h, zup_ne h, fr_sn h, zup_ne h]
end R16
