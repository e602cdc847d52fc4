/-! Bits of a word. -/
theorem b_is (x : Int32) {e : Nat} (he : e < 32) : f_bit x (nI e) = if x.toBitVec.getLsbD e = true then 1 else 0 := by
  apply Int32.toBitVec_inj.mp
  have e1 : (f_bit x (nI e)).toBitVec = (x.toBitVec.sshiftRight e) &&& 1#32 := by
    unfold f_bit
    rw [Int32.toBitVec_and, Int32.toBitVec_shiftRight, BitVec.sshiftRight', b_sm e he]
    rfl
  have e2 : (if x.toBitVec.getLsbD e = true then (1 : Int32) else 0).toBitVec = if x.toBitVec.getLsbD e = true then 1#32 else 0#32 := by
    split <;> rfl
  rw [e1, e2]
  apply BitVec.eq_of_getLsbD_eq
  intro i hi
  rw [BitVec.getLsbD_and, BitVec.getLsbD_sshiftRight]
  by_cases h0 : i = 0
  · subst h0
    have q1 : (1#32).getLsbD 0 = true := rfl
    rw [q1, Nat.add_zero]
    simp only [show ¬ 32 ≤ 0 by decide, decide_false, Bool.not_false, Bool.true_and, Bool.and_true, he, if_true]
    by_cases hb : x.toBitVec.getLsbD e = true
    · rw [if_pos hb, hb]; rfl
    · rw [if_neg hb]
      simpa using hb
  · have q1 : (1#32).getLsbD i = false := by
      rw [BitVec.getLsbD_one]
      simp [h0]
    rw [q1, Bool.and_false]
    by_cases hb : x.toBitVec.getLsbD e = true
    · rw [if_pos hb, q1]
    · rw [if_neg hb]
      simp
theorem b_01 (x : Int32) {e : Nat} (he : e < 32) : f_bit x (nI e) = 0 ∨ f_bit x (nI e) = 1 := by
  rw [b_is x he]
  split
  · exact Or.inr rfl
  · exact Or.inl rfl
theorem b_pw {e i : Nat} (he : e < 32) (hi : i < 32) : ((1 : Int32) <<< (nI e &&& 31)).toBitVec.getLsbD i = decide (e = i) := by
  rw [Int32.toBitVec_shiftLeft]
  have e1 : (1 : Int32).toBitVec <<< ((nI e &&& 31).toBitVec.smod 32) = (1#32) <<< e := by
    rw [BitVec.shiftLeft_eq', b_sm e he]
    rfl
  rw [e1, BitVec.getLsbD_shiftLeft, BitVec.getLsbD_one]
  by_cases h : e = i
  · subst h; simp [he]
  · by_cases h2 : i < e
    · simp [h, h2]
    · have h3 : ¬ i - e = 0 := by omega
      simp [h, h2, h3]
theorem b_set (x : Int32) {e i : Nat} (he : e < 32) (hi : i < 32) : f_bit (x ||| 1 <<< (nI e &&& 31)) (nI i) = if e = i then 1 else f_bit x (nI i) := by
  rw [b_is _ hi, b_is _ hi, Int32.toBitVec_or, BitVec.getLsbD_or, b_pw he hi]
  by_cases h : e = i
  · simp [h]
  · simp [h]
theorem b_clr (x : Int32) {e i : Nat} (he : e < 32) (hi : i < 32) : f_bit (x &&& (1 <<< (nI e &&& 31) ^^^ (-1))) (nI i) = if e = i then 0 else f_bit x (nI i) := by
  rw [b_is _ hi, b_is _ hi, Int32.toBitVec_and, BitVec.getLsbD_and, Int32.toBitVec_xor, BitVec.getLsbD_xor, b_pw he hi]
  have q : (-1 : Int32).toBitVec.getLsbD i = true := by
    have q2 : (-1 : Int32).toBitVec = BitVec.allOnes 32 := rfl
    rw [q2, BitVec.getLsbD_allOnes]
    simp [hi]
  rw [q]
  by_cases h : e = i
  · simp [h]
  · simp [h]
