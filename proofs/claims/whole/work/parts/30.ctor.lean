def y_fill : MethodName := ⟨"java/util/Arrays", "fill", "([II)V"⟩
theorem d_fill_0 : decode prog_17_method_103_code 0 = .ok (.iconst 0, 1) := by decide +kernel
theorem d_fill_1 : decode prog_17_method_103_code 1 = .ok (.istore_n 2, 1) := by decide +kernel
theorem d_fill_2 : decode prog_17_method_103_code 2 = .ok (.aload_n 0, 1) := by decide +kernel
theorem d_fill_3 : decode prog_17_method_103_code 3 = .ok (.arraylength, 1) := by decide +kernel
theorem d_fill_4 : decode prog_17_method_103_code 4 = .ok (.istore_n 3, 1) := by decide +kernel
theorem d_fill_5 : decode prog_17_method_103_code 5 = .ok (.iload_n 2, 1) := by decide +kernel
theorem d_fill_6 : decode prog_17_method_103_code 6 = .ok (.iload_n 3, 1) := by decide +kernel
theorem d_fill_7 : decode prog_17_method_103_code 7 = .ok (.if_icmp .ge 13, 3) := by decide +kernel
theorem d_fill_10 : decode prog_17_method_103_code 10 = .ok (.aload_n 0, 1) := by decide +kernel
theorem d_fill_11 : decode prog_17_method_103_code 11 = .ok (.iload_n 2, 1) := by decide +kernel
theorem d_fill_12 : decode prog_17_method_103_code 12 = .ok (.iload_n 1, 1) := by decide +kernel
theorem d_fill_13 : decode prog_17_method_103_code 13 = .ok (.iastore, 1) := by decide +kernel
theorem d_fill_14 : decode prog_17_method_103_code 14 = .ok (.iinc 2 1, 3) := by decide +kernel
theorem d_fill_17 : decode prog_17_method_103_code 17 = .ok (.goto (-12), 3) := by decide +kernel
theorem d_fill_20 : decode prog_17_method_103_code 20 = .ok (.return_, 1) := by decide +kernel
set_option maxRecDepth 100000 in
theorem c_fill {la : Launch} {D : yG} {q n : Nat} {v : Int32} {f : Nat → Int32} (hn : n < 1000) : yC la D y_fill (Cond.code y_fill prog_17_method_103_code 4 none :: TBL) (zRc 1 0 0) [.ref q, .int v] [yI D q n f] (fun _ => [yI D q n (yF n v f)]) := by
  refine yC_of (by decide) (by simp [lg_sl, Value.category]) (fun X hla hX hM hR => ?_)
  subst hla
  refine Y_loc (l' := [(0, .ref q), (1, .int v)]) (by simp [lv_args, Value.category, List.lookup]) ?_
  refine Y_iconst (v := nI 0) hX d_fill_0 rfl ?_
  refine Y_istore_n (i := 2) hX d_fill_1 rfl (by decide) rfl ?_
  refine Y_aload_n (i := 0) hX d_fill_2 rfl rfl ?_
  refine Y_alen (q0 := 0) hX d_fill_3 rfl ?_
  refine Y_istore_n (i := 3) hX d_fill_4 rfl (by decide) rfl ?_
  have hL : ∀ k i : Nat, k + i = n → Y X D 4 0 0 5 [(3, .int (nI n)), (2, .int (nI i)), (1, .int v), (0, .ref q)] [] [yI D q n (yF i v f)] := by
    intro k
    induction k with
    | zero =>
      intro i hi
      obtain rfl : n = i := by omega
      refine Y_iload_n (i := 2) hX d_fill_5 rfl rfl ?_
      refine Y_iload_n (i := 3) hX d_fill_6 rfl rfl ?_
      refine Y_icge (tgt := 20) hX d_fill_7 rfl (fun _ => ?_) (fun h => absurd (nI_le (Nat.le_refl _) (by omega)) h)
      exact hR (fun _ => 0) _ _ d_fill_20
    | succ k ih =>
      intro i hi
      have hi2 : i < n := by omega
      refine Y_iload_n (i := 2) hX d_fill_5 rfl rfl ?_
      refine Y_iload_n (i := 3) hX d_fill_6 rfl rfl ?_
      refine Y_icge (tgt := 20) hX d_fill_7 rfl (fun h => absurd h (nI_ge hi2 (by omega))) (fun _ => ?_)
      refine Y_aload_n (i := 0) hX d_fill_10 rfl rfl ?_
      refine Y_iload_n (i := 2) hX d_fill_11 rfl rfl ?_
      refine Y_iload_n (i := 1) hX d_fill_12 rfl rfl ?_
      refine Y_iast (q0 := 0) (k0 := i) (ws' := [yI D q n (yF (i + 1) v f)]) hX d_fill_13 rfl rfl hi2 (by omega) (by rw [yF_s]; rfl) ?_
      refine Y_iinc (v := nI (i + 1)) hX d_fill_14 rfl (nI_add i 1) (by decide) rfl ?_
      refine Y_goto (tgt := 5) hX d_fill_17 rfl ?_
      exact Y_loc rfl (ih (i + 1) (by omega))
  refine Y_loc (l' := [(3, .int (nI n)), (2, .int (nI 0)), (1, .int v), (0, .ref q)]) rfl ?_
  refine Y_mem (ws' := [yI D q n (yF 0 v f)]) (by rw [yF_0]) ?_
  exact hL n 0 (by omega)
theorem m_fill : Cond.static y_fill ∈ TBL ∧ Cond.initialized y_fill.cls ∈ TBL ∧ Cond.code y_fill prog_17_method_103_code 4 none ∈ TBL := ⟨tb0 (List.mem_of_getElem? (i := 31) rfl) rfl, tb0 (List.mem_of_getElem? (i := 3) rfl) rfl, tb0 (List.mem_of_getElem? (i := 32) rfl) rfl⟩
theorem Y_fill {X : zX} {D : yG} {cc : ByteArray} {nL a b pc index q n : Nat} {own : String} {d : Room} {l : List (Nat × Value)} {st : List Value} {ws wr : va_W} {v : Int32} {f : Nat → Int32} (hX : yOk X D cc nL own d) (hd : decode cc pc = .ok (.invokestatic index, 3)) (hn : n < 1000) (h1 : Cond.methodLink own index y_fill ∈ TBL) (hR : 2 ≤ d.frames ∧ 89 ≤ d.locals) (hfc : a ≤ d.cells) (hfs : b ≤ d.slots) (hst : (st.map fun v => v.category).sum ≤ 8)
    (isC isR : List Nat) (hC : isC.map (fun i => ws[i]?) = [yI D q n f].map some) (hRr : isR.map (fun i => ws[i]?) = wr.map some) (hnC : va_nd isC = true) (hnd : va_nd isR = true) (hdis : ∀ i ∈ isR, i ∉ isC) (k : Y X D nL a b (pc + 3) l st (wr ++ [yI D q n (yF n v f)])) : Y X D nL a b pc l (.int v :: .ref q :: st) ws := by
  have hM := c_fill (la := X.2.1) (D := D) (q := q) (v := v) (f := f) hn
  obtain ⟨p, la, e, R, s, m, args, below, meth, c, Q, A⟩ := X
  intro ls H locs hl hP hD hS
  have hts := hX.1.2.2.2.2
  have hPc := hP.sub isC (y_fm hC)
  have hDc := hD.sub isC hnC hC
  have hFc := va_free (wc := [yI D q n f]) hD hS hX.2.2.2.1 isC hC
  have hRR := hX.2.1
  subst hRR
  refine va_callv (va_runS (n := 2) (As := [.ref q, .int v]) (rest := st) hX.1 (hM H.size) ⟨callB_of 2 hts (zGood m_fill.2.2) rfl rfl rfl (hts _ m_fill.2.1) (hts _ h1) ⟨by decide, by decide, by decide +kernel⟩ ⟨hR.1, hR.2⟩, hts _ m_fill.1⟩ ⟨yPc_blind, fun U hU hW => ⟨rfl, by rw [hU], by rw [hU]; exact hPc, va_K.moved hW.alike hX.2.2.1, hDc.weaken (fun _ _ _ _ => trivial), yN_warm hW hX.2.2.2.2.1⟩⟩ rfl rfl (hl.1) rfl (lv_room hst) hd ⟨hfc, hfs⟩) hS (fun q _ h => hFc q h) hFc (fun u t H1 locs1 ht hvm hp hB hz hk hS1 => ?_)
  obtain ⟨hP1, hD1⟩ := hB
  rw [ht] at hP1
  obtain ⟨hP2, hD2⟩ := va_join (wr := wr) hP hD isC isR hC hRr hnd hdis hk hFc hP1 hD1
  exact k ls H1 locs1 hl hP2 hD2 hS1

theorem d_CT_init_0 : decode prog_1_method_1_code 0 = .ok (.aload_n 0, 1) := by decide +kernel
theorem d_CT_init_1 : decode prog_1_method_1_code 1 = .ok (.invokespecial 3, 3) := by decide +kernel
theorem d_CT_init_4 : decode prog_1_method_1_code 4 = .ok (.aload_n 0, 1) := by decide +kernel
theorem d_CT_init_5 : decode prog_1_method_1_code 5 = .ok (.new 9, 3) := by decide +kernel
theorem d_CT_init_8 : decode prog_1_method_1_code 8 = .ok (.dup, 1) := by decide +kernel
theorem d_CT_init_9 : decode prog_1_method_1_code 9 = .ok (.invokespecial 11, 3) := by decide +kernel
theorem d_CT_init_12 : decode prog_1_method_1_code 12 = .ok (.putfield 12, 3) := by decide +kernel
theorem d_CT_init_15 : decode prog_1_method_1_code 15 = .ok (.aload_n 0, 1) := by decide +kernel
theorem d_CT_init_16 : decode prog_1_method_1_code 16 = .ok (.new 16, 3) := by decide +kernel
theorem d_CT_init_19 : decode prog_1_method_1_code 19 = .ok (.dup, 1) := by decide +kernel
theorem d_CT_init_20 : decode prog_1_method_1_code 20 = .ok (.aload_n 0, 1) := by decide +kernel
theorem d_CT_init_21 : decode prog_1_method_1_code 21 = .ok (.getfield 12, 3) := by decide +kernel
theorem d_CT_init_24 : decode prog_1_method_1_code 24 = .ok (.invokespecial 18, 3) := by decide +kernel
theorem d_CT_init_27 : decode prog_1_method_1_code 27 = .ok (.putfield 21, 3) := by decide +kernel
theorem d_CT_init_30 : decode prog_1_method_1_code 30 = .ok (.aload_n 0, 1) := by decide +kernel
theorem d_CT_init_31 : decode prog_1_method_1_code 31 = .ok (.new 16, 3) := by decide +kernel
theorem d_CT_init_34 : decode prog_1_method_1_code 34 = .ok (.dup, 1) := by decide +kernel
theorem d_CT_init_35 : decode prog_1_method_1_code 35 = .ok (.aload_n 0, 1) := by decide +kernel
theorem d_CT_init_36 : decode prog_1_method_1_code 36 = .ok (.getfield 12, 3) := by decide +kernel
theorem d_CT_init_39 : decode prog_1_method_1_code 39 = .ok (.invokespecial 18, 3) := by decide +kernel
theorem d_CT_init_42 : decode prog_1_method_1_code 42 = .ok (.putfield 25, 3) := by decide +kernel
theorem d_CT_init_45 : decode prog_1_method_1_code 45 = .ok (.aload_n 0, 1) := by decide +kernel
theorem d_CT_init_46 : decode prog_1_method_1_code 46 = .ok (.new 28, 3) := by decide +kernel
theorem d_CT_init_49 : decode prog_1_method_1_code 49 = .ok (.dup, 1) := by decide +kernel
theorem d_CT_init_50 : decode prog_1_method_1_code 50 = .ok (.invokespecial 30, 3) := by decide +kernel
theorem d_CT_init_53 : decode prog_1_method_1_code 53 = .ok (.putfield 31, 3) := by decide +kernel
theorem d_CT_init_56 : decode prog_1_method_1_code 56 = .ok (.aload_n 0, 1) := by decide +kernel
theorem d_CT_init_57 : decode prog_1_method_1_code 57 = .ok (.new 35, 3) := by decide +kernel
theorem d_CT_init_60 : decode prog_1_method_1_code 60 = .ok (.dup, 1) := by decide +kernel
theorem d_CT_init_61 : decode prog_1_method_1_code 61 = .ok (.invokespecial 37, 3) := by decide +kernel
theorem d_CT_init_64 : decode prog_1_method_1_code 64 = .ok (.putfield 38, 3) := by decide +kernel
theorem d_CT_init_67 : decode prog_1_method_1_code 67 = .ok (.aload_n 0, 1) := by decide +kernel
theorem d_CT_init_68 : decode prog_1_method_1_code 68 = .ok (.bipush 100, 2) := by decide +kernel
theorem d_CT_init_70 : decode prog_1_method_1_code 70 = .ok (.newarray .int, 2) := by decide +kernel
theorem d_CT_init_72 : decode prog_1_method_1_code 72 = .ok (.putfield 42, 3) := by decide +kernel
theorem d_CT_init_75 : decode prog_1_method_1_code 75 = .ok (.aload_n 0, 1) := by decide +kernel
theorem d_CT_init_76 : decode prog_1_method_1_code 76 = .ok (.bipush 100, 2) := by decide +kernel
theorem d_CT_init_78 : decode prog_1_method_1_code 78 = .ok (.newarray .int, 2) := by decide +kernel
theorem d_CT_init_80 : decode prog_1_method_1_code 80 = .ok (.putfield 46, 3) := by decide +kernel
theorem d_CT_init_83 : decode prog_1_method_1_code 83 = .ok (.aload_n 0, 1) := by decide +kernel
theorem d_CT_init_84 : decode prog_1_method_1_code 84 = .ok (.iconst 0, 1) := by decide +kernel
theorem d_CT_init_85 : decode prog_1_method_1_code 85 = .ok (.putfield 49, 3) := by decide +kernel
theorem d_CT_init_88 : decode prog_1_method_1_code 88 = .ok (.return_, 1) := by decide +kernel
theorem mi_CT : yMI y_CT_init prog_1_method_1_code 1 0 := ⟨tb0 (List.mem_of_getElem? (i := 19) rfl) rfl, tb0 (List.mem_of_getElem? (i := 1) rfl) rfl, tb0 (List.mem_of_getElem? (i := 20) rfl) rfl, by decide, by decide, by decide +kernel, rfl⟩
theorem d_Pl_init_0 : decode prog_5_method_1_code 0 = .ok (.aload_n 0, 1) := by decide +kernel
theorem d_Pl_init_1 : decode prog_5_method_1_code 1 = .ok (.invokespecial 3, 3) := by decide +kernel
theorem d_Pl_init_4 : decode prog_5_method_1_code 4 = .ok (.aload_n 0, 1) := by decide +kernel
theorem d_Pl_init_5 : decode prog_5_method_1_code 5 = .ok (.bipush 16, 2) := by decide +kernel
theorem d_Pl_init_7 : decode prog_5_method_1_code 7 = .ok (.newarray .boolean, 2) := by decide +kernel
theorem d_Pl_init_9 : decode prog_5_method_1_code 9 = .ok (.putfield 9, 3) := by decide +kernel
theorem d_Pl_init_12 : decode prog_5_method_1_code 12 = .ok (.aload_n 0, 1) := by decide +kernel
theorem d_Pl_init_13 : decode prog_5_method_1_code 13 = .ok (.bipush 16, 2) := by decide +kernel
theorem d_Pl_init_15 : decode prog_5_method_1_code 15 = .ok (.newarray .int, 2) := by decide +kernel
theorem d_Pl_init_17 : decode prog_5_method_1_code 17 = .ok (.putfield 15, 3) := by decide +kernel
theorem d_Pl_init_20 : decode prog_5_method_1_code 20 = .ok (.aload_n 0, 1) := by decide +kernel
theorem d_Pl_init_21 : decode prog_5_method_1_code 21 = .ok (.bipush 16, 2) := by decide +kernel
theorem d_Pl_init_23 : decode prog_5_method_1_code 23 = .ok (.newarray .int, 2) := by decide +kernel
theorem d_Pl_init_25 : decode prog_5_method_1_code 25 = .ok (.putfield 19, 3) := by decide +kernel
theorem d_Pl_init_28 : decode prog_5_method_1_code 28 = .ok (.aload_n 0, 1) := by decide +kernel
theorem d_Pl_init_29 : decode prog_5_method_1_code 29 = .ok (.bipush 16, 2) := by decide +kernel
theorem d_Pl_init_31 : decode prog_5_method_1_code 31 = .ok (.newarray .int, 2) := by decide +kernel
theorem d_Pl_init_33 : decode prog_5_method_1_code 33 = .ok (.putfield 22, 3) := by decide +kernel
theorem d_Pl_init_36 : decode prog_5_method_1_code 36 = .ok (.aload_n 0, 1) := by decide +kernel
theorem d_Pl_init_37 : decode prog_5_method_1_code 37 = .ok (.bipush 16, 2) := by decide +kernel
theorem d_Pl_init_39 : decode prog_5_method_1_code 39 = .ok (.newarray .int, 2) := by decide +kernel
theorem d_Pl_init_41 : decode prog_5_method_1_code 41 = .ok (.putfield 25, 3) := by decide +kernel
theorem d_Pl_init_44 : decode prog_5_method_1_code 44 = .ok (.aload_n 0, 1) := by decide +kernel
theorem d_Pl_init_45 : decode prog_5_method_1_code 45 = .ok (.bipush 16, 2) := by decide +kernel
theorem d_Pl_init_47 : decode prog_5_method_1_code 47 = .ok (.newarray .int, 2) := by decide +kernel
theorem d_Pl_init_49 : decode prog_5_method_1_code 49 = .ok (.putfield 28, 3) := by decide +kernel
theorem d_Pl_init_52 : decode prog_5_method_1_code 52 = .ok (.aload_n 0, 1) := by decide +kernel
theorem d_Pl_init_53 : decode prog_5_method_1_code 53 = .ok (.bipush 16, 2) := by decide +kernel
theorem d_Pl_init_55 : decode prog_5_method_1_code 55 = .ok (.newarray .int, 2) := by decide +kernel
theorem d_Pl_init_57 : decode prog_5_method_1_code 57 = .ok (.putfield 31, 3) := by decide +kernel
theorem d_Pl_init_60 : decode prog_5_method_1_code 60 = .ok (.aload_n 0, 1) := by decide +kernel
theorem d_Pl_init_61 : decode prog_5_method_1_code 61 = .ok (.bipush 64, 2) := by decide +kernel
theorem d_Pl_init_63 : decode prog_5_method_1_code 63 = .ok (.newarray .int, 2) := by decide +kernel
theorem d_Pl_init_65 : decode prog_5_method_1_code 65 = .ok (.putfield 34, 3) := by decide +kernel
theorem d_Pl_init_68 : decode prog_5_method_1_code 68 = .ok (.aload_n 0, 1) := by decide +kernel
theorem d_Pl_init_69 : decode prog_5_method_1_code 69 = .ok (.bipush 64, 2) := by decide +kernel
theorem d_Pl_init_71 : decode prog_5_method_1_code 71 = .ok (.newarray .int, 2) := by decide +kernel
theorem d_Pl_init_73 : decode prog_5_method_1_code 73 = .ok (.putfield 37, 3) := by decide +kernel
theorem d_Pl_init_76 : decode prog_5_method_1_code 76 = .ok (.aload_n 0, 1) := by decide +kernel
theorem d_Pl_init_77 : decode prog_5_method_1_code 77 = .ok (.bipush 64, 2) := by decide +kernel
theorem d_Pl_init_79 : decode prog_5_method_1_code 79 = .ok (.newarray .int, 2) := by decide +kernel
theorem d_Pl_init_81 : decode prog_5_method_1_code 81 = .ok (.putfield 40, 3) := by decide +kernel
theorem d_Pl_init_84 : decode prog_5_method_1_code 84 = .ok (.aload_n 0, 1) := by decide +kernel
theorem d_Pl_init_85 : decode prog_5_method_1_code 85 = .ok (.bipush 64, 2) := by decide +kernel
theorem d_Pl_init_87 : decode prog_5_method_1_code 87 = .ok (.newarray .int, 2) := by decide +kernel
theorem d_Pl_init_89 : decode prog_5_method_1_code 89 = .ok (.putfield 43, 3) := by decide +kernel
theorem d_Pl_init_92 : decode prog_5_method_1_code 92 = .ok (.aload_n 0, 1) := by decide +kernel
theorem d_Pl_init_93 : decode prog_5_method_1_code 93 = .ok (.bipush 64, 2) := by decide +kernel
theorem d_Pl_init_95 : decode prog_5_method_1_code 95 = .ok (.newarray .int, 2) := by decide +kernel
theorem d_Pl_init_97 : decode prog_5_method_1_code 97 = .ok (.putfield 46, 3) := by decide +kernel
theorem d_Pl_init_100 : decode prog_5_method_1_code 100 = .ok (.aload_n 0, 1) := by decide +kernel
theorem d_Pl_init_101 : decode prog_5_method_1_code 101 = .ok (.bipush 64, 2) := by decide +kernel
theorem d_Pl_init_103 : decode prog_5_method_1_code 103 = .ok (.newarray .boolean, 2) := by decide +kernel
theorem d_Pl_init_105 : decode prog_5_method_1_code 105 = .ok (.putfield 49, 3) := by decide +kernel
theorem d_Pl_init_108 : decode prog_5_method_1_code 108 = .ok (.aload_n 0, 1) := by decide +kernel
theorem d_Pl_init_109 : decode prog_5_method_1_code 109 = .ok (.bipush 24, 2) := by decide +kernel
theorem d_Pl_init_111 : decode prog_5_method_1_code 111 = .ok (.newarray .int, 2) := by decide +kernel
theorem d_Pl_init_113 : decode prog_5_method_1_code 113 = .ok (.putfield 52, 3) := by decide +kernel
theorem d_Pl_init_116 : decode prog_5_method_1_code 116 = .ok (.aload_n 0, 1) := by decide +kernel
theorem d_Pl_init_117 : decode prog_5_method_1_code 117 = .ok (.iconst 0, 1) := by decide +kernel
theorem d_Pl_init_118 : decode prog_5_method_1_code 118 = .ok (.putfield 55, 3) := by decide +kernel
theorem d_Pl_init_121 : decode prog_5_method_1_code 121 = .ok (.aload_n 0, 1) := by decide +kernel
theorem d_Pl_init_122 : decode prog_5_method_1_code 122 = .ok (.iconst 1, 1) := by decide +kernel
theorem d_Pl_init_123 : decode prog_5_method_1_code 123 = .ok (.putfield 59, 3) := by decide +kernel
theorem d_Pl_init_126 : decode prog_5_method_1_code 126 = .ok (.aload_n 0, 1) := by decide +kernel
theorem d_Pl_init_127 : decode prog_5_method_1_code 127 = .ok (.getfield 28, 3) := by decide +kernel
theorem d_Pl_init_130 : decode prog_5_method_1_code 130 = .ok (.iconst (-1), 1) := by decide +kernel
theorem d_Pl_init_131 : decode prog_5_method_1_code 131 = .ok (.invokestatic 63, 3) := by decide +kernel
theorem d_Pl_init_134 : decode prog_5_method_1_code 134 = .ok (.aload_n 0, 1) := by decide +kernel
theorem d_Pl_init_135 : decode prog_5_method_1_code 135 = .ok (.getfield 31, 3) := by decide +kernel
theorem d_Pl_init_138 : decode prog_5_method_1_code 138 = .ok (.iconst (-1), 1) := by decide +kernel
theorem d_Pl_init_139 : decode prog_5_method_1_code 139 = .ok (.invokestatic 63, 3) := by decide +kernel
theorem d_Pl_init_142 : decode prog_5_method_1_code 142 = .ok (.aload_n 0, 1) := by decide +kernel
theorem d_Pl_init_143 : decode prog_5_method_1_code 143 = .ok (.getfield 34, 3) := by decide +kernel
theorem d_Pl_init_146 : decode prog_5_method_1_code 146 = .ok (.iconst (-1), 1) := by decide +kernel
theorem d_Pl_init_147 : decode prog_5_method_1_code 147 = .ok (.invokestatic 63, 3) := by decide +kernel
theorem d_Pl_init_150 : decode prog_5_method_1_code 150 = .ok (.aload_n 0, 1) := by decide +kernel
theorem d_Pl_init_151 : decode prog_5_method_1_code 151 = .ok (.getfield 37, 3) := by decide +kernel
theorem d_Pl_init_154 : decode prog_5_method_1_code 154 = .ok (.iconst (-1), 1) := by decide +kernel
theorem d_Pl_init_155 : decode prog_5_method_1_code 155 = .ok (.invokestatic 63, 3) := by decide +kernel
theorem d_Pl_init_158 : decode prog_5_method_1_code 158 = .ok (.aload_n 0, 1) := by decide +kernel
theorem d_Pl_init_159 : decode prog_5_method_1_code 159 = .ok (.getfield 40, 3) := by decide +kernel
theorem d_Pl_init_162 : decode prog_5_method_1_code 162 = .ok (.iconst (-1), 1) := by decide +kernel
theorem d_Pl_init_163 : decode prog_5_method_1_code 163 = .ok (.invokestatic 63, 3) := by decide +kernel
theorem d_Pl_init_166 : decode prog_5_method_1_code 166 = .ok (.return_, 1) := by decide +kernel
theorem mi_Pl : yMI y_Pl_init prog_5_method_1_code 1 0 := ⟨tb0 (List.mem_of_getElem? (i := 27) rfl) rfl, tb0 (List.mem_of_getElem? (i := 2) rfl) rfl, tb0 (List.mem_of_getElem? (i := 28) rfl) rfl, by decide, by decide, by decide +kernel, rfl⟩
theorem d_Fl_init_0 : decode prog_4_method_1_code 0 = .ok (.aload_n 0, 1) := by decide +kernel
theorem d_Fl_init_1 : decode prog_4_method_1_code 1 = .ok (.invokespecial 3, 3) := by decide +kernel
theorem d_Fl_init_4 : decode prog_4_method_1_code 4 = .ok (.aload_n 0, 1) := by decide +kernel
theorem d_Fl_init_5 : decode prog_4_method_1_code 5 = .ok (.new 9, 3) := by decide +kernel
theorem d_Fl_init_8 : decode prog_4_method_1_code 8 = .ok (.dup, 1) := by decide +kernel
theorem d_Fl_init_9 : decode prog_4_method_1_code 9 = .ok (.invokespecial 11, 3) := by decide +kernel
theorem d_Fl_init_12 : decode prog_4_method_1_code 12 = .ok (.putfield 12, 3) := by decide +kernel
theorem d_Fl_init_15 : decode prog_4_method_1_code 15 = .ok (.aload_n 0, 1) := by decide +kernel
theorem d_Fl_init_16 : decode prog_4_method_1_code 16 = .ok (.new 9, 3) := by decide +kernel
theorem d_Fl_init_19 : decode prog_4_method_1_code 19 = .ok (.dup, 1) := by decide +kernel
theorem d_Fl_init_20 : decode prog_4_method_1_code 20 = .ok (.invokespecial 11, 3) := by decide +kernel
theorem d_Fl_init_23 : decode prog_4_method_1_code 23 = .ok (.putfield 18, 3) := by decide +kernel
theorem d_Fl_init_26 : decode prog_4_method_1_code 26 = .ok (.aload_n 0, 1) := by decide +kernel
theorem d_Fl_init_27 : decode prog_4_method_1_code 27 = .ok (.new 9, 3) := by decide +kernel
theorem d_Fl_init_30 : decode prog_4_method_1_code 30 = .ok (.dup, 1) := by decide +kernel
theorem d_Fl_init_31 : decode prog_4_method_1_code 31 = .ok (.invokespecial 11, 3) := by decide +kernel
theorem d_Fl_init_34 : decode prog_4_method_1_code 34 = .ok (.putfield 21, 3) := by decide +kernel
theorem d_Fl_init_37 : decode prog_4_method_1_code 37 = .ok (.aload_n 0, 1) := by decide +kernel
theorem d_Fl_init_38 : decode prog_4_method_1_code 38 = .ok (.bipush 64, 2) := by decide +kernel
theorem d_Fl_init_40 : decode prog_4_method_1_code 40 = .ok (.newarray .int, 2) := by decide +kernel
theorem d_Fl_init_42 : decode prog_4_method_1_code 42 = .ok (.putfield 24, 3) := by decide +kernel
theorem d_Fl_init_45 : decode prog_4_method_1_code 45 = .ok (.aload_n 0, 1) := by decide +kernel
theorem d_Fl_init_46 : decode prog_4_method_1_code 46 = .ok (.bipush 64, 2) := by decide +kernel
theorem d_Fl_init_48 : decode prog_4_method_1_code 48 = .ok (.newarray .int, 2) := by decide +kernel
theorem d_Fl_init_50 : decode prog_4_method_1_code 50 = .ok (.putfield 28, 3) := by decide +kernel
theorem d_Fl_init_53 : decode prog_4_method_1_code 53 = .ok (.aload_n 0, 1) := by decide +kernel
theorem d_Fl_init_54 : decode prog_4_method_1_code 54 = .ok (.bipush 16, 2) := by decide +kernel
theorem d_Fl_init_56 : decode prog_4_method_1_code 56 = .ok (.newarray .int, 2) := by decide +kernel
theorem d_Fl_init_58 : decode prog_4_method_1_code 58 = .ok (.putfield 31, 3) := by decide +kernel
theorem d_Fl_init_61 : decode prog_4_method_1_code 61 = .ok (.aload_n 0, 1) := by decide +kernel
theorem d_Fl_init_62 : decode prog_4_method_1_code 62 = .ok (.bipush 16, 2) := by decide +kernel
theorem d_Fl_init_64 : decode prog_4_method_1_code 64 = .ok (.newarray .int, 2) := by decide +kernel
theorem d_Fl_init_66 : decode prog_4_method_1_code 66 = .ok (.putfield 34, 3) := by decide +kernel
theorem d_Fl_init_69 : decode prog_4_method_1_code 69 = .ok (.aload_n 0, 1) := by decide +kernel
theorem d_Fl_init_70 : decode prog_4_method_1_code 70 = .ok (.bipush 16, 2) := by decide +kernel
theorem d_Fl_init_72 : decode prog_4_method_1_code 72 = .ok (.newarray .int, 2) := by decide +kernel
theorem d_Fl_init_74 : decode prog_4_method_1_code 74 = .ok (.putfield 37, 3) := by decide +kernel
theorem d_Fl_init_77 : decode prog_4_method_1_code 77 = .ok (.aload_n 0, 1) := by decide +kernel
theorem d_Fl_init_78 : decode prog_4_method_1_code 78 = .ok (.bipush 16, 2) := by decide +kernel
theorem d_Fl_init_80 : decode prog_4_method_1_code 80 = .ok (.newarray .int, 2) := by decide +kernel
theorem d_Fl_init_82 : decode prog_4_method_1_code 82 = .ok (.putfield 40, 3) := by decide +kernel
theorem d_Fl_init_85 : decode prog_4_method_1_code 85 = .ok (.aload_n 0, 1) := by decide +kernel
theorem d_Fl_init_86 : decode prog_4_method_1_code 86 = .ok (.iconst 0, 1) := by decide +kernel
theorem d_Fl_init_87 : decode prog_4_method_1_code 87 = .ok (.putfield 43, 3) := by decide +kernel
theorem d_Fl_init_90 : decode prog_4_method_1_code 90 = .ok (.aload_n 0, 1) := by decide +kernel
theorem d_Fl_init_91 : decode prog_4_method_1_code 91 = .ok (.iconst 0, 1) := by decide +kernel
theorem d_Fl_init_92 : decode prog_4_method_1_code 92 = .ok (.putfield 47, 3) := by decide +kernel
theorem d_Fl_init_95 : decode prog_4_method_1_code 95 = .ok (.aload_n 0, 1) := by decide +kernel
theorem d_Fl_init_96 : decode prog_4_method_1_code 96 = .ok (.iconst 0, 1) := by decide +kernel
theorem d_Fl_init_97 : decode prog_4_method_1_code 97 = .ok (.putfield 50, 3) := by decide +kernel
theorem d_Fl_init_100 : decode prog_4_method_1_code 100 = .ok (.aload_n 0, 1) := by decide +kernel
theorem d_Fl_init_101 : decode prog_4_method_1_code 101 = .ok (.lconst 0, 1) := by decide +kernel
theorem d_Fl_init_102 : decode prog_4_method_1_code 102 = .ok (.putfield 53, 3) := by decide +kernel
theorem d_Fl_init_105 : decode prog_4_method_1_code 105 = .ok (.aload_n 0, 1) := by decide +kernel
theorem d_Fl_init_106 : decode prog_4_method_1_code 106 = .ok (.iconst 0, 1) := by decide +kernel
theorem d_Fl_init_107 : decode prog_4_method_1_code 107 = .ok (.putfield 57, 3) := by decide +kernel
theorem d_Fl_init_110 : decode prog_4_method_1_code 110 = .ok (.aload_n 0, 1) := by decide +kernel
theorem d_Fl_init_111 : decode prog_4_method_1_code 111 = .ok (.aload_n 1, 1) := by decide +kernel
theorem d_Fl_init_112 : decode prog_4_method_1_code 112 = .ok (.putfield 61, 3) := by decide +kernel
theorem d_Fl_init_115 : decode prog_4_method_1_code 115 = .ok (.aload_n 0, 1) := by decide +kernel
theorem d_Fl_init_116 : decode prog_4_method_1_code 116 = .ok (.getfield 24, 3) := by decide +kernel
theorem d_Fl_init_119 : decode prog_4_method_1_code 119 = .ok (.iconst 3, 1) := by decide +kernel
theorem d_Fl_init_120 : decode prog_4_method_1_code 120 = .ok (.invokestatic 65, 3) := by decide +kernel
theorem d_Fl_init_123 : decode prog_4_method_1_code 123 = .ok (.aload_n 0, 1) := by decide +kernel
theorem d_Fl_init_124 : decode prog_4_method_1_code 124 = .ok (.getfield 34, 3) := by decide +kernel
theorem d_Fl_init_127 : decode prog_4_method_1_code 127 = .ok (.iconst (-1), 1) := by decide +kernel
theorem d_Fl_init_128 : decode prog_4_method_1_code 128 = .ok (.invokestatic 65, 3) := by decide +kernel
theorem d_Fl_init_131 : decode prog_4_method_1_code 131 = .ok (.aload_n 0, 1) := by decide +kernel
theorem d_Fl_init_132 : decode prog_4_method_1_code 132 = .ok (.getfield 37, 3) := by decide +kernel
theorem d_Fl_init_135 : decode prog_4_method_1_code 135 = .ok (.iconst (-1), 1) := by decide +kernel
theorem d_Fl_init_136 : decode prog_4_method_1_code 136 = .ok (.invokestatic 65, 3) := by decide +kernel
theorem d_Fl_init_139 : decode prog_4_method_1_code 139 = .ok (.aload_n 0, 1) := by decide +kernel
theorem d_Fl_init_140 : decode prog_4_method_1_code 140 = .ok (.getfield 40, 3) := by decide +kernel
theorem d_Fl_init_143 : decode prog_4_method_1_code 143 = .ok (.iconst (-1), 1) := by decide +kernel
theorem d_Fl_init_144 : decode prog_4_method_1_code 144 = .ok (.invokestatic 65, 3) := by decide +kernel
theorem d_Fl_init_147 : decode prog_4_method_1_code 147 = .ok (.return_, 1) := by decide +kernel
theorem mi_Fl : yMI y_Fl_init prog_4_method_1_code 2 1 := ⟨tb0 (List.mem_of_getElem? (i := 121) rfl) rfl, tb0 (List.mem_of_getElem? (i := 4) rfl) rfl, tb0 (List.mem_of_getElem? (i := 122) rfl) rfl, by decide, by decide, by decide +kernel, rfl⟩
theorem d_Wo_init_0 : decode prog_6_method_1_code 0 = .ok (.aload_n 0, 1) := by decide +kernel
theorem d_Wo_init_1 : decode prog_6_method_1_code 1 = .ok (.invokespecial 3, 3) := by decide +kernel
theorem d_Wo_init_4 : decode prog_6_method_1_code 4 = .ok (.aload_n 0, 1) := by decide +kernel
theorem d_Wo_init_5 : decode prog_6_method_1_code 5 = .ok (.bipush 64, 2) := by decide +kernel
theorem d_Wo_init_7 : decode prog_6_method_1_code 7 = .ok (.newarray .int, 2) := by decide +kernel
theorem d_Wo_init_9 : decode prog_6_method_1_code 9 = .ok (.putfield 9, 3) := by decide +kernel
theorem d_Wo_init_12 : decode prog_6_method_1_code 12 = .ok (.aload_n 0, 1) := by decide +kernel
theorem d_Wo_init_13 : decode prog_6_method_1_code 13 = .ok (.bipush 64, 2) := by decide +kernel
theorem d_Wo_init_15 : decode prog_6_method_1_code 15 = .ok (.newarray .int, 2) := by decide +kernel
theorem d_Wo_init_17 : decode prog_6_method_1_code 17 = .ok (.putfield 15, 3) := by decide +kernel
theorem d_Wo_init_20 : decode prog_6_method_1_code 20 = .ok (.aload_n 0, 1) := by decide +kernel
theorem d_Wo_init_21 : decode prog_6_method_1_code 21 = .ok (.bipush 64, 2) := by decide +kernel
theorem d_Wo_init_23 : decode prog_6_method_1_code 23 = .ok (.newarray .int, 2) := by decide +kernel
theorem d_Wo_init_25 : decode prog_6_method_1_code 25 = .ok (.putfield 18, 3) := by decide +kernel
theorem d_Wo_init_28 : decode prog_6_method_1_code 28 = .ok (.aload_n 0, 1) := by decide +kernel
theorem d_Wo_init_29 : decode prog_6_method_1_code 29 = .ok (.getfield 9, 3) := by decide +kernel
theorem d_Wo_init_32 : decode prog_6_method_1_code 32 = .ok (.iconst (-1), 1) := by decide +kernel
theorem d_Wo_init_33 : decode prog_6_method_1_code 33 = .ok (.invokestatic 21, 3) := by decide +kernel
theorem d_Wo_init_36 : decode prog_6_method_1_code 36 = .ok (.return_, 1) := by decide +kernel
theorem mi_Wo : yMI y_Wo_init prog_6_method_1_code 1 0 := ⟨tb0 (List.mem_of_getElem? (i := 127) rfl) rfl, tb0 (List.mem_of_getElem? (i := 5) rfl) rfl, tb0 (List.mem_of_getElem? (i := 128) rfl) rfl, by decide, by decide, by decide +kernel, rfl⟩
theorem d_Ck_init_0 : decode prog_3_method_1_code 0 = .ok (.aload_n 0, 1) := by decide +kernel
theorem d_Ck_init_1 : decode prog_3_method_1_code 1 = .ok (.invokespecial 3, 3) := by decide +kernel
theorem d_Ck_init_4 : decode prog_3_method_1_code 4 = .ok (.aload_n 0, 1) := by decide +kernel
theorem d_Ck_init_5 : decode prog_3_method_1_code 5 = .ok (.bipush 16, 2) := by decide +kernel
theorem d_Ck_init_7 : decode prog_3_method_1_code 7 = .ok (.newarray .int, 2) := by decide +kernel
theorem d_Ck_init_9 : decode prog_3_method_1_code 9 = .ok (.putfield 9, 3) := by decide +kernel
theorem d_Ck_init_12 : decode prog_3_method_1_code 12 = .ok (.aload_n 0, 1) := by decide +kernel
theorem d_Ck_init_13 : decode prog_3_method_1_code 13 = .ok (.bipush 16, 2) := by decide +kernel
theorem d_Ck_init_15 : decode prog_3_method_1_code 15 = .ok (.newarray .int, 2) := by decide +kernel
theorem d_Ck_init_17 : decode prog_3_method_1_code 17 = .ok (.putfield 15, 3) := by decide +kernel
theorem d_Ck_init_20 : decode prog_3_method_1_code 20 = .ok (.aload_n 0, 1) := by decide +kernel
theorem d_Ck_init_21 : decode prog_3_method_1_code 21 = .ok (.bipush 16, 2) := by decide +kernel
theorem d_Ck_init_23 : decode prog_3_method_1_code 23 = .ok (.newarray .int, 2) := by decide +kernel
theorem d_Ck_init_25 : decode prog_3_method_1_code 25 = .ok (.putfield 18, 3) := by decide +kernel
theorem d_Ck_init_28 : decode prog_3_method_1_code 28 = .ok (.aload_n 0, 1) := by decide +kernel
theorem d_Ck_init_29 : decode prog_3_method_1_code 29 = .ok (.bipush 16, 2) := by decide +kernel
theorem d_Ck_init_31 : decode prog_3_method_1_code 31 = .ok (.newarray .long, 2) := by decide +kernel
theorem d_Ck_init_33 : decode prog_3_method_1_code 33 = .ok (.putfield 21, 3) := by decide +kernel
theorem d_Ck_init_36 : decode prog_3_method_1_code 36 = .ok (.return_, 1) := by decide +kernel
theorem mi_Ck : yMI y_Ck_init prog_3_method_1_code 1 0 := ⟨tb0 (List.mem_of_getElem? (i := 202) rfl) rfl, tb0 (List.mem_of_getElem? (i := 6) rfl) rfl, tb0 (List.mem_of_getElem? (i := 203) rfl) rfl, by decide, by decide, by decide +kernel, rfl⟩
theorem d_Ca_init_0 : decode prog_2_method_1_code 0 = .ok (.aload_n 0, 1) := by decide +kernel
theorem d_Ca_init_1 : decode prog_2_method_1_code 1 = .ok (.invokespecial 3, 3) := by decide +kernel
theorem d_Ca_init_4 : decode prog_2_method_1_code 4 = .ok (.aload_n 0, 1) := by decide +kernel
theorem d_Ca_init_5 : decode prog_2_method_1_code 5 = .ok (.bipush 16, 2) := by decide +kernel
theorem d_Ca_init_7 : decode prog_2_method_1_code 7 = .ok (.newarray .int, 2) := by decide +kernel
theorem d_Ca_init_9 : decode prog_2_method_1_code 9 = .ok (.putfield 9, 3) := by decide +kernel
theorem d_Ca_init_12 : decode prog_2_method_1_code 12 = .ok (.aload_n 0, 1) := by decide +kernel
theorem d_Ca_init_13 : decode prog_2_method_1_code 13 = .ok (.bipush 16, 2) := by decide +kernel
theorem d_Ca_init_15 : decode prog_2_method_1_code 15 = .ok (.newarray .int, 2) := by decide +kernel
theorem d_Ca_init_17 : decode prog_2_method_1_code 17 = .ok (.putfield 15, 3) := by decide +kernel
theorem d_Ca_init_20 : decode prog_2_method_1_code 20 = .ok (.aload_n 0, 1) := by decide +kernel
theorem d_Ca_init_21 : decode prog_2_method_1_code 21 = .ok (.iconst 0, 1) := by decide +kernel
theorem d_Ca_init_22 : decode prog_2_method_1_code 22 = .ok (.putfield 18, 3) := by decide +kernel
theorem d_Ca_init_25 : decode prog_2_method_1_code 25 = .ok (.aload_n 0, 1) := by decide +kernel
theorem d_Ca_init_26 : decode prog_2_method_1_code 26 = .ok (.getfield 9, 3) := by decide +kernel
theorem d_Ca_init_29 : decode prog_2_method_1_code 29 = .ok (.iconst 0, 1) := by decide +kernel
theorem d_Ca_init_30 : decode prog_2_method_1_code 30 = .ok (.invokestatic 22, 3) := by decide +kernel
theorem d_Ca_init_33 : decode prog_2_method_1_code 33 = .ok (.aload_n 0, 1) := by decide +kernel
theorem d_Ca_init_34 : decode prog_2_method_1_code 34 = .ok (.getfield 15, 3) := by decide +kernel
theorem d_Ca_init_37 : decode prog_2_method_1_code 37 = .ok (.iconst (-1), 1) := by decide +kernel
theorem d_Ca_init_38 : decode prog_2_method_1_code 38 = .ok (.invokestatic 22, 3) := by decide +kernel
theorem d_Ca_init_41 : decode prog_2_method_1_code 41 = .ok (.return_, 1) := by decide +kernel
theorem mi_Ca : yMI y_Ca_init prog_2_method_1_code 1 0 := ⟨tb0 (List.mem_of_getElem? (i := 224) rfl) rfl, tb0 (List.mem_of_getElem? (i := 7) rfl) rfl, tb0 (List.mem_of_getElem? (i := 225) rfl) rfl, by decide, by decide, by decide +kernel, rfl⟩
theorem d_Mo_init_0 : decode prog_8_method_1_code 0 = .ok (.aload_n 0, 1) := by decide +kernel
theorem d_Mo_init_1 : decode prog_8_method_1_code 1 = .ok (.invokespecial 1, 3) := by decide +kernel
theorem d_Mo_init_4 : decode prog_8_method_1_code 4 = .ok (.aload_n 0, 1) := by decide +kernel
theorem d_Mo_init_5 : decode prog_8_method_1_code 5 = .ok (.iconst 0, 1) := by decide +kernel
theorem d_Mo_init_6 : decode prog_8_method_1_code 6 = .ok (.putfield 7, 3) := by decide +kernel
theorem d_Mo_init_9 : decode prog_8_method_1_code 9 = .ok (.aload_n 0, 1) := by decide +kernel
theorem d_Mo_init_10 : decode prog_8_method_1_code 10 = .ok (.iconst 1, 1) := by decide +kernel
theorem d_Mo_init_11 : decode prog_8_method_1_code 11 = .ok (.putfield 13, 3) := by decide +kernel
theorem d_Mo_init_14 : decode prog_8_method_1_code 14 = .ok (.aload_n 0, 1) := by decide +kernel
theorem d_Mo_init_15 : decode prog_8_method_1_code 15 = .ok (.bipush 16, 2) := by decide +kernel
theorem d_Mo_init_17 : decode prog_8_method_1_code 17 = .ok (.newarray .boolean, 2) := by decide +kernel
theorem d_Mo_init_19 : decode prog_8_method_1_code 19 = .ok (.putfield 17, 3) := by decide +kernel
theorem d_Mo_init_22 : decode prog_8_method_1_code 22 = .ok (.aload_n 0, 1) := by decide +kernel
theorem d_Mo_init_23 : decode prog_8_method_1_code 23 = .ok (.bipush 16, 2) := by decide +kernel
theorem d_Mo_init_25 : decode prog_8_method_1_code 25 = .ok (.newarray .int, 2) := by decide +kernel
theorem d_Mo_init_27 : decode prog_8_method_1_code 27 = .ok (.putfield 21, 3) := by decide +kernel
theorem d_Mo_init_30 : decode prog_8_method_1_code 30 = .ok (.aload_n 0, 1) := by decide +kernel
theorem d_Mo_init_31 : decode prog_8_method_1_code 31 = .ok (.bipush 16, 2) := by decide +kernel
theorem d_Mo_init_33 : decode prog_8_method_1_code 33 = .ok (.newarray .int, 2) := by decide +kernel
theorem d_Mo_init_35 : decode prog_8_method_1_code 35 = .ok (.putfield 25, 3) := by decide +kernel
theorem d_Mo_init_38 : decode prog_8_method_1_code 38 = .ok (.aload_n 0, 1) := by decide +kernel
theorem d_Mo_init_39 : decode prog_8_method_1_code 39 = .ok (.bipush 16, 2) := by decide +kernel
theorem d_Mo_init_41 : decode prog_8_method_1_code 41 = .ok (.newarray .int, 2) := by decide +kernel
theorem d_Mo_init_43 : decode prog_8_method_1_code 43 = .ok (.putfield 28, 3) := by decide +kernel
theorem d_Mo_init_46 : decode prog_8_method_1_code 46 = .ok (.aload_n 0, 1) := by decide +kernel
theorem d_Mo_init_47 : decode prog_8_method_1_code 47 = .ok (.bipush 16, 2) := by decide +kernel
theorem d_Mo_init_49 : decode prog_8_method_1_code 49 = .ok (.newarray .int, 2) := by decide +kernel
theorem d_Mo_init_51 : decode prog_8_method_1_code 51 = .ok (.putfield 31, 3) := by decide +kernel
theorem d_Mo_init_54 : decode prog_8_method_1_code 54 = .ok (.aload_n 0, 1) := by decide +kernel
theorem d_Mo_init_55 : decode prog_8_method_1_code 55 = .ok (.bipush 16, 2) := by decide +kernel
theorem d_Mo_init_57 : decode prog_8_method_1_code 57 = .ok (.newarray .int, 2) := by decide +kernel
theorem d_Mo_init_59 : decode prog_8_method_1_code 59 = .ok (.putfield 34, 3) := by decide +kernel
theorem d_Mo_init_62 : decode prog_8_method_1_code 62 = .ok (.aload_n 0, 1) := by decide +kernel
theorem d_Mo_init_63 : decode prog_8_method_1_code 63 = .ok (.bipush 16, 2) := by decide +kernel
theorem d_Mo_init_65 : decode prog_8_method_1_code 65 = .ok (.newarray .int, 2) := by decide +kernel
theorem d_Mo_init_67 : decode prog_8_method_1_code 67 = .ok (.putfield 37, 3) := by decide +kernel
theorem d_Mo_init_70 : decode prog_8_method_1_code 70 = .ok (.aload_n 0, 1) := by decide +kernel
theorem d_Mo_init_71 : decode prog_8_method_1_code 71 = .ok (.bipush 64, 2) := by decide +kernel
theorem d_Mo_init_73 : decode prog_8_method_1_code 73 = .ok (.newarray .int, 2) := by decide +kernel
theorem d_Mo_init_75 : decode prog_8_method_1_code 75 = .ok (.putfield 40, 3) := by decide +kernel
theorem d_Mo_init_78 : decode prog_8_method_1_code 78 = .ok (.aload_n 0, 1) := by decide +kernel
theorem d_Mo_init_79 : decode prog_8_method_1_code 79 = .ok (.bipush 64, 2) := by decide +kernel
theorem d_Mo_init_81 : decode prog_8_method_1_code 81 = .ok (.newarray .int, 2) := by decide +kernel
theorem d_Mo_init_83 : decode prog_8_method_1_code 83 = .ok (.putfield 43, 3) := by decide +kernel
theorem d_Mo_init_86 : decode prog_8_method_1_code 86 = .ok (.aload_n 0, 1) := by decide +kernel
theorem d_Mo_init_87 : decode prog_8_method_1_code 87 = .ok (.bipush 64, 2) := by decide +kernel
theorem d_Mo_init_89 : decode prog_8_method_1_code 89 = .ok (.newarray .int, 2) := by decide +kernel
theorem d_Mo_init_91 : decode prog_8_method_1_code 91 = .ok (.putfield 46, 3) := by decide +kernel
theorem d_Mo_init_94 : decode prog_8_method_1_code 94 = .ok (.aload_n 0, 1) := by decide +kernel
theorem d_Mo_init_95 : decode prog_8_method_1_code 95 = .ok (.bipush 64, 2) := by decide +kernel
theorem d_Mo_init_97 : decode prog_8_method_1_code 97 = .ok (.newarray .int, 2) := by decide +kernel
theorem d_Mo_init_99 : decode prog_8_method_1_code 99 = .ok (.putfield 49, 3) := by decide +kernel
theorem d_Mo_init_102 : decode prog_8_method_1_code 102 = .ok (.aload_n 0, 1) := by decide +kernel
theorem d_Mo_init_103 : decode prog_8_method_1_code 103 = .ok (.bipush 64, 2) := by decide +kernel
theorem d_Mo_init_105 : decode prog_8_method_1_code 105 = .ok (.newarray .boolean, 2) := by decide +kernel
theorem d_Mo_init_107 : decode prog_8_method_1_code 107 = .ok (.putfield 52, 3) := by decide +kernel
theorem d_Mo_init_110 : decode prog_8_method_1_code 110 = .ok (.aload_n 0, 1) := by decide +kernel
theorem d_Mo_init_111 : decode prog_8_method_1_code 111 = .ok (.iconst 0, 1) := by decide +kernel
theorem d_Mo_init_112 : decode prog_8_method_1_code 112 = .ok (.putfield 55, 3) := by decide +kernel
theorem d_Mo_init_115 : decode prog_8_method_1_code 115 = .ok (.aload_n 0, 1) := by decide +kernel
theorem d_Mo_init_116 : decode prog_8_method_1_code 116 = .ok (.bipush 24, 2) := by decide +kernel
theorem d_Mo_init_118 : decode prog_8_method_1_code 118 = .ok (.newarray .int, 2) := by decide +kernel
theorem d_Mo_init_120 : decode prog_8_method_1_code 120 = .ok (.putfield 58, 3) := by decide +kernel
theorem d_Mo_init_123 : decode prog_8_method_1_code 123 = .ok (.aload_n 0, 1) := by decide +kernel
theorem d_Mo_init_124 : decode prog_8_method_1_code 124 = .ok (.bipush 24, 2) := by decide +kernel
theorem d_Mo_init_126 : decode prog_8_method_1_code 126 = .ok (.newarray .int, 2) := by decide +kernel
theorem d_Mo_init_128 : decode prog_8_method_1_code 128 = .ok (.putfield 61, 3) := by decide +kernel
theorem d_Mo_init_131 : decode prog_8_method_1_code 131 = .ok (.aload_n 0, 1) := by decide +kernel
theorem d_Mo_init_132 : decode prog_8_method_1_code 132 = .ok (.sipush 762, 3) := by decide +kernel
theorem d_Mo_init_135 : decode prog_8_method_1_code 135 = .ok (.newarray .int, 2) := by decide +kernel
theorem d_Mo_init_137 : decode prog_8_method_1_code 137 = .ok (.putfield 64, 3) := by decide +kernel
theorem d_Mo_init_140 : decode prog_8_method_1_code 140 = .ok (.aload_n 0, 1) := by decide +kernel
theorem d_Mo_init_141 : decode prog_8_method_1_code 141 = .ok (.sipush 762, 3) := by decide +kernel
theorem d_Mo_init_144 : decode prog_8_method_1_code 144 = .ok (.newarray .int, 2) := by decide +kernel
theorem d_Mo_init_146 : decode prog_8_method_1_code 146 = .ok (.putfield 67, 3) := by decide +kernel
theorem d_Mo_init_149 : decode prog_8_method_1_code 149 = .ok (.aload_n 0, 1) := by decide +kernel
theorem d_Mo_init_150 : decode prog_8_method_1_code 150 = .ok (.bipush 16, 2) := by decide +kernel
theorem d_Mo_init_152 : decode prog_8_method_1_code 152 = .ok (.newarray .long, 2) := by decide +kernel
theorem d_Mo_init_154 : decode prog_8_method_1_code 154 = .ok (.putfield 70, 3) := by decide +kernel
theorem d_Mo_init_157 : decode prog_8_method_1_code 157 = .ok (.aload_n 0, 1) := by decide +kernel
theorem d_Mo_init_158 : decode prog_8_method_1_code 158 = .ok (.bipush 16, 2) := by decide +kernel
theorem d_Mo_init_160 : decode prog_8_method_1_code 160 = .ok (.newarray .long, 2) := by decide +kernel
theorem d_Mo_init_162 : decode prog_8_method_1_code 162 = .ok (.putfield 74, 3) := by decide +kernel
theorem d_Mo_init_165 : decode prog_8_method_1_code 165 = .ok (.aload_n 0, 1) := by decide +kernel
theorem d_Mo_init_166 : decode prog_8_method_1_code 166 = .ok (.sipush 192, 3) := by decide +kernel
theorem d_Mo_init_169 : decode prog_8_method_1_code 169 = .ok (.newarray .int, 2) := by decide +kernel
theorem d_Mo_init_171 : decode prog_8_method_1_code 171 = .ok (.putfield 77, 3) := by decide +kernel
theorem d_Mo_init_174 : decode prog_8_method_1_code 174 = .ok (.aload_n 0, 1) := by decide +kernel
theorem d_Mo_init_175 : decode prog_8_method_1_code 175 = .ok (.iconst 0, 1) := by decide +kernel
theorem d_Mo_init_176 : decode prog_8_method_1_code 176 = .ok (.putfield 80, 3) := by decide +kernel
theorem d_Mo_init_179 : decode prog_8_method_1_code 179 = .ok (.aload_n 0, 1) := by decide +kernel
theorem d_Mo_init_180 : decode prog_8_method_1_code 180 = .ok (.bipush 100, 2) := by decide +kernel
theorem d_Mo_init_182 : decode prog_8_method_1_code 182 = .ok (.newarray .int, 2) := by decide +kernel
theorem d_Mo_init_184 : decode prog_8_method_1_code 184 = .ok (.putfield 83, 3) := by decide +kernel
theorem d_Mo_init_187 : decode prog_8_method_1_code 187 = .ok (.aload_n 0, 1) := by decide +kernel
theorem d_Mo_init_188 : decode prog_8_method_1_code 188 = .ok (.bipush 100, 2) := by decide +kernel
theorem d_Mo_init_190 : decode prog_8_method_1_code 190 = .ok (.newarray .int, 2) := by decide +kernel
theorem d_Mo_init_192 : decode prog_8_method_1_code 192 = .ok (.putfield 86, 3) := by decide +kernel
theorem d_Mo_init_195 : decode prog_8_method_1_code 195 = .ok (.iconst 0, 1) := by decide +kernel
theorem d_Mo_init_196 : decode prog_8_method_1_code 196 = .ok (.istore_n 1, 1) := by decide +kernel
theorem d_Mo_init_197 : decode prog_8_method_1_code 197 = .ok (.iload_n 1, 1) := by decide +kernel
theorem d_Mo_init_198 : decode prog_8_method_1_code 198 = .ok (.bipush 64, 2) := by decide +kernel
theorem d_Mo_init_200 : decode prog_8_method_1_code 200 = .ok (.if_icmp .ge 43, 3) := by decide +kernel
theorem d_Mo_init_203 : decode prog_8_method_1_code 203 = .ok (.aload_n 0, 1) := by decide +kernel
theorem d_Mo_init_204 : decode prog_8_method_1_code 204 = .ok (.getfield 40, 3) := by decide +kernel
theorem d_Mo_init_207 : decode prog_8_method_1_code 207 = .ok (.iload_n 1, 1) := by decide +kernel
theorem d_Mo_init_208 : decode prog_8_method_1_code 208 = .ok (.iconst (-1), 1) := by decide +kernel
theorem d_Mo_init_209 : decode prog_8_method_1_code 209 = .ok (.iastore, 1) := by decide +kernel
theorem d_Mo_init_210 : decode prog_8_method_1_code 210 = .ok (.aload_n 0, 1) := by decide +kernel
theorem d_Mo_init_211 : decode prog_8_method_1_code 211 = .ok (.getfield 46, 3) := by decide +kernel
theorem d_Mo_init_214 : decode prog_8_method_1_code 214 = .ok (.iload_n 1, 1) := by decide +kernel
theorem d_Mo_init_215 : decode prog_8_method_1_code 215 = .ok (.iconst (-1), 1) := by decide +kernel
theorem d_Mo_init_216 : decode prog_8_method_1_code 216 = .ok (.iastore, 1) := by decide +kernel
theorem d_Mo_init_217 : decode prog_8_method_1_code 217 = .ok (.aload_n 0, 1) := by decide +kernel
theorem d_Mo_init_218 : decode prog_8_method_1_code 218 = .ok (.getfield 64, 3) := by decide +kernel
theorem d_Mo_init_221 : decode prog_8_method_1_code 221 = .ok (.iconst 0, 1) := by decide +kernel
theorem d_Mo_init_222 : decode prog_8_method_1_code 222 = .ok (.iload_n 1, 1) := by decide +kernel
theorem d_Mo_init_223 : decode prog_8_method_1_code 223 = .ok (.iadd, 1) := by decide +kernel
theorem d_Mo_init_224 : decode prog_8_method_1_code 224 = .ok (.iconst (-1), 1) := by decide +kernel
theorem d_Mo_init_225 : decode prog_8_method_1_code 225 = .ok (.iastore, 1) := by decide +kernel
theorem d_Mo_init_226 : decode prog_8_method_1_code 226 = .ok (.aload_n 0, 1) := by decide +kernel
theorem d_Mo_init_227 : decode prog_8_method_1_code 227 = .ok (.getfield 64, 3) := by decide +kernel
theorem d_Mo_init_230 : decode prog_8_method_1_code 230 = .ok (.sipush 256, 3) := by decide +kernel
theorem d_Mo_init_233 : decode prog_8_method_1_code 233 = .ok (.iload_n 1, 1) := by decide +kernel
theorem d_Mo_init_234 : decode prog_8_method_1_code 234 = .ok (.iadd, 1) := by decide +kernel
theorem d_Mo_init_235 : decode prog_8_method_1_code 235 = .ok (.iconst (-1), 1) := by decide +kernel
theorem d_Mo_init_236 : decode prog_8_method_1_code 236 = .ok (.iastore, 1) := by decide +kernel
theorem d_Mo_init_237 : decode prog_8_method_1_code 237 = .ok (.iinc 1 1, 3) := by decide +kernel
theorem d_Mo_init_240 : decode prog_8_method_1_code 240 = .ok (.goto (-43), 3) := by decide +kernel
theorem d_Mo_init_243 : decode prog_8_method_1_code 243 = .ok (.iconst 0, 1) := by decide +kernel
theorem d_Mo_init_244 : decode prog_8_method_1_code 244 = .ok (.istore_n 1, 1) := by decide +kernel
theorem d_Mo_init_245 : decode prog_8_method_1_code 245 = .ok (.iload_n 1, 1) := by decide +kernel
theorem d_Mo_init_246 : decode prog_8_method_1_code 246 = .ok (.bipush 16, 2) := by decide +kernel
theorem d_Mo_init_248 : decode prog_8_method_1_code 248 = .ok (.if_icmp .ge 45, 3) := by decide +kernel
theorem d_Mo_init_251 : decode prog_8_method_1_code 251 = .ok (.aload_n 0, 1) := by decide +kernel
theorem d_Mo_init_252 : decode prog_8_method_1_code 252 = .ok (.getfield 34, 3) := by decide +kernel
theorem d_Mo_init_255 : decode prog_8_method_1_code 255 = .ok (.iload_n 1, 1) := by decide +kernel
theorem d_Mo_init_256 : decode prog_8_method_1_code 256 = .ok (.iconst (-1), 1) := by decide +kernel
theorem d_Mo_init_257 : decode prog_8_method_1_code 257 = .ok (.iastore, 1) := by decide +kernel
theorem d_Mo_init_258 : decode prog_8_method_1_code 258 = .ok (.aload_n 0, 1) := by decide +kernel
theorem d_Mo_init_259 : decode prog_8_method_1_code 259 = .ok (.getfield 37, 3) := by decide +kernel
theorem d_Mo_init_262 : decode prog_8_method_1_code 262 = .ok (.iload_n 1, 1) := by decide +kernel
theorem d_Mo_init_263 : decode prog_8_method_1_code 263 = .ok (.iconst (-1), 1) := by decide +kernel
theorem d_Mo_init_264 : decode prog_8_method_1_code 264 = .ok (.iastore, 1) := by decide +kernel
theorem d_Mo_init_265 : decode prog_8_method_1_code 265 = .ok (.aload_n 0, 1) := by decide +kernel
theorem d_Mo_init_266 : decode prog_8_method_1_code 266 = .ok (.getfield 64, 3) := by decide +kernel
theorem d_Mo_init_269 : decode prog_8_method_1_code 269 = .ok (.sipush 528, 3) := by decide +kernel
theorem d_Mo_init_272 : decode prog_8_method_1_code 272 = .ok (.iload_n 1, 1) := by decide +kernel
theorem d_Mo_init_273 : decode prog_8_method_1_code 273 = .ok (.iadd, 1) := by decide +kernel
theorem d_Mo_init_274 : decode prog_8_method_1_code 274 = .ok (.iconst (-1), 1) := by decide +kernel
theorem d_Mo_init_275 : decode prog_8_method_1_code 275 = .ok (.iastore, 1) := by decide +kernel
theorem d_Mo_init_276 : decode prog_8_method_1_code 276 = .ok (.aload_n 0, 1) := by decide +kernel
theorem d_Mo_init_277 : decode prog_8_method_1_code 277 = .ok (.getfield 64, 3) := by decide +kernel
theorem d_Mo_init_280 : decode prog_8_method_1_code 280 = .ok (.sipush 656, 3) := by decide +kernel
theorem d_Mo_init_283 : decode prog_8_method_1_code 283 = .ok (.iload_n 1, 1) := by decide +kernel
theorem d_Mo_init_284 : decode prog_8_method_1_code 284 = .ok (.iadd, 1) := by decide +kernel
theorem d_Mo_init_285 : decode prog_8_method_1_code 285 = .ok (.iconst (-1), 1) := by decide +kernel
theorem d_Mo_init_286 : decode prog_8_method_1_code 286 = .ok (.iastore, 1) := by decide +kernel
theorem d_Mo_init_287 : decode prog_8_method_1_code 287 = .ok (.iinc 1 1, 3) := by decide +kernel
theorem d_Mo_init_290 : decode prog_8_method_1_code 290 = .ok (.goto (-45), 3) := by decide +kernel
theorem d_Mo_init_293 : decode prog_8_method_1_code 293 = .ok (.return_, 1) := by decide +kernel
theorem mi_Mo : yMI y_Mo_init prog_8_method_1_code 2 0 := ⟨tb2 (List.mem_of_getElem? (i := 214) rfl) rfl, tb0 (List.mem_of_getElem? (i := 8) rfl) rfl, tb2 (List.mem_of_getElem? (i := 215) rfl) rfl, by decide, by decide, by decide +kernel, rfl⟩
theorem lk_fill_Pl : Cond.methodLink "ClockTree$Plan" 63 y_fill ∈ TBL := tb0 (List.mem_of_getElem? (i := 30) rfl) rfl
theorem lk_fill_Wo : Cond.methodLink "ClockTree$Words" 21 y_fill ∈ TBL := tb0 (List.mem_of_getElem? (i := 130) rfl) rfl
theorem lk_fill_Fl : Cond.methodLink "ClockTree$Flow" 65 y_fill ∈ TBL := tb0 (List.mem_of_getElem? (i := 145) rfl) rfl
theorem lk_fill_Ca : Cond.methodLink "ClockTree$Calm" 22 y_fill ∈ TBL := tb0 (List.mem_of_getElem? (i := 227) rfl) rfl
set_option maxRecDepth 100000 in
set_option maxHeartbeats 4000000 in
theorem c_Wo_init {la : Launch} {D : yG} {q : Nat} : yC la D y_Wo_init (Cond.code y_Wo_init prog_6_method_1_code 1 none :: TBL) (zRc 2 3 192) [.ref q] [yO q 4 [.null, .null, .null]] (fun u => [yO q 4 [.ref (u 0), .ref (u 1), .ref (u 2)], yI D (u 0) 64 (yF 64 (-1) y0), yI D (u 1) 64 y0, yI D (u 2) 64 y0]) := by
  refine yC_of (by decide) (by simp [lg_sl, Value.category]) (fun X hla hX hM hR => ?_)
  subst hla
  refine Y_loc (l' := [(0, .ref q)]) (by simp [lv_args, Value.category, List.lookup]) ?_
  refine Y_aload_n (i := 0) hX d_Wo_init_0 rfl rfl ?_
  refine Y_oinit hX d_Wo_init_1 (tb0 (List.mem_of_getElem? (i := 129) rfl) rfl) (tb0 (List.mem_of_getElem? (i := 22) rfl) rfl) (tb0 (List.mem_of_getElem? (i := 23) rfl) rfl) (by decide) (Nat.le_of_ble_eq_true rfl) ?_
  refine Y_aload_n (i := 0) hX d_Wo_init_4 rfl rfl ?_
  refine Y_bipush (v := 64) hX d_Wo_init_5 rfl ?_
  refine Y_newI (N := 64) hX d_Wo_init_7 (tb0 (List.mem_of_getElem? (i := 117) rfl) rfl) (by decide) rfl (by decide) (by decide) (by decide) (fun q7 => ?_)
  refine Y_putF (q0 := 0) (k0 := 0) (ws' := [yO q 4 [.ref q7, .null, .null], yI D q7 64 y0]) hX hM d_Wo_init_9 rfl rfl u_Wo (by decide) lk_Wo_9 t_Wo to_Wo n_Wo rfl rfl rfl rfl rfl (Nat.le_of_ble_eq_true rfl) rfl ?_
  refine Y_aload_n (i := 0) hX d_Wo_init_12 rfl rfl ?_
  refine Y_bipush (v := 64) hX d_Wo_init_13 rfl ?_
  refine Y_newI (N := 64) hX d_Wo_init_15 (tb0 (List.mem_of_getElem? (i := 117) rfl) rfl) (by decide) rfl (by decide) (by decide) (by decide) (fun q15 => ?_)
  refine Y_putF (q0 := 0) (k0 := 1) (ws' := [yO q 4 [.ref q7, .ref q15, .null], yI D q7 64 y0, yI D q15 64 y0]) hX hM d_Wo_init_17 rfl rfl u_Wo (by decide) lk_Wo_15 t_Wo to_Wo n_Wo rfl rfl rfl rfl rfl (Nat.le_of_ble_eq_true rfl) rfl ?_
  refine Y_aload_n (i := 0) hX d_Wo_init_20 rfl rfl ?_
  refine Y_bipush (v := 64) hX d_Wo_init_21 rfl ?_
  refine Y_newI (N := 64) hX d_Wo_init_23 (tb0 (List.mem_of_getElem? (i := 117) rfl) rfl) (by decide) rfl (by decide) (by decide) (by decide) (fun q23 => ?_)
  refine Y_putF (q0 := 0) (k0 := 2) (ws' := [yO q 4 [.ref q7, .ref q15, .ref q23], yI D q7 64 y0, yI D q15 64 y0, yI D q23 64 y0]) hX hM d_Wo_init_25 rfl rfl u_Wo (by decide) lk_Wo_18 t_Wo to_Wo n_Wo rfl rfl rfl rfl rfl (Nat.le_of_ble_eq_true rfl) rfl ?_
  refine Y_aload_n (i := 0) hX d_Wo_init_28 rfl rfl ?_
  refine Y_get (q0 := 0) (k0 := 0) hX d_Wo_init_29 rfl rfl u_Wo (by decide) lk_Wo_9 rfl ?_
  refine Y_iconst (v := (-1)) hX d_Wo_init_32 rfl ?_
  refine Y_fill (q := q7) (f := y0) (v := (-1)) (st := []) (wr := [yO q 4 [.ref q7, .ref q15, .ref q23], yI D q15 64 y0, yI D q23 64 y0]) hX d_Wo_init_33 (by decide) lk_fill_Wo ⟨by decide, by decide⟩ (by decide) (by decide) (Nat.le_of_ble_eq_true rfl) [1] [0, 2, 3] rfl rfl (by decide) (by decide) (by decide) ?_
  refine Y_mem (ws' := [yO q 4 [.ref q7, .ref q15, .ref q23], yI D q15 64 y0, yI D q23 64 y0, yI D q7 64 (yF 64 (-1) y0)]) rfl ?_
  refine Y_sub (ws' := [yO q 4 [.ref q7, .ref q15, .ref q23], yI D q7 64 (yF 64 (-1) y0), yI D q15 64 y0, yI D q23 64 y0]) [0, 3, 1, 2] (by decide) rfl ?_
  exact hR (yU [q7, q15, q23]) _ _ d_Wo_init_36

set_option maxRecDepth 100000 in
set_option maxHeartbeats 4000000 in
theorem c_Pl_init {la : Launch} {D : yG} {q : Nat} : yC la D y_Pl_init (Cond.code y_Pl_init prog_5_method_1_code 1 none :: TBL) (zRc 2 14 520) [.ref q] [yO q 3 [.null, .null, .null, .null, .null, .null, .null, .null, .null, .null, .null, .null, .null, .null, .int 0, .int 0]] (fun u => [yO q 3 [.ref (u 0), .ref (u 1), .ref (u 2), .ref (u 3), .ref (u 4), .ref (u 5), .ref (u 6), .ref (u 7), .ref (u 8), .ref (u 9), .ref (u 10), .ref (u 11), .ref (u 12), .ref (u 13), .int 0, .int 1], yZ D (u 0) 16 y0, yI D (u 1) 16 y0, yI D (u 2) 16 y0, yI D (u 3) 16 y0, yI D (u 4) 16 y0, yI D (u 5) 16 (yF 16 (-1) y0), yI D (u 6) 16 (yF 16 (-1) y0), yI D (u 7) 64 (yF 64 (-1) y0), yI D (u 8) 64 (yF 64 (-1) y0), yI D (u 9) 64 (yF 64 (-1) y0), yI D (u 10) 64 y0, yI D (u 11) 64 y0, yZ D (u 12) 64 y0, yI D (u 13) 24 y0]) := by
  refine yC_of (by decide) (by simp [lg_sl, Value.category]) (fun X hla hX hM hR => ?_)
  subst hla
  refine Y_loc (l' := [(0, .ref q)]) (by simp [lv_args, Value.category, List.lookup]) ?_
  refine Y_aload_n (i := 0) hX d_Pl_init_0 rfl rfl ?_
  refine Y_oinit hX d_Pl_init_1 (tb0 (List.mem_of_getElem? (i := 29) rfl) rfl) (tb0 (List.mem_of_getElem? (i := 22) rfl) rfl) (tb0 (List.mem_of_getElem? (i := 23) rfl) rfl) (by decide) (Nat.le_of_ble_eq_true rfl) ?_
  refine Y_aload_n (i := 0) hX d_Pl_init_4 rfl rfl ?_
  refine Y_bipush (v := 16) hX d_Pl_init_5 rfl ?_
  refine Y_newZ (N := 16) hX d_Pl_init_7 (tb0 (List.mem_of_getElem? (i := 116) rfl) rfl) (by decide) rfl (by decide) (by decide) (by decide) (fun q7 => ?_)
  refine Y_putF (q0 := 0) (k0 := 0) (ws' := [yO q 3 [.ref q7, .null, .null, .null, .null, .null, .null, .null, .null, .null, .null, .null, .null, .null, .int 0, .int 0], yZ D q7 16 y0]) hX hM d_Pl_init_9 rfl rfl u_Pl (by decide) lk_Pl_9 t_Pl to_Pl n_Pl rfl rfl rfl rfl rfl (Nat.le_of_ble_eq_true rfl) rfl ?_
  refine Y_aload_n (i := 0) hX d_Pl_init_12 rfl rfl ?_
  refine Y_bipush (v := 16) hX d_Pl_init_13 rfl ?_
  refine Y_newI (N := 16) hX d_Pl_init_15 (tb0 (List.mem_of_getElem? (i := 117) rfl) rfl) (by decide) rfl (by decide) (by decide) (by decide) (fun q15 => ?_)
  refine Y_putF (q0 := 0) (k0 := 1) (ws' := [yO q 3 [.ref q7, .ref q15, .null, .null, .null, .null, .null, .null, .null, .null, .null, .null, .null, .null, .int 0, .int 0], yZ D q7 16 y0, yI D q15 16 y0]) hX hM d_Pl_init_17 rfl rfl u_Pl (by decide) lk_Pl_15 t_Pl to_Pl n_Pl rfl rfl rfl rfl rfl (Nat.le_of_ble_eq_true rfl) rfl ?_
  refine Y_aload_n (i := 0) hX d_Pl_init_20 rfl rfl ?_
  refine Y_bipush (v := 16) hX d_Pl_init_21 rfl ?_
  refine Y_newI (N := 16) hX d_Pl_init_23 (tb0 (List.mem_of_getElem? (i := 117) rfl) rfl) (by decide) rfl (by decide) (by decide) (by decide) (fun q23 => ?_)
  refine Y_putF (q0 := 0) (k0 := 2) (ws' := [yO q 3 [.ref q7, .ref q15, .ref q23, .null, .null, .null, .null, .null, .null, .null, .null, .null, .null, .null, .int 0, .int 0], yZ D q7 16 y0, yI D q15 16 y0, yI D q23 16 y0]) hX hM d_Pl_init_25 rfl rfl u_Pl (by decide) lk_Pl_19 t_Pl to_Pl n_Pl rfl rfl rfl rfl rfl (Nat.le_of_ble_eq_true rfl) rfl ?_
  refine Y_aload_n (i := 0) hX d_Pl_init_28 rfl rfl ?_
  refine Y_bipush (v := 16) hX d_Pl_init_29 rfl ?_
  refine Y_newI (N := 16) hX d_Pl_init_31 (tb0 (List.mem_of_getElem? (i := 117) rfl) rfl) (by decide) rfl (by decide) (by decide) (by decide) (fun q31 => ?_)
  refine Y_putF (q0 := 0) (k0 := 3) (ws' := [yO q 3 [.ref q7, .ref q15, .ref q23, .ref q31, .null, .null, .null, .null, .null, .null, .null, .null, .null, .null, .int 0, .int 0], yZ D q7 16 y0, yI D q15 16 y0, yI D q23 16 y0, yI D q31 16 y0]) hX hM d_Pl_init_33 rfl rfl u_Pl (by decide) lk_Pl_22 t_Pl to_Pl n_Pl rfl rfl rfl rfl rfl (Nat.le_of_ble_eq_true rfl) rfl ?_
  refine Y_aload_n (i := 0) hX d_Pl_init_36 rfl rfl ?_
  refine Y_bipush (v := 16) hX d_Pl_init_37 rfl ?_
  refine Y_newI (N := 16) hX d_Pl_init_39 (tb0 (List.mem_of_getElem? (i := 117) rfl) rfl) (by decide) rfl (by decide) (by decide) (by decide) (fun q39 => ?_)
  refine Y_putF (q0 := 0) (k0 := 4) (ws' := [yO q 3 [.ref q7, .ref q15, .ref q23, .ref q31, .ref q39, .null, .null, .null, .null, .null, .null, .null, .null, .null, .int 0, .int 0], yZ D q7 16 y0, yI D q15 16 y0, yI D q23 16 y0, yI D q31 16 y0, yI D q39 16 y0]) hX hM d_Pl_init_41 rfl rfl u_Pl (by decide) lk_Pl_25 t_Pl to_Pl n_Pl rfl rfl rfl rfl rfl (Nat.le_of_ble_eq_true rfl) rfl ?_
  refine Y_aload_n (i := 0) hX d_Pl_init_44 rfl rfl ?_
  refine Y_bipush (v := 16) hX d_Pl_init_45 rfl ?_
  refine Y_newI (N := 16) hX d_Pl_init_47 (tb0 (List.mem_of_getElem? (i := 117) rfl) rfl) (by decide) rfl (by decide) (by decide) (by decide) (fun q47 => ?_)
  refine Y_putF (q0 := 0) (k0 := 5) (ws' := [yO q 3 [.ref q7, .ref q15, .ref q23, .ref q31, .ref q39, .ref q47, .null, .null, .null, .null, .null, .null, .null, .null, .int 0, .int 0], yZ D q7 16 y0, yI D q15 16 y0, yI D q23 16 y0, yI D q31 16 y0, yI D q39 16 y0, yI D q47 16 y0]) hX hM d_Pl_init_49 rfl rfl u_Pl (by decide) lk_Pl_28 t_Pl to_Pl n_Pl rfl rfl rfl rfl rfl (Nat.le_of_ble_eq_true rfl) rfl ?_
  refine Y_aload_n (i := 0) hX d_Pl_init_52 rfl rfl ?_
  refine Y_bipush (v := 16) hX d_Pl_init_53 rfl ?_
  refine Y_newI (N := 16) hX d_Pl_init_55 (tb0 (List.mem_of_getElem? (i := 117) rfl) rfl) (by decide) rfl (by decide) (by decide) (by decide) (fun q55 => ?_)
  refine Y_putF (q0 := 0) (k0 := 6) (ws' := [yO q 3 [.ref q7, .ref q15, .ref q23, .ref q31, .ref q39, .ref q47, .ref q55, .null, .null, .null, .null, .null, .null, .null, .int 0, .int 0], yZ D q7 16 y0, yI D q15 16 y0, yI D q23 16 y0, yI D q31 16 y0, yI D q39 16 y0, yI D q47 16 y0, yI D q55 16 y0]) hX hM d_Pl_init_57 rfl rfl u_Pl (by decide) lk_Pl_31 t_Pl to_Pl n_Pl rfl rfl rfl rfl rfl (Nat.le_of_ble_eq_true rfl) rfl ?_
  refine Y_aload_n (i := 0) hX d_Pl_init_60 rfl rfl ?_
  refine Y_bipush (v := 64) hX d_Pl_init_61 rfl ?_
  refine Y_newI (N := 64) hX d_Pl_init_63 (tb0 (List.mem_of_getElem? (i := 117) rfl) rfl) (by decide) rfl (by decide) (by decide) (by decide) (fun q63 => ?_)
  refine Y_putF (q0 := 0) (k0 := 7) (ws' := [yO q 3 [.ref q7, .ref q15, .ref q23, .ref q31, .ref q39, .ref q47, .ref q55, .ref q63, .null, .null, .null, .null, .null, .null, .int 0, .int 0], yZ D q7 16 y0, yI D q15 16 y0, yI D q23 16 y0, yI D q31 16 y0, yI D q39 16 y0, yI D q47 16 y0, yI D q55 16 y0, yI D q63 64 y0]) hX hM d_Pl_init_65 rfl rfl u_Pl (by decide) lk_Pl_34 t_Pl to_Pl n_Pl rfl rfl rfl rfl rfl (Nat.le_of_ble_eq_true rfl) rfl ?_
  refine Y_aload_n (i := 0) hX d_Pl_init_68 rfl rfl ?_
  refine Y_bipush (v := 64) hX d_Pl_init_69 rfl ?_
  refine Y_newI (N := 64) hX d_Pl_init_71 (tb0 (List.mem_of_getElem? (i := 117) rfl) rfl) (by decide) rfl (by decide) (by decide) (by decide) (fun q71 => ?_)
  refine Y_putF (q0 := 0) (k0 := 8) (ws' := [yO q 3 [.ref q7, .ref q15, .ref q23, .ref q31, .ref q39, .ref q47, .ref q55, .ref q63, .ref q71, .null, .null, .null, .null, .null, .int 0, .int 0], yZ D q7 16 y0, yI D q15 16 y0, yI D q23 16 y0, yI D q31 16 y0, yI D q39 16 y0, yI D q47 16 y0, yI D q55 16 y0, yI D q63 64 y0, yI D q71 64 y0]) hX hM d_Pl_init_73 rfl rfl u_Pl (by decide) lk_Pl_37 t_Pl to_Pl n_Pl rfl rfl rfl rfl rfl (Nat.le_of_ble_eq_true rfl) rfl ?_
  refine Y_aload_n (i := 0) hX d_Pl_init_76 rfl rfl ?_
  refine Y_bipush (v := 64) hX d_Pl_init_77 rfl ?_
  refine Y_newI (N := 64) hX d_Pl_init_79 (tb0 (List.mem_of_getElem? (i := 117) rfl) rfl) (by decide) rfl (by decide) (by decide) (by decide) (fun q79 => ?_)
  refine Y_putF (q0 := 0) (k0 := 9) (ws' := [yO q 3 [.ref q7, .ref q15, .ref q23, .ref q31, .ref q39, .ref q47, .ref q55, .ref q63, .ref q71, .ref q79, .null, .null, .null, .null, .int 0, .int 0], yZ D q7 16 y0, yI D q15 16 y0, yI D q23 16 y0, yI D q31 16 y0, yI D q39 16 y0, yI D q47 16 y0, yI D q55 16 y0, yI D q63 64 y0, yI D q71 64 y0, yI D q79 64 y0]) hX hM d_Pl_init_81 rfl rfl u_Pl (by decide) lk_Pl_40 t_Pl to_Pl n_Pl rfl rfl rfl rfl rfl (Nat.le_of_ble_eq_true rfl) rfl ?_
  refine Y_aload_n (i := 0) hX d_Pl_init_84 rfl rfl ?_
  refine Y_bipush (v := 64) hX d_Pl_init_85 rfl ?_
  refine Y_newI (N := 64) hX d_Pl_init_87 (tb0 (List.mem_of_getElem? (i := 117) rfl) rfl) (by decide) rfl (by decide) (by decide) (by decide) (fun q87 => ?_)
  refine Y_putF (q0 := 0) (k0 := 10) (ws' := [yO q 3 [.ref q7, .ref q15, .ref q23, .ref q31, .ref q39, .ref q47, .ref q55, .ref q63, .ref q71, .ref q79, .ref q87, .null, .null, .null, .int 0, .int 0], yZ D q7 16 y0, yI D q15 16 y0, yI D q23 16 y0, yI D q31 16 y0, yI D q39 16 y0, yI D q47 16 y0, yI D q55 16 y0, yI D q63 64 y0, yI D q71 64 y0, yI D q79 64 y0, yI D q87 64 y0]) hX hM d_Pl_init_89 rfl rfl u_Pl (by decide) lk_Pl_43 t_Pl to_Pl n_Pl rfl rfl rfl rfl rfl (Nat.le_of_ble_eq_true rfl) rfl ?_
  refine Y_aload_n (i := 0) hX d_Pl_init_92 rfl rfl ?_
  refine Y_bipush (v := 64) hX d_Pl_init_93 rfl ?_
  refine Y_newI (N := 64) hX d_Pl_init_95 (tb0 (List.mem_of_getElem? (i := 117) rfl) rfl) (by decide) rfl (by decide) (by decide) (by decide) (fun q95 => ?_)
  refine Y_putF (q0 := 0) (k0 := 11) (ws' := [yO q 3 [.ref q7, .ref q15, .ref q23, .ref q31, .ref q39, .ref q47, .ref q55, .ref q63, .ref q71, .ref q79, .ref q87, .ref q95, .null, .null, .int 0, .int 0], yZ D q7 16 y0, yI D q15 16 y0, yI D q23 16 y0, yI D q31 16 y0, yI D q39 16 y0, yI D q47 16 y0, yI D q55 16 y0, yI D q63 64 y0, yI D q71 64 y0, yI D q79 64 y0, yI D q87 64 y0, yI D q95 64 y0]) hX hM d_Pl_init_97 rfl rfl u_Pl (by decide) lk_Pl_46 t_Pl to_Pl n_Pl rfl rfl rfl rfl rfl (Nat.le_of_ble_eq_true rfl) rfl ?_
  refine Y_aload_n (i := 0) hX d_Pl_init_100 rfl rfl ?_
  refine Y_bipush (v := 64) hX d_Pl_init_101 rfl ?_
  refine Y_newZ (N := 64) hX d_Pl_init_103 (tb0 (List.mem_of_getElem? (i := 116) rfl) rfl) (by decide) rfl (by decide) (by decide) (by decide) (fun q103 => ?_)
  refine Y_putF (q0 := 0) (k0 := 12) (ws' := [yO q 3 [.ref q7, .ref q15, .ref q23, .ref q31, .ref q39, .ref q47, .ref q55, .ref q63, .ref q71, .ref q79, .ref q87, .ref q95, .ref q103, .null, .int 0, .int 0], yZ D q7 16 y0, yI D q15 16 y0, yI D q23 16 y0, yI D q31 16 y0, yI D q39 16 y0, yI D q47 16 y0, yI D q55 16 y0, yI D q63 64 y0, yI D q71 64 y0, yI D q79 64 y0, yI D q87 64 y0, yI D q95 64 y0, yZ D q103 64 y0]) hX hM d_Pl_init_105 rfl rfl u_Pl (by decide) lk_Pl_49 t_Pl to_Pl n_Pl rfl rfl rfl rfl rfl (Nat.le_of_ble_eq_true rfl) rfl ?_
  refine Y_aload_n (i := 0) hX d_Pl_init_108 rfl rfl ?_
  refine Y_bipush (v := 24) hX d_Pl_init_109 rfl ?_
  refine Y_newI (N := 24) hX d_Pl_init_111 (tb0 (List.mem_of_getElem? (i := 117) rfl) rfl) (by decide) rfl (by decide) (by decide) (by decide) (fun q111 => ?_)
  refine Y_putF (q0 := 0) (k0 := 13) (ws' := [yO q 3 [.ref q7, .ref q15, .ref q23, .ref q31, .ref q39, .ref q47, .ref q55, .ref q63, .ref q71, .ref q79, .ref q87, .ref q95, .ref q103, .ref q111, .int 0, .int 0], yZ D q7 16 y0, yI D q15 16 y0, yI D q23 16 y0, yI D q31 16 y0, yI D q39 16 y0, yI D q47 16 y0, yI D q55 16 y0, yI D q63 64 y0, yI D q71 64 y0, yI D q79 64 y0, yI D q87 64 y0, yI D q95 64 y0, yZ D q103 64 y0, yI D q111 24 y0]) hX hM d_Pl_init_113 rfl rfl u_Pl (by decide) lk_Pl_52 t_Pl to_Pl n_Pl rfl rfl rfl rfl rfl (Nat.le_of_ble_eq_true rfl) rfl ?_
  refine Y_aload_n (i := 0) hX d_Pl_init_116 rfl rfl ?_
  refine Y_iconst (v := 0) hX d_Pl_init_117 rfl ?_
  refine Y_put (q0 := 0) (k0 := 14) (ws' := [yO q 3 [.ref q7, .ref q15, .ref q23, .ref q31, .ref q39, .ref q47, .ref q55, .ref q63, .ref q71, .ref q79, .ref q87, .ref q95, .ref q103, .ref q111, .int 0, .int 0], yZ D q7 16 y0, yI D q15 16 y0, yI D q23 16 y0, yI D q31 16 y0, yI D q39 16 y0, yI D q47 16 y0, yI D q55 16 y0, yI D q63 64 y0, yI D q71 64 y0, yI D q79 64 y0, yI D q87 64 y0, yI D q95 64 y0, yZ D q103 64 y0, yI D q111 24 y0]) hX d_Pl_init_118 rfl rfl u_Pl (by decide) lk_Pl_55 t_Pl to_Pl n_Pl rfl rfl rfl rfl (Nat.le_of_ble_eq_true rfl) rfl ?_
  refine Y_aload_n (i := 0) hX d_Pl_init_121 rfl rfl ?_
  refine Y_iconst (v := 1) hX d_Pl_init_122 rfl ?_
  refine Y_put (q0 := 0) (k0 := 15) (ws' := [yO q 3 [.ref q7, .ref q15, .ref q23, .ref q31, .ref q39, .ref q47, .ref q55, .ref q63, .ref q71, .ref q79, .ref q87, .ref q95, .ref q103, .ref q111, .int 0, .int 1], yZ D q7 16 y0, yI D q15 16 y0, yI D q23 16 y0, yI D q31 16 y0, yI D q39 16 y0, yI D q47 16 y0, yI D q55 16 y0, yI D q63 64 y0, yI D q71 64 y0, yI D q79 64 y0, yI D q87 64 y0, yI D q95 64 y0, yZ D q103 64 y0, yI D q111 24 y0]) hX d_Pl_init_123 rfl rfl u_Pl (by decide) lk_Pl_59 t_Pl to_Pl n_Pl rfl rfl rfl rfl (Nat.le_of_ble_eq_true rfl) rfl ?_
  refine Y_aload_n (i := 0) hX d_Pl_init_126 rfl rfl ?_
  refine Y_get (q0 := 0) (k0 := 5) hX d_Pl_init_127 rfl rfl u_Pl (by decide) lk_Pl_28 rfl ?_
  refine Y_iconst (v := (-1)) hX d_Pl_init_130 rfl ?_
  refine Y_fill (q := q47) (f := y0) (v := (-1)) (st := []) (wr := [yO q 3 [.ref q7, .ref q15, .ref q23, .ref q31, .ref q39, .ref q47, .ref q55, .ref q63, .ref q71, .ref q79, .ref q87, .ref q95, .ref q103, .ref q111, .int 0, .int 1], yZ D q7 16 y0, yI D q15 16 y0, yI D q23 16 y0, yI D q31 16 y0, yI D q39 16 y0, yI D q55 16 y0, yI D q63 64 y0, yI D q71 64 y0, yI D q79 64 y0, yI D q87 64 y0, yI D q95 64 y0, yZ D q103 64 y0, yI D q111 24 y0]) hX d_Pl_init_131 (by decide) lk_fill_Pl ⟨by decide, by decide⟩ (by decide) (by decide) (Nat.le_of_ble_eq_true rfl) [6] [0, 1, 2, 3, 4, 5, 7, 8, 9, 10, 11, 12, 13, 14] rfl rfl (by decide) (by decide) (by decide) ?_
  refine Y_mem (ws' := [yO q 3 [.ref q7, .ref q15, .ref q23, .ref q31, .ref q39, .ref q47, .ref q55, .ref q63, .ref q71, .ref q79, .ref q87, .ref q95, .ref q103, .ref q111, .int 0, .int 1], yZ D q7 16 y0, yI D q15 16 y0, yI D q23 16 y0, yI D q31 16 y0, yI D q39 16 y0, yI D q55 16 y0, yI D q63 64 y0, yI D q71 64 y0, yI D q79 64 y0, yI D q87 64 y0, yI D q95 64 y0, yZ D q103 64 y0, yI D q111 24 y0, yI D q47 16 (yF 16 (-1) y0)]) rfl ?_
  refine Y_aload_n (i := 0) hX d_Pl_init_134 rfl rfl ?_
  refine Y_get (q0 := 0) (k0 := 6) hX d_Pl_init_135 rfl rfl u_Pl (by decide) lk_Pl_31 rfl ?_
  refine Y_iconst (v := (-1)) hX d_Pl_init_138 rfl ?_
  refine Y_fill (q := q55) (f := y0) (v := (-1)) (st := []) (wr := [yO q 3 [.ref q7, .ref q15, .ref q23, .ref q31, .ref q39, .ref q47, .ref q55, .ref q63, .ref q71, .ref q79, .ref q87, .ref q95, .ref q103, .ref q111, .int 0, .int 1], yZ D q7 16 y0, yI D q15 16 y0, yI D q23 16 y0, yI D q31 16 y0, yI D q39 16 y0, yI D q63 64 y0, yI D q71 64 y0, yI D q79 64 y0, yI D q87 64 y0, yI D q95 64 y0, yZ D q103 64 y0, yI D q111 24 y0, yI D q47 16 (yF 16 (-1) y0)]) hX d_Pl_init_139 (by decide) lk_fill_Pl ⟨by decide, by decide⟩ (by decide) (by decide) (Nat.le_of_ble_eq_true rfl) [6] [0, 1, 2, 3, 4, 5, 7, 8, 9, 10, 11, 12, 13, 14] rfl rfl (by decide) (by decide) (by decide) ?_
  refine Y_mem (ws' := [yO q 3 [.ref q7, .ref q15, .ref q23, .ref q31, .ref q39, .ref q47, .ref q55, .ref q63, .ref q71, .ref q79, .ref q87, .ref q95, .ref q103, .ref q111, .int 0, .int 1], yZ D q7 16 y0, yI D q15 16 y0, yI D q23 16 y0, yI D q31 16 y0, yI D q39 16 y0, yI D q63 64 y0, yI D q71 64 y0, yI D q79 64 y0, yI D q87 64 y0, yI D q95 64 y0, yZ D q103 64 y0, yI D q111 24 y0, yI D q47 16 (yF 16 (-1) y0), yI D q55 16 (yF 16 (-1) y0)]) rfl ?_
  refine Y_aload_n (i := 0) hX d_Pl_init_142 rfl rfl ?_
  refine Y_get (q0 := 0) (k0 := 7) hX d_Pl_init_143 rfl rfl u_Pl (by decide) lk_Pl_34 rfl ?_
  refine Y_iconst (v := (-1)) hX d_Pl_init_146 rfl ?_
  refine Y_fill (q := q63) (f := y0) (v := (-1)) (st := []) (wr := [yO q 3 [.ref q7, .ref q15, .ref q23, .ref q31, .ref q39, .ref q47, .ref q55, .ref q63, .ref q71, .ref q79, .ref q87, .ref q95, .ref q103, .ref q111, .int 0, .int 1], yZ D q7 16 y0, yI D q15 16 y0, yI D q23 16 y0, yI D q31 16 y0, yI D q39 16 y0, yI D q71 64 y0, yI D q79 64 y0, yI D q87 64 y0, yI D q95 64 y0, yZ D q103 64 y0, yI D q111 24 y0, yI D q47 16 (yF 16 (-1) y0), yI D q55 16 (yF 16 (-1) y0)]) hX d_Pl_init_147 (by decide) lk_fill_Pl ⟨by decide, by decide⟩ (by decide) (by decide) (Nat.le_of_ble_eq_true rfl) [6] [0, 1, 2, 3, 4, 5, 7, 8, 9, 10, 11, 12, 13, 14] rfl rfl (by decide) (by decide) (by decide) ?_
  refine Y_mem (ws' := [yO q 3 [.ref q7, .ref q15, .ref q23, .ref q31, .ref q39, .ref q47, .ref q55, .ref q63, .ref q71, .ref q79, .ref q87, .ref q95, .ref q103, .ref q111, .int 0, .int 1], yZ D q7 16 y0, yI D q15 16 y0, yI D q23 16 y0, yI D q31 16 y0, yI D q39 16 y0, yI D q71 64 y0, yI D q79 64 y0, yI D q87 64 y0, yI D q95 64 y0, yZ D q103 64 y0, yI D q111 24 y0, yI D q47 16 (yF 16 (-1) y0), yI D q55 16 (yF 16 (-1) y0), yI D q63 64 (yF 64 (-1) y0)]) rfl ?_
  refine Y_aload_n (i := 0) hX d_Pl_init_150 rfl rfl ?_
  refine Y_get (q0 := 0) (k0 := 8) hX d_Pl_init_151 rfl rfl u_Pl (by decide) lk_Pl_37 rfl ?_
  refine Y_iconst (v := (-1)) hX d_Pl_init_154 rfl ?_
  refine Y_fill (q := q71) (f := y0) (v := (-1)) (st := []) (wr := [yO q 3 [.ref q7, .ref q15, .ref q23, .ref q31, .ref q39, .ref q47, .ref q55, .ref q63, .ref q71, .ref q79, .ref q87, .ref q95, .ref q103, .ref q111, .int 0, .int 1], yZ D q7 16 y0, yI D q15 16 y0, yI D q23 16 y0, yI D q31 16 y0, yI D q39 16 y0, yI D q79 64 y0, yI D q87 64 y0, yI D q95 64 y0, yZ D q103 64 y0, yI D q111 24 y0, yI D q47 16 (yF 16 (-1) y0), yI D q55 16 (yF 16 (-1) y0), yI D q63 64 (yF 64 (-1) y0)]) hX d_Pl_init_155 (by decide) lk_fill_Pl ⟨by decide, by decide⟩ (by decide) (by decide) (Nat.le_of_ble_eq_true rfl) [6] [0, 1, 2, 3, 4, 5, 7, 8, 9, 10, 11, 12, 13, 14] rfl rfl (by decide) (by decide) (by decide) ?_
  refine Y_mem (ws' := [yO q 3 [.ref q7, .ref q15, .ref q23, .ref q31, .ref q39, .ref q47, .ref q55, .ref q63, .ref q71, .ref q79, .ref q87, .ref q95, .ref q103, .ref q111, .int 0, .int 1], yZ D q7 16 y0, yI D q15 16 y0, yI D q23 16 y0, yI D q31 16 y0, yI D q39 16 y0, yI D q79 64 y0, yI D q87 64 y0, yI D q95 64 y0, yZ D q103 64 y0, yI D q111 24 y0, yI D q47 16 (yF 16 (-1) y0), yI D q55 16 (yF 16 (-1) y0), yI D q63 64 (yF 64 (-1) y0), yI D q71 64 (yF 64 (-1) y0)]) rfl ?_
  refine Y_aload_n (i := 0) hX d_Pl_init_158 rfl rfl ?_
  refine Y_get (q0 := 0) (k0 := 9) hX d_Pl_init_159 rfl rfl u_Pl (by decide) lk_Pl_40 rfl ?_
  refine Y_iconst (v := (-1)) hX d_Pl_init_162 rfl ?_
  refine Y_fill (q := q79) (f := y0) (v := (-1)) (st := []) (wr := [yO q 3 [.ref q7, .ref q15, .ref q23, .ref q31, .ref q39, .ref q47, .ref q55, .ref q63, .ref q71, .ref q79, .ref q87, .ref q95, .ref q103, .ref q111, .int 0, .int 1], yZ D q7 16 y0, yI D q15 16 y0, yI D q23 16 y0, yI D q31 16 y0, yI D q39 16 y0, yI D q87 64 y0, yI D q95 64 y0, yZ D q103 64 y0, yI D q111 24 y0, yI D q47 16 (yF 16 (-1) y0), yI D q55 16 (yF 16 (-1) y0), yI D q63 64 (yF 64 (-1) y0), yI D q71 64 (yF 64 (-1) y0)]) hX d_Pl_init_163 (by decide) lk_fill_Pl ⟨by decide, by decide⟩ (by decide) (by decide) (Nat.le_of_ble_eq_true rfl) [6] [0, 1, 2, 3, 4, 5, 7, 8, 9, 10, 11, 12, 13, 14] rfl rfl (by decide) (by decide) (by decide) ?_
  refine Y_mem (ws' := [yO q 3 [.ref q7, .ref q15, .ref q23, .ref q31, .ref q39, .ref q47, .ref q55, .ref q63, .ref q71, .ref q79, .ref q87, .ref q95, .ref q103, .ref q111, .int 0, .int 1], yZ D q7 16 y0, yI D q15 16 y0, yI D q23 16 y0, yI D q31 16 y0, yI D q39 16 y0, yI D q87 64 y0, yI D q95 64 y0, yZ D q103 64 y0, yI D q111 24 y0, yI D q47 16 (yF 16 (-1) y0), yI D q55 16 (yF 16 (-1) y0), yI D q63 64 (yF 64 (-1) y0), yI D q71 64 (yF 64 (-1) y0), yI D q79 64 (yF 64 (-1) y0)]) rfl ?_
  refine Y_sub (ws' := [yO q 3 [.ref q7, .ref q15, .ref q23, .ref q31, .ref q39, .ref q47, .ref q55, .ref q63, .ref q71, .ref q79, .ref q87, .ref q95, .ref q103, .ref q111, .int 0, .int 1], yZ D q7 16 y0, yI D q15 16 y0, yI D q23 16 y0, yI D q31 16 y0, yI D q39 16 y0, yI D q47 16 (yF 16 (-1) y0), yI D q55 16 (yF 16 (-1) y0), yI D q63 64 (yF 64 (-1) y0), yI D q71 64 (yF 64 (-1) y0), yI D q79 64 (yF 64 (-1) y0), yI D q87 64 y0, yI D q95 64 y0, yZ D q103 64 y0, yI D q111 24 y0]) [0, 1, 2, 3, 4, 5, 10, 11, 12, 13, 14, 6, 7, 8, 9] (by decide) rfl ?_
  exact hR (yU [q7, q15, q23, q31, q39, q47, q55, q63, q71, q79, q87, q95, q103, q111]) _ _ d_Pl_init_166

set_option maxRecDepth 100000 in
set_option maxHeartbeats 4000000 in
theorem c_Fl_init {la : Launch} {D : yG} {q r : Nat} : yC la D y_Fl_init (Cond.code y_Fl_init prog_4_method_1_code 2 none :: TBL) (zRc 3 18 777) [.ref q, .ref r] [yO q 2 [.null, .null, .null, .null, .null, .null, .null, .null, .null, .null, .int 0, .int 0, .int 0, .long 0, .int 0]] (fun u => [yO q 2 [.ref r, .ref (u 0), .ref (u 4), .ref (u 8), .ref (u 12), .ref (u 13), .ref (u 14), .ref (u 15), .ref (u 16), .ref (u 17), .int 0, .int 0, .int 0, .long 0, .int 0], yO (u 0) 4 [.ref (u 1), .ref (u 2), .ref (u 3)], yI D (u 1) 64 (yF 64 (-1) y0), yI D (u 2) 64 y0, yI D (u 3) 64 y0, yO (u 4) 4 [.ref (u 5), .ref (u 6), .ref (u 7)], yI D (u 5) 64 (yF 64 (-1) y0), yI D (u 6) 64 y0, yI D (u 7) 64 y0, yO (u 8) 4 [.ref (u 9), .ref (u 10), .ref (u 11)], yI D (u 9) 64 (yF 64 (-1) y0), yI D (u 10) 64 y0, yI D (u 11) 64 y0, yI D (u 12) 64 (yF 64 3 y0), yI D (u 13) 64 y0, yI D (u 14) 16 y0, yI D (u 15) 16 (yF 16 (-1) y0), yI D (u 16) 16 (yF 16 (-1) y0), yI D (u 17) 16 (yF 16 (-1) y0)]) := by
  refine yC_of (by decide) (by simp [lg_sl, Value.category]) (fun X hla hX hM hR => ?_)
  subst hla
  refine Y_loc (l' := [(0, .ref q), (1, .ref r)]) (by simp [lv_args, Value.category, List.lookup]) ?_
  refine Y_aload_n (i := 0) hX d_Fl_init_0 rfl rfl ?_
  refine Y_oinit hX d_Fl_init_1 (tb0 (List.mem_of_getElem? (i := 123) rfl) rfl) (tb0 (List.mem_of_getElem? (i := 22) rfl) rfl) (tb0 (List.mem_of_getElem? (i := 23) rfl) rfl) (by decide) (Nat.le_of_ble_eq_true rfl) ?_
  refine Y_aload_n (i := 0) hX d_Fl_init_4 rfl rfl ?_
  refine Y_new (ci := 4) (fs := [.null, .null, .null]) hX d_Fl_init_5 u_Wo t_Wo to_Wo (tb0 (List.mem_of_getElem? (i := 124) rfl) rfl) (tb0 (List.mem_of_getElem? (i := 125) rfl) rfl) (tb0 (List.mem_of_getElem? (i := 5) rfl) rfl) rfl (by decide) (by decide) (by decide) (fun q5 => ?_)
  refine Y_dup hX d_Fl_init_8 rfl ?_
  refine Y_cI (As := []) (st := [.ref q5, .ref q]) (wr := [yO q 2 [.null, .null, .null, .null, .null, .null, .null, .null, .null, .null, .int 0, .int 0, .int 0, .long 0, .int 0]]) hX d_Fl_init_9 c_Wo_init mi_Wo rfl lk_Fl_11 ⟨by decide, by decide⟩ ⟨by decide, by decide⟩ (Nat.le_of_ble_eq_true rfl) [1] [0] rfl rfl (by decide) (by decide) (by decide) (fun u9 => ?_)
  refine Y_mem (ws' := [yO q 2 [.null, .null, .null, .null, .null, .null, .null, .null, .null, .null, .int 0, .int 0, .int 0, .long 0, .int 0], yO q5 4 [.ref (u9 0), .ref (u9 1), .ref (u9 2)], yI D (u9 0) 64 (yF 64 (-1) y0), yI D (u9 1) 64 y0, yI D (u9 2) 64 y0]) rfl ?_
  refine Y_putF (q0 := 0) (k0 := 1) (ws' := [yO q 2 [.null, .ref q5, .null, .null, .null, .null, .null, .null, .null, .null, .int 0, .int 0, .int 0, .long 0, .int 0], yO q5 4 [.ref (u9 0), .ref (u9 1), .ref (u9 2)], yI D (u9 0) 64 (yF 64 (-1) y0), yI D (u9 1) 64 y0, yI D (u9 2) 64 y0]) hX hM d_Fl_init_12 rfl rfl u_Fl (by decide) lk_Fl_12 t_Fl to_Fl n_Fl rfl rfl rfl rfl rfl (Nat.le_of_ble_eq_true rfl) rfl ?_
  refine Y_aload_n (i := 0) hX d_Fl_init_15 rfl rfl ?_
  refine Y_new (ci := 4) (fs := [.null, .null, .null]) hX d_Fl_init_16 u_Wo t_Wo to_Wo (tb0 (List.mem_of_getElem? (i := 124) rfl) rfl) (tb0 (List.mem_of_getElem? (i := 125) rfl) rfl) (tb0 (List.mem_of_getElem? (i := 5) rfl) rfl) rfl (by decide) (by decide) (by decide) (fun q16 => ?_)
  refine Y_dup hX d_Fl_init_19 rfl ?_
  refine Y_cI (As := []) (st := [.ref q16, .ref q]) (wr := [yO q 2 [.null, .ref q5, .null, .null, .null, .null, .null, .null, .null, .null, .int 0, .int 0, .int 0, .long 0, .int 0], yO q5 4 [.ref (u9 0), .ref (u9 1), .ref (u9 2)], yI D (u9 0) 64 (yF 64 (-1) y0), yI D (u9 1) 64 y0, yI D (u9 2) 64 y0]) hX d_Fl_init_20 c_Wo_init mi_Wo rfl lk_Fl_11 ⟨by decide, by decide⟩ ⟨by decide, by decide⟩ (Nat.le_of_ble_eq_true rfl) [5] [0, 1, 2, 3, 4] rfl rfl (by decide) (by decide) (by decide) (fun u20 => ?_)
  refine Y_mem (ws' := [yO q 2 [.null, .ref q5, .null, .null, .null, .null, .null, .null, .null, .null, .int 0, .int 0, .int 0, .long 0, .int 0], yO q5 4 [.ref (u9 0), .ref (u9 1), .ref (u9 2)], yI D (u9 0) 64 (yF 64 (-1) y0), yI D (u9 1) 64 y0, yI D (u9 2) 64 y0, yO q16 4 [.ref (u20 0), .ref (u20 1), .ref (u20 2)], yI D (u20 0) 64 (yF 64 (-1) y0), yI D (u20 1) 64 y0, yI D (u20 2) 64 y0]) rfl ?_
  refine Y_putF (q0 := 0) (k0 := 2) (ws' := [yO q 2 [.null, .ref q5, .ref q16, .null, .null, .null, .null, .null, .null, .null, .int 0, .int 0, .int 0, .long 0, .int 0], yO q5 4 [.ref (u9 0), .ref (u9 1), .ref (u9 2)], yI D (u9 0) 64 (yF 64 (-1) y0), yI D (u9 1) 64 y0, yI D (u9 2) 64 y0, yO q16 4 [.ref (u20 0), .ref (u20 1), .ref (u20 2)], yI D (u20 0) 64 (yF 64 (-1) y0), yI D (u20 1) 64 y0, yI D (u20 2) 64 y0]) hX hM d_Fl_init_23 rfl rfl u_Fl (by decide) lk_Fl_18 t_Fl to_Fl n_Fl rfl rfl rfl rfl rfl (Nat.le_of_ble_eq_true rfl) rfl ?_
  refine Y_aload_n (i := 0) hX d_Fl_init_26 rfl rfl ?_
  refine Y_new (ci := 4) (fs := [.null, .null, .null]) hX d_Fl_init_27 u_Wo t_Wo to_Wo (tb0 (List.mem_of_getElem? (i := 124) rfl) rfl) (tb0 (List.mem_of_getElem? (i := 125) rfl) rfl) (tb0 (List.mem_of_getElem? (i := 5) rfl) rfl) rfl (by decide) (by decide) (by decide) (fun q27 => ?_)
  refine Y_dup hX d_Fl_init_30 rfl ?_
  refine Y_cI (As := []) (st := [.ref q27, .ref q]) (wr := [yO q 2 [.null, .ref q5, .ref q16, .null, .null, .null, .null, .null, .null, .null, .int 0, .int 0, .int 0, .long 0, .int 0], yO q5 4 [.ref (u9 0), .ref (u9 1), .ref (u9 2)], yI D (u9 0) 64 (yF 64 (-1) y0), yI D (u9 1) 64 y0, yI D (u9 2) 64 y0, yO q16 4 [.ref (u20 0), .ref (u20 1), .ref (u20 2)], yI D (u20 0) 64 (yF 64 (-1) y0), yI D (u20 1) 64 y0, yI D (u20 2) 64 y0]) hX d_Fl_init_31 c_Wo_init mi_Wo rfl lk_Fl_11 ⟨by decide, by decide⟩ ⟨by decide, by decide⟩ (Nat.le_of_ble_eq_true rfl) [9] [0, 1, 2, 3, 4, 5, 6, 7, 8] rfl rfl (by decide) (by decide) (by decide) (fun u31 => ?_)
  refine Y_mem (ws' := [yO q 2 [.null, .ref q5, .ref q16, .null, .null, .null, .null, .null, .null, .null, .int 0, .int 0, .int 0, .long 0, .int 0], yO q5 4 [.ref (u9 0), .ref (u9 1), .ref (u9 2)], yI D (u9 0) 64 (yF 64 (-1) y0), yI D (u9 1) 64 y0, yI D (u9 2) 64 y0, yO q16 4 [.ref (u20 0), .ref (u20 1), .ref (u20 2)], yI D (u20 0) 64 (yF 64 (-1) y0), yI D (u20 1) 64 y0, yI D (u20 2) 64 y0, yO q27 4 [.ref (u31 0), .ref (u31 1), .ref (u31 2)], yI D (u31 0) 64 (yF 64 (-1) y0), yI D (u31 1) 64 y0, yI D (u31 2) 64 y0]) rfl ?_
  refine Y_putF (q0 := 0) (k0 := 3) (ws' := [yO q 2 [.null, .ref q5, .ref q16, .ref q27, .null, .null, .null, .null, .null, .null, .int 0, .int 0, .int 0, .long 0, .int 0], yO q5 4 [.ref (u9 0), .ref (u9 1), .ref (u9 2)], yI D (u9 0) 64 (yF 64 (-1) y0), yI D (u9 1) 64 y0, yI D (u9 2) 64 y0, yO q16 4 [.ref (u20 0), .ref (u20 1), .ref (u20 2)], yI D (u20 0) 64 (yF 64 (-1) y0), yI D (u20 1) 64 y0, yI D (u20 2) 64 y0, yO q27 4 [.ref (u31 0), .ref (u31 1), .ref (u31 2)], yI D (u31 0) 64 (yF 64 (-1) y0), yI D (u31 1) 64 y0, yI D (u31 2) 64 y0]) hX hM d_Fl_init_34 rfl rfl u_Fl (by decide) lk_Fl_21 t_Fl to_Fl n_Fl rfl rfl rfl rfl rfl (Nat.le_of_ble_eq_true rfl) rfl ?_
  refine Y_aload_n (i := 0) hX d_Fl_init_37 rfl rfl ?_
  refine Y_bipush (v := 64) hX d_Fl_init_38 rfl ?_
  refine Y_newI (N := 64) hX d_Fl_init_40 (tb0 (List.mem_of_getElem? (i := 117) rfl) rfl) (by decide) rfl (by decide) (by decide) (by decide) (fun q40 => ?_)
  refine Y_putF (q0 := 0) (k0 := 4) (ws' := [yO q 2 [.null, .ref q5, .ref q16, .ref q27, .ref q40, .null, .null, .null, .null, .null, .int 0, .int 0, .int 0, .long 0, .int 0], yO q5 4 [.ref (u9 0), .ref (u9 1), .ref (u9 2)], yI D (u9 0) 64 (yF 64 (-1) y0), yI D (u9 1) 64 y0, yI D (u9 2) 64 y0, yO q16 4 [.ref (u20 0), .ref (u20 1), .ref (u20 2)], yI D (u20 0) 64 (yF 64 (-1) y0), yI D (u20 1) 64 y0, yI D (u20 2) 64 y0, yO q27 4 [.ref (u31 0), .ref (u31 1), .ref (u31 2)], yI D (u31 0) 64 (yF 64 (-1) y0), yI D (u31 1) 64 y0, yI D (u31 2) 64 y0, yI D q40 64 y0]) hX hM d_Fl_init_42 rfl rfl u_Fl (by decide) lk_Fl_24 t_Fl to_Fl n_Fl rfl rfl rfl rfl rfl (Nat.le_of_ble_eq_true rfl) rfl ?_
  refine Y_aload_n (i := 0) hX d_Fl_init_45 rfl rfl ?_
  refine Y_bipush (v := 64) hX d_Fl_init_46 rfl ?_
  refine Y_newI (N := 64) hX d_Fl_init_48 (tb0 (List.mem_of_getElem? (i := 117) rfl) rfl) (by decide) rfl (by decide) (by decide) (by decide) (fun q48 => ?_)
  refine Y_putF (q0 := 0) (k0 := 5) (ws' := [yO q 2 [.null, .ref q5, .ref q16, .ref q27, .ref q40, .ref q48, .null, .null, .null, .null, .int 0, .int 0, .int 0, .long 0, .int 0], yO q5 4 [.ref (u9 0), .ref (u9 1), .ref (u9 2)], yI D (u9 0) 64 (yF 64 (-1) y0), yI D (u9 1) 64 y0, yI D (u9 2) 64 y0, yO q16 4 [.ref (u20 0), .ref (u20 1), .ref (u20 2)], yI D (u20 0) 64 (yF 64 (-1) y0), yI D (u20 1) 64 y0, yI D (u20 2) 64 y0, yO q27 4 [.ref (u31 0), .ref (u31 1), .ref (u31 2)], yI D (u31 0) 64 (yF 64 (-1) y0), yI D (u31 1) 64 y0, yI D (u31 2) 64 y0, yI D q40 64 y0, yI D q48 64 y0]) hX hM d_Fl_init_50 rfl rfl u_Fl (by decide) lk_Fl_28 t_Fl to_Fl n_Fl rfl rfl rfl rfl rfl (Nat.le_of_ble_eq_true rfl) rfl ?_
  refine Y_aload_n (i := 0) hX d_Fl_init_53 rfl rfl ?_
  refine Y_bipush (v := 16) hX d_Fl_init_54 rfl ?_
  refine Y_newI (N := 16) hX d_Fl_init_56 (tb0 (List.mem_of_getElem? (i := 117) rfl) rfl) (by decide) rfl (by decide) (by decide) (by decide) (fun q56 => ?_)
  refine Y_putF (q0 := 0) (k0 := 6) (ws' := [yO q 2 [.null, .ref q5, .ref q16, .ref q27, .ref q40, .ref q48, .ref q56, .null, .null, .null, .int 0, .int 0, .int 0, .long 0, .int 0], yO q5 4 [.ref (u9 0), .ref (u9 1), .ref (u9 2)], yI D (u9 0) 64 (yF 64 (-1) y0), yI D (u9 1) 64 y0, yI D (u9 2) 64 y0, yO q16 4 [.ref (u20 0), .ref (u20 1), .ref (u20 2)], yI D (u20 0) 64 (yF 64 (-1) y0), yI D (u20 1) 64 y0, yI D (u20 2) 64 y0, yO q27 4 [.ref (u31 0), .ref (u31 1), .ref (u31 2)], yI D (u31 0) 64 (yF 64 (-1) y0), yI D (u31 1) 64 y0, yI D (u31 2) 64 y0, yI D q40 64 y0, yI D q48 64 y0, yI D q56 16 y0]) hX hM d_Fl_init_58 rfl rfl u_Fl (by decide) lk_Fl_31 t_Fl to_Fl n_Fl rfl rfl rfl rfl rfl (Nat.le_of_ble_eq_true rfl) rfl ?_
  refine Y_aload_n (i := 0) hX d_Fl_init_61 rfl rfl ?_
  refine Y_bipush (v := 16) hX d_Fl_init_62 rfl ?_
  refine Y_newI (N := 16) hX d_Fl_init_64 (tb0 (List.mem_of_getElem? (i := 117) rfl) rfl) (by decide) rfl (by decide) (by decide) (by decide) (fun q64 => ?_)
  refine Y_putF (q0 := 0) (k0 := 7) (ws' := [yO q 2 [.null, .ref q5, .ref q16, .ref q27, .ref q40, .ref q48, .ref q56, .ref q64, .null, .null, .int 0, .int 0, .int 0, .long 0, .int 0], yO q5 4 [.ref (u9 0), .ref (u9 1), .ref (u9 2)], yI D (u9 0) 64 (yF 64 (-1) y0), yI D (u9 1) 64 y0, yI D (u9 2) 64 y0, yO q16 4 [.ref (u20 0), .ref (u20 1), .ref (u20 2)], yI D (u20 0) 64 (yF 64 (-1) y0), yI D (u20 1) 64 y0, yI D (u20 2) 64 y0, yO q27 4 [.ref (u31 0), .ref (u31 1), .ref (u31 2)], yI D (u31 0) 64 (yF 64 (-1) y0), yI D (u31 1) 64 y0, yI D (u31 2) 64 y0, yI D q40 64 y0, yI D q48 64 y0, yI D q56 16 y0, yI D q64 16 y0]) hX hM d_Fl_init_66 rfl rfl u_Fl (by decide) lk_Fl_34 t_Fl to_Fl n_Fl rfl rfl rfl rfl rfl (Nat.le_of_ble_eq_true rfl) rfl ?_
  refine Y_aload_n (i := 0) hX d_Fl_init_69 rfl rfl ?_
  refine Y_bipush (v := 16) hX d_Fl_init_70 rfl ?_
  refine Y_newI (N := 16) hX d_Fl_init_72 (tb0 (List.mem_of_getElem? (i := 117) rfl) rfl) (by decide) rfl (by decide) (by decide) (by decide) (fun q72 => ?_)
  refine Y_putF (q0 := 0) (k0 := 8) (ws' := [yO q 2 [.null, .ref q5, .ref q16, .ref q27, .ref q40, .ref q48, .ref q56, .ref q64, .ref q72, .null, .int 0, .int 0, .int 0, .long 0, .int 0], yO q5 4 [.ref (u9 0), .ref (u9 1), .ref (u9 2)], yI D (u9 0) 64 (yF 64 (-1) y0), yI D (u9 1) 64 y0, yI D (u9 2) 64 y0, yO q16 4 [.ref (u20 0), .ref (u20 1), .ref (u20 2)], yI D (u20 0) 64 (yF 64 (-1) y0), yI D (u20 1) 64 y0, yI D (u20 2) 64 y0, yO q27 4 [.ref (u31 0), .ref (u31 1), .ref (u31 2)], yI D (u31 0) 64 (yF 64 (-1) y0), yI D (u31 1) 64 y0, yI D (u31 2) 64 y0, yI D q40 64 y0, yI D q48 64 y0, yI D q56 16 y0, yI D q64 16 y0, yI D q72 16 y0]) hX hM d_Fl_init_74 rfl rfl u_Fl (by decide) lk_Fl_37 t_Fl to_Fl n_Fl rfl rfl rfl rfl rfl (Nat.le_of_ble_eq_true rfl) rfl ?_
  refine Y_aload_n (i := 0) hX d_Fl_init_77 rfl rfl ?_
  refine Y_bipush (v := 16) hX d_Fl_init_78 rfl ?_
  refine Y_newI (N := 16) hX d_Fl_init_80 (tb0 (List.mem_of_getElem? (i := 117) rfl) rfl) (by decide) rfl (by decide) (by decide) (by decide) (fun q80 => ?_)
  refine Y_putF (q0 := 0) (k0 := 9) (ws' := [yO q 2 [.null, .ref q5, .ref q16, .ref q27, .ref q40, .ref q48, .ref q56, .ref q64, .ref q72, .ref q80, .int 0, .int 0, .int 0, .long 0, .int 0], yO q5 4 [.ref (u9 0), .ref (u9 1), .ref (u9 2)], yI D (u9 0) 64 (yF 64 (-1) y0), yI D (u9 1) 64 y0, yI D (u9 2) 64 y0, yO q16 4 [.ref (u20 0), .ref (u20 1), .ref (u20 2)], yI D (u20 0) 64 (yF 64 (-1) y0), yI D (u20 1) 64 y0, yI D (u20 2) 64 y0, yO q27 4 [.ref (u31 0), .ref (u31 1), .ref (u31 2)], yI D (u31 0) 64 (yF 64 (-1) y0), yI D (u31 1) 64 y0, yI D (u31 2) 64 y0, yI D q40 64 y0, yI D q48 64 y0, yI D q56 16 y0, yI D q64 16 y0, yI D q72 16 y0, yI D q80 16 y0]) hX hM d_Fl_init_82 rfl rfl u_Fl (by decide) lk_Fl_40 t_Fl to_Fl n_Fl rfl rfl rfl rfl rfl (Nat.le_of_ble_eq_true rfl) rfl ?_
  refine Y_aload_n (i := 0) hX d_Fl_init_85 rfl rfl ?_
  refine Y_iconst (v := 0) hX d_Fl_init_86 rfl ?_
  refine Y_put (q0 := 0) (k0 := 10) (ws' := [yO q 2 [.null, .ref q5, .ref q16, .ref q27, .ref q40, .ref q48, .ref q56, .ref q64, .ref q72, .ref q80, .int 0, .int 0, .int 0, .long 0, .int 0], yO q5 4 [.ref (u9 0), .ref (u9 1), .ref (u9 2)], yI D (u9 0) 64 (yF 64 (-1) y0), yI D (u9 1) 64 y0, yI D (u9 2) 64 y0, yO q16 4 [.ref (u20 0), .ref (u20 1), .ref (u20 2)], yI D (u20 0) 64 (yF 64 (-1) y0), yI D (u20 1) 64 y0, yI D (u20 2) 64 y0, yO q27 4 [.ref (u31 0), .ref (u31 1), .ref (u31 2)], yI D (u31 0) 64 (yF 64 (-1) y0), yI D (u31 1) 64 y0, yI D (u31 2) 64 y0, yI D q40 64 y0, yI D q48 64 y0, yI D q56 16 y0, yI D q64 16 y0, yI D q72 16 y0, yI D q80 16 y0]) hX d_Fl_init_87 rfl rfl u_Fl (by decide) lk_Fl_43 t_Fl to_Fl n_Fl rfl rfl rfl rfl (Nat.le_of_ble_eq_true rfl) rfl ?_
  refine Y_aload_n (i := 0) hX d_Fl_init_90 rfl rfl ?_
  refine Y_iconst (v := 0) hX d_Fl_init_91 rfl ?_
  refine Y_put (q0 := 0) (k0 := 11) (ws' := [yO q 2 [.null, .ref q5, .ref q16, .ref q27, .ref q40, .ref q48, .ref q56, .ref q64, .ref q72, .ref q80, .int 0, .int 0, .int 0, .long 0, .int 0], yO q5 4 [.ref (u9 0), .ref (u9 1), .ref (u9 2)], yI D (u9 0) 64 (yF 64 (-1) y0), yI D (u9 1) 64 y0, yI D (u9 2) 64 y0, yO q16 4 [.ref (u20 0), .ref (u20 1), .ref (u20 2)], yI D (u20 0) 64 (yF 64 (-1) y0), yI D (u20 1) 64 y0, yI D (u20 2) 64 y0, yO q27 4 [.ref (u31 0), .ref (u31 1), .ref (u31 2)], yI D (u31 0) 64 (yF 64 (-1) y0), yI D (u31 1) 64 y0, yI D (u31 2) 64 y0, yI D q40 64 y0, yI D q48 64 y0, yI D q56 16 y0, yI D q64 16 y0, yI D q72 16 y0, yI D q80 16 y0]) hX d_Fl_init_92 rfl rfl u_Fl (by decide) lk_Fl_47 t_Fl to_Fl n_Fl rfl rfl rfl rfl (Nat.le_of_ble_eq_true rfl) rfl ?_
  refine Y_aload_n (i := 0) hX d_Fl_init_95 rfl rfl ?_
  refine Y_iconst (v := 0) hX d_Fl_init_96 rfl ?_
  refine Y_put (q0 := 0) (k0 := 12) (ws' := [yO q 2 [.null, .ref q5, .ref q16, .ref q27, .ref q40, .ref q48, .ref q56, .ref q64, .ref q72, .ref q80, .int 0, .int 0, .int 0, .long 0, .int 0], yO q5 4 [.ref (u9 0), .ref (u9 1), .ref (u9 2)], yI D (u9 0) 64 (yF 64 (-1) y0), yI D (u9 1) 64 y0, yI D (u9 2) 64 y0, yO q16 4 [.ref (u20 0), .ref (u20 1), .ref (u20 2)], yI D (u20 0) 64 (yF 64 (-1) y0), yI D (u20 1) 64 y0, yI D (u20 2) 64 y0, yO q27 4 [.ref (u31 0), .ref (u31 1), .ref (u31 2)], yI D (u31 0) 64 (yF 64 (-1) y0), yI D (u31 1) 64 y0, yI D (u31 2) 64 y0, yI D q40 64 y0, yI D q48 64 y0, yI D q56 16 y0, yI D q64 16 y0, yI D q72 16 y0, yI D q80 16 y0]) hX d_Fl_init_97 rfl rfl u_Fl (by decide) lk_Fl_50 t_Fl to_Fl n_Fl rfl rfl rfl rfl (Nat.le_of_ble_eq_true rfl) rfl ?_
  refine Y_aload_n (i := 0) hX d_Fl_init_100 rfl rfl ?_
  refine Y_lconst (v := 0) hX d_Fl_init_101 rfl ?_
  refine Y_put (q0 := 0) (k0 := 13) (ws' := [yO q 2 [.null, .ref q5, .ref q16, .ref q27, .ref q40, .ref q48, .ref q56, .ref q64, .ref q72, .ref q80, .int 0, .int 0, .int 0, .long 0, .int 0], yO q5 4 [.ref (u9 0), .ref (u9 1), .ref (u9 2)], yI D (u9 0) 64 (yF 64 (-1) y0), yI D (u9 1) 64 y0, yI D (u9 2) 64 y0, yO q16 4 [.ref (u20 0), .ref (u20 1), .ref (u20 2)], yI D (u20 0) 64 (yF 64 (-1) y0), yI D (u20 1) 64 y0, yI D (u20 2) 64 y0, yO q27 4 [.ref (u31 0), .ref (u31 1), .ref (u31 2)], yI D (u31 0) 64 (yF 64 (-1) y0), yI D (u31 1) 64 y0, yI D (u31 2) 64 y0, yI D q40 64 y0, yI D q48 64 y0, yI D q56 16 y0, yI D q64 16 y0, yI D q72 16 y0, yI D q80 16 y0]) hX d_Fl_init_102 rfl rfl u_Fl (by decide) lk_Fl_53 t_Fl to_Fl n_Fl rfl rfl rfl rfl (Nat.le_of_ble_eq_true rfl) rfl ?_
  refine Y_aload_n (i := 0) hX d_Fl_init_105 rfl rfl ?_
  refine Y_iconst (v := 0) hX d_Fl_init_106 rfl ?_
  refine Y_put (q0 := 0) (k0 := 14) (ws' := [yO q 2 [.null, .ref q5, .ref q16, .ref q27, .ref q40, .ref q48, .ref q56, .ref q64, .ref q72, .ref q80, .int 0, .int 0, .int 0, .long 0, .int 0], yO q5 4 [.ref (u9 0), .ref (u9 1), .ref (u9 2)], yI D (u9 0) 64 (yF 64 (-1) y0), yI D (u9 1) 64 y0, yI D (u9 2) 64 y0, yO q16 4 [.ref (u20 0), .ref (u20 1), .ref (u20 2)], yI D (u20 0) 64 (yF 64 (-1) y0), yI D (u20 1) 64 y0, yI D (u20 2) 64 y0, yO q27 4 [.ref (u31 0), .ref (u31 1), .ref (u31 2)], yI D (u31 0) 64 (yF 64 (-1) y0), yI D (u31 1) 64 y0, yI D (u31 2) 64 y0, yI D q40 64 y0, yI D q48 64 y0, yI D q56 16 y0, yI D q64 16 y0, yI D q72 16 y0, yI D q80 16 y0]) hX d_Fl_init_107 rfl rfl u_Fl (by decide) lk_Fl_57 t_Fl to_Fl n_Fl rfl rfl rfl rfl (Nat.le_of_ble_eq_true rfl) rfl ?_
  refine Y_aload_n (i := 0) hX d_Fl_init_110 rfl rfl ?_
  refine Y_aload_n (i := 1) hX d_Fl_init_111 rfl rfl ?_
  refine Y_putF (q0 := 0) (k0 := 0) (ws' := [yO q 2 [.ref r, .ref q5, .ref q16, .ref q27, .ref q40, .ref q48, .ref q56, .ref q64, .ref q72, .ref q80, .int 0, .int 0, .int 0, .long 0, .int 0], yO q5 4 [.ref (u9 0), .ref (u9 1), .ref (u9 2)], yI D (u9 0) 64 (yF 64 (-1) y0), yI D (u9 1) 64 y0, yI D (u9 2) 64 y0, yO q16 4 [.ref (u20 0), .ref (u20 1), .ref (u20 2)], yI D (u20 0) 64 (yF 64 (-1) y0), yI D (u20 1) 64 y0, yI D (u20 2) 64 y0, yO q27 4 [.ref (u31 0), .ref (u31 1), .ref (u31 2)], yI D (u31 0) 64 (yF 64 (-1) y0), yI D (u31 1) 64 y0, yI D (u31 2) 64 y0, yI D q40 64 y0, yI D q48 64 y0, yI D q56 16 y0, yI D q64 16 y0, yI D q72 16 y0, yI D q80 16 y0]) hX hM d_Fl_init_112 rfl rfl u_Fl (by decide) lk_Fl_61 t_Fl to_Fl n_Fl rfl rfl rfl rfl rfl (Nat.le_of_ble_eq_true rfl) rfl ?_
  refine Y_aload_n (i := 0) hX d_Fl_init_115 rfl rfl ?_
  refine Y_get (q0 := 0) (k0 := 4) hX d_Fl_init_116 rfl rfl u_Fl (by decide) lk_Fl_24 rfl ?_
  refine Y_iconst (v := 3) hX d_Fl_init_119 rfl ?_
  refine Y_fill (q := q40) (f := y0) (v := 3) (st := []) (wr := [yO q 2 [.ref r, .ref q5, .ref q16, .ref q27, .ref q40, .ref q48, .ref q56, .ref q64, .ref q72, .ref q80, .int 0, .int 0, .int 0, .long 0, .int 0], yO q5 4 [.ref (u9 0), .ref (u9 1), .ref (u9 2)], yI D (u9 0) 64 (yF 64 (-1) y0), yI D (u9 1) 64 y0, yI D (u9 2) 64 y0, yO q16 4 [.ref (u20 0), .ref (u20 1), .ref (u20 2)], yI D (u20 0) 64 (yF 64 (-1) y0), yI D (u20 1) 64 y0, yI D (u20 2) 64 y0, yO q27 4 [.ref (u31 0), .ref (u31 1), .ref (u31 2)], yI D (u31 0) 64 (yF 64 (-1) y0), yI D (u31 1) 64 y0, yI D (u31 2) 64 y0, yI D q48 64 y0, yI D q56 16 y0, yI D q64 16 y0, yI D q72 16 y0, yI D q80 16 y0]) hX d_Fl_init_120 (by decide) lk_fill_Fl ⟨by decide, by decide⟩ (by decide) (by decide) (Nat.le_of_ble_eq_true rfl) [13] [0, 1, 2, 3, 4, 5, 6, 7, 8, 9, 10, 11, 12, 14, 15, 16, 17, 18] rfl rfl (by decide) (by decide) (by decide) ?_
  refine Y_mem (ws' := [yO q 2 [.ref r, .ref q5, .ref q16, .ref q27, .ref q40, .ref q48, .ref q56, .ref q64, .ref q72, .ref q80, .int 0, .int 0, .int 0, .long 0, .int 0], yO q5 4 [.ref (u9 0), .ref (u9 1), .ref (u9 2)], yI D (u9 0) 64 (yF 64 (-1) y0), yI D (u9 1) 64 y0, yI D (u9 2) 64 y0, yO q16 4 [.ref (u20 0), .ref (u20 1), .ref (u20 2)], yI D (u20 0) 64 (yF 64 (-1) y0), yI D (u20 1) 64 y0, yI D (u20 2) 64 y0, yO q27 4 [.ref (u31 0), .ref (u31 1), .ref (u31 2)], yI D (u31 0) 64 (yF 64 (-1) y0), yI D (u31 1) 64 y0, yI D (u31 2) 64 y0, yI D q48 64 y0, yI D q56 16 y0, yI D q64 16 y0, yI D q72 16 y0, yI D q80 16 y0, yI D q40 64 (yF 64 3 y0)]) rfl ?_
  refine Y_aload_n (i := 0) hX d_Fl_init_123 rfl rfl ?_
  refine Y_get (q0 := 0) (k0 := 7) hX d_Fl_init_124 rfl rfl u_Fl (by decide) lk_Fl_34 rfl ?_
  refine Y_iconst (v := (-1)) hX d_Fl_init_127 rfl ?_
  refine Y_fill (q := q64) (f := y0) (v := (-1)) (st := []) (wr := [yO q 2 [.ref r, .ref q5, .ref q16, .ref q27, .ref q40, .ref q48, .ref q56, .ref q64, .ref q72, .ref q80, .int 0, .int 0, .int 0, .long 0, .int 0], yO q5 4 [.ref (u9 0), .ref (u9 1), .ref (u9 2)], yI D (u9 0) 64 (yF 64 (-1) y0), yI D (u9 1) 64 y0, yI D (u9 2) 64 y0, yO q16 4 [.ref (u20 0), .ref (u20 1), .ref (u20 2)], yI D (u20 0) 64 (yF 64 (-1) y0), yI D (u20 1) 64 y0, yI D (u20 2) 64 y0, yO q27 4 [.ref (u31 0), .ref (u31 1), .ref (u31 2)], yI D (u31 0) 64 (yF 64 (-1) y0), yI D (u31 1) 64 y0, yI D (u31 2) 64 y0, yI D q48 64 y0, yI D q56 16 y0, yI D q72 16 y0, yI D q80 16 y0, yI D q40 64 (yF 64 3 y0)]) hX d_Fl_init_128 (by decide) lk_fill_Fl ⟨by decide, by decide⟩ (by decide) (by decide) (Nat.le_of_ble_eq_true rfl) [15] [0, 1, 2, 3, 4, 5, 6, 7, 8, 9, 10, 11, 12, 13, 14, 16, 17, 18] rfl rfl (by decide) (by decide) (by decide) ?_
  refine Y_mem (ws' := [yO q 2 [.ref r, .ref q5, .ref q16, .ref q27, .ref q40, .ref q48, .ref q56, .ref q64, .ref q72, .ref q80, .int 0, .int 0, .int 0, .long 0, .int 0], yO q5 4 [.ref (u9 0), .ref (u9 1), .ref (u9 2)], yI D (u9 0) 64 (yF 64 (-1) y0), yI D (u9 1) 64 y0, yI D (u9 2) 64 y0, yO q16 4 [.ref (u20 0), .ref (u20 1), .ref (u20 2)], yI D (u20 0) 64 (yF 64 (-1) y0), yI D (u20 1) 64 y0, yI D (u20 2) 64 y0, yO q27 4 [.ref (u31 0), .ref (u31 1), .ref (u31 2)], yI D (u31 0) 64 (yF 64 (-1) y0), yI D (u31 1) 64 y0, yI D (u31 2) 64 y0, yI D q48 64 y0, yI D q56 16 y0, yI D q72 16 y0, yI D q80 16 y0, yI D q40 64 (yF 64 3 y0), yI D q64 16 (yF 16 (-1) y0)]) rfl ?_
  refine Y_aload_n (i := 0) hX d_Fl_init_131 rfl rfl ?_
  refine Y_get (q0 := 0) (k0 := 8) hX d_Fl_init_132 rfl rfl u_Fl (by decide) lk_Fl_37 rfl ?_
  refine Y_iconst (v := (-1)) hX d_Fl_init_135 rfl ?_
  refine Y_fill (q := q72) (f := y0) (v := (-1)) (st := []) (wr := [yO q 2 [.ref r, .ref q5, .ref q16, .ref q27, .ref q40, .ref q48, .ref q56, .ref q64, .ref q72, .ref q80, .int 0, .int 0, .int 0, .long 0, .int 0], yO q5 4 [.ref (u9 0), .ref (u9 1), .ref (u9 2)], yI D (u9 0) 64 (yF 64 (-1) y0), yI D (u9 1) 64 y0, yI D (u9 2) 64 y0, yO q16 4 [.ref (u20 0), .ref (u20 1), .ref (u20 2)], yI D (u20 0) 64 (yF 64 (-1) y0), yI D (u20 1) 64 y0, yI D (u20 2) 64 y0, yO q27 4 [.ref (u31 0), .ref (u31 1), .ref (u31 2)], yI D (u31 0) 64 (yF 64 (-1) y0), yI D (u31 1) 64 y0, yI D (u31 2) 64 y0, yI D q48 64 y0, yI D q56 16 y0, yI D q80 16 y0, yI D q40 64 (yF 64 3 y0), yI D q64 16 (yF 16 (-1) y0)]) hX d_Fl_init_136 (by decide) lk_fill_Fl ⟨by decide, by decide⟩ (by decide) (by decide) (Nat.le_of_ble_eq_true rfl) [15] [0, 1, 2, 3, 4, 5, 6, 7, 8, 9, 10, 11, 12, 13, 14, 16, 17, 18] rfl rfl (by decide) (by decide) (by decide) ?_
  refine Y_mem (ws' := [yO q 2 [.ref r, .ref q5, .ref q16, .ref q27, .ref q40, .ref q48, .ref q56, .ref q64, .ref q72, .ref q80, .int 0, .int 0, .int 0, .long 0, .int 0], yO q5 4 [.ref (u9 0), .ref (u9 1), .ref (u9 2)], yI D (u9 0) 64 (yF 64 (-1) y0), yI D (u9 1) 64 y0, yI D (u9 2) 64 y0, yO q16 4 [.ref (u20 0), .ref (u20 1), .ref (u20 2)], yI D (u20 0) 64 (yF 64 (-1) y0), yI D (u20 1) 64 y0, yI D (u20 2) 64 y0, yO q27 4 [.ref (u31 0), .ref (u31 1), .ref (u31 2)], yI D (u31 0) 64 (yF 64 (-1) y0), yI D (u31 1) 64 y0, yI D (u31 2) 64 y0, yI D q48 64 y0, yI D q56 16 y0, yI D q80 16 y0, yI D q40 64 (yF 64 3 y0), yI D q64 16 (yF 16 (-1) y0), yI D q72 16 (yF 16 (-1) y0)]) rfl ?_
  refine Y_aload_n (i := 0) hX d_Fl_init_139 rfl rfl ?_
  refine Y_get (q0 := 0) (k0 := 9) hX d_Fl_init_140 rfl rfl u_Fl (by decide) lk_Fl_40 rfl ?_
  refine Y_iconst (v := (-1)) hX d_Fl_init_143 rfl ?_
  refine Y_fill (q := q80) (f := y0) (v := (-1)) (st := []) (wr := [yO q 2 [.ref r, .ref q5, .ref q16, .ref q27, .ref q40, .ref q48, .ref q56, .ref q64, .ref q72, .ref q80, .int 0, .int 0, .int 0, .long 0, .int 0], yO q5 4 [.ref (u9 0), .ref (u9 1), .ref (u9 2)], yI D (u9 0) 64 (yF 64 (-1) y0), yI D (u9 1) 64 y0, yI D (u9 2) 64 y0, yO q16 4 [.ref (u20 0), .ref (u20 1), .ref (u20 2)], yI D (u20 0) 64 (yF 64 (-1) y0), yI D (u20 1) 64 y0, yI D (u20 2) 64 y0, yO q27 4 [.ref (u31 0), .ref (u31 1), .ref (u31 2)], yI D (u31 0) 64 (yF 64 (-1) y0), yI D (u31 1) 64 y0, yI D (u31 2) 64 y0, yI D q48 64 y0, yI D q56 16 y0, yI D q40 64 (yF 64 3 y0), yI D q64 16 (yF 16 (-1) y0), yI D q72 16 (yF 16 (-1) y0)]) hX d_Fl_init_144 (by decide) lk_fill_Fl ⟨by decide, by decide⟩ (by decide) (by decide) (Nat.le_of_ble_eq_true rfl) [15] [0, 1, 2, 3, 4, 5, 6, 7, 8, 9, 10, 11, 12, 13, 14, 16, 17, 18] rfl rfl (by decide) (by decide) (by decide) ?_
  refine Y_mem (ws' := [yO q 2 [.ref r, .ref q5, .ref q16, .ref q27, .ref q40, .ref q48, .ref q56, .ref q64, .ref q72, .ref q80, .int 0, .int 0, .int 0, .long 0, .int 0], yO q5 4 [.ref (u9 0), .ref (u9 1), .ref (u9 2)], yI D (u9 0) 64 (yF 64 (-1) y0), yI D (u9 1) 64 y0, yI D (u9 2) 64 y0, yO q16 4 [.ref (u20 0), .ref (u20 1), .ref (u20 2)], yI D (u20 0) 64 (yF 64 (-1) y0), yI D (u20 1) 64 y0, yI D (u20 2) 64 y0, yO q27 4 [.ref (u31 0), .ref (u31 1), .ref (u31 2)], yI D (u31 0) 64 (yF 64 (-1) y0), yI D (u31 1) 64 y0, yI D (u31 2) 64 y0, yI D q48 64 y0, yI D q56 16 y0, yI D q40 64 (yF 64 3 y0), yI D q64 16 (yF 16 (-1) y0), yI D q72 16 (yF 16 (-1) y0), yI D q80 16 (yF 16 (-1) y0)]) rfl ?_
  refine Y_sub (ws' := [yO q 2 [.ref r, .ref q5, .ref q16, .ref q27, .ref q40, .ref q48, .ref q56, .ref q64, .ref q72, .ref q80, .int 0, .int 0, .int 0, .long 0, .int 0], yO q5 4 [.ref (u9 0), .ref (u9 1), .ref (u9 2)], yI D (u9 0) 64 (yF 64 (-1) y0), yI D (u9 1) 64 y0, yI D (u9 2) 64 y0, yO q16 4 [.ref (u20 0), .ref (u20 1), .ref (u20 2)], yI D (u20 0) 64 (yF 64 (-1) y0), yI D (u20 1) 64 y0, yI D (u20 2) 64 y0, yO q27 4 [.ref (u31 0), .ref (u31 1), .ref (u31 2)], yI D (u31 0) 64 (yF 64 (-1) y0), yI D (u31 1) 64 y0, yI D (u31 2) 64 y0, yI D q40 64 (yF 64 3 y0), yI D q48 64 y0, yI D q56 16 y0, yI D q64 16 (yF 16 (-1) y0), yI D q72 16 (yF 16 (-1) y0), yI D q80 16 (yF 16 (-1) y0)]) [0, 1, 2, 3, 4, 5, 6, 7, 8, 9, 10, 11, 12, 15, 13, 14, 16, 17, 18] (by decide) rfl ?_
  exact hR (yU [q5, (u9 0), (u9 1), (u9 2), q16, (u20 0), (u20 1), (u20 2), q27, (u31 0), (u31 1), (u31 2), q40, q48, q56, q64, q72, q80]) _ _ d_Fl_init_147

set_option maxRecDepth 100000 in
set_option maxHeartbeats 4000000 in
theorem c_Ck_init {la : Launch} {D : yG} {q : Nat} : yC la D y_Ck_init (Cond.code y_Ck_init prog_3_method_1_code 1 none :: TBL) (zRc 1 4 64) [.ref q] [yO q 1 [.null, .null, .null, .null]] (fun u => [yO q 1 [.ref (u 0), .ref (u 1), .ref (u 2), .ref (u 3)], yI D (u 0) 16 y0, yI D (u 1) 16 y0, yI D (u 2) 16 y0, yJ D (u 3) 16 y0L]) := by
  refine yC_of (by decide) (by simp [lg_sl, Value.category]) (fun X hla hX hM hR => ?_)
  subst hla
  refine Y_loc (l' := [(0, .ref q)]) (by simp [lv_args, Value.category, List.lookup]) ?_
  refine Y_aload_n (i := 0) hX d_Ck_init_0 rfl rfl ?_
  refine Y_oinit hX d_Ck_init_1 (tb0 (List.mem_of_getElem? (i := 204) rfl) rfl) (tb0 (List.mem_of_getElem? (i := 22) rfl) rfl) (tb0 (List.mem_of_getElem? (i := 23) rfl) rfl) (by decide) (Nat.le_of_ble_eq_true rfl) ?_
  refine Y_aload_n (i := 0) hX d_Ck_init_4 rfl rfl ?_
  refine Y_bipush (v := 16) hX d_Ck_init_5 rfl ?_
  refine Y_newI (N := 16) hX d_Ck_init_7 (tb0 (List.mem_of_getElem? (i := 117) rfl) rfl) (by decide) rfl (by decide) (by decide) (by decide) (fun q7 => ?_)
  refine Y_putF (q0 := 0) (k0 := 0) (ws' := [yO q 1 [.ref q7, .null, .null, .null], yI D q7 16 y0]) hX hM d_Ck_init_9 rfl rfl u_Ck (by decide) lk_Ck_9 t_Ck to_Ck n_Ck rfl rfl rfl rfl rfl (Nat.le_of_ble_eq_true rfl) rfl ?_
  refine Y_aload_n (i := 0) hX d_Ck_init_12 rfl rfl ?_
  refine Y_bipush (v := 16) hX d_Ck_init_13 rfl ?_
  refine Y_newI (N := 16) hX d_Ck_init_15 (tb0 (List.mem_of_getElem? (i := 117) rfl) rfl) (by decide) rfl (by decide) (by decide) (by decide) (fun q15 => ?_)
  refine Y_putF (q0 := 0) (k0 := 1) (ws' := [yO q 1 [.ref q7, .ref q15, .null, .null], yI D q7 16 y0, yI D q15 16 y0]) hX hM d_Ck_init_17 rfl rfl u_Ck (by decide) lk_Ck_15 t_Ck to_Ck n_Ck rfl rfl rfl rfl rfl (Nat.le_of_ble_eq_true rfl) rfl ?_
  refine Y_aload_n (i := 0) hX d_Ck_init_20 rfl rfl ?_
  refine Y_bipush (v := 16) hX d_Ck_init_21 rfl ?_
  refine Y_newI (N := 16) hX d_Ck_init_23 (tb0 (List.mem_of_getElem? (i := 117) rfl) rfl) (by decide) rfl (by decide) (by decide) (by decide) (fun q23 => ?_)
  refine Y_putF (q0 := 0) (k0 := 2) (ws' := [yO q 1 [.ref q7, .ref q15, .ref q23, .null], yI D q7 16 y0, yI D q15 16 y0, yI D q23 16 y0]) hX hM d_Ck_init_25 rfl rfl u_Ck (by decide) lk_Ck_18 t_Ck to_Ck n_Ck rfl rfl rfl rfl rfl (Nat.le_of_ble_eq_true rfl) rfl ?_
  refine Y_aload_n (i := 0) hX d_Ck_init_28 rfl rfl ?_
  refine Y_bipush (v := 16) hX d_Ck_init_29 rfl ?_
  refine Y_newJ (N := 16) hX d_Ck_init_31 (tb0 (List.mem_of_getElem? (i := 220) rfl) rfl) (by decide) rfl (by decide) (by decide) (by decide) (fun q31 => ?_)
  refine Y_putF (q0 := 0) (k0 := 3) (ws' := [yO q 1 [.ref q7, .ref q15, .ref q23, .ref q31], yI D q7 16 y0, yI D q15 16 y0, yI D q23 16 y0, yJ D q31 16 y0L]) hX hM d_Ck_init_33 rfl rfl u_Ck (by decide) lk_Ck_21 t_Ck to_Ck n_Ck rfl rfl rfl rfl rfl (Nat.le_of_ble_eq_true rfl) rfl ?_
  refine Y_sub (ws' := [yO q 1 [.ref q7, .ref q15, .ref q23, .ref q31], yI D q7 16 y0, yI D q15 16 y0, yI D q23 16 y0, yJ D q31 16 y0L]) [0, 1, 2, 3, 4] (by decide) rfl ?_
  exact hR (yU [q7, q15, q23, q31]) _ _ d_Ck_init_36

set_option maxRecDepth 100000 in
set_option maxHeartbeats 4000000 in
theorem c_Ca_init {la : Launch} {D : yG} {q : Nat} : yC la D y_Ca_init (Cond.code y_Ca_init prog_2_method_1_code 1 none :: TBL) (zRc 2 2 32) [.ref q] [yO q 0 [.null, .null, .int 0]] (fun u => [yO q 0 [.ref (u 0), .ref (u 1), .int 0], yI D (u 0) 16 (yF 16 0 y0), yI D (u 1) 16 (yF 16 (-1) y0)]) := by
  refine yC_of (by decide) (by simp [lg_sl, Value.category]) (fun X hla hX hM hR => ?_)
  subst hla
  refine Y_loc (l' := [(0, .ref q)]) (by simp [lv_args, Value.category, List.lookup]) ?_
  refine Y_aload_n (i := 0) hX d_Ca_init_0 rfl rfl ?_
  refine Y_oinit hX d_Ca_init_1 (tb0 (List.mem_of_getElem? (i := 226) rfl) rfl) (tb0 (List.mem_of_getElem? (i := 22) rfl) rfl) (tb0 (List.mem_of_getElem? (i := 23) rfl) rfl) (by decide) (Nat.le_of_ble_eq_true rfl) ?_
  refine Y_aload_n (i := 0) hX d_Ca_init_4 rfl rfl ?_
  refine Y_bipush (v := 16) hX d_Ca_init_5 rfl ?_
  refine Y_newI (N := 16) hX d_Ca_init_7 (tb0 (List.mem_of_getElem? (i := 117) rfl) rfl) (by decide) rfl (by decide) (by decide) (by decide) (fun q7 => ?_)
  refine Y_putF (q0 := 0) (k0 := 0) (ws' := [yO q 0 [.ref q7, .null, .int 0], yI D q7 16 y0]) hX hM d_Ca_init_9 rfl rfl u_Ca (by decide) lk_Ca_9 t_Ca to_Ca n_Ca rfl rfl rfl rfl rfl (Nat.le_of_ble_eq_true rfl) rfl ?_
  refine Y_aload_n (i := 0) hX d_Ca_init_12 rfl rfl ?_
  refine Y_bipush (v := 16) hX d_Ca_init_13 rfl ?_
  refine Y_newI (N := 16) hX d_Ca_init_15 (tb0 (List.mem_of_getElem? (i := 117) rfl) rfl) (by decide) rfl (by decide) (by decide) (by decide) (fun q15 => ?_)
  refine Y_putF (q0 := 0) (k0 := 1) (ws' := [yO q 0 [.ref q7, .ref q15, .int 0], yI D q7 16 y0, yI D q15 16 y0]) hX hM d_Ca_init_17 rfl rfl u_Ca (by decide) lk_Ca_15 t_Ca to_Ca n_Ca rfl rfl rfl rfl rfl (Nat.le_of_ble_eq_true rfl) rfl ?_
  refine Y_aload_n (i := 0) hX d_Ca_init_20 rfl rfl ?_
  refine Y_iconst (v := 0) hX d_Ca_init_21 rfl ?_
  refine Y_put (q0 := 0) (k0 := 2) (ws' := [yO q 0 [.ref q7, .ref q15, .int 0], yI D q7 16 y0, yI D q15 16 y0]) hX d_Ca_init_22 rfl rfl u_Ca (by decide) lk_Ca_18 t_Ca to_Ca n_Ca rfl rfl rfl rfl (Nat.le_of_ble_eq_true rfl) rfl ?_
  refine Y_aload_n (i := 0) hX d_Ca_init_25 rfl rfl ?_
  refine Y_get (q0 := 0) (k0 := 0) hX d_Ca_init_26 rfl rfl u_Ca (by decide) lk_Ca_9 rfl ?_
  refine Y_iconst (v := 0) hX d_Ca_init_29 rfl ?_
  refine Y_fill (q := q7) (f := y0) (v := 0) (st := []) (wr := [yO q 0 [.ref q7, .ref q15, .int 0], yI D q15 16 y0]) hX d_Ca_init_30 (by decide) lk_fill_Ca ⟨by decide, by decide⟩ (by decide) (by decide) (Nat.le_of_ble_eq_true rfl) [1] [0, 2] rfl rfl (by decide) (by decide) (by decide) ?_
  refine Y_mem (ws' := [yO q 0 [.ref q7, .ref q15, .int 0], yI D q15 16 y0, yI D q7 16 (yF 16 0 y0)]) rfl ?_
  refine Y_aload_n (i := 0) hX d_Ca_init_33 rfl rfl ?_
  refine Y_get (q0 := 0) (k0 := 1) hX d_Ca_init_34 rfl rfl u_Ca (by decide) lk_Ca_15 rfl ?_
  refine Y_iconst (v := (-1)) hX d_Ca_init_37 rfl ?_
  refine Y_fill (q := q15) (f := y0) (v := (-1)) (st := []) (wr := [yO q 0 [.ref q7, .ref q15, .int 0], yI D q7 16 (yF 16 0 y0)]) hX d_Ca_init_38 (by decide) lk_fill_Ca ⟨by decide, by decide⟩ (by decide) (by decide) (Nat.le_of_ble_eq_true rfl) [1] [0, 2] rfl rfl (by decide) (by decide) (by decide) ?_
  refine Y_mem (ws' := [yO q 0 [.ref q7, .ref q15, .int 0], yI D q7 16 (yF 16 0 y0), yI D q15 16 (yF 16 (-1) y0)]) rfl ?_
  refine Y_sub (ws' := [yO q 0 [.ref q7, .ref q15, .int 0], yI D q7 16 (yF 16 0 y0), yI D q15 16 (yF 16 (-1) y0)]) [0, 1, 2] (by decide) rfl ?_
  exact hR (yU [q7, q15]) _ _ d_Ca_init_41

set_option maxRecDepth 100000 in
set_option maxHeartbeats 4000000 in
theorem c_CT_init {la : Launch} {D : yG} {q : Nat} : yC la D y_CT_init (Cond.code y_CT_init prog_1_method_1_code 1 none :: TBL) (zRc 4 63 2423) [.ref q] [yO q 5 [.null, .null, .null, .null, .null, .null, .null, .int 0]] (fun u => [yO q 5 [.ref (u 0), .ref (u 15), .ref (u 34), .ref (u 53), .ref (u 58), .ref (u 61), .ref (u 62), .int 0], yO (u 0) 3 [.ref (u 1), .ref (u 2), .ref (u 3), .ref (u 4), .ref (u 5), .ref (u 6), .ref (u 7), .ref (u 8), .ref (u 9), .ref (u 10), .ref (u 11), .ref (u 12), .ref (u 13), .ref (u 14), .int 0, .int 1], yZ D (u 1) 16 y0, yI D (u 2) 16 y0, yI D (u 3) 16 y0, yI D (u 4) 16 y0, yI D (u 5) 16 y0, yI D (u 6) 16 (yF 16 (-1) y0), yI D (u 7) 16 (yF 16 (-1) y0), yI D (u 8) 64 (yF 64 (-1) y0), yI D (u 9) 64 (yF 64 (-1) y0), yI D (u 10) 64 (yF 64 (-1) y0), yI D (u 11) 64 y0, yI D (u 12) 64 y0, yZ D (u 13) 64 y0, yI D (u 14) 24 y0, yO (u 15) 2 [.ref (u 0), .ref (u 16), .ref (u 20), .ref (u 24), .ref (u 28), .ref (u 29), .ref (u 30), .ref (u 31), .ref (u 32), .ref (u 33), .int 0, .int 0, .int 0, .long 0, .int 0], yO (u 16) 4 [.ref (u 17), .ref (u 18), .ref (u 19)], yI D (u 17) 64 (yF 64 (-1) y0), yI D (u 18) 64 y0, yI D (u 19) 64 y0, yO (u 20) 4 [.ref (u 21), .ref (u 22), .ref (u 23)], yI D (u 21) 64 (yF 64 (-1) y0), yI D (u 22) 64 y0, yI D (u 23) 64 y0, yO (u 24) 4 [.ref (u 25), .ref (u 26), .ref (u 27)], yI D (u 25) 64 (yF 64 (-1) y0), yI D (u 26) 64 y0, yI D (u 27) 64 y0, yI D (u 28) 64 (yF 64 3 y0), yI D (u 29) 64 y0, yI D (u 30) 16 y0, yI D (u 31) 16 (yF 16 (-1) y0), yI D (u 32) 16 (yF 16 (-1) y0), yI D (u 33) 16 (yF 16 (-1) y0), yO (u 34) 2 [.ref (u 0), .ref (u 35), .ref (u 39), .ref (u 43), .ref (u 47), .ref (u 48), .ref (u 49), .ref (u 50), .ref (u 51), .ref (u 52), .int 0, .int 0, .int 0, .long 0, .int 0], yO (u 35) 4 [.ref (u 36), .ref (u 37), .ref (u 38)], yI D (u 36) 64 (yF 64 (-1) y0), yI D (u 37) 64 y0, yI D (u 38) 64 y0, yO (u 39) 4 [.ref (u 40), .ref (u 41), .ref (u 42)], yI D (u 40) 64 (yF 64 (-1) y0), yI D (u 41) 64 y0, yI D (u 42) 64 y0, yO (u 43) 4 [.ref (u 44), .ref (u 45), .ref (u 46)], yI D (u 44) 64 (yF 64 (-1) y0), yI D (u 45) 64 y0, yI D (u 46) 64 y0, yI D (u 47) 64 (yF 64 3 y0), yI D (u 48) 64 y0, yI D (u 49) 16 y0, yI D (u 50) 16 (yF 16 (-1) y0), yI D (u 51) 16 (yF 16 (-1) y0), yI D (u 52) 16 (yF 16 (-1) y0), yO (u 53) 1 [.ref (u 54), .ref (u 55), .ref (u 56), .ref (u 57)], yI D (u 54) 16 y0, yI D (u 55) 16 y0, yI D (u 56) 16 y0, yJ D (u 57) 16 y0L, yO (u 58) 0 [.ref (u 59), .ref (u 60), .int 0], yI D (u 59) 16 (yF 16 0 y0), yI D (u 60) 16 (yF 16 (-1) y0), yI D (u 61) 100 y0, yI D (u 62) 100 y0]) := by
  refine yC_of (by decide) (by simp [lg_sl, Value.category]) (fun X hla hX hM hR => ?_)
  subst hla
  refine Y_loc (l' := [(0, .ref q)]) (by simp [lv_args, Value.category, List.lookup]) ?_
  refine Y_aload_n (i := 0) hX d_CT_init_0 rfl rfl ?_
  refine Y_oinit hX d_CT_init_1 (tb0 (List.mem_of_getElem? (i := 21) rfl) rfl) (tb0 (List.mem_of_getElem? (i := 22) rfl) rfl) (tb0 (List.mem_of_getElem? (i := 23) rfl) rfl) (by decide) (Nat.le_of_ble_eq_true rfl) ?_
  refine Y_aload_n (i := 0) hX d_CT_init_4 rfl rfl ?_
  refine Y_new (ci := 3) (fs := [.null, .null, .null, .null, .null, .null, .null, .null, .null, .null, .null, .null, .null, .null, .int 0, .int 0]) hX d_CT_init_5 u_Pl t_Pl to_Pl (tb0 (List.mem_of_getElem? (i := 24) rfl) rfl) (tb0 (List.mem_of_getElem? (i := 25) rfl) rfl) (tb0 (List.mem_of_getElem? (i := 2) rfl) rfl) rfl (by decide) (by decide) (by decide) (fun q5 => ?_)
  refine Y_dup hX d_CT_init_8 rfl ?_
  refine Y_cI (As := []) (st := [.ref q5, .ref q]) (wr := [yO q 5 [.null, .null, .null, .null, .null, .null, .null, .int 0]]) hX d_CT_init_9 c_Pl_init mi_Pl rfl lk_CT_11 ⟨by decide, by decide⟩ ⟨by decide, by decide⟩ (Nat.le_of_ble_eq_true rfl) [1] [0] rfl rfl (by decide) (by decide) (by decide) (fun u9 => ?_)
  refine Y_mem (ws' := [yO q 5 [.null, .null, .null, .null, .null, .null, .null, .int 0], yO q5 3 [.ref (u9 0), .ref (u9 1), .ref (u9 2), .ref (u9 3), .ref (u9 4), .ref (u9 5), .ref (u9 6), .ref (u9 7), .ref (u9 8), .ref (u9 9), .ref (u9 10), .ref (u9 11), .ref (u9 12), .ref (u9 13), .int 0, .int 1], yZ D (u9 0) 16 y0, yI D (u9 1) 16 y0, yI D (u9 2) 16 y0, yI D (u9 3) 16 y0, yI D (u9 4) 16 y0, yI D (u9 5) 16 (yF 16 (-1) y0), yI D (u9 6) 16 (yF 16 (-1) y0), yI D (u9 7) 64 (yF 64 (-1) y0), yI D (u9 8) 64 (yF 64 (-1) y0), yI D (u9 9) 64 (yF 64 (-1) y0), yI D (u9 10) 64 y0, yI D (u9 11) 64 y0, yZ D (u9 12) 64 y0, yI D (u9 13) 24 y0]) rfl ?_
  refine Y_putF (q0 := 0) (k0 := 0) (ws' := [yO q 5 [.ref q5, .null, .null, .null, .null, .null, .null, .int 0], yO q5 3 [.ref (u9 0), .ref (u9 1), .ref (u9 2), .ref (u9 3), .ref (u9 4), .ref (u9 5), .ref (u9 6), .ref (u9 7), .ref (u9 8), .ref (u9 9), .ref (u9 10), .ref (u9 11), .ref (u9 12), .ref (u9 13), .int 0, .int 1], yZ D (u9 0) 16 y0, yI D (u9 1) 16 y0, yI D (u9 2) 16 y0, yI D (u9 3) 16 y0, yI D (u9 4) 16 y0, yI D (u9 5) 16 (yF 16 (-1) y0), yI D (u9 6) 16 (yF 16 (-1) y0), yI D (u9 7) 64 (yF 64 (-1) y0), yI D (u9 8) 64 (yF 64 (-1) y0), yI D (u9 9) 64 (yF 64 (-1) y0), yI D (u9 10) 64 y0, yI D (u9 11) 64 y0, yZ D (u9 12) 64 y0, yI D (u9 13) 24 y0]) hX hM d_CT_init_12 rfl rfl u_CT (by decide) lk_CT_12 t_CT to_CT n_CT rfl rfl rfl rfl rfl (Nat.le_of_ble_eq_true rfl) rfl ?_
  refine Y_aload_n (i := 0) hX d_CT_init_15 rfl rfl ?_
  refine Y_new (ci := 2) (fs := [.null, .null, .null, .null, .null, .null, .null, .null, .null, .null, .int 0, .int 0, .int 0, .long 0, .int 0]) hX d_CT_init_16 u_Fl t_Fl to_Fl (tb0 (List.mem_of_getElem? (i := 118) rfl) rfl) (tb0 (List.mem_of_getElem? (i := 119) rfl) rfl) (tb0 (List.mem_of_getElem? (i := 4) rfl) rfl) rfl (by decide) (by decide) (by decide) (fun q16 => ?_)
  refine Y_dup hX d_CT_init_19 rfl ?_
  refine Y_aload_n (i := 0) hX d_CT_init_20 rfl rfl ?_
  refine Y_get (q0 := 0) (k0 := 0) hX d_CT_init_21 rfl rfl u_CT (by decide) lk_CT_12 rfl ?_
  refine Y_cI (As := [.ref q5]) (st := [.ref q16, .ref q]) (wr := [yO q 5 [.ref q5, .null, .null, .null, .null, .null, .null, .int 0], yO q5 3 [.ref (u9 0), .ref (u9 1), .ref (u9 2), .ref (u9 3), .ref (u9 4), .ref (u9 5), .ref (u9 6), .ref (u9 7), .ref (u9 8), .ref (u9 9), .ref (u9 10), .ref (u9 11), .ref (u9 12), .ref (u9 13), .int 0, .int 1], yZ D (u9 0) 16 y0, yI D (u9 1) 16 y0, yI D (u9 2) 16 y0, yI D (u9 3) 16 y0, yI D (u9 4) 16 y0, yI D (u9 5) 16 (yF 16 (-1) y0), yI D (u9 6) 16 (yF 16 (-1) y0), yI D (u9 7) 64 (yF 64 (-1) y0), yI D (u9 8) 64 (yF 64 (-1) y0), yI D (u9 9) 64 (yF 64 (-1) y0), yI D (u9 10) 64 y0, yI D (u9 11) 64 y0, yZ D (u9 12) 64 y0, yI D (u9 13) 24 y0]) hX d_CT_init_24 c_Fl_init mi_Fl rfl lk_CT_18 ⟨by decide, by decide⟩ ⟨by decide, by decide⟩ (Nat.le_of_ble_eq_true rfl) [16] [0, 1, 2, 3, 4, 5, 6, 7, 8, 9, 10, 11, 12, 13, 14, 15] rfl rfl (by decide) (by decide) (by decide) (fun u24 => ?_)
  refine Y_mem (ws' := [yO q 5 [.ref q5, .null, .null, .null, .null, .null, .null, .int 0], yO q5 3 [.ref (u9 0), .ref (u9 1), .ref (u9 2), .ref (u9 3), .ref (u9 4), .ref (u9 5), .ref (u9 6), .ref (u9 7), .ref (u9 8), .ref (u9 9), .ref (u9 10), .ref (u9 11), .ref (u9 12), .ref (u9 13), .int 0, .int 1], yZ D (u9 0) 16 y0, yI D (u9 1) 16 y0, yI D (u9 2) 16 y0, yI D (u9 3) 16 y0, yI D (u9 4) 16 y0, yI D (u9 5) 16 (yF 16 (-1) y0), yI D (u9 6) 16 (yF 16 (-1) y0), yI D (u9 7) 64 (yF 64 (-1) y0), yI D (u9 8) 64 (yF 64 (-1) y0), yI D (u9 9) 64 (yF 64 (-1) y0), yI D (u9 10) 64 y0, yI D (u9 11) 64 y0, yZ D (u9 12) 64 y0, yI D (u9 13) 24 y0, yO q16 2 [.ref q5, .ref (u24 0), .ref (u24 4), .ref (u24 8), .ref (u24 12), .ref (u24 13), .ref (u24 14), .ref (u24 15), .ref (u24 16), .ref (u24 17), .int 0, .int 0, .int 0, .long 0, .int 0], yO (u24 0) 4 [.ref (u24 1), .ref (u24 2), .ref (u24 3)], yI D (u24 1) 64 (yF 64 (-1) y0), yI D (u24 2) 64 y0, yI D (u24 3) 64 y0, yO (u24 4) 4 [.ref (u24 5), .ref (u24 6), .ref (u24 7)], yI D (u24 5) 64 (yF 64 (-1) y0), yI D (u24 6) 64 y0, yI D (u24 7) 64 y0, yO (u24 8) 4 [.ref (u24 9), .ref (u24 10), .ref (u24 11)], yI D (u24 9) 64 (yF 64 (-1) y0), yI D (u24 10) 64 y0, yI D (u24 11) 64 y0, yI D (u24 12) 64 (yF 64 3 y0), yI D (u24 13) 64 y0, yI D (u24 14) 16 y0, yI D (u24 15) 16 (yF 16 (-1) y0), yI D (u24 16) 16 (yF 16 (-1) y0), yI D (u24 17) 16 (yF 16 (-1) y0)]) rfl ?_
  refine Y_putF (q0 := 0) (k0 := 1) (ws' := [yO q 5 [.ref q5, .ref q16, .null, .null, .null, .null, .null, .int 0], yO q5 3 [.ref (u9 0), .ref (u9 1), .ref (u9 2), .ref (u9 3), .ref (u9 4), .ref (u9 5), .ref (u9 6), .ref (u9 7), .ref (u9 8), .ref (u9 9), .ref (u9 10), .ref (u9 11), .ref (u9 12), .ref (u9 13), .int 0, .int 1], yZ D (u9 0) 16 y0, yI D (u9 1) 16 y0, yI D (u9 2) 16 y0, yI D (u9 3) 16 y0, yI D (u9 4) 16 y0, yI D (u9 5) 16 (yF 16 (-1) y0), yI D (u9 6) 16 (yF 16 (-1) y0), yI D (u9 7) 64 (yF 64 (-1) y0), yI D (u9 8) 64 (yF 64 (-1) y0), yI D (u9 9) 64 (yF 64 (-1) y0), yI D (u9 10) 64 y0, yI D (u9 11) 64 y0, yZ D (u9 12) 64 y0, yI D (u9 13) 24 y0, yO q16 2 [.ref q5, .ref (u24 0), .ref (u24 4), .ref (u24 8), .ref (u24 12), .ref (u24 13), .ref (u24 14), .ref (u24 15), .ref (u24 16), .ref (u24 17), .int 0, .int 0, .int 0, .long 0, .int 0], yO (u24 0) 4 [.ref (u24 1), .ref (u24 2), .ref (u24 3)], yI D (u24 1) 64 (yF 64 (-1) y0), yI D (u24 2) 64 y0, yI D (u24 3) 64 y0, yO (u24 4) 4 [.ref (u24 5), .ref (u24 6), .ref (u24 7)], yI D (u24 5) 64 (yF 64 (-1) y0), yI D (u24 6) 64 y0, yI D (u24 7) 64 y0, yO (u24 8) 4 [.ref (u24 9), .ref (u24 10), .ref (u24 11)], yI D (u24 9) 64 (yF 64 (-1) y0), yI D (u24 10) 64 y0, yI D (u24 11) 64 y0, yI D (u24 12) 64 (yF 64 3 y0), yI D (u24 13) 64 y0, yI D (u24 14) 16 y0, yI D (u24 15) 16 (yF 16 (-1) y0), yI D (u24 16) 16 (yF 16 (-1) y0), yI D (u24 17) 16 (yF 16 (-1) y0)]) hX hM d_CT_init_27 rfl rfl u_CT (by decide) lk_CT_21 t_CT to_CT n_CT rfl rfl rfl rfl rfl (Nat.le_of_ble_eq_true rfl) rfl ?_
  refine Y_aload_n (i := 0) hX d_CT_init_30 rfl rfl ?_
  refine Y_new (ci := 2) (fs := [.null, .null, .null, .null, .null, .null, .null, .null, .null, .null, .int 0, .int 0, .int 0, .long 0, .int 0]) hX d_CT_init_31 u_Fl t_Fl to_Fl (tb0 (List.mem_of_getElem? (i := 118) rfl) rfl) (tb0 (List.mem_of_getElem? (i := 119) rfl) rfl) (tb0 (List.mem_of_getElem? (i := 4) rfl) rfl) rfl (by decide) (by decide) (by decide) (fun q31 => ?_)
  refine Y_dup hX d_CT_init_34 rfl ?_
  refine Y_aload_n (i := 0) hX d_CT_init_35 rfl rfl ?_
  refine Y_get (q0 := 0) (k0 := 0) hX d_CT_init_36 rfl rfl u_CT (by decide) lk_CT_12 rfl ?_
  refine Y_cI (As := [.ref q5]) (st := [.ref q31, .ref q]) (wr := [yO q 5 [.ref q5, .ref q16, .null, .null, .null, .null, .null, .int 0], yO q5 3 [.ref (u9 0), .ref (u9 1), .ref (u9 2), .ref (u9 3), .ref (u9 4), .ref (u9 5), .ref (u9 6), .ref (u9 7), .ref (u9 8), .ref (u9 9), .ref (u9 10), .ref (u9 11), .ref (u9 12), .ref (u9 13), .int 0, .int 1], yZ D (u9 0) 16 y0, yI D (u9 1) 16 y0, yI D (u9 2) 16 y0, yI D (u9 3) 16 y0, yI D (u9 4) 16 y0, yI D (u9 5) 16 (yF 16 (-1) y0), yI D (u9 6) 16 (yF 16 (-1) y0), yI D (u9 7) 64 (yF 64 (-1) y0), yI D (u9 8) 64 (yF 64 (-1) y0), yI D (u9 9) 64 (yF 64 (-1) y0), yI D (u9 10) 64 y0, yI D (u9 11) 64 y0, yZ D (u9 12) 64 y0, yI D (u9 13) 24 y0, yO q16 2 [.ref q5, .ref (u24 0), .ref (u24 4), .ref (u24 8), .ref (u24 12), .ref (u24 13), .ref (u24 14), .ref (u24 15), .ref (u24 16), .ref (u24 17), .int 0, .int 0, .int 0, .long 0, .int 0], yO (u24 0) 4 [.ref (u24 1), .ref (u24 2), .ref (u24 3)], yI D (u24 1) 64 (yF 64 (-1) y0), yI D (u24 2) 64 y0, yI D (u24 3) 64 y0, yO (u24 4) 4 [.ref (u24 5), .ref (u24 6), .ref (u24 7)], yI D (u24 5) 64 (yF 64 (-1) y0), yI D (u24 6) 64 y0, yI D (u24 7) 64 y0, yO (u24 8) 4 [.ref (u24 9), .ref (u24 10), .ref (u24 11)], yI D (u24 9) 64 (yF 64 (-1) y0), yI D (u24 10) 64 y0, yI D (u24 11) 64 y0, yI D (u24 12) 64 (yF 64 3 y0), yI D (u24 13) 64 y0, yI D (u24 14) 16 y0, yI D (u24 15) 16 (yF 16 (-1) y0), yI D (u24 16) 16 (yF 16 (-1) y0), yI D (u24 17) 16 (yF 16 (-1) y0)]) hX d_CT_init_39 c_Fl_init mi_Fl rfl lk_CT_18 ⟨by decide, by decide⟩ ⟨by decide, by decide⟩ (Nat.le_of_ble_eq_true rfl) [35] [0, 1, 2, 3, 4, 5, 6, 7, 8, 9, 10, 11, 12, 13, 14, 15, 16, 17, 18, 19, 20, 21, 22, 23, 24, 25, 26, 27, 28, 29, 30, 31, 32, 33, 34] rfl rfl (by decide) (by decide) (by decide) (fun u39 => ?_)
  refine Y_mem (ws' := [yO q 5 [.ref q5, .ref q16, .null, .null, .null, .null, .null, .int 0], yO q5 3 [.ref (u9 0), .ref (u9 1), .ref (u9 2), .ref (u9 3), .ref (u9 4), .ref (u9 5), .ref (u9 6), .ref (u9 7), .ref (u9 8), .ref (u9 9), .ref (u9 10), .ref (u9 11), .ref (u9 12), .ref (u9 13), .int 0, .int 1], yZ D (u9 0) 16 y0, yI D (u9 1) 16 y0, yI D (u9 2) 16 y0, yI D (u9 3) 16 y0, yI D (u9 4) 16 y0, yI D (u9 5) 16 (yF 16 (-1) y0), yI D (u9 6) 16 (yF 16 (-1) y0), yI D (u9 7) 64 (yF 64 (-1) y0), yI D (u9 8) 64 (yF 64 (-1) y0), yI D (u9 9) 64 (yF 64 (-1) y0), yI D (u9 10) 64 y0, yI D (u9 11) 64 y0, yZ D (u9 12) 64 y0, yI D (u9 13) 24 y0, yO q16 2 [.ref q5, .ref (u24 0), .ref (u24 4), .ref (u24 8), .ref (u24 12), .ref (u24 13), .ref (u24 14), .ref (u24 15), .ref (u24 16), .ref (u24 17), .int 0, .int 0, .int 0, .long 0, .int 0], yO (u24 0) 4 [.ref (u24 1), .ref (u24 2), .ref (u24 3)], yI D (u24 1) 64 (yF 64 (-1) y0), yI D (u24 2) 64 y0, yI D (u24 3) 64 y0, yO (u24 4) 4 [.ref (u24 5), .ref (u24 6), .ref (u24 7)], yI D (u24 5) 64 (yF 64 (-1) y0), yI D (u24 6) 64 y0, yI D (u24 7) 64 y0, yO (u24 8) 4 [.ref (u24 9), .ref (u24 10), .ref (u24 11)], yI D (u24 9) 64 (yF 64 (-1) y0), yI D (u24 10) 64 y0, yI D (u24 11) 64 y0, yI D (u24 12) 64 (yF 64 3 y0), yI D (u24 13) 64 y0, yI D (u24 14) 16 y0, yI D (u24 15) 16 (yF 16 (-1) y0), yI D (u24 16) 16 (yF 16 (-1) y0), yI D (u24 17) 16 (yF 16 (-1) y0), yO q31 2 [.ref q5, .ref (u39 0), .ref (u39 4), .ref (u39 8), .ref (u39 12), .ref (u39 13), .ref (u39 14), .ref (u39 15), .ref (u39 16), .ref (u39 17), .int 0, .int 0, .int 0, .long 0, .int 0], yO (u39 0) 4 [.ref (u39 1), .ref (u39 2), .ref (u39 3)], yI D (u39 1) 64 (yF 64 (-1) y0), yI D (u39 2) 64 y0, yI D (u39 3) 64 y0, yO (u39 4) 4 [.ref (u39 5), .ref (u39 6), .ref (u39 7)], yI D (u39 5) 64 (yF 64 (-1) y0), yI D (u39 6) 64 y0, yI D (u39 7) 64 y0, yO (u39 8) 4 [.ref (u39 9), .ref (u39 10), .ref (u39 11)], yI D (u39 9) 64 (yF 64 (-1) y0), yI D (u39 10) 64 y0, yI D (u39 11) 64 y0, yI D (u39 12) 64 (yF 64 3 y0), yI D (u39 13) 64 y0, yI D (u39 14) 16 y0, yI D (u39 15) 16 (yF 16 (-1) y0), yI D (u39 16) 16 (yF 16 (-1) y0), yI D (u39 17) 16 (yF 16 (-1) y0)]) rfl ?_
  refine Y_putF (q0 := 0) (k0 := 2) (ws' := [yO q 5 [.ref q5, .ref q16, .ref q31, .null, .null, .null, .null, .int 0], yO q5 3 [.ref (u9 0), .ref (u9 1), .ref (u9 2), .ref (u9 3), .ref (u9 4), .ref (u9 5), .ref (u9 6), .ref (u9 7), .ref (u9 8), .ref (u9 9), .ref (u9 10), .ref (u9 11), .ref (u9 12), .ref (u9 13), .int 0, .int 1], yZ D (u9 0) 16 y0, yI D (u9 1) 16 y0, yI D (u9 2) 16 y0, yI D (u9 3) 16 y0, yI D (u9 4) 16 y0, yI D (u9 5) 16 (yF 16 (-1) y0), yI D (u9 6) 16 (yF 16 (-1) y0), yI D (u9 7) 64 (yF 64 (-1) y0), yI D (u9 8) 64 (yF 64 (-1) y0), yI D (u9 9) 64 (yF 64 (-1) y0), yI D (u9 10) 64 y0, yI D (u9 11) 64 y0, yZ D (u9 12) 64 y0, yI D (u9 13) 24 y0, yO q16 2 [.ref q5, .ref (u24 0), .ref (u24 4), .ref (u24 8), .ref (u24 12), .ref (u24 13), .ref (u24 14), .ref (u24 15), .ref (u24 16), .ref (u24 17), .int 0, .int 0, .int 0, .long 0, .int 0], yO (u24 0) 4 [.ref (u24 1), .ref (u24 2), .ref (u24 3)], yI D (u24 1) 64 (yF 64 (-1) y0), yI D (u24 2) 64 y0, yI D (u24 3) 64 y0, yO (u24 4) 4 [.ref (u24 5), .ref (u24 6), .ref (u24 7)], yI D (u24 5) 64 (yF 64 (-1) y0), yI D (u24 6) 64 y0, yI D (u24 7) 64 y0, yO (u24 8) 4 [.ref (u24 9), .ref (u24 10), .ref (u24 11)], yI D (u24 9) 64 (yF 64 (-1) y0), yI D (u24 10) 64 y0, yI D (u24 11) 64 y0, yI D (u24 12) 64 (yF 64 3 y0), yI D (u24 13) 64 y0, yI D (u24 14) 16 y0, yI D (u24 15) 16 (yF 16 (-1) y0), yI D (u24 16) 16 (yF 16 (-1) y0), yI D (u24 17) 16 (yF 16 (-1) y0), yO q31 2 [.ref q5, .ref (u39 0), .ref (u39 4), .ref (u39 8), .ref (u39 12), .ref (u39 13), .ref (u39 14), .ref (u39 15), .ref (u39 16), .ref (u39 17), .int 0, .int 0, .int 0, .long 0, .int 0], yO (u39 0) 4 [.ref (u39 1), .ref (u39 2), .ref (u39 3)], yI D (u39 1) 64 (yF 64 (-1) y0), yI D (u39 2) 64 y0, yI D (u39 3) 64 y0, yO (u39 4) 4 [.ref (u39 5), .ref (u39 6), .ref (u39 7)], yI D (u39 5) 64 (yF 64 (-1) y0), yI D (u39 6) 64 y0, yI D (u39 7) 64 y0, yO (u39 8) 4 [.ref (u39 9), .ref (u39 10), .ref (u39 11)], yI D (u39 9) 64 (yF 64 (-1) y0), yI D (u39 10) 64 y0, yI D (u39 11) 64 y0, yI D (u39 12) 64 (yF 64 3 y0), yI D (u39 13) 64 y0, yI D (u39 14) 16 y0, yI D (u39 15) 16 (yF 16 (-1) y0), yI D (u39 16) 16 (yF 16 (-1) y0), yI D (u39 17) 16 (yF 16 (-1) y0)]) hX hM d_CT_init_42 rfl rfl u_CT (by decide) lk_CT_25 t_CT to_CT n_CT rfl rfl rfl rfl rfl (Nat.le_of_ble_eq_true rfl) rfl ?_
  refine Y_aload_n (i := 0) hX d_CT_init_45 rfl rfl ?_
  refine Y_new (ci := 1) (fs := [.null, .null, .null, .null]) hX d_CT_init_46 u_Ck t_Ck to_Ck (tb0 (List.mem_of_getElem? (i := 199) rfl) rfl) (tb0 (List.mem_of_getElem? (i := 200) rfl) rfl) (tb0 (List.mem_of_getElem? (i := 6) rfl) rfl) rfl (by decide) (by decide) (by decide) (fun q46 => ?_)
  refine Y_dup hX d_CT_init_49 rfl ?_
  refine Y_cIN (As := []) (st := [.ref q46, .ref q]) (wr := [yO q 5 [.ref q5, .ref q16, .ref q31, .null, .null, .null, .null, .int 0], yO q5 3 [.ref (u9 0), .ref (u9 1), .ref (u9 2), .ref (u9 3), .ref (u9 4), .ref (u9 5), .ref (u9 6), .ref (u9 7), .ref (u9 8), .ref (u9 9), .ref (u9 10), .ref (u9 11), .ref (u9 12), .ref (u9 13), .int 0, .int 1], yZ D (u9 0) 16 y0, yI D (u9 1) 16 y0, yI D (u9 2) 16 y0, yI D (u9 3) 16 y0, yI D (u9 4) 16 y0, yI D (u9 5) 16 (yF 16 (-1) y0), yI D (u9 6) 16 (yF 16 (-1) y0), yI D (u9 7) 64 (yF 64 (-1) y0), yI D (u9 8) 64 (yF 64 (-1) y0), yI D (u9 9) 64 (yF 64 (-1) y0), yI D (u9 10) 64 y0, yI D (u9 11) 64 y0, yZ D (u9 12) 64 y0, yI D (u9 13) 24 y0, yO q16 2 [.ref q5, .ref (u24 0), .ref (u24 4), .ref (u24 8), .ref (u24 12), .ref (u24 13), .ref (u24 14), .ref (u24 15), .ref (u24 16), .ref (u24 17), .int 0, .int 0, .int 0, .long 0, .int 0], yO (u24 0) 4 [.ref (u24 1), .ref (u24 2), .ref (u24 3)], yI D (u24 1) 64 (yF 64 (-1) y0), yI D (u24 2) 64 y0, yI D (u24 3) 64 y0, yO (u24 4) 4 [.ref (u24 5), .ref (u24 6), .ref (u24 7)], yI D (u24 5) 64 (yF 64 (-1) y0), yI D (u24 6) 64 y0, yI D (u24 7) 64 y0, yO (u24 8) 4 [.ref (u24 9), .ref (u24 10), .ref (u24 11)], yI D (u24 9) 64 (yF 64 (-1) y0), yI D (u24 10) 64 y0, yI D (u24 11) 64 y0, yI D (u24 12) 64 (yF 64 3 y0), yI D (u24 13) 64 y0, yI D (u24 14) 16 y0, yI D (u24 15) 16 (yF 16 (-1) y0), yI D (u24 16) 16 (yF 16 (-1) y0), yI D (u24 17) 16 (yF 16 (-1) y0), yO q31 2 [.ref q5, .ref (u39 0), .ref (u39 4), .ref (u39 8), .ref (u39 12), .ref (u39 13), .ref (u39 14), .ref (u39 15), .ref (u39 16), .ref (u39 17), .int 0, .int 0, .int 0, .long 0, .int 0], yO (u39 0) 4 [.ref (u39 1), .ref (u39 2), .ref (u39 3)], yI D (u39 1) 64 (yF 64 (-1) y0), yI D (u39 2) 64 y0, yI D (u39 3) 64 y0, yO (u39 4) 4 [.ref (u39 5), .ref (u39 6), .ref (u39 7)], yI D (u39 5) 64 (yF 64 (-1) y0), yI D (u39 6) 64 y0, yI D (u39 7) 64 y0, yO (u39 8) 4 [.ref (u39 9), .ref (u39 10), .ref (u39 11)], yI D (u39 9) 64 (yF 64 (-1) y0), yI D (u39 10) 64 y0, yI D (u39 11) 64 y0, yI D (u39 12) 64 (yF 64 3 y0), yI D (u39 13) 64 y0, yI D (u39 14) 16 y0, yI D (u39 15) 16 (yF 16 (-1) y0), yI D (u39 16) 16 (yF 16 (-1) y0), yI D (u39 17) 16 (yF 16 (-1) y0)]) hX d_CT_init_50 c_Ck_init mi_Ck rfl (fun _ h => h.2) ⟨by decide, by decide⟩ ⟨by decide, by decide⟩ (Nat.le_of_ble_eq_true rfl) [54] [0, 1, 2, 3, 4, 5, 6, 7, 8, 9, 10, 11, 12, 13, 14, 15, 16, 17, 18, 19, 20, 21, 22, 23, 24, 25, 26, 27, 28, 29, 30, 31, 32, 33, 34, 35, 36, 37, 38, 39, 40, 41, 42, 43, 44, 45, 46, 47, 48, 49, 50, 51, 52, 53] rfl rfl (by decide) (by decide) (by decide) (fun u50 => ?_)
  refine Y_mem (ws' := [yO q 5 [.ref q5, .ref q16, .ref q31, .null, .null, .null, .null, .int 0], yO q5 3 [.ref (u9 0), .ref (u9 1), .ref (u9 2), .ref (u9 3), .ref (u9 4), .ref (u9 5), .ref (u9 6), .ref (u9 7), .ref (u9 8), .ref (u9 9), .ref (u9 10), .ref (u9 11), .ref (u9 12), .ref (u9 13), .int 0, .int 1], yZ D (u9 0) 16 y0, yI D (u9 1) 16 y0, yI D (u9 2) 16 y0, yI D (u9 3) 16 y0, yI D (u9 4) 16 y0, yI D (u9 5) 16 (yF 16 (-1) y0), yI D (u9 6) 16 (yF 16 (-1) y0), yI D (u9 7) 64 (yF 64 (-1) y0), yI D (u9 8) 64 (yF 64 (-1) y0), yI D (u9 9) 64 (yF 64 (-1) y0), yI D (u9 10) 64 y0, yI D (u9 11) 64 y0, yZ D (u9 12) 64 y0, yI D (u9 13) 24 y0, yO q16 2 [.ref q5, .ref (u24 0), .ref (u24 4), .ref (u24 8), .ref (u24 12), .ref (u24 13), .ref (u24 14), .ref (u24 15), .ref (u24 16), .ref (u24 17), .int 0, .int 0, .int 0, .long 0, .int 0], yO (u24 0) 4 [.ref (u24 1), .ref (u24 2), .ref (u24 3)], yI D (u24 1) 64 (yF 64 (-1) y0), yI D (u24 2) 64 y0, yI D (u24 3) 64 y0, yO (u24 4) 4 [.ref (u24 5), .ref (u24 6), .ref (u24 7)], yI D (u24 5) 64 (yF 64 (-1) y0), yI D (u24 6) 64 y0, yI D (u24 7) 64 y0, yO (u24 8) 4 [.ref (u24 9), .ref (u24 10), .ref (u24 11)], yI D (u24 9) 64 (yF 64 (-1) y0), yI D (u24 10) 64 y0, yI D (u24 11) 64 y0, yI D (u24 12) 64 (yF 64 3 y0), yI D (u24 13) 64 y0, yI D (u24 14) 16 y0, yI D (u24 15) 16 (yF 16 (-1) y0), yI D (u24 16) 16 (yF 16 (-1) y0), yI D (u24 17) 16 (yF 16 (-1) y0), yO q31 2 [.ref q5, .ref (u39 0), .ref (u39 4), .ref (u39 8), .ref (u39 12), .ref (u39 13), .ref (u39 14), .ref (u39 15), .ref (u39 16), .ref (u39 17), .int 0, .int 0, .int 0, .long 0, .int 0], yO (u39 0) 4 [.ref (u39 1), .ref (u39 2), .ref (u39 3)], yI D (u39 1) 64 (yF 64 (-1) y0), yI D (u39 2) 64 y0, yI D (u39 3) 64 y0, yO (u39 4) 4 [.ref (u39 5), .ref (u39 6), .ref (u39 7)], yI D (u39 5) 64 (yF 64 (-1) y0), yI D (u39 6) 64 y0, yI D (u39 7) 64 y0, yO (u39 8) 4 [.ref (u39 9), .ref (u39 10), .ref (u39 11)], yI D (u39 9) 64 (yF 64 (-1) y0), yI D (u39 10) 64 y0, yI D (u39 11) 64 y0, yI D (u39 12) 64 (yF 64 3 y0), yI D (u39 13) 64 y0, yI D (u39 14) 16 y0, yI D (u39 15) 16 (yF 16 (-1) y0), yI D (u39 16) 16 (yF 16 (-1) y0), yI D (u39 17) 16 (yF 16 (-1) y0), yO q46 1 [.ref (u50 0), .ref (u50 1), .ref (u50 2), .ref (u50 3)], yI D (u50 0) 16 y0, yI D (u50 1) 16 y0, yI D (u50 2) 16 y0, yJ D (u50 3) 16 y0L]) rfl ?_
  refine Y_putF (q0 := 0) (k0 := 3) (ws' := [yO q 5 [.ref q5, .ref q16, .ref q31, .ref q46, .null, .null, .null, .int 0], yO q5 3 [.ref (u9 0), .ref (u9 1), .ref (u9 2), .ref (u9 3), .ref (u9 4), .ref (u9 5), .ref (u9 6), .ref (u9 7), .ref (u9 8), .ref (u9 9), .ref (u9 10), .ref (u9 11), .ref (u9 12), .ref (u9 13), .int 0, .int 1], yZ D (u9 0) 16 y0, yI D (u9 1) 16 y0, yI D (u9 2) 16 y0, yI D (u9 3) 16 y0, yI D (u9 4) 16 y0, yI D (u9 5) 16 (yF 16 (-1) y0), yI D (u9 6) 16 (yF 16 (-1) y0), yI D (u9 7) 64 (yF 64 (-1) y0), yI D (u9 8) 64 (yF 64 (-1) y0), yI D (u9 9) 64 (yF 64 (-1) y0), yI D (u9 10) 64 y0, yI D (u9 11) 64 y0, yZ D (u9 12) 64 y0, yI D (u9 13) 24 y0, yO q16 2 [.ref q5, .ref (u24 0), .ref (u24 4), .ref (u24 8), .ref (u24 12), .ref (u24 13), .ref (u24 14), .ref (u24 15), .ref (u24 16), .ref (u24 17), .int 0, .int 0, .int 0, .long 0, .int 0], yO (u24 0) 4 [.ref (u24 1), .ref (u24 2), .ref (u24 3)], yI D (u24 1) 64 (yF 64 (-1) y0), yI D (u24 2) 64 y0, yI D (u24 3) 64 y0, yO (u24 4) 4 [.ref (u24 5), .ref (u24 6), .ref (u24 7)], yI D (u24 5) 64 (yF 64 (-1) y0), yI D (u24 6) 64 y0, yI D (u24 7) 64 y0, yO (u24 8) 4 [.ref (u24 9), .ref (u24 10), .ref (u24 11)], yI D (u24 9) 64 (yF 64 (-1) y0), yI D (u24 10) 64 y0, yI D (u24 11) 64 y0, yI D (u24 12) 64 (yF 64 3 y0), yI D (u24 13) 64 y0, yI D (u24 14) 16 y0, yI D (u24 15) 16 (yF 16 (-1) y0), yI D (u24 16) 16 (yF 16 (-1) y0), yI D (u24 17) 16 (yF 16 (-1) y0), yO q31 2 [.ref q5, .ref (u39 0), .ref (u39 4), .ref (u39 8), .ref (u39 12), .ref (u39 13), .ref (u39 14), .ref (u39 15), .ref (u39 16), .ref (u39 17), .int 0, .int 0, .int 0, .long 0, .int 0], yO (u39 0) 4 [.ref (u39 1), .ref (u39 2), .ref (u39 3)], yI D (u39 1) 64 (yF 64 (-1) y0), yI D (u39 2) 64 y0, yI D (u39 3) 64 y0, yO (u39 4) 4 [.ref (u39 5), .ref (u39 6), .ref (u39 7)], yI D (u39 5) 64 (yF 64 (-1) y0), yI D (u39 6) 64 y0, yI D (u39 7) 64 y0, yO (u39 8) 4 [.ref (u39 9), .ref (u39 10), .ref (u39 11)], yI D (u39 9) 64 (yF 64 (-1) y0), yI D (u39 10) 64 y0, yI D (u39 11) 64 y0, yI D (u39 12) 64 (yF 64 3 y0), yI D (u39 13) 64 y0, yI D (u39 14) 16 y0, yI D (u39 15) 16 (yF 16 (-1) y0), yI D (u39 16) 16 (yF 16 (-1) y0), yI D (u39 17) 16 (yF 16 (-1) y0), yO q46 1 [.ref (u50 0), .ref (u50 1), .ref (u50 2), .ref (u50 3)], yI D (u50 0) 16 y0, yI D (u50 1) 16 y0, yI D (u50 2) 16 y0, yJ D (u50 3) 16 y0L]) hX hM d_CT_init_53 rfl rfl u_CT (by decide) lk_CT_31 t_CT to_CT n_CT rfl rfl rfl rfl rfl (Nat.le_of_ble_eq_true rfl) rfl ?_
  refine Y_aload_n (i := 0) hX d_CT_init_56 rfl rfl ?_
  refine Y_new (ci := 0) (fs := [.null, .null, .int 0]) hX d_CT_init_57 u_Ca t_Ca to_Ca (tb0 (List.mem_of_getElem? (i := 221) rfl) rfl) (tb0 (List.mem_of_getElem? (i := 222) rfl) rfl) (tb0 (List.mem_of_getElem? (i := 7) rfl) rfl) rfl (by decide) (by decide) (by decide) (fun q57 => ?_)
  refine Y_dup hX d_CT_init_60 rfl ?_
  refine Y_cI (As := []) (st := [.ref q57, .ref q]) (wr := [yO q 5 [.ref q5, .ref q16, .ref q31, .ref q46, .null, .null, .null, .int 0], yO q5 3 [.ref (u9 0), .ref (u9 1), .ref (u9 2), .ref (u9 3), .ref (u9 4), .ref (u9 5), .ref (u9 6), .ref (u9 7), .ref (u9 8), .ref (u9 9), .ref (u9 10), .ref (u9 11), .ref (u9 12), .ref (u9 13), .int 0, .int 1], yZ D (u9 0) 16 y0, yI D (u9 1) 16 y0, yI D (u9 2) 16 y0, yI D (u9 3) 16 y0, yI D (u9 4) 16 y0, yI D (u9 5) 16 (yF 16 (-1) y0), yI D (u9 6) 16 (yF 16 (-1) y0), yI D (u9 7) 64 (yF 64 (-1) y0), yI D (u9 8) 64 (yF 64 (-1) y0), yI D (u9 9) 64 (yF 64 (-1) y0), yI D (u9 10) 64 y0, yI D (u9 11) 64 y0, yZ D (u9 12) 64 y0, yI D (u9 13) 24 y0, yO q16 2 [.ref q5, .ref (u24 0), .ref (u24 4), .ref (u24 8), .ref (u24 12), .ref (u24 13), .ref (u24 14), .ref (u24 15), .ref (u24 16), .ref (u24 17), .int 0, .int 0, .int 0, .long 0, .int 0], yO (u24 0) 4 [.ref (u24 1), .ref (u24 2), .ref (u24 3)], yI D (u24 1) 64 (yF 64 (-1) y0), yI D (u24 2) 64 y0, yI D (u24 3) 64 y0, yO (u24 4) 4 [.ref (u24 5), .ref (u24 6), .ref (u24 7)], yI D (u24 5) 64 (yF 64 (-1) y0), yI D (u24 6) 64 y0, yI D (u24 7) 64 y0, yO (u24 8) 4 [.ref (u24 9), .ref (u24 10), .ref (u24 11)], yI D (u24 9) 64 (yF 64 (-1) y0), yI D (u24 10) 64 y0, yI D (u24 11) 64 y0, yI D (u24 12) 64 (yF 64 3 y0), yI D (u24 13) 64 y0, yI D (u24 14) 16 y0, yI D (u24 15) 16 (yF 16 (-1) y0), yI D (u24 16) 16 (yF 16 (-1) y0), yI D (u24 17) 16 (yF 16 (-1) y0), yO q31 2 [.ref q5, .ref (u39 0), .ref (u39 4), .ref (u39 8), .ref (u39 12), .ref (u39 13), .ref (u39 14), .ref (u39 15), .ref (u39 16), .ref (u39 17), .int 0, .int 0, .int 0, .long 0, .int 0], yO (u39 0) 4 [.ref (u39 1), .ref (u39 2), .ref (u39 3)], yI D (u39 1) 64 (yF 64 (-1) y0), yI D (u39 2) 64 y0, yI D (u39 3) 64 y0, yO (u39 4) 4 [.ref (u39 5), .ref (u39 6), .ref (u39 7)], yI D (u39 5) 64 (yF 64 (-1) y0), yI D (u39 6) 64 y0, yI D (u39 7) 64 y0, yO (u39 8) 4 [.ref (u39 9), .ref (u39 10), .ref (u39 11)], yI D (u39 9) 64 (yF 64 (-1) y0), yI D (u39 10) 64 y0, yI D (u39 11) 64 y0, yI D (u39 12) 64 (yF 64 3 y0), yI D (u39 13) 64 y0, yI D (u39 14) 16 y0, yI D (u39 15) 16 (yF 16 (-1) y0), yI D (u39 16) 16 (yF 16 (-1) y0), yI D (u39 17) 16 (yF 16 (-1) y0), yO q46 1 [.ref (u50 0), .ref (u50 1), .ref (u50 2), .ref (u50 3)], yI D (u50 0) 16 y0, yI D (u50 1) 16 y0, yI D (u50 2) 16 y0, yJ D (u50 3) 16 y0L]) hX d_CT_init_61 c_Ca_init mi_Ca rfl lk_CT_37 ⟨by decide, by decide⟩ ⟨by decide, by decide⟩ (Nat.le_of_ble_eq_true rfl) [59] [0, 1, 2, 3, 4, 5, 6, 7, 8, 9, 10, 11, 12, 13, 14, 15, 16, 17, 18, 19, 20, 21, 22, 23, 24, 25, 26, 27, 28, 29, 30, 31, 32, 33, 34, 35, 36, 37, 38, 39, 40, 41, 42, 43, 44, 45, 46, 47, 48, 49, 50, 51, 52, 53, 54, 55, 56, 57, 58] rfl rfl (by decide) (by decide) (by decide) (fun u61 => ?_)
  refine Y_mem (ws' := [yO q 5 [.ref q5, .ref q16, .ref q31, .ref q46, .null, .null, .null, .int 0], yO q5 3 [.ref (u9 0), .ref (u9 1), .ref (u9 2), .ref (u9 3), .ref (u9 4), .ref (u9 5), .ref (u9 6), .ref (u9 7), .ref (u9 8), .ref (u9 9), .ref (u9 10), .ref (u9 11), .ref (u9 12), .ref (u9 13), .int 0, .int 1], yZ D (u9 0) 16 y0, yI D (u9 1) 16 y0, yI D (u9 2) 16 y0, yI D (u9 3) 16 y0, yI D (u9 4) 16 y0, yI D (u9 5) 16 (yF 16 (-1) y0), yI D (u9 6) 16 (yF 16 (-1) y0), yI D (u9 7) 64 (yF 64 (-1) y0), yI D (u9 8) 64 (yF 64 (-1) y0), yI D (u9 9) 64 (yF 64 (-1) y0), yI D (u9 10) 64 y0, yI D (u9 11) 64 y0, yZ D (u9 12) 64 y0, yI D (u9 13) 24 y0, yO q16 2 [.ref q5, .ref (u24 0), .ref (u24 4), .ref (u24 8), .ref (u24 12), .ref (u24 13), .ref (u24 14), .ref (u24 15), .ref (u24 16), .ref (u24 17), .int 0, .int 0, .int 0, .long 0, .int 0], yO (u24 0) 4 [.ref (u24 1), .ref (u24 2), .ref (u24 3)], yI D (u24 1) 64 (yF 64 (-1) y0), yI D (u24 2) 64 y0, yI D (u24 3) 64 y0, yO (u24 4) 4 [.ref (u24 5), .ref (u24 6), .ref (u24 7)], yI D (u24 5) 64 (yF 64 (-1) y0), yI D (u24 6) 64 y0, yI D (u24 7) 64 y0, yO (u24 8) 4 [.ref (u24 9), .ref (u24 10), .ref (u24 11)], yI D (u24 9) 64 (yF 64 (-1) y0), yI D (u24 10) 64 y0, yI D (u24 11) 64 y0, yI D (u24 12) 64 (yF 64 3 y0), yI D (u24 13) 64 y0, yI D (u24 14) 16 y0, yI D (u24 15) 16 (yF 16 (-1) y0), yI D (u24 16) 16 (yF 16 (-1) y0), yI D (u24 17) 16 (yF 16 (-1) y0), yO q31 2 [.ref q5, .ref (u39 0), .ref (u39 4), .ref (u39 8), .ref (u39 12), .ref (u39 13), .ref (u39 14), .ref (u39 15), .ref (u39 16), .ref (u39 17), .int 0, .int 0, .int 0, .long 0, .int 0], yO (u39 0) 4 [.ref (u39 1), .ref (u39 2), .ref (u39 3)], yI D (u39 1) 64 (yF 64 (-1) y0), yI D (u39 2) 64 y0, yI D (u39 3) 64 y0, yO (u39 4) 4 [.ref (u39 5), .ref (u39 6), .ref (u39 7)], yI D (u39 5) 64 (yF 64 (-1) y0), yI D (u39 6) 64 y0, yI D (u39 7) 64 y0, yO (u39 8) 4 [.ref (u39 9), .ref (u39 10), .ref (u39 11)], yI D (u39 9) 64 (yF 64 (-1) y0), yI D (u39 10) 64 y0, yI D (u39 11) 64 y0, yI D (u39 12) 64 (yF 64 3 y0), yI D (u39 13) 64 y0, yI D (u39 14) 16 y0, yI D (u39 15) 16 (yF 16 (-1) y0), yI D (u39 16) 16 (yF 16 (-1) y0), yI D (u39 17) 16 (yF 16 (-1) y0), yO q46 1 [.ref (u50 0), .ref (u50 1), .ref (u50 2), .ref (u50 3)], yI D (u50 0) 16 y0, yI D (u50 1) 16 y0, yI D (u50 2) 16 y0, yJ D (u50 3) 16 y0L, yO q57 0 [.ref (u61 0), .ref (u61 1), .int 0], yI D (u61 0) 16 (yF 16 0 y0), yI D (u61 1) 16 (yF 16 (-1) y0)]) rfl ?_
  refine Y_putF (q0 := 0) (k0 := 4) (ws' := [yO q 5 [.ref q5, .ref q16, .ref q31, .ref q46, .ref q57, .null, .null, .int 0], yO q5 3 [.ref (u9 0), .ref (u9 1), .ref (u9 2), .ref (u9 3), .ref (u9 4), .ref (u9 5), .ref (u9 6), .ref (u9 7), .ref (u9 8), .ref (u9 9), .ref (u9 10), .ref (u9 11), .ref (u9 12), .ref (u9 13), .int 0, .int 1], yZ D (u9 0) 16 y0, yI D (u9 1) 16 y0, yI D (u9 2) 16 y0, yI D (u9 3) 16 y0, yI D (u9 4) 16 y0, yI D (u9 5) 16 (yF 16 (-1) y0), yI D (u9 6) 16 (yF 16 (-1) y0), yI D (u9 7) 64 (yF 64 (-1) y0), yI D (u9 8) 64 (yF 64 (-1) y0), yI D (u9 9) 64 (yF 64 (-1) y0), yI D (u9 10) 64 y0, yI D (u9 11) 64 y0, yZ D (u9 12) 64 y0, yI D (u9 13) 24 y0, yO q16 2 [.ref q5, .ref (u24 0), .ref (u24 4), .ref (u24 8), .ref (u24 12), .ref (u24 13), .ref (u24 14), .ref (u24 15), .ref (u24 16), .ref (u24 17), .int 0, .int 0, .int 0, .long 0, .int 0], yO (u24 0) 4 [.ref (u24 1), .ref (u24 2), .ref (u24 3)], yI D (u24 1) 64 (yF 64 (-1) y0), yI D (u24 2) 64 y0, yI D (u24 3) 64 y0, yO (u24 4) 4 [.ref (u24 5), .ref (u24 6), .ref (u24 7)], yI D (u24 5) 64 (yF 64 (-1) y0), yI D (u24 6) 64 y0, yI D (u24 7) 64 y0, yO (u24 8) 4 [.ref (u24 9), .ref (u24 10), .ref (u24 11)], yI D (u24 9) 64 (yF 64 (-1) y0), yI D (u24 10) 64 y0, yI D (u24 11) 64 y0, yI D (u24 12) 64 (yF 64 3 y0), yI D (u24 13) 64 y0, yI D (u24 14) 16 y0, yI D (u24 15) 16 (yF 16 (-1) y0), yI D (u24 16) 16 (yF 16 (-1) y0), yI D (u24 17) 16 (yF 16 (-1) y0), yO q31 2 [.ref q5, .ref (u39 0), .ref (u39 4), .ref (u39 8), .ref (u39 12), .ref (u39 13), .ref (u39 14), .ref (u39 15), .ref (u39 16), .ref (u39 17), .int 0, .int 0, .int 0, .long 0, .int 0], yO (u39 0) 4 [.ref (u39 1), .ref (u39 2), .ref (u39 3)], yI D (u39 1) 64 (yF 64 (-1) y0), yI D (u39 2) 64 y0, yI D (u39 3) 64 y0, yO (u39 4) 4 [.ref (u39 5), .ref (u39 6), .ref (u39 7)], yI D (u39 5) 64 (yF 64 (-1) y0), yI D (u39 6) 64 y0, yI D (u39 7) 64 y0, yO (u39 8) 4 [.ref (u39 9), .ref (u39 10), .ref (u39 11)], yI D (u39 9) 64 (yF 64 (-1) y0), yI D (u39 10) 64 y0, yI D (u39 11) 64 y0, yI D (u39 12) 64 (yF 64 3 y0), yI D (u39 13) 64 y0, yI D (u39 14) 16 y0, yI D (u39 15) 16 (yF 16 (-1) y0), yI D (u39 16) 16 (yF 16 (-1) y0), yI D (u39 17) 16 (yF 16 (-1) y0), yO q46 1 [.ref (u50 0), .ref (u50 1), .ref (u50 2), .ref (u50 3)], yI D (u50 0) 16 y0, yI D (u50 1) 16 y0, yI D (u50 2) 16 y0, yJ D (u50 3) 16 y0L, yO q57 0 [.ref (u61 0), .ref (u61 1), .int 0], yI D (u61 0) 16 (yF 16 0 y0), yI D (u61 1) 16 (yF 16 (-1) y0)]) hX hM d_CT_init_64 rfl rfl u_CT (by decide) lk_CT_38 t_CT to_CT n_CT rfl rfl rfl rfl rfl (Nat.le_of_ble_eq_true rfl) rfl ?_
  refine Y_aload_n (i := 0) hX d_CT_init_67 rfl rfl ?_
  refine Y_bipush (v := 100) hX d_CT_init_68 rfl ?_
  refine Y_newI (N := 100) hX d_CT_init_70 (tb0 (List.mem_of_getElem? (i := 117) rfl) rfl) (by decide) rfl (by decide) (by decide) (by decide) (fun q70 => ?_)
  refine Y_putF (q0 := 0) (k0 := 5) (ws' := [yO q 5 [.ref q5, .ref q16, .ref q31, .ref q46, .ref q57, .ref q70, .null, .int 0], yO q5 3 [.ref (u9 0), .ref (u9 1), .ref (u9 2), .ref (u9 3), .ref (u9 4), .ref (u9 5), .ref (u9 6), .ref (u9 7), .ref (u9 8), .ref (u9 9), .ref (u9 10), .ref (u9 11), .ref (u9 12), .ref (u9 13), .int 0, .int 1], yZ D (u9 0) 16 y0, yI D (u9 1) 16 y0, yI D (u9 2) 16 y0, yI D (u9 3) 16 y0, yI D (u9 4) 16 y0, yI D (u9 5) 16 (yF 16 (-1) y0), yI D (u9 6) 16 (yF 16 (-1) y0), yI D (u9 7) 64 (yF 64 (-1) y0), yI D (u9 8) 64 (yF 64 (-1) y0), yI D (u9 9) 64 (yF 64 (-1) y0), yI D (u9 10) 64 y0, yI D (u9 11) 64 y0, yZ D (u9 12) 64 y0, yI D (u9 13) 24 y0, yO q16 2 [.ref q5, .ref (u24 0), .ref (u24 4), .ref (u24 8), .ref (u24 12), .ref (u24 13), .ref (u24 14), .ref (u24 15), .ref (u24 16), .ref (u24 17), .int 0, .int 0, .int 0, .long 0, .int 0], yO (u24 0) 4 [.ref (u24 1), .ref (u24 2), .ref (u24 3)], yI D (u24 1) 64 (yF 64 (-1) y0), yI D (u24 2) 64 y0, yI D (u24 3) 64 y0, yO (u24 4) 4 [.ref (u24 5), .ref (u24 6), .ref (u24 7)], yI D (u24 5) 64 (yF 64 (-1) y0), yI D (u24 6) 64 y0, yI D (u24 7) 64 y0, yO (u24 8) 4 [.ref (u24 9), .ref (u24 10), .ref (u24 11)], yI D (u24 9) 64 (yF 64 (-1) y0), yI D (u24 10) 64 y0, yI D (u24 11) 64 y0, yI D (u24 12) 64 (yF 64 3 y0), yI D (u24 13) 64 y0, yI D (u24 14) 16 y0, yI D (u24 15) 16 (yF 16 (-1) y0), yI D (u24 16) 16 (yF 16 (-1) y0), yI D (u24 17) 16 (yF 16 (-1) y0), yO q31 2 [.ref q5, .ref (u39 0), .ref (u39 4), .ref (u39 8), .ref (u39 12), .ref (u39 13), .ref (u39 14), .ref (u39 15), .ref (u39 16), .ref (u39 17), .int 0, .int 0, .int 0, .long 0, .int 0], yO (u39 0) 4 [.ref (u39 1), .ref (u39 2), .ref (u39 3)], yI D (u39 1) 64 (yF 64 (-1) y0), yI D (u39 2) 64 y0, yI D (u39 3) 64 y0, yO (u39 4) 4 [.ref (u39 5), .ref (u39 6), .ref (u39 7)], yI D (u39 5) 64 (yF 64 (-1) y0), yI D (u39 6) 64 y0, yI D (u39 7) 64 y0, yO (u39 8) 4 [.ref (u39 9), .ref (u39 10), .ref (u39 11)], yI D (u39 9) 64 (yF 64 (-1) y0), yI D (u39 10) 64 y0, yI D (u39 11) 64 y0, yI D (u39 12) 64 (yF 64 3 y0), yI D (u39 13) 64 y0, yI D (u39 14) 16 y0, yI D (u39 15) 16 (yF 16 (-1) y0), yI D (u39 16) 16 (yF 16 (-1) y0), yI D (u39 17) 16 (yF 16 (-1) y0), yO q46 1 [.ref (u50 0), .ref (u50 1), .ref (u50 2), .ref (u50 3)], yI D (u50 0) 16 y0, yI D (u50 1) 16 y0, yI D (u50 2) 16 y0, yJ D (u50 3) 16 y0L, yO q57 0 [.ref (u61 0), .ref (u61 1), .int 0], yI D (u61 0) 16 (yF 16 0 y0), yI D (u61 1) 16 (yF 16 (-1) y0), yI D q70 100 y0]) hX hM d_CT_init_72 rfl rfl u_CT (by decide) lk_CT_42 t_CT to_CT n_CT rfl rfl rfl rfl rfl (Nat.le_of_ble_eq_true rfl) rfl ?_
  refine Y_aload_n (i := 0) hX d_CT_init_75 rfl rfl ?_
  refine Y_bipush (v := 100) hX d_CT_init_76 rfl ?_
  refine Y_newI (N := 100) hX d_CT_init_78 (tb0 (List.mem_of_getElem? (i := 117) rfl) rfl) (by decide) rfl (by decide) (by decide) (by decide) (fun q78 => ?_)
  refine Y_putF (q0 := 0) (k0 := 6) (ws' := [yO q 5 [.ref q5, .ref q16, .ref q31, .ref q46, .ref q57, .ref q70, .ref q78, .int 0], yO q5 3 [.ref (u9 0), .ref (u9 1), .ref (u9 2), .ref (u9 3), .ref (u9 4), .ref (u9 5), .ref (u9 6), .ref (u9 7), .ref (u9 8), .ref (u9 9), .ref (u9 10), .ref (u9 11), .ref (u9 12), .ref (u9 13), .int 0, .int 1], yZ D (u9 0) 16 y0, yI D (u9 1) 16 y0, yI D (u9 2) 16 y0, yI D (u9 3) 16 y0, yI D (u9 4) 16 y0, yI D (u9 5) 16 (yF 16 (-1) y0), yI D (u9 6) 16 (yF 16 (-1) y0), yI D (u9 7) 64 (yF 64 (-1) y0), yI D (u9 8) 64 (yF 64 (-1) y0), yI D (u9 9) 64 (yF 64 (-1) y0), yI D (u9 10) 64 y0, yI D (u9 11) 64 y0, yZ D (u9 12) 64 y0, yI D (u9 13) 24 y0, yO q16 2 [.ref q5, .ref (u24 0), .ref (u24 4), .ref (u24 8), .ref (u24 12), .ref (u24 13), .ref (u24 14), .ref (u24 15), .ref (u24 16), .ref (u24 17), .int 0, .int 0, .int 0, .long 0, .int 0], yO (u24 0) 4 [.ref (u24 1), .ref (u24 2), .ref (u24 3)], yI D (u24 1) 64 (yF 64 (-1) y0), yI D (u24 2) 64 y0, yI D (u24 3) 64 y0, yO (u24 4) 4 [.ref (u24 5), .ref (u24 6), .ref (u24 7)], yI D (u24 5) 64 (yF 64 (-1) y0), yI D (u24 6) 64 y0, yI D (u24 7) 64 y0, yO (u24 8) 4 [.ref (u24 9), .ref (u24 10), .ref (u24 11)], yI D (u24 9) 64 (yF 64 (-1) y0), yI D (u24 10) 64 y0, yI D (u24 11) 64 y0, yI D (u24 12) 64 (yF 64 3 y0), yI D (u24 13) 64 y0, yI D (u24 14) 16 y0, yI D (u24 15) 16 (yF 16 (-1) y0), yI D (u24 16) 16 (yF 16 (-1) y0), yI D (u24 17) 16 (yF 16 (-1) y0), yO q31 2 [.ref q5, .ref (u39 0), .ref (u39 4), .ref (u39 8), .ref (u39 12), .ref (u39 13), .ref (u39 14), .ref (u39 15), .ref (u39 16), .ref (u39 17), .int 0, .int 0, .int 0, .long 0, .int 0], yO (u39 0) 4 [.ref (u39 1), .ref (u39 2), .ref (u39 3)], yI D (u39 1) 64 (yF 64 (-1) y0), yI D (u39 2) 64 y0, yI D (u39 3) 64 y0, yO (u39 4) 4 [.ref (u39 5), .ref (u39 6), .ref (u39 7)], yI D (u39 5) 64 (yF 64 (-1) y0), yI D (u39 6) 64 y0, yI D (u39 7) 64 y0, yO (u39 8) 4 [.ref (u39 9), .ref (u39 10), .ref (u39 11)], yI D (u39 9) 64 (yF 64 (-1) y0), yI D (u39 10) 64 y0, yI D (u39 11) 64 y0, yI D (u39 12) 64 (yF 64 3 y0), yI D (u39 13) 64 y0, yI D (u39 14) 16 y0, yI D (u39 15) 16 (yF 16 (-1) y0), yI D (u39 16) 16 (yF 16 (-1) y0), yI D (u39 17) 16 (yF 16 (-1) y0), yO q46 1 [.ref (u50 0), .ref (u50 1), .ref (u50 2), .ref (u50 3)], yI D (u50 0) 16 y0, yI D (u50 1) 16 y0, yI D (u50 2) 16 y0, yJ D (u50 3) 16 y0L, yO q57 0 [.ref (u61 0), .ref (u61 1), .int 0], yI D (u61 0) 16 (yF 16 0 y0), yI D (u61 1) 16 (yF 16 (-1) y0), yI D q70 100 y0, yI D q78 100 y0]) hX hM d_CT_init_80 rfl rfl u_CT (by decide) lk_CT_46 t_CT to_CT n_CT rfl rfl rfl rfl rfl (Nat.le_of_ble_eq_true rfl) rfl ?_
  refine Y_aload_n (i := 0) hX d_CT_init_83 rfl rfl ?_
  refine Y_iconst (v := 0) hX d_CT_init_84 rfl ?_
  refine Y_put (q0 := 0) (k0 := 7) (ws' := [yO q 5 [.ref q5, .ref q16, .ref q31, .ref q46, .ref q57, .ref q70, .ref q78, .int 0], yO q5 3 [.ref (u9 0), .ref (u9 1), .ref (u9 2), .ref (u9 3), .ref (u9 4), .ref (u9 5), .ref (u9 6), .ref (u9 7), .ref (u9 8), .ref (u9 9), .ref (u9 10), .ref (u9 11), .ref (u9 12), .ref (u9 13), .int 0, .int 1], yZ D (u9 0) 16 y0, yI D (u9 1) 16 y0, yI D (u9 2) 16 y0, yI D (u9 3) 16 y0, yI D (u9 4) 16 y0, yI D (u9 5) 16 (yF 16 (-1) y0), yI D (u9 6) 16 (yF 16 (-1) y0), yI D (u9 7) 64 (yF 64 (-1) y0), yI D (u9 8) 64 (yF 64 (-1) y0), yI D (u9 9) 64 (yF 64 (-1) y0), yI D (u9 10) 64 y0, yI D (u9 11) 64 y0, yZ D (u9 12) 64 y0, yI D (u9 13) 24 y0, yO q16 2 [.ref q5, .ref (u24 0), .ref (u24 4), .ref (u24 8), .ref (u24 12), .ref (u24 13), .ref (u24 14), .ref (u24 15), .ref (u24 16), .ref (u24 17), .int 0, .int 0, .int 0, .long 0, .int 0], yO (u24 0) 4 [.ref (u24 1), .ref (u24 2), .ref (u24 3)], yI D (u24 1) 64 (yF 64 (-1) y0), yI D (u24 2) 64 y0, yI D (u24 3) 64 y0, yO (u24 4) 4 [.ref (u24 5), .ref (u24 6), .ref (u24 7)], yI D (u24 5) 64 (yF 64 (-1) y0), yI D (u24 6) 64 y0, yI D (u24 7) 64 y0, yO (u24 8) 4 [.ref (u24 9), .ref (u24 10), .ref (u24 11)], yI D (u24 9) 64 (yF 64 (-1) y0), yI D (u24 10) 64 y0, yI D (u24 11) 64 y0, yI D (u24 12) 64 (yF 64 3 y0), yI D (u24 13) 64 y0, yI D (u24 14) 16 y0, yI D (u24 15) 16 (yF 16 (-1) y0), yI D (u24 16) 16 (yF 16 (-1) y0), yI D (u24 17) 16 (yF 16 (-1) y0), yO q31 2 [.ref q5, .ref (u39 0), .ref (u39 4), .ref (u39 8), .ref (u39 12), .ref (u39 13), .ref (u39 14), .ref (u39 15), .ref (u39 16), .ref (u39 17), .int 0, .int 0, .int 0, .long 0, .int 0], yO (u39 0) 4 [.ref (u39 1), .ref (u39 2), .ref (u39 3)], yI D (u39 1) 64 (yF 64 (-1) y0), yI D (u39 2) 64 y0, yI D (u39 3) 64 y0, yO (u39 4) 4 [.ref (u39 5), .ref (u39 6), .ref (u39 7)], yI D (u39 5) 64 (yF 64 (-1) y0), yI D (u39 6) 64 y0, yI D (u39 7) 64 y0, yO (u39 8) 4 [.ref (u39 9), .ref (u39 10), .ref (u39 11)], yI D (u39 9) 64 (yF 64 (-1) y0), yI D (u39 10) 64 y0, yI D (u39 11) 64 y0, yI D (u39 12) 64 (yF 64 3 y0), yI D (u39 13) 64 y0, yI D (u39 14) 16 y0, yI D (u39 15) 16 (yF 16 (-1) y0), yI D (u39 16) 16 (yF 16 (-1) y0), yI D (u39 17) 16 (yF 16 (-1) y0), yO q46 1 [.ref (u50 0), .ref (u50 1), .ref (u50 2), .ref (u50 3)], yI D (u50 0) 16 y0, yI D (u50 1) 16 y0, yI D (u50 2) 16 y0, yJ D (u50 3) 16 y0L, yO q57 0 [.ref (u61 0), .ref (u61 1), .int 0], yI D (u61 0) 16 (yF 16 0 y0), yI D (u61 1) 16 (yF 16 (-1) y0), yI D q70 100 y0, yI D q78 100 y0]) hX d_CT_init_85 rfl rfl u_CT (by decide) lk_CT_49 t_CT to_CT n_CT rfl rfl rfl rfl (Nat.le_of_ble_eq_true rfl) rfl ?_
  refine Y_sub (ws' := [yO q 5 [.ref q5, .ref q16, .ref q31, .ref q46, .ref q57, .ref q70, .ref q78, .int 0], yO q5 3 [.ref (u9 0), .ref (u9 1), .ref (u9 2), .ref (u9 3), .ref (u9 4), .ref (u9 5), .ref (u9 6), .ref (u9 7), .ref (u9 8), .ref (u9 9), .ref (u9 10), .ref (u9 11), .ref (u9 12), .ref (u9 13), .int 0, .int 1], yZ D (u9 0) 16 y0, yI D (u9 1) 16 y0, yI D (u9 2) 16 y0, yI D (u9 3) 16 y0, yI D (u9 4) 16 y0, yI D (u9 5) 16 (yF 16 (-1) y0), yI D (u9 6) 16 (yF 16 (-1) y0), yI D (u9 7) 64 (yF 64 (-1) y0), yI D (u9 8) 64 (yF 64 (-1) y0), yI D (u9 9) 64 (yF 64 (-1) y0), yI D (u9 10) 64 y0, yI D (u9 11) 64 y0, yZ D (u9 12) 64 y0, yI D (u9 13) 24 y0, yO q16 2 [.ref q5, .ref (u24 0), .ref (u24 4), .ref (u24 8), .ref (u24 12), .ref (u24 13), .ref (u24 14), .ref (u24 15), .ref (u24 16), .ref (u24 17), .int 0, .int 0, .int 0, .long 0, .int 0], yO (u24 0) 4 [.ref (u24 1), .ref (u24 2), .ref (u24 3)], yI D (u24 1) 64 (yF 64 (-1) y0), yI D (u24 2) 64 y0, yI D (u24 3) 64 y0, yO (u24 4) 4 [.ref (u24 5), .ref (u24 6), .ref (u24 7)], yI D (u24 5) 64 (yF 64 (-1) y0), yI D (u24 6) 64 y0, yI D (u24 7) 64 y0, yO (u24 8) 4 [.ref (u24 9), .ref (u24 10), .ref (u24 11)], yI D (u24 9) 64 (yF 64 (-1) y0), yI D (u24 10) 64 y0, yI D (u24 11) 64 y0, yI D (u24 12) 64 (yF 64 3 y0), yI D (u24 13) 64 y0, yI D (u24 14) 16 y0, yI D (u24 15) 16 (yF 16 (-1) y0), yI D (u24 16) 16 (yF 16 (-1) y0), yI D (u24 17) 16 (yF 16 (-1) y0), yO q31 2 [.ref q5, .ref (u39 0), .ref (u39 4), .ref (u39 8), .ref (u39 12), .ref (u39 13), .ref (u39 14), .ref (u39 15), .ref (u39 16), .ref (u39 17), .int 0, .int 0, .int 0, .long 0, .int 0], yO (u39 0) 4 [.ref (u39 1), .ref (u39 2), .ref (u39 3)], yI D (u39 1) 64 (yF 64 (-1) y0), yI D (u39 2) 64 y0, yI D (u39 3) 64 y0, yO (u39 4) 4 [.ref (u39 5), .ref (u39 6), .ref (u39 7)], yI D (u39 5) 64 (yF 64 (-1) y0), yI D (u39 6) 64 y0, yI D (u39 7) 64 y0, yO (u39 8) 4 [.ref (u39 9), .ref (u39 10), .ref (u39 11)], yI D (u39 9) 64 (yF 64 (-1) y0), yI D (u39 10) 64 y0, yI D (u39 11) 64 y0, yI D (u39 12) 64 (yF 64 3 y0), yI D (u39 13) 64 y0, yI D (u39 14) 16 y0, yI D (u39 15) 16 (yF 16 (-1) y0), yI D (u39 16) 16 (yF 16 (-1) y0), yI D (u39 17) 16 (yF 16 (-1) y0), yO q46 1 [.ref (u50 0), .ref (u50 1), .ref (u50 2), .ref (u50 3)], yI D (u50 0) 16 y0, yI D (u50 1) 16 y0, yI D (u50 2) 16 y0, yJ D (u50 3) 16 y0L, yO q57 0 [.ref (u61 0), .ref (u61 1), .int 0], yI D (u61 0) 16 (yF 16 0 y0), yI D (u61 1) 16 (yF 16 (-1) y0), yI D q70 100 y0, yI D q78 100 y0]) [0, 1, 2, 3, 4, 5, 6, 7, 8, 9, 10, 11, 12, 13, 14, 15, 16, 17, 18, 19, 20, 21, 22, 23, 24, 25, 26, 27, 28, 29, 30, 31, 32, 33, 34, 35, 36, 37, 38, 39, 40, 41, 42, 43, 44, 45, 46, 47, 48, 49, 50, 51, 52, 53, 54, 55, 56, 57, 58, 59, 60, 61, 62, 63] (by decide) rfl ?_
  exact hR (yU [q5, (u9 0), (u9 1), (u9 2), (u9 3), (u9 4), (u9 5), (u9 6), (u9 7), (u9 8), (u9 9), (u9 10), (u9 11), (u9 12), (u9 13), q16, (u24 0), (u24 1), (u24 2), (u24 3), (u24 4), (u24 5), (u24 6), (u24 7), (u24 8), (u24 9), (u24 10), (u24 11), (u24 12), (u24 13), (u24 14), (u24 15), (u24 16), (u24 17), q31, (u39 0), (u39 1), (u39 2), (u39 3), (u39 4), (u39 5), (u39 6), (u39 7), (u39 8), (u39 9), (u39 10), (u39 11), (u39 12), (u39 13), (u39 14), (u39 15), (u39 16), (u39 17), q46, (u50 0), (u50 1), (u50 2), (u50 3), q57, (u61 0), (u61 1), q70, q78]) _ _ d_CT_init_88
