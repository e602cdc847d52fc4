def mN1 : Nat → Nat → Int32
  | 0 => y0
  | i + 1 => upd (upd (mN1 i) (0 + i) (-1)) (256 + i) (-1)
def mN2 : Nat → Nat → Int32
  | 0 => mN1 64
  | i + 1 => upd (upd (mN2 i) (528 + i) (-1)) (656 + i) (-1)
set_option maxRecDepth 100000 in
set_option maxHeartbeats 4000000 in
theorem c_Mo_init {la : Launch} {D : yG} {q : Nat} : yC la D y_Mo_init (Cond.code y_Mo_init prog_8_method_1_code 2 none :: TBL) (zRc 1 21 2428) [.ref q] [yO q 6 [.int 0, .int 0, .null, .null, .null, .null, .null, .null, .null, .null, .null, .null, .null, .null, .int 0, .null, .null, .null, .null, .null, .null, .null, .int 0, .null, .null]] (fun u => [yO q 6 [.int 0, .int 1, .ref (u 0), .ref (u 1), .ref (u 2), .ref (u 3), .ref (u 4), .ref (u 5), .ref (u 6), .ref (u 7), .ref (u 8), .ref (u 9), .ref (u 10), .ref (u 11), .int 0, .ref (u 12), .ref (u 13), .ref (u 14), .ref (u 15), .ref (u 16), .ref (u 17), .ref (u 18), .int 0, .ref (u 19), .ref (u 20)], yZ D (u 0) 16 y0, yI D (u 1) 16 y0, yI D (u 2) 16 y0, yI D (u 3) 16 y0, yI D (u 4) 16 y0, yI D (u 5) 16 (yF 16 (-1) y0), yI D (u 6) 16 (yF 16 (-1) y0), yI D (u 7) 64 (yF 64 (-1) y0), yI D (u 8) 64 y0, yI D (u 9) 64 (yF 64 (-1) y0), yI D (u 10) 64 y0, yZ D (u 11) 64 y0, yI D (u 12) 24 y0, yI D (u 13) 24 y0, yI D (u 14) 762 (mN2 16), yI D (u 15) 762 y0, yJ D (u 16) 16 y0L, yJ D (u 17) 16 y0L, yI D (u 18) 192 y0, yI D (u 19) 100 y0, yI D (u 20) 100 y0]) := by
  refine yC_of (by decide) (by simp [lg_sl, Value.category]) (fun X hla hX hM hR => ?_)
  subst hla
  refine Y_loc (l' := [(0, .ref q)]) (by simp [lv_args, Value.category, List.lookup]) ?_
  refine Y_aload_n (i := 0) hX d_Mo_init_0 rfl rfl ?_
  refine Y_oinit hX d_Mo_init_1 (tb2 (List.mem_of_getElem? (i := 216) rfl) rfl) (tb0 (List.mem_of_getElem? (i := 22) rfl) rfl) (tb0 (List.mem_of_getElem? (i := 23) rfl) rfl) (by decide) (Nat.le_of_ble_eq_true rfl) ?_
  refine Y_aload_n (i := 0) hX d_Mo_init_4 rfl rfl ?_
  refine Y_iconst (v := 0) hX d_Mo_init_5 rfl ?_
  refine Y_put (q0 := 0) (k0 := 0) (ws' := [yO q 6 [.int 0, .int 0, .null, .null, .null, .null, .null, .null, .null, .null, .null, .null, .null, .null, .int 0, .null, .null, .null, .null, .null, .null, .null, .int 0, .null, .null]]) hX d_Mo_init_6 rfl rfl u_Mo (by decide) lk_Mo_7 t_Mo to_Mo n_Mo rfl rfl rfl rfl (Nat.le_of_ble_eq_true rfl) rfl ?_
  refine Y_aload_n (i := 0) hX d_Mo_init_9 rfl rfl ?_
  refine Y_iconst (v := 1) hX d_Mo_init_10 rfl ?_
  refine Y_put (q0 := 0) (k0 := 1) (ws' := [yO q 6 [.int 0, .int 1, .null, .null, .null, .null, .null, .null, .null, .null, .null, .null, .null, .null, .int 0, .null, .null, .null, .null, .null, .null, .null, .int 0, .null, .null]]) hX d_Mo_init_11 rfl rfl u_Mo (by decide) lk_Mo_13 t_Mo to_Mo n_Mo rfl rfl rfl rfl (Nat.le_of_ble_eq_true rfl) rfl ?_
  refine Y_aload_n (i := 0) hX d_Mo_init_14 rfl rfl ?_
  refine Y_bipush (v := 16) hX d_Mo_init_15 rfl ?_
  refine Y_newZ (N := 16) hX d_Mo_init_17 (tb0 (List.mem_of_getElem? (i := 116) rfl) rfl) (by decide) rfl (by decide) (by decide) (by decide) (fun q17 => ?_)
  refine Y_putF (q0 := 0) (k0 := 2) (ws' := [yO q 6 [.int 0, .int 1, .ref q17, .null, .null, .null, .null, .null, .null, .null, .null, .null, .null, .null, .int 0, .null, .null, .null, .null, .null, .null, .null, .int 0, .null, .null], yZ D q17 16 y0]) hX hM d_Mo_init_19 rfl rfl u_Mo (by decide) lk_Mo_17 t_Mo to_Mo n_Mo rfl rfl rfl rfl rfl (Nat.le_of_ble_eq_true rfl) rfl ?_
  refine Y_aload_n (i := 0) hX d_Mo_init_22 rfl rfl ?_
  refine Y_bipush (v := 16) hX d_Mo_init_23 rfl ?_
  refine Y_newI (N := 16) hX d_Mo_init_25 (tb0 (List.mem_of_getElem? (i := 117) rfl) rfl) (by decide) rfl (by decide) (by decide) (by decide) (fun q25 => ?_)
  refine Y_putF (q0 := 0) (k0 := 3) (ws' := [yO q 6 [.int 0, .int 1, .ref q17, .ref q25, .null, .null, .null, .null, .null, .null, .null, .null, .null, .null, .int 0, .null, .null, .null, .null, .null, .null, .null, .int 0, .null, .null], yZ D q17 16 y0, yI D q25 16 y0]) hX hM d_Mo_init_27 rfl rfl u_Mo (by decide) lk_Mo_21 t_Mo to_Mo n_Mo rfl rfl rfl rfl rfl (Nat.le_of_ble_eq_true rfl) rfl ?_
  refine Y_aload_n (i := 0) hX d_Mo_init_30 rfl rfl ?_
  refine Y_bipush (v := 16) hX d_Mo_init_31 rfl ?_
  refine Y_newI (N := 16) hX d_Mo_init_33 (tb0 (List.mem_of_getElem? (i := 117) rfl) rfl) (by decide) rfl (by decide) (by decide) (by decide) (fun q33 => ?_)
  refine Y_putF (q0 := 0) (k0 := 4) (ws' := [yO q 6 [.int 0, .int 1, .ref q17, .ref q25, .ref q33, .null, .null, .null, .null, .null, .null, .null, .null, .null, .int 0, .null, .null, .null, .null, .null, .null, .null, .int 0, .null, .null], yZ D q17 16 y0, yI D q25 16 y0, yI D q33 16 y0]) hX hM d_Mo_init_35 rfl rfl u_Mo (by decide) lk_Mo_25 t_Mo to_Mo n_Mo rfl rfl rfl rfl rfl (Nat.le_of_ble_eq_true rfl) rfl ?_
  refine Y_aload_n (i := 0) hX d_Mo_init_38 rfl rfl ?_
  refine Y_bipush (v := 16) hX d_Mo_init_39 rfl ?_
  refine Y_newI (N := 16) hX d_Mo_init_41 (tb0 (List.mem_of_getElem? (i := 117) rfl) rfl) (by decide) rfl (by decide) (by decide) (by decide) (fun q41 => ?_)
  refine Y_putF (q0 := 0) (k0 := 5) (ws' := [yO q 6 [.int 0, .int 1, .ref q17, .ref q25, .ref q33, .ref q41, .null, .null, .null, .null, .null, .null, .null, .null, .int 0, .null, .null, .null, .null, .null, .null, .null, .int 0, .null, .null], yZ D q17 16 y0, yI D q25 16 y0, yI D q33 16 y0, yI D q41 16 y0]) hX hM d_Mo_init_43 rfl rfl u_Mo (by decide) lk_Mo_28 t_Mo to_Mo n_Mo rfl rfl rfl rfl rfl (Nat.le_of_ble_eq_true rfl) rfl ?_
  refine Y_aload_n (i := 0) hX d_Mo_init_46 rfl rfl ?_
  refine Y_bipush (v := 16) hX d_Mo_init_47 rfl ?_
  refine Y_newI (N := 16) hX d_Mo_init_49 (tb0 (List.mem_of_getElem? (i := 117) rfl) rfl) (by decide) rfl (by decide) (by decide) (by decide) (fun q49 => ?_)
  refine Y_putF (q0 := 0) (k0 := 6) (ws' := [yO q 6 [.int 0, .int 1, .ref q17, .ref q25, .ref q33, .ref q41, .ref q49, .null, .null, .null, .null, .null, .null, .null, .int 0, .null, .null, .null, .null, .null, .null, .null, .int 0, .null, .null], yZ D q17 16 y0, yI D q25 16 y0, yI D q33 16 y0, yI D q41 16 y0, yI D q49 16 y0]) hX hM d_Mo_init_51 rfl rfl u_Mo (by decide) lk_Mo_31 t_Mo to_Mo n_Mo rfl rfl rfl rfl rfl (Nat.le_of_ble_eq_true rfl) rfl ?_
  refine Y_aload_n (i := 0) hX d_Mo_init_54 rfl rfl ?_
  refine Y_bipush (v := 16) hX d_Mo_init_55 rfl ?_
  refine Y_newI (N := 16) hX d_Mo_init_57 (tb0 (List.mem_of_getElem? (i := 117) rfl) rfl) (by decide) rfl (by decide) (by decide) (by decide) (fun q57 => ?_)
  refine Y_putF (q0 := 0) (k0 := 7) (ws' := [yO q 6 [.int 0, .int 1, .ref q17, .ref q25, .ref q33, .ref q41, .ref q49, .ref q57, .null, .null, .null, .null, .null, .null, .int 0, .null, .null, .null, .null, .null, .null, .null, .int 0, .null, .null], yZ D q17 16 y0, yI D q25 16 y0, yI D q33 16 y0, yI D q41 16 y0, yI D q49 16 y0, yI D q57 16 y0]) hX hM d_Mo_init_59 rfl rfl u_Mo (by decide) lk_Mo_34 t_Mo to_Mo n_Mo rfl rfl rfl rfl rfl (Nat.le_of_ble_eq_true rfl) rfl ?_
  refine Y_aload_n (i := 0) hX d_Mo_init_62 rfl rfl ?_
  refine Y_bipush (v := 16) hX d_Mo_init_63 rfl ?_
  refine Y_newI (N := 16) hX d_Mo_init_65 (tb0 (List.mem_of_getElem? (i := 117) rfl) rfl) (by decide) rfl (by decide) (by decide) (by decide) (fun q65 => ?_)
  refine Y_putF (q0 := 0) (k0 := 8) (ws' := [yO q 6 [.int 0, .int 1, .ref q17, .ref q25, .ref q33, .ref q41, .ref q49, .ref q57, .ref q65, .null, .null, .null, .null, .null, .int 0, .null, .null, .null, .null, .null, .null, .null, .int 0, .null, .null], yZ D q17 16 y0, yI D q25 16 y0, yI D q33 16 y0, yI D q41 16 y0, yI D q49 16 y0, yI D q57 16 y0, yI D q65 16 y0]) hX hM d_Mo_init_67 rfl rfl u_Mo (by decide) lk_Mo_37 t_Mo to_Mo n_Mo rfl rfl rfl rfl rfl (Nat.le_of_ble_eq_true rfl) rfl ?_
  refine Y_aload_n (i := 0) hX d_Mo_init_70 rfl rfl ?_
  refine Y_bipush (v := 64) hX d_Mo_init_71 rfl ?_
  refine Y_newI (N := 64) hX d_Mo_init_73 (tb0 (List.mem_of_getElem? (i := 117) rfl) rfl) (by decide) rfl (by decide) (by decide) (by decide) (fun q73 => ?_)
  refine Y_putF (q0 := 0) (k0 := 9) (ws' := [yO q 6 [.int 0, .int 1, .ref q17, .ref q25, .ref q33, .ref q41, .ref q49, .ref q57, .ref q65, .ref q73, .null, .null, .null, .null, .int 0, .null, .null, .null, .null, .null, .null, .null, .int 0, .null, .null], yZ D q17 16 y0, yI D q25 16 y0, yI D q33 16 y0, yI D q41 16 y0, yI D q49 16 y0, yI D q57 16 y0, yI D q65 16 y0, yI D q73 64 y0]) hX hM d_Mo_init_75 rfl rfl u_Mo (by decide) lk_Mo_40 t_Mo to_Mo n_Mo rfl rfl rfl rfl rfl (Nat.le_of_ble_eq_true rfl) rfl ?_
  refine Y_aload_n (i := 0) hX d_Mo_init_78 rfl rfl ?_
  refine Y_bipush (v := 64) hX d_Mo_init_79 rfl ?_
  refine Y_newI (N := 64) hX d_Mo_init_81 (tb0 (List.mem_of_getElem? (i := 117) rfl) rfl) (by decide) rfl (by decide) (by decide) (by decide) (fun q81 => ?_)
  refine Y_putF (q0 := 0) (k0 := 10) (ws' := [yO q 6 [.int 0, .int 1, .ref q17, .ref q25, .ref q33, .ref q41, .ref q49, .ref q57, .ref q65, .ref q73, .ref q81, .null, .null, .null, .int 0, .null, .null, .null, .null, .null, .null, .null, .int 0, .null, .null], yZ D q17 16 y0, yI D q25 16 y0, yI D q33 16 y0, yI D q41 16 y0, yI D q49 16 y0, yI D q57 16 y0, yI D q65 16 y0, yI D q73 64 y0, yI D q81 64 y0]) hX hM d_Mo_init_83 rfl rfl u_Mo (by decide) lk_Mo_43 t_Mo to_Mo n_Mo rfl rfl rfl rfl rfl (Nat.le_of_ble_eq_true rfl) rfl ?_
  refine Y_aload_n (i := 0) hX d_Mo_init_86 rfl rfl ?_
  refine Y_bipush (v := 64) hX d_Mo_init_87 rfl ?_
  refine Y_newI (N := 64) hX d_Mo_init_89 (tb0 (List.mem_of_getElem? (i := 117) rfl) rfl) (by decide) rfl (by decide) (by decide) (by decide) (fun q89 => ?_)
  refine Y_putF (q0 := 0) (k0 := 11) (ws' := [yO q 6 [.int 0, .int 1, .ref q17, .ref q25, .ref q33, .ref q41, .ref q49, .ref q57, .ref q65, .ref q73, .ref q81, .ref q89, .null, .null, .int 0, .null, .null, .null, .null, .null, .null, .null, .int 0, .null, .null], yZ D q17 16 y0, yI D q25 16 y0, yI D q33 16 y0, yI D q41 16 y0, yI D q49 16 y0, yI D q57 16 y0, yI D q65 16 y0, yI D q73 64 y0, yI D q81 64 y0, yI D q89 64 y0]) hX hM d_Mo_init_91 rfl rfl u_Mo (by decide) lk_Mo_46 t_Mo to_Mo n_Mo rfl rfl rfl rfl rfl (Nat.le_of_ble_eq_true rfl) rfl ?_
  refine Y_aload_n (i := 0) hX d_Mo_init_94 rfl rfl ?_
  refine Y_bipush (v := 64) hX d_Mo_init_95 rfl ?_
  refine Y_newI (N := 64) hX d_Mo_init_97 (tb0 (List.mem_of_getElem? (i := 117) rfl) rfl) (by decide) rfl (by decide) (by decide) (by decide) (fun q97 => ?_)
  refine Y_putF (q0 := 0) (k0 := 12) (ws' := [yO q 6 [.int 0, .int 1, .ref q17, .ref q25, .ref q33, .ref q41, .ref q49, .ref q57, .ref q65, .ref q73, .ref q81, .ref q89, .ref q97, .null, .int 0, .null, .null, .null, .null, .null, .null, .null, .int 0, .null, .null], yZ D q17 16 y0, yI D q25 16 y0, yI D q33 16 y0, yI D q41 16 y0, yI D q49 16 y0, yI D q57 16 y0, yI D q65 16 y0, yI D q73 64 y0, yI D q81 64 y0, yI D q89 64 y0, yI D q97 64 y0]) hX hM d_Mo_init_99 rfl rfl u_Mo (by decide) lk_Mo_49 t_Mo to_Mo n_Mo rfl rfl rfl rfl rfl (Nat.le_of_ble_eq_true rfl) rfl ?_
  refine Y_aload_n (i := 0) hX d_Mo_init_102 rfl rfl ?_
  refine Y_bipush (v := 64) hX d_Mo_init_103 rfl ?_
  refine Y_newZ (N := 64) hX d_Mo_init_105 (tb0 (List.mem_of_getElem? (i := 116) rfl) rfl) (by decide) rfl (by decide) (by decide) (by decide) (fun q105 => ?_)
  refine Y_putF (q0 := 0) (k0 := 13) (ws' := [yO q 6 [.int 0, .int 1, .ref q17, .ref q25, .ref q33, .ref q41, .ref q49, .ref q57, .ref q65, .ref q73, .ref q81, .ref q89, .ref q97, .ref q105, .int 0, .null, .null, .null, .null, .null, .null, .null, .int 0, .null, .null], yZ D q17 16 y0, yI D q25 16 y0, yI D q33 16 y0, yI D q41 16 y0, yI D q49 16 y0, yI D q57 16 y0, yI D q65 16 y0, yI D q73 64 y0, yI D q81 64 y0, yI D q89 64 y0, yI D q97 64 y0, yZ D q105 64 y0]) hX hM d_Mo_init_107 rfl rfl u_Mo (by decide) lk_Mo_52 t_Mo to_Mo n_Mo rfl rfl rfl rfl rfl (Nat.le_of_ble_eq_true rfl) rfl ?_
  refine Y_aload_n (i := 0) hX d_Mo_init_110 rfl rfl ?_
  refine Y_iconst (v := 0) hX d_Mo_init_111 rfl ?_
  refine Y_put (q0 := 0) (k0 := 14) (ws' := [yO q 6 [.int 0, .int 1, .ref q17, .ref q25, .ref q33, .ref q41, .ref q49, .ref q57, .ref q65, .ref q73, .ref q81, .ref q89, .ref q97, .ref q105, .int 0, .null, .null, .null, .null, .null, .null, .null, .int 0, .null, .null], yZ D q17 16 y0, yI D q25 16 y0, yI D q33 16 y0, yI D q41 16 y0, yI D q49 16 y0, yI D q57 16 y0, yI D q65 16 y0, yI D q73 64 y0, yI D q81 64 y0, yI D q89 64 y0, yI D q97 64 y0, yZ D q105 64 y0]) hX d_Mo_init_112 rfl rfl u_Mo (by decide) lk_Mo_55 t_Mo to_Mo n_Mo rfl rfl rfl rfl (Nat.le_of_ble_eq_true rfl) rfl ?_
  refine Y_aload_n (i := 0) hX d_Mo_init_115 rfl rfl ?_
  refine Y_bipush (v := 24) hX d_Mo_init_116 rfl ?_
  refine Y_newI (N := 24) hX d_Mo_init_118 (tb0 (List.mem_of_getElem? (i := 117) rfl) rfl) (by decide) rfl (by decide) (by decide) (by decide) (fun q118 => ?_)
  refine Y_putF (q0 := 0) (k0 := 15) (ws' := [yO q 6 [.int 0, .int 1, .ref q17, .ref q25, .ref q33, .ref q41, .ref q49, .ref q57, .ref q65, .ref q73, .ref q81, .ref q89, .ref q97, .ref q105, .int 0, .ref q118, .null, .null, .null, .null, .null, .null, .int 0, .null, .null], yZ D q17 16 y0, yI D q25 16 y0, yI D q33 16 y0, yI D q41 16 y0, yI D q49 16 y0, yI D q57 16 y0, yI D q65 16 y0, yI D q73 64 y0, yI D q81 64 y0, yI D q89 64 y0, yI D q97 64 y0, yZ D q105 64 y0, yI D q118 24 y0]) hX hM d_Mo_init_120 rfl rfl u_Mo (by decide) lk_Mo_58 t_Mo to_Mo n_Mo rfl rfl rfl rfl rfl (Nat.le_of_ble_eq_true rfl) rfl ?_
  refine Y_aload_n (i := 0) hX d_Mo_init_123 rfl rfl ?_
  refine Y_bipush (v := 24) hX d_Mo_init_124 rfl ?_
  refine Y_newI (N := 24) hX d_Mo_init_126 (tb0 (List.mem_of_getElem? (i := 117) rfl) rfl) (by decide) rfl (by decide) (by decide) (by decide) (fun q126 => ?_)
  refine Y_putF (q0 := 0) (k0 := 16) (ws' := [yO q 6 [.int 0, .int 1, .ref q17, .ref q25, .ref q33, .ref q41, .ref q49, .ref q57, .ref q65, .ref q73, .ref q81, .ref q89, .ref q97, .ref q105, .int 0, .ref q118, .ref q126, .null, .null, .null, .null, .null, .int 0, .null, .null], yZ D q17 16 y0, yI D q25 16 y0, yI D q33 16 y0, yI D q41 16 y0, yI D q49 16 y0, yI D q57 16 y0, yI D q65 16 y0, yI D q73 64 y0, yI D q81 64 y0, yI D q89 64 y0, yI D q97 64 y0, yZ D q105 64 y0, yI D q118 24 y0, yI D q126 24 y0]) hX hM d_Mo_init_128 rfl rfl u_Mo (by decide) lk_Mo_61 t_Mo to_Mo n_Mo rfl rfl rfl rfl rfl (Nat.le_of_ble_eq_true rfl) rfl ?_
  refine Y_aload_n (i := 0) hX d_Mo_init_131 rfl rfl ?_
  refine Y_sipush (v := 762) hX d_Mo_init_132 rfl ?_
  refine Y_newI (N := 762) hX d_Mo_init_135 (tb0 (List.mem_of_getElem? (i := 117) rfl) rfl) (by decide) rfl (by decide) (by decide) (by decide) (fun q135 => ?_)
  refine Y_putF (q0 := 0) (k0 := 17) (ws' := [yO q 6 [.int 0, .int 1, .ref q17, .ref q25, .ref q33, .ref q41, .ref q49, .ref q57, .ref q65, .ref q73, .ref q81, .ref q89, .ref q97, .ref q105, .int 0, .ref q118, .ref q126, .ref q135, .null, .null, .null, .null, .int 0, .null, .null], yZ D q17 16 y0, yI D q25 16 y0, yI D q33 16 y0, yI D q41 16 y0, yI D q49 16 y0, yI D q57 16 y0, yI D q65 16 y0, yI D q73 64 y0, yI D q81 64 y0, yI D q89 64 y0, yI D q97 64 y0, yZ D q105 64 y0, yI D q118 24 y0, yI D q126 24 y0, yI D q135 762 y0]) hX hM d_Mo_init_137 rfl rfl u_Mo (by decide) lk_Mo_64 t_Mo to_Mo n_Mo rfl rfl rfl rfl rfl (Nat.le_of_ble_eq_true rfl) rfl ?_
  refine Y_aload_n (i := 0) hX d_Mo_init_140 rfl rfl ?_
  refine Y_sipush (v := 762) hX d_Mo_init_141 rfl ?_
  refine Y_newI (N := 762) hX d_Mo_init_144 (tb0 (List.mem_of_getElem? (i := 117) rfl) rfl) (by decide) rfl (by decide) (by decide) (by decide) (fun q144 => ?_)
  refine Y_putF (q0 := 0) (k0 := 18) (ws' := [yO q 6 [.int 0, .int 1, .ref q17, .ref q25, .ref q33, .ref q41, .ref q49, .ref q57, .ref q65, .ref q73, .ref q81, .ref q89, .ref q97, .ref q105, .int 0, .ref q118, .ref q126, .ref q135, .ref q144, .null, .null, .null, .int 0, .null, .null], yZ D q17 16 y0, yI D q25 16 y0, yI D q33 16 y0, yI D q41 16 y0, yI D q49 16 y0, yI D q57 16 y0, yI D q65 16 y0, yI D q73 64 y0, yI D q81 64 y0, yI D q89 64 y0, yI D q97 64 y0, yZ D q105 64 y0, yI D q118 24 y0, yI D q126 24 y0, yI D q135 762 y0, yI D q144 762 y0]) hX hM d_Mo_init_146 rfl rfl u_Mo (by decide) lk_Mo_67 t_Mo to_Mo n_Mo rfl rfl rfl rfl rfl (Nat.le_of_ble_eq_true rfl) rfl ?_
  refine Y_aload_n (i := 0) hX d_Mo_init_149 rfl rfl ?_
  refine Y_bipush (v := 16) hX d_Mo_init_150 rfl ?_
  refine Y_newJ (N := 16) hX d_Mo_init_152 (tb0 (List.mem_of_getElem? (i := 220) rfl) rfl) (by decide) rfl (by decide) (by decide) (by decide) (fun q152 => ?_)
  refine Y_putF (q0 := 0) (k0 := 19) (ws' := [yO q 6 [.int 0, .int 1, .ref q17, .ref q25, .ref q33, .ref q41, .ref q49, .ref q57, .ref q65, .ref q73, .ref q81, .ref q89, .ref q97, .ref q105, .int 0, .ref q118, .ref q126, .ref q135, .ref q144, .ref q152, .null, .null, .int 0, .null, .null], yZ D q17 16 y0, yI D q25 16 y0, yI D q33 16 y0, yI D q41 16 y0, yI D q49 16 y0, yI D q57 16 y0, yI D q65 16 y0, yI D q73 64 y0, yI D q81 64 y0, yI D q89 64 y0, yI D q97 64 y0, yZ D q105 64 y0, yI D q118 24 y0, yI D q126 24 y0, yI D q135 762 y0, yI D q144 762 y0, yJ D q152 16 y0L]) hX hM d_Mo_init_154 rfl rfl u_Mo (by decide) lk_Mo_70 t_Mo to_Mo n_Mo rfl rfl rfl rfl rfl (Nat.le_of_ble_eq_true rfl) rfl ?_
  refine Y_aload_n (i := 0) hX d_Mo_init_157 rfl rfl ?_
  refine Y_bipush (v := 16) hX d_Mo_init_158 rfl ?_
  refine Y_newJ (N := 16) hX d_Mo_init_160 (tb0 (List.mem_of_getElem? (i := 220) rfl) rfl) (by decide) rfl (by decide) (by decide) (by decide) (fun q160 => ?_)
  refine Y_putF (q0 := 0) (k0 := 20) (ws' := [yO q 6 [.int 0, .int 1, .ref q17, .ref q25, .ref q33, .ref q41, .ref q49, .ref q57, .ref q65, .ref q73, .ref q81, .ref q89, .ref q97, .ref q105, .int 0, .ref q118, .ref q126, .ref q135, .ref q144, .ref q152, .ref q160, .null, .int 0, .null, .null], yZ D q17 16 y0, yI D q25 16 y0, yI D q33 16 y0, yI D q41 16 y0, yI D q49 16 y0, yI D q57 16 y0, yI D q65 16 y0, yI D q73 64 y0, yI D q81 64 y0, yI D q89 64 y0, yI D q97 64 y0, yZ D q105 64 y0, yI D q118 24 y0, yI D q126 24 y0, yI D q135 762 y0, yI D q144 762 y0, yJ D q152 16 y0L, yJ D q160 16 y0L]) hX hM d_Mo_init_162 rfl rfl u_Mo (by decide) lk_Mo_74 t_Mo to_Mo n_Mo rfl rfl rfl rfl rfl (Nat.le_of_ble_eq_true rfl) rfl ?_
  refine Y_aload_n (i := 0) hX d_Mo_init_165 rfl rfl ?_
  refine Y_sipush (v := 192) hX d_Mo_init_166 rfl ?_
  refine Y_newI (N := 192) hX d_Mo_init_169 (tb0 (List.mem_of_getElem? (i := 117) rfl) rfl) (by decide) rfl (by decide) (by decide) (by decide) (fun q169 => ?_)
  refine Y_putF (q0 := 0) (k0 := 21) (ws' := [yO q 6 [.int 0, .int 1, .ref q17, .ref q25, .ref q33, .ref q41, .ref q49, .ref q57, .ref q65, .ref q73, .ref q81, .ref q89, .ref q97, .ref q105, .int 0, .ref q118, .ref q126, .ref q135, .ref q144, .ref q152, .ref q160, .ref q169, .int 0, .null, .null], yZ D q17 16 y0, yI D q25 16 y0, yI D q33 16 y0, yI D q41 16 y0, yI D q49 16 y0, yI D q57 16 y0, yI D q65 16 y0, yI D q73 64 y0, yI D q81 64 y0, yI D q89 64 y0, yI D q97 64 y0, yZ D q105 64 y0, yI D q118 24 y0, yI D q126 24 y0, yI D q135 762 y0, yI D q144 762 y0, yJ D q152 16 y0L, yJ D q160 16 y0L, yI D q169 192 y0]) hX hM d_Mo_init_171 rfl rfl u_Mo (by decide) lk_Mo_77 t_Mo to_Mo n_Mo rfl rfl rfl rfl rfl (Nat.le_of_ble_eq_true rfl) rfl ?_
  refine Y_aload_n (i := 0) hX d_Mo_init_174 rfl rfl ?_
  refine Y_iconst (v := 0) hX d_Mo_init_175 rfl ?_
  refine Y_put (q0 := 0) (k0 := 22) (ws' := [yO q 6 [.int 0, .int 1, .ref q17, .ref q25, .ref q33, .ref q41, .ref q49, .ref q57, .ref q65, .ref q73, .ref q81, .ref q89, .ref q97, .ref q105, .int 0, .ref q118, .ref q126, .ref q135, .ref q144, .ref q152, .ref q160, .ref q169, .int 0, .null, .null], yZ D q17 16 y0, yI D q25 16 y0, yI D q33 16 y0, yI D q41 16 y0, yI D q49 16 y0, yI D q57 16 y0, yI D q65 16 y0, yI D q73 64 y0, yI D q81 64 y0, yI D q89 64 y0, yI D q97 64 y0, yZ D q105 64 y0, yI D q118 24 y0, yI D q126 24 y0, yI D q135 762 y0, yI D q144 762 y0, yJ D q152 16 y0L, yJ D q160 16 y0L, yI D q169 192 y0]) hX d_Mo_init_176 rfl rfl u_Mo (by decide) lk_Mo_80 t_Mo to_Mo n_Mo rfl rfl rfl rfl (Nat.le_of_ble_eq_true rfl) rfl ?_
  refine Y_aload_n (i := 0) hX d_Mo_init_179 rfl rfl ?_
  refine Y_bipush (v := 100) hX d_Mo_init_180 rfl ?_
  refine Y_newI (N := 100) hX d_Mo_init_182 (tb0 (List.mem_of_getElem? (i := 117) rfl) rfl) (by decide) rfl (by decide) (by decide) (by decide) (fun q182 => ?_)
  refine Y_putF (q0 := 0) (k0 := 23) (ws' := [yO q 6 [.int 0, .int 1, .ref q17, .ref q25, .ref q33, .ref q41, .ref q49, .ref q57, .ref q65, .ref q73, .ref q81, .ref q89, .ref q97, .ref q105, .int 0, .ref q118, .ref q126, .ref q135, .ref q144, .ref q152, .ref q160, .ref q169, .int 0, .ref q182, .null], yZ D q17 16 y0, yI D q25 16 y0, yI D q33 16 y0, yI D q41 16 y0, yI D q49 16 y0, yI D q57 16 y0, yI D q65 16 y0, yI D q73 64 y0, yI D q81 64 y0, yI D q89 64 y0, yI D q97 64 y0, yZ D q105 64 y0, yI D q118 24 y0, yI D q126 24 y0, yI D q135 762 y0, yI D q144 762 y0, yJ D q152 16 y0L, yJ D q160 16 y0L, yI D q169 192 y0, yI D q182 100 y0]) hX hM d_Mo_init_184 rfl rfl u_Mo (by decide) lk_Mo_83 t_Mo to_Mo n_Mo rfl rfl rfl rfl rfl (Nat.le_of_ble_eq_true rfl) rfl ?_
  refine Y_aload_n (i := 0) hX d_Mo_init_187 rfl rfl ?_
  refine Y_bipush (v := 100) hX d_Mo_init_188 rfl ?_
  refine Y_newI (N := 100) hX d_Mo_init_190 (tb0 (List.mem_of_getElem? (i := 117) rfl) rfl) (by decide) rfl (by decide) (by decide) (by decide) (fun q190 => ?_)
  refine Y_putF (q0 := 0) (k0 := 24) (ws' := [yO q 6 [.int 0, .int 1, .ref q17, .ref q25, .ref q33, .ref q41, .ref q49, .ref q57, .ref q65, .ref q73, .ref q81, .ref q89, .ref q97, .ref q105, .int 0, .ref q118, .ref q126, .ref q135, .ref q144, .ref q152, .ref q160, .ref q169, .int 0, .ref q182, .ref q190], yZ D q17 16 y0, yI D q25 16 y0, yI D q33 16 y0, yI D q41 16 y0, yI D q49 16 y0, yI D q57 16 y0, yI D q65 16 y0, yI D q73 64 y0, yI D q81 64 y0, yI D q89 64 y0, yI D q97 64 y0, yZ D q105 64 y0, yI D q118 24 y0, yI D q126 24 y0, yI D q135 762 y0, yI D q144 762 y0, yJ D q152 16 y0L, yJ D q160 16 y0L, yI D q169 192 y0, yI D q182 100 y0, yI D q190 100 y0]) hX hM d_Mo_init_192 rfl rfl u_Mo (by decide) lk_Mo_86 t_Mo to_Mo n_Mo rfl rfl rfl rfl rfl (Nat.le_of_ble_eq_true rfl) rfl ?_
  have hL245 : ∀ k i : Nat, k + i = 16 → Y X D 2 21 2428 245 [(1, .int (nI i)), (0, .ref q)] [] [yO q 6 [.int 0, .int 1, .ref q17, .ref q25, .ref q33, .ref q41, .ref q49, .ref q57, .ref q65, .ref q73, .ref q81, .ref q89, .ref q97, .ref q105, .int 0, .ref q118, .ref q126, .ref q135, .ref q144, .ref q152, .ref q160, .ref q169, .int 0, .ref q182, .ref q190], yZ D q17 16 y0, yI D q25 16 y0, yI D q33 16 y0, yI D q41 16 y0, yI D q49 16 y0, yI D q57 16 (yF i (-1) y0), yI D q65 16 (yF i (-1) y0), yI D q73 64 (yF 64 (-1) y0), yI D q81 64 y0, yI D q89 64 (yF 64 (-1) y0), yI D q97 64 y0, yZ D q105 64 y0, yI D q118 24 y0, yI D q126 24 y0, yI D q135 762 (mN2 i), yI D q144 762 y0, yJ D q152 16 y0L, yJ D q160 16 y0L, yI D q169 192 y0, yI D q182 100 y0, yI D q190 100 y0] := by
    intro k
    induction k with
    | zero =>
      intro i hi
      obtain rfl : i = 16 := by omega
      refine Y_iload_n (i := 1) hX d_Mo_init_245 rfl rfl ?_
      refine Y_bipush (v := nI 16) hX d_Mo_init_246 rfl ?_
      refine Y_icge (tgt := 293) hX d_Mo_init_248 rfl (fun _ => ?_) (fun h => absurd (by decide) h)
      refine Y_sub (ws' := [yO q 6 [.int 0, .int 1, .ref q17, .ref q25, .ref q33, .ref q41, .ref q49, .ref q57, .ref q65, .ref q73, .ref q81, .ref q89, .ref q97, .ref q105, .int 0, .ref q118, .ref q126, .ref q135, .ref q144, .ref q152, .ref q160, .ref q169, .int 0, .ref q182, .ref q190], yZ D q17 16 y0, yI D q25 16 y0, yI D q33 16 y0, yI D q41 16 y0, yI D q49 16 y0, yI D q57 16 (yF 16 (-1) y0), yI D q65 16 (yF 16 (-1) y0), yI D q73 64 (yF 64 (-1) y0), yI D q81 64 y0, yI D q89 64 (yF 64 (-1) y0), yI D q97 64 y0, yZ D q105 64 y0, yI D q118 24 y0, yI D q126 24 y0, yI D q135 762 (mN2 16), yI D q144 762 y0, yJ D q152 16 y0L, yJ D q160 16 y0L, yI D q169 192 y0, yI D q182 100 y0, yI D q190 100 y0]) [0, 1, 2, 3, 4, 5, 6, 7, 8, 9, 10, 11, 12, 13, 14, 15, 16, 17, 18, 19, 20, 21] (by decide) rfl ?_
      exact hR (yU [q17, q25, q33, q41, q49, q57, q65, q73, q81, q89, q97, q105, q118, q126, q135, q144, q152, q160, q169, q182, q190]) _ _ d_Mo_init_293
    | succ k ih =>
      intro i hi
      have hi2 : i < 16 := by omega
      refine Y_iload_n (i := 1) hX d_Mo_init_245 rfl rfl ?_
      refine Y_bipush (v := nI 16) hX d_Mo_init_246 rfl ?_
      refine Y_icge (tgt := 293) hX d_Mo_init_248 rfl (fun h => absurd h (nI_ge hi2 (by decide))) (fun _ => ?_)
      refine Y_aload_n (i := 0) hX d_Mo_init_251 rfl rfl ?_
      refine Y_get (q0 := 0) (k0 := 7) hX d_Mo_init_252 rfl rfl u_Mo (by decide) lk_Mo_34 rfl ?_
      refine Y_iload_n (i := 1) hX d_Mo_init_255 rfl rfl ?_
      refine Y_iconst (v := -1) hX d_Mo_init_256 rfl ?_
      refine Y_iast (q0 := 6) (k0 := i) (ws' := [yO q 6 [.int 0, .int 1, .ref q17, .ref q25, .ref q33, .ref q41, .ref q49, .ref q57, .ref q65, .ref q73, .ref q81, .ref q89, .ref q97, .ref q105, .int 0, .ref q118, .ref q126, .ref q135, .ref q144, .ref q152, .ref q160, .ref q169, .int 0, .ref q182, .ref q190], yZ D q17 16 y0, yI D q25 16 y0, yI D q33 16 y0, yI D q41 16 y0, yI D q49 16 y0, yI D q57 16 (upd (yF i (-1) y0) i (-1)), yI D q65 16 (yF i (-1) y0), yI D q73 64 (yF 64 (-1) y0), yI D q81 64 y0, yI D q89 64 (yF 64 (-1) y0), yI D q97 64 y0, yZ D q105 64 y0, yI D q118 24 y0, yI D q126 24 y0, yI D q135 762 (mN2 i), yI D q144 762 y0, yJ D q152 16 y0L, yJ D q160 16 y0L, yI D q169 192 y0, yI D q182 100 y0, yI D q190 100 y0]) hX d_Mo_init_257 rfl rfl (by omega) (by decide) rfl ?_
      refine Y_aload_n (i := 0) hX d_Mo_init_258 rfl rfl ?_
      refine Y_get (q0 := 0) (k0 := 8) hX d_Mo_init_259 rfl rfl u_Mo (by decide) lk_Mo_37 rfl ?_
      refine Y_iload_n (i := 1) hX d_Mo_init_262 rfl rfl ?_
      refine Y_iconst (v := -1) hX d_Mo_init_263 rfl ?_
      refine Y_iast (q0 := 7) (k0 := i) (ws' := [yO q 6 [.int 0, .int 1, .ref q17, .ref q25, .ref q33, .ref q41, .ref q49, .ref q57, .ref q65, .ref q73, .ref q81, .ref q89, .ref q97, .ref q105, .int 0, .ref q118, .ref q126, .ref q135, .ref q144, .ref q152, .ref q160, .ref q169, .int 0, .ref q182, .ref q190], yZ D q17 16 y0, yI D q25 16 y0, yI D q33 16 y0, yI D q41 16 y0, yI D q49 16 y0, yI D q57 16 (upd (yF i (-1) y0) i (-1)), yI D q65 16 (upd (yF i (-1) y0) i (-1)), yI D q73 64 (yF 64 (-1) y0), yI D q81 64 y0, yI D q89 64 (yF 64 (-1) y0), yI D q97 64 y0, yZ D q105 64 y0, yI D q118 24 y0, yI D q126 24 y0, yI D q135 762 (mN2 i), yI D q144 762 y0, yJ D q152 16 y0L, yJ D q160 16 y0L, yI D q169 192 y0, yI D q182 100 y0, yI D q190 100 y0]) hX d_Mo_init_264 rfl rfl (by omega) (by decide) rfl ?_
      refine Y_aload_n (i := 0) hX d_Mo_init_265 rfl rfl ?_
      refine Y_get (q0 := 0) (k0 := 17) hX d_Mo_init_266 rfl rfl u_Mo (by decide) lk_Mo_64 rfl ?_
      refine Y_sipush (v := nI 528) hX d_Mo_init_269 rfl ?_
      refine Y_iload_n (i := 1) hX d_Mo_init_272 rfl rfl ?_
      refine Y_iadd hX d_Mo_init_273 ?_
      refine Y_top (nI_add 528 i) ?_
      refine Y_iconst (v := -1) hX d_Mo_init_274 rfl ?_
      refine Y_iast (q0 := 15) (k0 := (528 + i)) (ws' := [yO q 6 [.int 0, .int 1, .ref q17, .ref q25, .ref q33, .ref q41, .ref q49, .ref q57, .ref q65, .ref q73, .ref q81, .ref q89, .ref q97, .ref q105, .int 0, .ref q118, .ref q126, .ref q135, .ref q144, .ref q152, .ref q160, .ref q169, .int 0, .ref q182, .ref q190], yZ D q17 16 y0, yI D q25 16 y0, yI D q33 16 y0, yI D q41 16 y0, yI D q49 16 y0, yI D q57 16 (upd (yF i (-1) y0) i (-1)), yI D q65 16 (upd (yF i (-1) y0) i (-1)), yI D q73 64 (yF 64 (-1) y0), yI D q81 64 y0, yI D q89 64 (yF 64 (-1) y0), yI D q97 64 y0, yZ D q105 64 y0, yI D q118 24 y0, yI D q126 24 y0, yI D q135 762 (upd (mN2 i) (528 + i) (-1)), yI D q144 762 y0, yJ D q152 16 y0L, yJ D q160 16 y0L, yI D q169 192 y0, yI D q182 100 y0, yI D q190 100 y0]) hX d_Mo_init_275 rfl rfl (by omega) (by decide) rfl ?_
      refine Y_aload_n (i := 0) hX d_Mo_init_276 rfl rfl ?_
      refine Y_get (q0 := 0) (k0 := 17) hX d_Mo_init_277 rfl rfl u_Mo (by decide) lk_Mo_64 rfl ?_
      refine Y_sipush (v := nI 656) hX d_Mo_init_280 rfl ?_
      refine Y_iload_n (i := 1) hX d_Mo_init_283 rfl rfl ?_
      refine Y_iadd hX d_Mo_init_284 ?_
      refine Y_top (nI_add 656 i) ?_
      refine Y_iconst (v := -1) hX d_Mo_init_285 rfl ?_
      refine Y_iast (q0 := 15) (k0 := (656 + i)) (ws' := [yO q 6 [.int 0, .int 1, .ref q17, .ref q25, .ref q33, .ref q41, .ref q49, .ref q57, .ref q65, .ref q73, .ref q81, .ref q89, .ref q97, .ref q105, .int 0, .ref q118, .ref q126, .ref q135, .ref q144, .ref q152, .ref q160, .ref q169, .int 0, .ref q182, .ref q190], yZ D q17 16 y0, yI D q25 16 y0, yI D q33 16 y0, yI D q41 16 y0, yI D q49 16 y0, yI D q57 16 (upd (yF i (-1) y0) i (-1)), yI D q65 16 (upd (yF i (-1) y0) i (-1)), yI D q73 64 (yF 64 (-1) y0), yI D q81 64 y0, yI D q89 64 (yF 64 (-1) y0), yI D q97 64 y0, yZ D q105 64 y0, yI D q118 24 y0, yI D q126 24 y0, yI D q135 762 (upd (upd (mN2 i) (528 + i) (-1)) (656 + i) (-1)), yI D q144 762 y0, yJ D q152 16 y0L, yJ D q160 16 y0L, yI D q169 192 y0, yI D q182 100 y0, yI D q190 100 y0]) hX d_Mo_init_286 rfl rfl (by omega) (by decide) rfl ?_
      refine Y_iinc (v := nI (i + 1)) hX d_Mo_init_287 rfl (nI_add i 1) (by decide) rfl ?_
      refine Y_goto (tgt := 245) hX d_Mo_init_290 rfl ?_
      refine Y_mem (ws' := [yO q 6 [.int 0, .int 1, .ref q17, .ref q25, .ref q33, .ref q41, .ref q49, .ref q57, .ref q65, .ref q73, .ref q81, .ref q89, .ref q97, .ref q105, .int 0, .ref q118, .ref q126, .ref q135, .ref q144, .ref q152, .ref q160, .ref q169, .int 0, .ref q182, .ref q190], yZ D q17 16 y0, yI D q25 16 y0, yI D q33 16 y0, yI D q41 16 y0, yI D q49 16 y0, yI D q57 16 (yF (i + 1) (-1) y0), yI D q65 16 (yF (i + 1) (-1) y0), yI D q73 64 (yF 64 (-1) y0), yI D q81 64 y0, yI D q89 64 (yF 64 (-1) y0), yI D q97 64 y0, yZ D q105 64 y0, yI D q118 24 y0, yI D q126 24 y0, yI D q135 762 (mN2 (i + 1)), yI D q144 762 y0, yJ D q152 16 y0L, yJ D q160 16 y0L, yI D q169 192 y0, yI D q182 100 y0, yI D q190 100 y0]) (by rw [← yF_s (n := i)]; rfl) ?_
      exact Y_loc rfl (ih (i + 1) (by omega))
  have hL197 : ∀ k i : Nat, k + i = 64 → Y X D 2 21 2428 197 [(1, .int (nI i)), (0, .ref q)] [] [yO q 6 [.int 0, .int 1, .ref q17, .ref q25, .ref q33, .ref q41, .ref q49, .ref q57, .ref q65, .ref q73, .ref q81, .ref q89, .ref q97, .ref q105, .int 0, .ref q118, .ref q126, .ref q135, .ref q144, .ref q152, .ref q160, .ref q169, .int 0, .ref q182, .ref q190], yZ D q17 16 y0, yI D q25 16 y0, yI D q33 16 y0, yI D q41 16 y0, yI D q49 16 y0, yI D q57 16 y0, yI D q65 16 y0, yI D q73 64 (yF i (-1) y0), yI D q81 64 y0, yI D q89 64 (yF i (-1) y0), yI D q97 64 y0, yZ D q105 64 y0, yI D q118 24 y0, yI D q126 24 y0, yI D q135 762 (mN1 i), yI D q144 762 y0, yJ D q152 16 y0L, yJ D q160 16 y0L, yI D q169 192 y0, yI D q182 100 y0, yI D q190 100 y0] := by
    intro k
    induction k with
    | zero =>
      intro i hi
      obtain rfl : i = 64 := by omega
      refine Y_iload_n (i := 1) hX d_Mo_init_197 rfl rfl ?_
      refine Y_bipush (v := nI 64) hX d_Mo_init_198 rfl ?_
      refine Y_icge (tgt := 243) hX d_Mo_init_200 rfl (fun _ => ?_) (fun h => absurd (by decide) h)
      refine Y_iconst (v := nI 0) hX d_Mo_init_243 rfl ?_
      refine Y_istore_n (i := 1) hX d_Mo_init_244 rfl (by decide) rfl ?_
      refine Y_mem (ws' := [yO q 6 [.int 0, .int 1, .ref q17, .ref q25, .ref q33, .ref q41, .ref q49, .ref q57, .ref q65, .ref q73, .ref q81, .ref q89, .ref q97, .ref q105, .int 0, .ref q118, .ref q126, .ref q135, .ref q144, .ref q152, .ref q160, .ref q169, .int 0, .ref q182, .ref q190], yZ D q17 16 y0, yI D q25 16 y0, yI D q33 16 y0, yI D q41 16 y0, yI D q49 16 y0, yI D q57 16 (yF 0 (-1) y0), yI D q65 16 (yF 0 (-1) y0), yI D q73 64 (yF 64 (-1) y0), yI D q81 64 y0, yI D q89 64 (yF 64 (-1) y0), yI D q97 64 y0, yZ D q105 64 y0, yI D q118 24 y0, yI D q126 24 y0, yI D q135 762 (mN2 0), yI D q144 762 y0, yJ D q152 16 y0L, yJ D q160 16 y0L, yI D q169 192 y0, yI D q182 100 y0, yI D q190 100 y0]) (by rw [yF_0]; rfl) ?_
      exact Y_loc rfl (hL245 16 0 (by omega))
    | succ k ih =>
      intro i hi
      have hi2 : i < 64 := by omega
      refine Y_iload_n (i := 1) hX d_Mo_init_197 rfl rfl ?_
      refine Y_bipush (v := nI 64) hX d_Mo_init_198 rfl ?_
      refine Y_icge (tgt := 243) hX d_Mo_init_200 rfl (fun h => absurd h (nI_ge hi2 (by decide))) (fun _ => ?_)
      refine Y_aload_n (i := 0) hX d_Mo_init_203 rfl rfl ?_
      refine Y_get (q0 := 0) (k0 := 9) hX d_Mo_init_204 rfl rfl u_Mo (by decide) lk_Mo_40 rfl ?_
      refine Y_iload_n (i := 1) hX d_Mo_init_207 rfl rfl ?_
      refine Y_iconst (v := -1) hX d_Mo_init_208 rfl ?_
      refine Y_iast (q0 := 8) (k0 := i) (ws' := [yO q 6 [.int 0, .int 1, .ref q17, .ref q25, .ref q33, .ref q41, .ref q49, .ref q57, .ref q65, .ref q73, .ref q81, .ref q89, .ref q97, .ref q105, .int 0, .ref q118, .ref q126, .ref q135, .ref q144, .ref q152, .ref q160, .ref q169, .int 0, .ref q182, .ref q190], yZ D q17 16 y0, yI D q25 16 y0, yI D q33 16 y0, yI D q41 16 y0, yI D q49 16 y0, yI D q57 16 y0, yI D q65 16 y0, yI D q73 64 (upd (yF i (-1) y0) i (-1)), yI D q81 64 y0, yI D q89 64 (yF i (-1) y0), yI D q97 64 y0, yZ D q105 64 y0, yI D q118 24 y0, yI D q126 24 y0, yI D q135 762 (mN1 i), yI D q144 762 y0, yJ D q152 16 y0L, yJ D q160 16 y0L, yI D q169 192 y0, yI D q182 100 y0, yI D q190 100 y0]) hX d_Mo_init_209 rfl rfl (by omega) (by decide) rfl ?_
      refine Y_aload_n (i := 0) hX d_Mo_init_210 rfl rfl ?_
      refine Y_get (q0 := 0) (k0 := 11) hX d_Mo_init_211 rfl rfl u_Mo (by decide) lk_Mo_46 rfl ?_
      refine Y_iload_n (i := 1) hX d_Mo_init_214 rfl rfl ?_
      refine Y_iconst (v := -1) hX d_Mo_init_215 rfl ?_
      refine Y_iast (q0 := 10) (k0 := i) (ws' := [yO q 6 [.int 0, .int 1, .ref q17, .ref q25, .ref q33, .ref q41, .ref q49, .ref q57, .ref q65, .ref q73, .ref q81, .ref q89, .ref q97, .ref q105, .int 0, .ref q118, .ref q126, .ref q135, .ref q144, .ref q152, .ref q160, .ref q169, .int 0, .ref q182, .ref q190], yZ D q17 16 y0, yI D q25 16 y0, yI D q33 16 y0, yI D q41 16 y0, yI D q49 16 y0, yI D q57 16 y0, yI D q65 16 y0, yI D q73 64 (upd (yF i (-1) y0) i (-1)), yI D q81 64 y0, yI D q89 64 (upd (yF i (-1) y0) i (-1)), yI D q97 64 y0, yZ D q105 64 y0, yI D q118 24 y0, yI D q126 24 y0, yI D q135 762 (mN1 i), yI D q144 762 y0, yJ D q152 16 y0L, yJ D q160 16 y0L, yI D q169 192 y0, yI D q182 100 y0, yI D q190 100 y0]) hX d_Mo_init_216 rfl rfl (by omega) (by decide) rfl ?_
      refine Y_aload_n (i := 0) hX d_Mo_init_217 rfl rfl ?_
      refine Y_get (q0 := 0) (k0 := 17) hX d_Mo_init_218 rfl rfl u_Mo (by decide) lk_Mo_64 rfl ?_
      refine Y_iconst (v := nI 0) hX d_Mo_init_221 rfl ?_
      refine Y_iload_n (i := 1) hX d_Mo_init_222 rfl rfl ?_
      refine Y_iadd hX d_Mo_init_223 ?_
      refine Y_top (nI_add 0 i) ?_
      refine Y_iconst (v := -1) hX d_Mo_init_224 rfl ?_
      refine Y_iast (q0 := 15) (k0 := (0 + i)) (ws' := [yO q 6 [.int 0, .int 1, .ref q17, .ref q25, .ref q33, .ref q41, .ref q49, .ref q57, .ref q65, .ref q73, .ref q81, .ref q89, .ref q97, .ref q105, .int 0, .ref q118, .ref q126, .ref q135, .ref q144, .ref q152, .ref q160, .ref q169, .int 0, .ref q182, .ref q190], yZ D q17 16 y0, yI D q25 16 y0, yI D q33 16 y0, yI D q41 16 y0, yI D q49 16 y0, yI D q57 16 y0, yI D q65 16 y0, yI D q73 64 (upd (yF i (-1) y0) i (-1)), yI D q81 64 y0, yI D q89 64 (upd (yF i (-1) y0) i (-1)), yI D q97 64 y0, yZ D q105 64 y0, yI D q118 24 y0, yI D q126 24 y0, yI D q135 762 (upd (mN1 i) (0 + i) (-1)), yI D q144 762 y0, yJ D q152 16 y0L, yJ D q160 16 y0L, yI D q169 192 y0, yI D q182 100 y0, yI D q190 100 y0]) hX d_Mo_init_225 rfl rfl (by omega) (by decide) rfl ?_
      refine Y_aload_n (i := 0) hX d_Mo_init_226 rfl rfl ?_
      refine Y_get (q0 := 0) (k0 := 17) hX d_Mo_init_227 rfl rfl u_Mo (by decide) lk_Mo_64 rfl ?_
      refine Y_sipush (v := nI 256) hX d_Mo_init_230 rfl ?_
      refine Y_iload_n (i := 1) hX d_Mo_init_233 rfl rfl ?_
      refine Y_iadd hX d_Mo_init_234 ?_
      refine Y_top (nI_add 256 i) ?_
      refine Y_iconst (v := -1) hX d_Mo_init_235 rfl ?_
      refine Y_iast (q0 := 15) (k0 := (256 + i)) (ws' := [yO q 6 [.int 0, .int 1, .ref q17, .ref q25, .ref q33, .ref q41, .ref q49, .ref q57, .ref q65, .ref q73, .ref q81, .ref q89, .ref q97, .ref q105, .int 0, .ref q118, .ref q126, .ref q135, .ref q144, .ref q152, .ref q160, .ref q169, .int 0, .ref q182, .ref q190], yZ D q17 16 y0, yI D q25 16 y0, yI D q33 16 y0, yI D q41 16 y0, yI D q49 16 y0, yI D q57 16 y0, yI D q65 16 y0, yI D q73 64 (upd (yF i (-1) y0) i (-1)), yI D q81 64 y0, yI D q89 64 (upd (yF i (-1) y0) i (-1)), yI D q97 64 y0, yZ D q105 64 y0, yI D q118 24 y0, yI D q126 24 y0, yI D q135 762 (upd (upd (mN1 i) (0 + i) (-1)) (256 + i) (-1)), yI D q144 762 y0, yJ D q152 16 y0L, yJ D q160 16 y0L, yI D q169 192 y0, yI D q182 100 y0, yI D q190 100 y0]) hX d_Mo_init_236 rfl rfl (by omega) (by decide) rfl ?_
      refine Y_iinc (v := nI (i + 1)) hX d_Mo_init_237 rfl (nI_add i 1) (by decide) rfl ?_
      refine Y_goto (tgt := 197) hX d_Mo_init_240 rfl ?_
      refine Y_mem (ws' := [yO q 6 [.int 0, .int 1, .ref q17, .ref q25, .ref q33, .ref q41, .ref q49, .ref q57, .ref q65, .ref q73, .ref q81, .ref q89, .ref q97, .ref q105, .int 0, .ref q118, .ref q126, .ref q135, .ref q144, .ref q152, .ref q160, .ref q169, .int 0, .ref q182, .ref q190], yZ D q17 16 y0, yI D q25 16 y0, yI D q33 16 y0, yI D q41 16 y0, yI D q49 16 y0, yI D q57 16 y0, yI D q65 16 y0, yI D q73 64 (yF (i + 1) (-1) y0), yI D q81 64 y0, yI D q89 64 (yF (i + 1) (-1) y0), yI D q97 64 y0, yZ D q105 64 y0, yI D q118 24 y0, yI D q126 24 y0, yI D q135 762 (mN1 (i + 1)), yI D q144 762 y0, yJ D q152 16 y0L, yJ D q160 16 y0L, yI D q169 192 y0, yI D q182 100 y0, yI D q190 100 y0]) (by rw [← yF_s (n := i)]; rfl) ?_
      exact Y_loc rfl (ih (i + 1) (by omega))
  refine Y_iconst (v := nI 0) hX d_Mo_init_195 rfl ?_
  refine Y_istore_n (i := 1) hX d_Mo_init_196 rfl (by decide) rfl ?_
  refine Y_mem (ws' := [yO q 6 [.int 0, .int 1, .ref q17, .ref q25, .ref q33, .ref q41, .ref q49, .ref q57, .ref q65, .ref q73, .ref q81, .ref q89, .ref q97, .ref q105, .int 0, .ref q118, .ref q126, .ref q135, .ref q144, .ref q152, .ref q160, .ref q169, .int 0, .ref q182, .ref q190], yZ D q17 16 y0, yI D q25 16 y0, yI D q33 16 y0, yI D q41 16 y0, yI D q49 16 y0, yI D q57 16 y0, yI D q65 16 y0, yI D q73 64 (yF 0 (-1) y0), yI D q81 64 y0, yI D q89 64 (yF 0 (-1) y0), yI D q97 64 y0, yZ D q105 64 y0, yI D q118 24 y0, yI D q126 24 y0, yI D q135 762 (mN1 0), yI D q144 762 y0, yJ D q152 16 y0L, yJ D q160 16 y0L, yI D q169 192 y0, yI D q182 100 y0, yI D q190 100 y0]) (by rw [yF_0]; rfl) ?_
  exact Y_loc rfl (hL197 64 0 (by omega))
