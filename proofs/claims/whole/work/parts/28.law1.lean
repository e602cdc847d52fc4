/-! The law's cases: one call of the class by its helper, the same call of the reference, the answers compared. -/
def zSc (X : zX) (b0 L : Nat) (xs : Nat → Int32) : Prop := match X with
  | (_, _, _, _, s, _, _, _, _, _, _, A) => va_X b0 L xs s s.heap ∧ b0 < s.heap.size ∧ ¬ A b0
section ZL
variable {X : zX} {G : zG} {cc : ByteArray} {nL a b pc : Nat} {own : String} {d : Room} {l : List (Nat × Value)} {st : List Value} {I : zI} {J : zJ} {b0 L : Nat} {xs : Nat → Int32}
theorem Z_sld {k0 : Nat} {i : Int32} (hX : zOk X G cc nL own d) (hs : zSc X b0 L xs) (hd : decode cc pc = .ok (.iaload, 1)) (hi : i = nI k0) (hk : k0 < L) (hL : L ≤ 2560) (k : Z X G nL a b (pc + 1) l (.int (xs k0) :: st) I J) : Z X G nL a b pc l (.int i :: .ref b0 :: st) I J := by
  obtain ⟨p, la, e, R, s, m, args, below, meth, c, Q, A⟩ := X
  intro ls H locs hl hP hS
  subst hi
  refine va_sld hX.1.1 hX.1.2.1 hs.1 hs.2.1 hs.2.2 hS (vp_in_nI hk (by omega)) hd ?_
  rw [nI_clamp (by omega)]
  exact k ls H locs hl hP hS
theorem Z_slen (hX : zOk X G cc nL own d) (hs : zSc X b0 L xs) (hd : decode cc pc = .ok (.arraylength, 1)) (k : Z X G nL a b (pc + 1) l (.int (nI L) :: st) I J) : Z X G nL a b pc l (.ref b0 :: st) I J := by
  obtain ⟨p, la, e, R, s, m, args, below, meth, c, Q, A⟩ := X
  intro ls H locs hl hP hS
  exact va_slen hX.1.1 hX.1.2.1 hs.1 hs.2.1 hs.2.2 hS hd (k ls H locs hl hP hS)
theorem Z_bool {v : Int32} (hX : zOk X G cc nL own d) (d0 : decode cc pc = .ok (.ifCond .eq 7, 3)) (d1 : decode cc (pc + 3) = .ok (.iconst 1, 1)) (d2 : decode cc (pc + 4) = .ok (.goto 4, 3)) (d3 : decode cc (pc + 7) = .ok (.iconst 0, 1)) (k : Z X G nL a b (pc + 8) l (.int (zB (decide (¬ v = 0))) :: st) I J) : Z X G nL a b pc l (.int v :: st) I J := by
  refine Z_ifeq (tgt := pc + 7) hX d0 (by omega) (fun h => ?_) (fun h => ?_)
  · refine Z_iconst (v := 0) hX d3 rfl ?_
    refine Z_top ?_ k
    rw [decide_eq_false (fun z => z h)]
    rfl
  · refine Z_iconst (v := 1) hX d1 rfl ?_
    refine Z_goto (tgt := pc + 8) hX d2 (by omega) ?_
    refine Z_top ?_ k
    rw [decide_eq_true h]
    rfl
theorem Z_boolL {t : Bool} (hX : zOk X G cc nL own d) (d0 : decode cc pc = .ok (.ifCond .eq 7, 3)) (d1 : decode cc (pc + 3) = .ok (.lconst 1, 1)) (d2 : decode cc (pc + 4) = .ok (.goto 4, 3)) (d3 : decode cc (pc + 7) = .ok (.lconst 0, 1)) (k : Z X G nL a b (pc + 8) l (.long (zB t).toInt64 :: st) I J) : Z X G nL a b pc l (.int (zB t) :: st) I J := by
  refine Z_ifeqB (tgt := pc + 7) hX d0 (by omega) (fun h => ?_) (fun h => ?_)
  · subst h
    exact Z_lconst (v := 0) hX d3 rfl k
  · subst h
    refine Z_lconst (v := 1) hX d1 rfl ?_
    exact Z_goto (tgt := pc + 8) hX d2 (by omega) k
theorem lg_self (x : Int64) : lg_cmp x x = 0 := by
  unfold lg_cmp
  rw [if_neg (by simp only [gt_iff_lt, Int64.lt_iff_toInt_lt]; omega), if_pos rfl]
end ZL

set_option maxRecDepth 100000 in
set_option maxHeartbeats 4000000 in
theorem w_element {X : zX} {G : zG} {b0 L : Nat} {xs : Nat → Int32} (hX : zOk X G code 8 "ClockTreeLaw" room_1) (hO : zOx X) (hS : zSc X b0 L xs) {i a b : Nat} (hi : i + 4 < L) (hL : L ≤ 2560) (ha : a + 1 ≤ 1116) (hb : b + 6 ≤ 13107) {I I1 I2 : zI} {J J1 J2 : zJ} {k : Int32} {q : Nat} (hq : q ≤ 8) (hH : zCw X.2.1 G y_La_element (Cond.codeWith y_La_element method_3_code 6 (some .int) [(0, 9, 12, 13), (0, 9, 16, 15)] :: TBL) (zRx 8) [.ref (zad G 0), .int (xs (i + 1)), .int (xs (i + 2)), .int (xs (i + 3)), .int (xs (i + 4))] I J k I1 J1) (hM : zCv X.2.1 G y_Mo_element (Cond.code y_Mo_element prog_8_method_28_code 6 none :: TBL) (zR q) [.ref (zad G 64), .int (xs (i + 1)), .int (xs (i + 2)), .int (xs (i + 3)), .int (xs (i + 4))] I1 J1  I2 J2) (ht : I2 64 0 = k) (hk : Z X G 8 (a + 1) (b + 6) 1456 [(4, .int (nI i)), (3, .ref (zad G 86)), (2, .ref (zad G 64)), (1, .ref (zad G 0)), (0, .ref b0)] [] I2 J2) : Z X G 8 a b 136 [(4, .int (nI i)), (3, .ref (zad G 86)), (2, .ref (zad G 64)), (1, .ref (zad G 0)), (0, .ref b0)] [] I J := by
  refine Z_aload_n (i := 1) hX d_La_law_136 rfl rfl ?_
  refine Z_aload_n (i := 0) hX d_La_law_137 rfl rfl ?_
  refine Z_iload hX d_La_law_138 rfl ?_
  refine Z_iconst (v := nI 1) hX d_La_law_140 rfl ?_
  refine Z_iaddN hX d_La_law_141 ?_
  refine Z_sld hX hS d_La_law_142 rfl (by omega) hL ?_
  refine Z_aload_n (i := 0) hX d_La_law_143 rfl rfl ?_
  refine Z_iload hX d_La_law_144 rfl ?_
  refine Z_iconst (v := nI 2) hX d_La_law_146 rfl ?_
  refine Z_iaddN hX d_La_law_147 ?_
  refine Z_sld hX hS d_La_law_148 rfl (by omega) hL ?_
  refine Z_aload_n (i := 0) hX d_La_law_149 rfl rfl ?_
  refine Z_iload hX d_La_law_150 rfl ?_
  refine Z_iconst (v := nI 3) hX d_La_law_152 rfl ?_
  refine Z_iaddN hX d_La_law_153 ?_
  refine Z_sld hX hS d_La_law_154 rfl (by omega) hL ?_
  refine Z_aload_n (i := 0) hX d_La_law_155 rfl rfl ?_
  refine Z_iload hX d_La_law_156 rfl ?_
  refine Z_iconst (v := nI 4) hX d_La_law_158 rfl ?_
  refine Z_iaddN hX d_La_law_159 ?_
  refine Z_sld hX hS d_La_law_160 rfl (by omega) hL ?_
  refine Z_cWi (As := [.ref (zad G 0), .int (xs (i + 1)), .int (xs (i + 2)), .int (xs (i + 3)), .int (xs (i + 4))]) (st := []) hX hO d_La_law_161 hH m_La_element rfl lk_La_77 ⟨by decide, by decide⟩ ⟨ha, hb⟩ (Nat.le_of_ble_eq_true rfl) ?_
  refine Z_istore hX d_La_law_164 (by decide) rfl ?_
  refine Z_aload_n (i := 2) hX d_La_law_166 rfl rfl ?_
  refine Z_aload_n (i := 0) hX d_La_law_167 rfl rfl ?_
  refine Z_iload hX d_La_law_168 rfl ?_
  refine Z_iconst (v := nI 1) hX d_La_law_170 rfl ?_
  refine Z_iaddN hX d_La_law_171 ?_
  refine Z_sld hX hS d_La_law_172 rfl (by omega) hL ?_
  refine Z_aload_n (i := 0) hX d_La_law_173 rfl rfl ?_
  refine Z_iload hX d_La_law_174 rfl ?_
  refine Z_iconst (v := nI 2) hX d_La_law_176 rfl ?_
  refine Z_iaddN hX d_La_law_177 ?_
  refine Z_sld hX hS d_La_law_178 rfl (by omega) hL ?_
  refine Z_aload_n (i := 0) hX d_La_law_179 rfl rfl ?_
  refine Z_iload hX d_La_law_180 rfl ?_
  refine Z_iconst (v := nI 3) hX d_La_law_182 rfl ?_
  refine Z_iaddN hX d_La_law_183 ?_
  refine Z_sld hX hS d_La_law_184 rfl (by omega) hL ?_
  refine Z_aload_n (i := 0) hX d_La_law_185 rfl rfl ?_
  refine Z_iload hX d_La_law_186 rfl ?_
  refine Z_iconst (v := nI 4) hX d_La_law_188 rfl ?_
  refine Z_iaddN hX d_La_law_189 ?_
  refine Z_sld hX hS d_La_law_190 rfl (by omega) hL ?_
  refine Z_cVv4 hX d_La_law_191 hM m_Mo_element rfl rfl lk_La_82 ⟨by show q + 1 ≤ 11; omega, by show 8 + (6 + 11) + (36 * q + 30) ≤ 394; omega⟩ ⟨ha, hb⟩ (Nat.le_of_ble_eq_true rfl) ?_
  refine Z_aload_n (i := 2) hX d_La_law_194 rfl rfl ?_
  refine Z_cVi0 hX d_La_law_195 c_Mo_thrown m_Mo_thrown rfl rfl lk_La_83 ⟨by decide, by decide⟩ ⟨ha, hb⟩ (Nat.le_of_ble_eq_true rfl) ?_
  refine Z_iload hX d_La_law_198 rfl ?_
  refine Z_iceq (tgt := 205) hX d_La_law_200 rfl (fun _ => ?_) (fun h => absurd ht h)
  refine Z_goto (tgt := 1456) hX d_La_law_205 rfl ?_
  exact Z_loc rfl hk

set_option maxRecDepth 100000 in
set_option maxHeartbeats 4000000 in
theorem w_link {X : zX} {G : zG} {b0 L : Nat} {xs : Nat → Int32} (hX : zOk X G code 8 "ClockTreeLaw" room_1) (hO : zOx X) (hS : zSc X b0 L xs) {i a b : Nat} (hi : i + 4 < L) (hL : L ≤ 2560) (ha : a + 1 ≤ 1116) (hb : b + 6 ≤ 13107) {I I1 I2 : zI} {J J1 J2 : zJ} {k : Int32} {q : Nat} (hq : q ≤ 8) {r : Int32} (hH : zCw X.2.1 G y_La_link (Cond.codeWith y_La_link method_4_code 7 (some .int) [(0, 14, 17, 13), (0, 14, 21, 15)] :: TBL) (zRx 8) [.ref (zad G 0), .int (xs (i + 1)), .int (xs (i + 2)), .int (xs (i + 3)), .int (xs (i + 4)), .ref (zad G 86)] I J k I1 J1) (hM : zCi X.2.1 G y_Mo_link (Cond.code y_Mo_link prog_8_method_29_code 7 (some .int) :: TBL) (zR q) [.ref (zad G 64), .int (xs (i + 1)), .int (xs (i + 2)), .int (xs (i + 3)), .int (xs (i + 4))] I1 J1 r I2 J2) (ht : I2 64 0 = k) (ho : k = 0 → J2 86 0 = r.toInt64) (hk : Z X G 8 (a + 1) (b + 6) 1456 [(4, .int (nI i)), (3, .ref (zad G 86)), (2, .ref (zad G 64)), (1, .ref (zad G 0)), (0, .ref b0)] [] I2 J2) : Z X G 8 a b 208 [(4, .int (nI i)), (3, .ref (zad G 86)), (2, .ref (zad G 64)), (1, .ref (zad G 0)), (0, .ref b0)] [] I J := by
  refine Z_aload_n (i := 1) hX d_La_law_208 rfl rfl ?_
  refine Z_aload_n (i := 0) hX d_La_law_209 rfl rfl ?_
  refine Z_iload hX d_La_law_210 rfl ?_
  refine Z_iconst (v := nI 1) hX d_La_law_212 rfl ?_
  refine Z_iaddN hX d_La_law_213 ?_
  refine Z_sld hX hS d_La_law_214 rfl (by omega) hL ?_
  refine Z_aload_n (i := 0) hX d_La_law_215 rfl rfl ?_
  refine Z_iload hX d_La_law_216 rfl ?_
  refine Z_iconst (v := nI 2) hX d_La_law_218 rfl ?_
  refine Z_iaddN hX d_La_law_219 ?_
  refine Z_sld hX hS d_La_law_220 rfl (by omega) hL ?_
  refine Z_aload_n (i := 0) hX d_La_law_221 rfl rfl ?_
  refine Z_iload hX d_La_law_222 rfl ?_
  refine Z_iconst (v := nI 3) hX d_La_law_224 rfl ?_
  refine Z_iaddN hX d_La_law_225 ?_
  refine Z_sld hX hS d_La_law_226 rfl (by omega) hL ?_
  refine Z_aload_n (i := 0) hX d_La_law_227 rfl rfl ?_
  refine Z_iload hX d_La_law_228 rfl ?_
  refine Z_iconst (v := nI 4) hX d_La_law_230 rfl ?_
  refine Z_iaddN hX d_La_law_231 ?_
  refine Z_sld hX hS d_La_law_232 rfl (by omega) hL ?_
  refine Z_aload_n (i := 3) hX d_La_law_233 rfl rfl ?_
  refine Z_cWi (As := [.ref (zad G 0), .int (xs (i + 1)), .int (xs (i + 2)), .int (xs (i + 3)), .int (xs (i + 4)), .ref (zad G 86)]) (st := []) hX hO d_La_law_234 hH m_La_link rfl lk_La_87 ⟨by decide, by decide⟩ ⟨ha, hb⟩ (Nat.le_of_ble_eq_true rfl) ?_
  refine Z_istore hX d_La_law_237 (by decide) rfl ?_
  refine Z_aload_n (i := 2) hX d_La_law_239 rfl rfl ?_
  refine Z_aload_n (i := 0) hX d_La_law_240 rfl rfl ?_
  refine Z_iload hX d_La_law_241 rfl ?_
  refine Z_iconst (v := nI 1) hX d_La_law_243 rfl ?_
  refine Z_iaddN hX d_La_law_244 ?_
  refine Z_sld hX hS d_La_law_245 rfl (by omega) hL ?_
  refine Z_aload_n (i := 0) hX d_La_law_246 rfl rfl ?_
  refine Z_iload hX d_La_law_247 rfl ?_
  refine Z_iconst (v := nI 2) hX d_La_law_249 rfl ?_
  refine Z_iaddN hX d_La_law_250 ?_
  refine Z_sld hX hS d_La_law_251 rfl (by omega) hL ?_
  refine Z_aload_n (i := 0) hX d_La_law_252 rfl rfl ?_
  refine Z_iload hX d_La_law_253 rfl ?_
  refine Z_iconst (v := nI 3) hX d_La_law_255 rfl ?_
  refine Z_iaddN hX d_La_law_256 ?_
  refine Z_sld hX hS d_La_law_257 rfl (by omega) hL ?_
  refine Z_aload_n (i := 0) hX d_La_law_258 rfl rfl ?_
  refine Z_iload hX d_La_law_259 rfl ?_
  refine Z_iconst (v := nI 4) hX d_La_law_261 rfl ?_
  refine Z_iaddN hX d_La_law_262 ?_
  refine Z_sld hX hS d_La_law_263 rfl (by omega) hL ?_
  refine Z_cVi4 hX d_La_law_264 hM m_Mo_link rfl rfl lk_La_90 ⟨by show q + 1 ≤ 11; omega, by show 8 + (7 + 11) + (36 * q + 30) ≤ 394; omega⟩ ⟨ha, hb⟩ (Nat.le_of_ble_eq_true rfl) ?_
  refine Z_istore hX d_La_law_267 (by decide) rfl ?_
  refine Z_aload_n (i := 2) hX d_La_law_269 rfl rfl ?_
  refine Z_cVi0 hX d_La_law_270 c_Mo_thrown m_Mo_thrown rfl rfl lk_La_83 ⟨by decide, by decide⟩ ⟨ha, hb⟩ (Nat.le_of_ble_eq_true rfl) ?_
  refine Z_iload hX d_La_law_273 rfl ?_
  refine Z_iceq (tgt := 280) hX d_La_law_275 rfl (fun _ => ?_) (fun h => absurd ht h)
  refine Z_iload hX d_La_law_280 rfl ?_
  refine Z_ifne (tgt := 297) hX d_La_law_282 rfl (fun h282 => ?_) (fun h282 => ?_)
  · refine Z_goto (tgt := 1456) hX d_La_law_297 rfl ?_
    exact Z_loc rfl hk
  refine Z_aload_n (i := 3) hX d_La_law_285 rfl rfl ?_
  refine Z_iconst (v := nI 0) hX d_La_law_286 rfl ?_
  refine Z_lald hX d_La_law_287 rfl rfl (by decide) (by decide) ?_
  refine Z_topL (ho h282) ?_
  refine Z_iload hX d_La_law_288 rfl ?_
  refine Z_i2l hX d_La_law_290 ?_
  refine Z_lcmp hX d_La_law_291 ?_
  refine Z_top (lg_self _) ?_
  refine Z_ifeq (tgt := 297) hX d_La_law_292 rfl (fun _ => ?_) (fun h => absurd rfl h)
  refine Z_goto (tgt := 1456) hX d_La_law_297 rfl ?_
  exact Z_loc rfl hk

set_option maxRecDepth 100000 in
set_option maxHeartbeats 4000000 in
theorem w_source {X : zX} {G : zG} {b0 L : Nat} {xs : Nat → Int32} (hX : zOk X G code 8 "ClockTreeLaw" room_1) (hO : zOx X) (hS : zSc X b0 L xs) {i a b : Nat} (hi : i + 4 < L) (hL : L ≤ 2560) (ha : a + 1 ≤ 1116) (hb : b + 6 ≤ 13107) {I I1 I2 : zI} {J J1 J2 : zJ} {k : Int32} {q : Nat} (hq : q ≤ 8) (hH : zCw X.2.1 G y_La_source (Cond.codeWith y_La_source method_5_code 6 (some .int) [(0, 9, 12, 13), (0, 9, 16, 15)] :: TBL) (zRx 8) [.ref (zad G 0), .int (xs (i + 1)), .int (xs (i + 2)), .int (xs (i + 3)), .int (xs (i + 4))] I J k I1 J1) (hM : zCv X.2.1 G y_Mo_source (Cond.code y_Mo_source prog_8_method_30_code 5 none :: TBL) (zR q) [.ref (zad G 64), .int (xs (i + 1)), .int (xs (i + 2)), .int (xs (i + 3)), .int (xs (i + 4))] I1 J1  I2 J2) (ht : I2 64 0 = k) (hk : Z X G 8 (a + 1) (b + 6) 1456 [(4, .int (nI i)), (3, .ref (zad G 86)), (2, .ref (zad G 64)), (1, .ref (zad G 0)), (0, .ref b0)] [] I2 J2) : Z X G 8 a b 300 [(4, .int (nI i)), (3, .ref (zad G 86)), (2, .ref (zad G 64)), (1, .ref (zad G 0)), (0, .ref b0)] [] I J := by
  refine Z_aload_n (i := 1) hX d_La_law_300 rfl rfl ?_
  refine Z_aload_n (i := 0) hX d_La_law_301 rfl rfl ?_
  refine Z_iload hX d_La_law_302 rfl ?_
  refine Z_iconst (v := nI 1) hX d_La_law_304 rfl ?_
  refine Z_iaddN hX d_La_law_305 ?_
  refine Z_sld hX hS d_La_law_306 rfl (by omega) hL ?_
  refine Z_aload_n (i := 0) hX d_La_law_307 rfl rfl ?_
  refine Z_iload hX d_La_law_308 rfl ?_
  refine Z_iconst (v := nI 2) hX d_La_law_310 rfl ?_
  refine Z_iaddN hX d_La_law_311 ?_
  refine Z_sld hX hS d_La_law_312 rfl (by omega) hL ?_
  refine Z_aload_n (i := 0) hX d_La_law_313 rfl rfl ?_
  refine Z_iload hX d_La_law_314 rfl ?_
  refine Z_iconst (v := nI 3) hX d_La_law_316 rfl ?_
  refine Z_iaddN hX d_La_law_317 ?_
  refine Z_sld hX hS d_La_law_318 rfl (by omega) hL ?_
  refine Z_aload_n (i := 0) hX d_La_law_319 rfl rfl ?_
  refine Z_iload hX d_La_law_320 rfl ?_
  refine Z_iconst (v := nI 4) hX d_La_law_322 rfl ?_
  refine Z_iaddN hX d_La_law_323 ?_
  refine Z_sld hX hS d_La_law_324 rfl (by omega) hL ?_
  refine Z_cWi (As := [.ref (zad G 0), .int (xs (i + 1)), .int (xs (i + 2)), .int (xs (i + 3)), .int (xs (i + 4))]) (st := []) hX hO d_La_law_325 hH m_La_source rfl lk_La_91 ⟨by decide, by decide⟩ ⟨ha, hb⟩ (Nat.le_of_ble_eq_true rfl) ?_
  refine Z_istore hX d_La_law_328 (by decide) rfl ?_
  refine Z_aload_n (i := 2) hX d_La_law_330 rfl rfl ?_
  refine Z_aload_n (i := 0) hX d_La_law_331 rfl rfl ?_
  refine Z_iload hX d_La_law_332 rfl ?_
  refine Z_iconst (v := nI 1) hX d_La_law_334 rfl ?_
  refine Z_iaddN hX d_La_law_335 ?_
  refine Z_sld hX hS d_La_law_336 rfl (by omega) hL ?_
  refine Z_aload_n (i := 0) hX d_La_law_337 rfl rfl ?_
  refine Z_iload hX d_La_law_338 rfl ?_
  refine Z_iconst (v := nI 2) hX d_La_law_340 rfl ?_
  refine Z_iaddN hX d_La_law_341 ?_
  refine Z_sld hX hS d_La_law_342 rfl (by omega) hL ?_
  refine Z_aload_n (i := 0) hX d_La_law_343 rfl rfl ?_
  refine Z_iload hX d_La_law_344 rfl ?_
  refine Z_iconst (v := nI 3) hX d_La_law_346 rfl ?_
  refine Z_iaddN hX d_La_law_347 ?_
  refine Z_sld hX hS d_La_law_348 rfl (by omega) hL ?_
  refine Z_aload_n (i := 0) hX d_La_law_349 rfl rfl ?_
  refine Z_iload hX d_La_law_350 rfl ?_
  refine Z_iconst (v := nI 4) hX d_La_law_352 rfl ?_
  refine Z_iaddN hX d_La_law_353 ?_
  refine Z_sld hX hS d_La_law_354 rfl (by omega) hL ?_
  refine Z_cVv4 hX d_La_law_355 hM m_Mo_source rfl rfl lk_La_93 ⟨by show q + 1 ≤ 11; omega, by show 8 + (5 + 11) + (36 * q + 30) ≤ 394; omega⟩ ⟨ha, hb⟩ (Nat.le_of_ble_eq_true rfl) ?_
  refine Z_aload_n (i := 2) hX d_La_law_358 rfl rfl ?_
  refine Z_cVi0 hX d_La_law_359 c_Mo_thrown m_Mo_thrown rfl rfl lk_La_83 ⟨by decide, by decide⟩ ⟨ha, hb⟩ (Nat.le_of_ble_eq_true rfl) ?_
  refine Z_iload hX d_La_law_362 rfl ?_
  refine Z_iceq (tgt := 369) hX d_La_law_364 rfl (fun _ => ?_) (fun h => absurd ht h)
  refine Z_goto (tgt := 1456) hX d_La_law_369 rfl ?_
  exact Z_loc rfl hk

set_option maxRecDepth 100000 in
set_option maxHeartbeats 4000000 in
theorem w_priority {X : zX} {G : zG} {b0 L : Nat} {xs : Nat → Int32} (hX : zOk X G code 8 "ClockTreeLaw" room_1) (hO : zOx X) (hS : zSc X b0 L xs) {i a b : Nat} (hi : i + 4 < L) (hL : L ≤ 2560) (ha : a + 1 ≤ 1116) (hb : b + 6 ≤ 13107) {I I1 I2 : zI} {J J1 J2 : zJ} {k : Int32} {q : Nat} (hq : q ≤ 8) {r : Int32} (hH : zCw X.2.1 G y_La_priority (Cond.codeWith y_La_priority method_6_code 6 (some .int) [(0, 12, 15, 13)] :: TBL) (zRx 8) [.ref (zad G 0), .int (xs (i + 1)), .int (xs (i + 2)), .int (xs (i + 3)), .ref (zad G 86)] I J k I1 J1) (hM : zCi X.2.1 G y_Mo_priority (Cond.code y_Mo_priority prog_8_method_31_code 5 (some .int) :: TBL) (zR q) [.ref (zad G 64), .int (xs (i + 1)), .int (xs (i + 2)), .int (xs (i + 3))] I1 J1 r I2 J2) (ht : I2 64 0 = k) (ho : k = 0 → J2 86 0 = r.toInt64) (hk : Z X G 8 (a + 1) (b + 6) 1456 [(4, .int (nI i)), (3, .ref (zad G 86)), (2, .ref (zad G 64)), (1, .ref (zad G 0)), (0, .ref b0)] [] I2 J2) : Z X G 8 a b 372 [(4, .int (nI i)), (3, .ref (zad G 86)), (2, .ref (zad G 64)), (1, .ref (zad G 0)), (0, .ref b0)] [] I J := by
  refine Z_aload_n (i := 1) hX d_La_law_372 rfl rfl ?_
  refine Z_aload_n (i := 0) hX d_La_law_373 rfl rfl ?_
  refine Z_iload hX d_La_law_374 rfl ?_
  refine Z_iconst (v := nI 1) hX d_La_law_376 rfl ?_
  refine Z_iaddN hX d_La_law_377 ?_
  refine Z_sld hX hS d_La_law_378 rfl (by omega) hL ?_
  refine Z_aload_n (i := 0) hX d_La_law_379 rfl rfl ?_
  refine Z_iload hX d_La_law_380 rfl ?_
  refine Z_iconst (v := nI 2) hX d_La_law_382 rfl ?_
  refine Z_iaddN hX d_La_law_383 ?_
  refine Z_sld hX hS d_La_law_384 rfl (by omega) hL ?_
  refine Z_aload_n (i := 0) hX d_La_law_385 rfl rfl ?_
  refine Z_iload hX d_La_law_386 rfl ?_
  refine Z_iconst (v := nI 3) hX d_La_law_388 rfl ?_
  refine Z_iaddN hX d_La_law_389 ?_
  refine Z_sld hX hS d_La_law_390 rfl (by omega) hL ?_
  refine Z_aload_n (i := 3) hX d_La_law_391 rfl rfl ?_
  refine Z_cWi (As := [.ref (zad G 0), .int (xs (i + 1)), .int (xs (i + 2)), .int (xs (i + 3)), .ref (zad G 86)]) (st := []) hX hO d_La_law_392 hH m_La_priority rfl lk_La_94 ⟨by decide, by decide⟩ ⟨ha, hb⟩ (Nat.le_of_ble_eq_true rfl) ?_
  refine Z_istore hX d_La_law_395 (by decide) rfl ?_
  refine Z_aload_n (i := 2) hX d_La_law_397 rfl rfl ?_
  refine Z_aload_n (i := 0) hX d_La_law_398 rfl rfl ?_
  refine Z_iload hX d_La_law_399 rfl ?_
  refine Z_iconst (v := nI 1) hX d_La_law_401 rfl ?_
  refine Z_iaddN hX d_La_law_402 ?_
  refine Z_sld hX hS d_La_law_403 rfl (by omega) hL ?_
  refine Z_aload_n (i := 0) hX d_La_law_404 rfl rfl ?_
  refine Z_iload hX d_La_law_405 rfl ?_
  refine Z_iconst (v := nI 2) hX d_La_law_407 rfl ?_
  refine Z_iaddN hX d_La_law_408 ?_
  refine Z_sld hX hS d_La_law_409 rfl (by omega) hL ?_
  refine Z_aload_n (i := 0) hX d_La_law_410 rfl rfl ?_
  refine Z_iload hX d_La_law_411 rfl ?_
  refine Z_iconst (v := nI 3) hX d_La_law_413 rfl ?_
  refine Z_iaddN hX d_La_law_414 ?_
  refine Z_sld hX hS d_La_law_415 rfl (by omega) hL ?_
  refine Z_cVi3 hX d_La_law_416 hM m_Mo_priority rfl rfl lk_La_97 ⟨by show q + 1 ≤ 11; omega, by show 8 + (5 + 11) + (36 * q + 30) ≤ 394; omega⟩ ⟨ha, hb⟩ (Nat.le_of_ble_eq_true rfl) ?_
  refine Z_istore hX d_La_law_419 (by decide) rfl ?_
  refine Z_aload_n (i := 2) hX d_La_law_421 rfl rfl ?_
  refine Z_cVi0 hX d_La_law_422 c_Mo_thrown m_Mo_thrown rfl rfl lk_La_83 ⟨by decide, by decide⟩ ⟨ha, hb⟩ (Nat.le_of_ble_eq_true rfl) ?_
  refine Z_iload hX d_La_law_425 rfl ?_
  refine Z_iceq (tgt := 432) hX d_La_law_427 rfl (fun _ => ?_) (fun h => absurd ht h)
  refine Z_iload hX d_La_law_432 rfl ?_
  refine Z_ifne (tgt := 449) hX d_La_law_434 rfl (fun h434 => ?_) (fun h434 => ?_)
  · refine Z_goto (tgt := 1456) hX d_La_law_449 rfl ?_
    exact Z_loc rfl hk
  refine Z_aload_n (i := 3) hX d_La_law_437 rfl rfl ?_
  refine Z_iconst (v := nI 0) hX d_La_law_438 rfl ?_
  refine Z_lald hX d_La_law_439 rfl rfl (by decide) (by decide) ?_
  refine Z_topL (ho h434) ?_
  refine Z_iload hX d_La_law_440 rfl ?_
  refine Z_i2l hX d_La_law_442 ?_
  refine Z_lcmp hX d_La_law_443 ?_
  refine Z_top (lg_self _) ?_
  refine Z_ifeq (tgt := 449) hX d_La_law_444 rfl (fun _ => ?_) (fun h => absurd rfl h)
  refine Z_goto (tgt := 1456) hX d_La_law_449 rfl ?_
  exact Z_loc rfl hk

set_option maxRecDepth 100000 in
set_option maxHeartbeats 4000000 in
theorem w_restore {X : zX} {G : zG} {b0 L : Nat} {xs : Nat → Int32} (hX : zOk X G code 8 "ClockTreeLaw" room_1) (hO : zOx X) (hS : zSc X b0 L xs) {i a b : Nat} (hi : i + 4 < L) (hL : L ≤ 2560) (ha : a + 1 ≤ 1116) (hb : b + 6 ≤ 13107) {I I1 I2 : zI} {J J1 J2 : zJ} {k : Int32} {q : Nat} (hq : q ≤ 8) {r : Int32} (hH : zCw X.2.1 G y_La_restore (Cond.codeWith y_La_restore method_7_code 5 (some .int) [(0, 10, 13, 13)] :: TBL) (zRx 8) [.ref (zad G 0), .int (xs (i + 1)), .int (xs (i + 2)), .ref (zad G 86)] I J k I1 J1) (hM : zCi X.2.1 G y_Mo_restore (Cond.code y_Mo_restore prog_8_method_32_code 4 (some .int) :: TBL) (zR q) [.ref (zad G 64), .int (xs (i + 1)), .int (xs (i + 2))] I1 J1 r I2 J2) (ht : I2 64 0 = k) (ho : k = 0 → J2 86 0 = r.toInt64) (hk : Z X G 8 (a + 1) (b + 6) 1456 [(4, .int (nI i)), (3, .ref (zad G 86)), (2, .ref (zad G 64)), (1, .ref (zad G 0)), (0, .ref b0)] [] I2 J2) : Z X G 8 a b 452 [(4, .int (nI i)), (3, .ref (zad G 86)), (2, .ref (zad G 64)), (1, .ref (zad G 0)), (0, .ref b0)] [] I J := by
  refine Z_aload_n (i := 1) hX d_La_law_452 rfl rfl ?_
  refine Z_aload_n (i := 0) hX d_La_law_453 rfl rfl ?_
  refine Z_iload hX d_La_law_454 rfl ?_
  refine Z_iconst (v := nI 1) hX d_La_law_456 rfl ?_
  refine Z_iaddN hX d_La_law_457 ?_
  refine Z_sld hX hS d_La_law_458 rfl (by omega) hL ?_
  refine Z_aload_n (i := 0) hX d_La_law_459 rfl rfl ?_
  refine Z_iload hX d_La_law_460 rfl ?_
  refine Z_iconst (v := nI 2) hX d_La_law_462 rfl ?_
  refine Z_iaddN hX d_La_law_463 ?_
  refine Z_sld hX hS d_La_law_464 rfl (by omega) hL ?_
  refine Z_aload_n (i := 3) hX d_La_law_465 rfl rfl ?_
  refine Z_cWi (As := [.ref (zad G 0), .int (xs (i + 1)), .int (xs (i + 2)), .ref (zad G 86)]) (st := []) hX hO d_La_law_466 hH m_La_restore rfl lk_La_98 ⟨by decide, by decide⟩ ⟨ha, hb⟩ (Nat.le_of_ble_eq_true rfl) ?_
  refine Z_istore hX d_La_law_469 (by decide) rfl ?_
  refine Z_aload_n (i := 2) hX d_La_law_471 rfl rfl ?_
  refine Z_aload_n (i := 0) hX d_La_law_472 rfl rfl ?_
  refine Z_iload hX d_La_law_473 rfl ?_
  refine Z_iconst (v := nI 1) hX d_La_law_475 rfl ?_
  refine Z_iaddN hX d_La_law_476 ?_
  refine Z_sld hX hS d_La_law_477 rfl (by omega) hL ?_
  refine Z_aload_n (i := 0) hX d_La_law_478 rfl rfl ?_
  refine Z_iload hX d_La_law_479 rfl ?_
  refine Z_iconst (v := nI 2) hX d_La_law_481 rfl ?_
  refine Z_iaddN hX d_La_law_482 ?_
  refine Z_sld hX hS d_La_law_483 rfl (by omega) hL ?_
  refine Z_cVi2 hX d_La_law_484 hM m_Mo_restore rfl rfl lk_La_101 ⟨by show q + 1 ≤ 11; omega, by show 8 + (4 + 11) + (36 * q + 30) ≤ 394; omega⟩ ⟨ha, hb⟩ (Nat.le_of_ble_eq_true rfl) ?_
  refine Z_istore hX d_La_law_487 (by decide) rfl ?_
  refine Z_aload_n (i := 2) hX d_La_law_489 rfl rfl ?_
  refine Z_cVi0 hX d_La_law_490 c_Mo_thrown m_Mo_thrown rfl rfl lk_La_83 ⟨by decide, by decide⟩ ⟨ha, hb⟩ (Nat.le_of_ble_eq_true rfl) ?_
  refine Z_iload hX d_La_law_493 rfl ?_
  refine Z_iceq (tgt := 500) hX d_La_law_495 rfl (fun _ => ?_) (fun h => absurd ht h)
  refine Z_iload hX d_La_law_500 rfl ?_
  refine Z_ifne (tgt := 517) hX d_La_law_502 rfl (fun h502 => ?_) (fun h502 => ?_)
  · refine Z_goto (tgt := 1456) hX d_La_law_517 rfl ?_
    exact Z_loc rfl hk
  refine Z_aload_n (i := 3) hX d_La_law_505 rfl rfl ?_
  refine Z_iconst (v := nI 0) hX d_La_law_506 rfl ?_
  refine Z_lald hX d_La_law_507 rfl rfl (by decide) (by decide) ?_
  refine Z_topL (ho h502) ?_
  refine Z_iload hX d_La_law_508 rfl ?_
  refine Z_i2l hX d_La_law_510 ?_
  refine Z_lcmp hX d_La_law_511 ?_
  refine Z_top (lg_self _) ?_
  refine Z_ifeq (tgt := 517) hX d_La_law_512 rfl (fun _ => ?_) (fun h => absurd rfl h)
  refine Z_goto (tgt := 1456) hX d_La_law_517 rfl ?_
  exact Z_loc rfl hk

set_option maxRecDepth 100000 in
set_option maxHeartbeats 4000000 in
theorem w_tracing {X : zX} {G : zG} {b0 L : Nat} {xs : Nat → Int32} (hX : zOk X G code 8 "ClockTreeLaw" room_1) (hO : zOx X) (hS : zSc X b0 L xs) {i a b : Nat} (hi : i + 4 < L) (hL : L ≤ 2560) (ha : a + 1 ≤ 1116) (hb : b + 6 ≤ 13107) {I I1 I2 : zI} {J J1 J2 : zJ} {v : Int32} {p q : Nat} (hp : p ≤ 8) (hq : q ≤ 8) (hC : zCi X.2.1 G y_CT_tracing (Cond.code y_CT_tracing prog_1_method_7_code 3 (some .boolean) :: TBL) (zR p) [.ref (zad G 0), .int (zB (decide (¬ xs (i + 1) = 0)))] I J v I1 J1) (hM : zCi X.2.1 G y_Mo_tracing (Cond.code y_Mo_tracing prog_8_method_33_code 3 (some .boolean) :: TBL) (zR q) [.ref (zad G 64), .int (zB (decide (¬ xs (i + 1) = 0)))] I1 J1 v I2 J2) (hk : Z X G 8 a b 1456 [(4, .int (nI i)), (3, .ref (zad G 86)), (2, .ref (zad G 64)), (1, .ref (zad G 0)), (0, .ref b0)] [] I2 J2) : Z X G 8 a b 520 [(4, .int (nI i)), (3, .ref (zad G 86)), (2, .ref (zad G 64)), (1, .ref (zad G 0)), (0, .ref b0)] [] I J := by
  refine Z_aload_n (i := 1) hX d_La_law_520 rfl rfl ?_
  refine Z_aload_n (i := 0) hX d_La_law_521 rfl rfl ?_
  refine Z_iload hX d_La_law_522 rfl ?_
  refine Z_iconst (v := nI 1) hX d_La_law_524 rfl ?_
  refine Z_iaddN hX d_La_law_525 ?_
  refine Z_sld hX hS d_La_law_526 rfl (by omega) hL ?_
  refine Z_bool hX d_La_law_527 d_La_law_530 d_La_law_531 d_La_law_534 ?_
  refine Z_cVi1 hX d_La_law_535 hC m_CT_tracing rfl rfl lk_La_102 ⟨by show p + 1 ≤ 11; omega, by show 8 + (3 + 11) + (36 * p + 30) ≤ 394; omega⟩ ⟨by show a + 0 ≤ 1116; omega, by show b + 0 ≤ 13107; omega⟩ (Nat.le_of_ble_eq_true rfl) ?_
  refine Z_aload_n (i := 2) hX d_La_law_538 rfl rfl ?_
  refine Z_aload_n (i := 0) hX d_La_law_539 rfl rfl ?_
  refine Z_iload hX d_La_law_540 rfl ?_
  refine Z_iconst (v := nI 1) hX d_La_law_542 rfl ?_
  refine Z_iaddN hX d_La_law_543 ?_
  refine Z_sld hX hS d_La_law_544 rfl (by omega) hL ?_
  refine Z_bool hX d_La_law_545 d_La_law_548 d_La_law_549 d_La_law_552 ?_
  refine Z_cVi1 hX d_La_law_553 hM m_Mo_tracing rfl rfl lk_La_106 ⟨by show q + 1 ≤ 11; omega, by show 8 + (3 + 11) + (36 * q + 30) ≤ 394; omega⟩ ⟨by show a + 0 + 0 ≤ 1116; omega, by show b + 0 + 0 ≤ 13107; omega⟩ (Nat.le_of_ble_eq_true rfl) ?_
  refine Z_iceq (tgt := 1456) hX d_La_law_556 rfl (fun _ => ?_) (fun h => absurd rfl h)
  exact Z_loc rfl hk

set_option maxRecDepth 100000 in
set_option maxHeartbeats 4000000 in
theorem w_command {X : zX} {G : zG} {b0 L : Nat} {xs : Nat → Int32} (hX : zOk X G code 8 "ClockTreeLaw" room_1) (hO : zOx X) (hS : zSc X b0 L xs) {i a b : Nat} (hi : i + 4 < L) (hL : L ≤ 2560) (ha : a + 1 ≤ 1116) (hb : b + 6 ≤ 13107) {I I1 I2 : zI} {J J1 J2 : zJ} {k : Int32} {q : Nat} (hq : q ≤ 8) {r : Int32} (hH : zCw X.2.1 G y_La_command (Cond.codeWith y_La_command method_8_code 6 (some .int) [(0, 12, 15, 13)] :: TBL) (zRx 8) [.ref (zad G 0), .int (xs (i + 1)), .int (xs (i + 2)), .int (xs (i + 3)), .ref (zad G 86)] I J k I1 J1) (hM : zCi X.2.1 G y_Mo_command (Cond.code y_Mo_command prog_8_method_34_code 5 (some .int) :: TBL) (zR q) [.ref (zad G 64), .int (xs (i + 1)), .int (xs (i + 2)), .int (xs (i + 3))] I1 J1 r I2 J2) (ht : I2 64 0 = k) (ho : k = 0 → J2 86 0 = r.toInt64) (hk : Z X G 8 (a + 1) (b + 6) 1456 [(4, .int (nI i)), (3, .ref (zad G 86)), (2, .ref (zad G 64)), (1, .ref (zad G 0)), (0, .ref b0)] [] I2 J2) : Z X G 8 a b 561 [(4, .int (nI i)), (3, .ref (zad G 86)), (2, .ref (zad G 64)), (1, .ref (zad G 0)), (0, .ref b0)] [] I J := by
  refine Z_aload_n (i := 1) hX d_La_law_561 rfl rfl ?_
  refine Z_aload_n (i := 0) hX d_La_law_562 rfl rfl ?_
  refine Z_iload hX d_La_law_563 rfl ?_
  refine Z_iconst (v := nI 1) hX d_La_law_565 rfl ?_
  refine Z_iaddN hX d_La_law_566 ?_
  refine Z_sld hX hS d_La_law_567 rfl (by omega) hL ?_
  refine Z_aload_n (i := 0) hX d_La_law_568 rfl rfl ?_
  refine Z_iload hX d_La_law_569 rfl ?_
  refine Z_iconst (v := nI 2) hX d_La_law_571 rfl ?_
  refine Z_iaddN hX d_La_law_572 ?_
  refine Z_sld hX hS d_La_law_573 rfl (by omega) hL ?_
  refine Z_aload_n (i := 0) hX d_La_law_574 rfl rfl ?_
  refine Z_iload hX d_La_law_575 rfl ?_
  refine Z_iconst (v := nI 3) hX d_La_law_577 rfl ?_
  refine Z_iaddN hX d_La_law_578 ?_
  refine Z_sld hX hS d_La_law_579 rfl (by omega) hL ?_
  refine Z_aload_n (i := 3) hX d_La_law_580 rfl rfl ?_
  refine Z_cWi (As := [.ref (zad G 0), .int (xs (i + 1)), .int (xs (i + 2)), .int (xs (i + 3)), .ref (zad G 86)]) (st := []) hX hO d_La_law_581 hH m_La_command rfl lk_La_107 ⟨by decide, by decide⟩ ⟨ha, hb⟩ (Nat.le_of_ble_eq_true rfl) ?_
  refine Z_istore hX d_La_law_584 (by decide) rfl ?_
  refine Z_aload_n (i := 2) hX d_La_law_586 rfl rfl ?_
  refine Z_aload_n (i := 0) hX d_La_law_587 rfl rfl ?_
  refine Z_iload hX d_La_law_588 rfl ?_
  refine Z_iconst (v := nI 1) hX d_La_law_590 rfl ?_
  refine Z_iaddN hX d_La_law_591 ?_
  refine Z_sld hX hS d_La_law_592 rfl (by omega) hL ?_
  refine Z_aload_n (i := 0) hX d_La_law_593 rfl rfl ?_
  refine Z_iload hX d_La_law_594 rfl ?_
  refine Z_iconst (v := nI 2) hX d_La_law_596 rfl ?_
  refine Z_iaddN hX d_La_law_597 ?_
  refine Z_sld hX hS d_La_law_598 rfl (by omega) hL ?_
  refine Z_aload_n (i := 0) hX d_La_law_599 rfl rfl ?_
  refine Z_iload hX d_La_law_600 rfl ?_
  refine Z_iconst (v := nI 3) hX d_La_law_602 rfl ?_
  refine Z_iaddN hX d_La_law_603 ?_
  refine Z_sld hX hS d_La_law_604 rfl (by omega) hL ?_
  refine Z_cVi3 hX d_La_law_605 hM m_Mo_command rfl rfl lk_La_109 ⟨by show q + 1 ≤ 11; omega, by show 8 + (5 + 11) + (36 * q + 30) ≤ 394; omega⟩ ⟨ha, hb⟩ (Nat.le_of_ble_eq_true rfl) ?_
  refine Z_istore hX d_La_law_608 (by decide) rfl ?_
  refine Z_aload_n (i := 2) hX d_La_law_610 rfl rfl ?_
  refine Z_cVi0 hX d_La_law_611 c_Mo_thrown m_Mo_thrown rfl rfl lk_La_83 ⟨by decide, by decide⟩ ⟨ha, hb⟩ (Nat.le_of_ble_eq_true rfl) ?_
  refine Z_iload hX d_La_law_614 rfl ?_
  refine Z_iceq (tgt := 621) hX d_La_law_616 rfl (fun _ => ?_) (fun h => absurd ht h)
  refine Z_iload hX d_La_law_621 rfl ?_
  refine Z_ifne (tgt := 638) hX d_La_law_623 rfl (fun h623 => ?_) (fun h623 => ?_)
  · refine Z_goto (tgt := 1456) hX d_La_law_638 rfl ?_
    exact Z_loc rfl hk
  refine Z_aload_n (i := 3) hX d_La_law_626 rfl rfl ?_
  refine Z_iconst (v := nI 0) hX d_La_law_627 rfl ?_
  refine Z_lald hX d_La_law_628 rfl rfl (by decide) (by decide) ?_
  refine Z_topL (ho h623) ?_
  refine Z_iload hX d_La_law_629 rfl ?_
  refine Z_i2l hX d_La_law_631 ?_
  refine Z_lcmp hX d_La_law_632 ?_
  refine Z_top (lg_self _) ?_
  refine Z_ifeq (tgt := 638) hX d_La_law_633 rfl (fun _ => ?_) (fun h => absurd rfl h)
  refine Z_goto (tgt := 1456) hX d_La_law_638 rfl ?_
  exact Z_loc rfl hk

set_option maxRecDepth 100000 in
set_option maxHeartbeats 4000000 in
theorem w_lockout {X : zX} {G : zG} {b0 L : Nat} {xs : Nat → Int32} (hX : zOk X G code 8 "ClockTreeLaw" room_1) (hO : zOx X) (hS : zSc X b0 L xs) {i a b : Nat} (hi : i + 4 < L) (hL : L ≤ 2560) (ha : a + 1 ≤ 1116) (hb : b + 6 ≤ 13107) {I I1 I2 : zI} {J J1 J2 : zJ} {k : Int32} {q : Nat} (hq : q ≤ 8) {t : Bool} (hH : zCw X.2.1 G y_La_lockout (Cond.codeWith y_La_lockout method_9_code 6 (some .int) [(0, 19, 22, 13)] :: TBL) (zRx 8) [.ref (zad G 0), .int (xs (i + 1)), .int (xs (i + 2)), .int (zB (decide (¬ xs (i + 3) = 0))), .ref (zad G 86)] I J k I1 J1) (hM : zCi X.2.1 G y_Mo_lockout (Cond.code y_Mo_lockout prog_8_method_35_code 5 (some .boolean) :: TBL) (zR q) [.ref (zad G 64), .int (xs (i + 1)), .int (xs (i + 2)), .int (zB (decide (¬ xs (i + 3) = 0)))] I1 J1 (zB t) I2 J2) (ht : I2 64 0 = k) (ho : k = 0 → J2 86 0 = (zB t).toInt64) (hk : Z X G 8 (a + 1) (b + 6) 1456 [(4, .int (nI i)), (3, .ref (zad G 86)), (2, .ref (zad G 64)), (1, .ref (zad G 0)), (0, .ref b0)] [] I2 J2) : Z X G 8 a b 641 [(4, .int (nI i)), (3, .ref (zad G 86)), (2, .ref (zad G 64)), (1, .ref (zad G 0)), (0, .ref b0)] [] I J := by
  refine Z_aload_n (i := 1) hX d_La_law_641 rfl rfl ?_
  refine Z_aload_n (i := 0) hX d_La_law_642 rfl rfl ?_
  refine Z_iload hX d_La_law_643 rfl ?_
  refine Z_iconst (v := nI 1) hX d_La_law_645 rfl ?_
  refine Z_iaddN hX d_La_law_646 ?_
  refine Z_sld hX hS d_La_law_647 rfl (by omega) hL ?_
  refine Z_aload_n (i := 0) hX d_La_law_648 rfl rfl ?_
  refine Z_iload hX d_La_law_649 rfl ?_
  refine Z_iconst (v := nI 2) hX d_La_law_651 rfl ?_
  refine Z_iaddN hX d_La_law_652 ?_
  refine Z_sld hX hS d_La_law_653 rfl (by omega) hL ?_
  refine Z_aload_n (i := 0) hX d_La_law_654 rfl rfl ?_
  refine Z_iload hX d_La_law_655 rfl ?_
  refine Z_iconst (v := nI 3) hX d_La_law_657 rfl ?_
  refine Z_iaddN hX d_La_law_658 ?_
  refine Z_sld hX hS d_La_law_659 rfl (by omega) hL ?_
  refine Z_bool hX d_La_law_660 d_La_law_663 d_La_law_664 d_La_law_667 ?_
  refine Z_aload_n (i := 3) hX d_La_law_668 rfl rfl ?_
  refine Z_cWi (As := [.ref (zad G 0), .int (xs (i + 1)), .int (xs (i + 2)), .int (zB (decide (¬ xs (i + 3) = 0))), .ref (zad G 86)]) (st := []) hX hO d_La_law_669 hH m_La_lockout rfl lk_La_110 ⟨by decide, by decide⟩ ⟨ha, hb⟩ (Nat.le_of_ble_eq_true rfl) ?_
  refine Z_istore hX d_La_law_672 (by decide) rfl ?_
  refine Z_aload_n (i := 2) hX d_La_law_674 rfl rfl ?_
  refine Z_aload_n (i := 0) hX d_La_law_675 rfl rfl ?_
  refine Z_iload hX d_La_law_676 rfl ?_
  refine Z_iconst (v := nI 1) hX d_La_law_678 rfl ?_
  refine Z_iaddN hX d_La_law_679 ?_
  refine Z_sld hX hS d_La_law_680 rfl (by omega) hL ?_
  refine Z_aload_n (i := 0) hX d_La_law_681 rfl rfl ?_
  refine Z_iload hX d_La_law_682 rfl ?_
  refine Z_iconst (v := nI 2) hX d_La_law_684 rfl ?_
  refine Z_iaddN hX d_La_law_685 ?_
  refine Z_sld hX hS d_La_law_686 rfl (by omega) hL ?_
  refine Z_aload_n (i := 0) hX d_La_law_687 rfl rfl ?_
  refine Z_iload hX d_La_law_688 rfl ?_
  refine Z_iconst (v := nI 3) hX d_La_law_690 rfl ?_
  refine Z_iaddN hX d_La_law_691 ?_
  refine Z_sld hX hS d_La_law_692 rfl (by omega) hL ?_
  refine Z_bool hX d_La_law_693 d_La_law_696 d_La_law_697 d_La_law_700 ?_
  refine Z_cVi3 hX d_La_law_701 hM m_Mo_lockout rfl rfl lk_La_113 ⟨by show q + 1 ≤ 11; omega, by show 8 + (5 + 11) + (36 * q + 30) ≤ 394; omega⟩ ⟨ha, hb⟩ (Nat.le_of_ble_eq_true rfl) ?_
  refine Z_istore hX d_La_law_704 (by decide) rfl ?_
  refine Z_aload_n (i := 2) hX d_La_law_706 rfl rfl ?_
  refine Z_cVi0 hX d_La_law_707 c_Mo_thrown m_Mo_thrown rfl rfl lk_La_83 ⟨by decide, by decide⟩ ⟨ha, hb⟩ (Nat.le_of_ble_eq_true rfl) ?_
  refine Z_iload hX d_La_law_710 rfl ?_
  refine Z_iceq (tgt := 717) hX d_La_law_712 rfl (fun _ => ?_) (fun h => absurd ht h)
  refine Z_iload hX d_La_law_717 rfl ?_
  refine Z_ifne (tgt := 741) hX d_La_law_719 rfl (fun h719 => ?_) (fun h719 => ?_)
  · refine Z_goto (tgt := 1456) hX d_La_law_741 rfl ?_
    exact Z_loc rfl hk
  refine Z_aload_n (i := 3) hX d_La_law_722 rfl rfl ?_
  refine Z_iconst (v := nI 0) hX d_La_law_723 rfl ?_
  refine Z_lald hX d_La_law_724 rfl rfl (by decide) (by decide) ?_
  refine Z_topL (ho h719) ?_
  refine Z_iload hX d_La_law_725 rfl ?_
  refine Z_boolL hX d_La_law_727 d_La_law_730 d_La_law_731 d_La_law_734 ?_
  refine Z_lcmp hX d_La_law_735 ?_
  refine Z_top (lg_self _) ?_
  refine Z_ifeq (tgt := 741) hX d_La_law_736 rfl (fun _ => ?_) (fun h => absurd rfl h)
  refine Z_goto (tgt := 1456) hX d_La_law_741 rfl ?_
  exact Z_loc rfl hk

set_option maxRecDepth 100000 in
set_option maxHeartbeats 4000000 in
theorem w_fail {X : zX} {G : zG} {b0 L : Nat} {xs : Nat → Int32} (hX : zOk X G code 8 "ClockTreeLaw" room_1) (hO : zOx X) (hS : zSc X b0 L xs) {i a b : Nat} (hi : i + 4 < L) (hL : L ≤ 2560) (ha : a + 1 ≤ 1116) (hb : b + 6 ≤ 13107) {I I1 I2 : zI} {J J1 J2 : zJ} {k : Int32} {q : Nat} (hq : q ≤ 8) {t : Bool} (hH : zCw X.2.1 G y_La_fail (Cond.codeWith y_La_fail method_10_code 5 (some .int) [(0, 17, 20, 13)] :: TBL) (zRx 8) [.ref (zad G 0), .int (xs (i + 1)), .int (zB (decide (¬ xs (i + 2) = 0))), .ref (zad G 86)] I J k I1 J1) (hM : zCi X.2.1 G y_Mo_fail (Cond.code y_Mo_fail prog_8_method_36_code 4 (some .boolean) :: TBL) (zR q) [.ref (zad G 64), .int (xs (i + 1)), .int (zB (decide (¬ xs (i + 2) = 0)))] I1 J1 (zB t) I2 J2) (ht : I2 64 0 = k) (ho : k = 0 → J2 86 0 = (zB t).toInt64) (hk : Z X G 8 (a + 1) (b + 6) 1456 [(4, .int (nI i)), (3, .ref (zad G 86)), (2, .ref (zad G 64)), (1, .ref (zad G 0)), (0, .ref b0)] [] I2 J2) : Z X G 8 a b 744 [(4, .int (nI i)), (3, .ref (zad G 86)), (2, .ref (zad G 64)), (1, .ref (zad G 0)), (0, .ref b0)] [] I J := by
  refine Z_aload_n (i := 1) hX d_La_law_744 rfl rfl ?_
  refine Z_aload_n (i := 0) hX d_La_law_745 rfl rfl ?_
  refine Z_iload hX d_La_law_746 rfl ?_
  refine Z_iconst (v := nI 1) hX d_La_law_748 rfl ?_
  refine Z_iaddN hX d_La_law_749 ?_
  refine Z_sld hX hS d_La_law_750 rfl (by omega) hL ?_
  refine Z_aload_n (i := 0) hX d_La_law_751 rfl rfl ?_
  refine Z_iload hX d_La_law_752 rfl ?_
  refine Z_iconst (v := nI 2) hX d_La_law_754 rfl ?_
  refine Z_iaddN hX d_La_law_755 ?_
  refine Z_sld hX hS d_La_law_756 rfl (by omega) hL ?_
  refine Z_bool hX d_La_law_757 d_La_law_760 d_La_law_761 d_La_law_764 ?_
  refine Z_aload_n (i := 3) hX d_La_law_765 rfl rfl ?_
  refine Z_cWi (As := [.ref (zad G 0), .int (xs (i + 1)), .int (zB (decide (¬ xs (i + 2) = 0))), .ref (zad G 86)]) (st := []) hX hO d_La_law_766 hH m_La_fail rfl lk_La_114 ⟨by decide, by decide⟩ ⟨ha, hb⟩ (Nat.le_of_ble_eq_true rfl) ?_
  refine Z_istore hX d_La_law_769 (by decide) rfl ?_
  refine Z_aload_n (i := 2) hX d_La_law_771 rfl rfl ?_
  refine Z_aload_n (i := 0) hX d_La_law_772 rfl rfl ?_
  refine Z_iload hX d_La_law_773 rfl ?_
  refine Z_iconst (v := nI 1) hX d_La_law_775 rfl ?_
  refine Z_iaddN hX d_La_law_776 ?_
  refine Z_sld hX hS d_La_law_777 rfl (by omega) hL ?_
  refine Z_aload_n (i := 0) hX d_La_law_778 rfl rfl ?_
  refine Z_iload hX d_La_law_779 rfl ?_
  refine Z_iconst (v := nI 2) hX d_La_law_781 rfl ?_
  refine Z_iaddN hX d_La_law_782 ?_
  refine Z_sld hX hS d_La_law_783 rfl (by omega) hL ?_
  refine Z_bool hX d_La_law_784 d_La_law_787 d_La_law_788 d_La_law_791 ?_
  refine Z_cVi2 hX d_La_law_792 hM m_Mo_fail rfl rfl lk_La_117 ⟨by show q + 1 ≤ 11; omega, by show 8 + (4 + 11) + (36 * q + 30) ≤ 394; omega⟩ ⟨ha, hb⟩ (Nat.le_of_ble_eq_true rfl) ?_
  refine Z_istore hX d_La_law_795 (by decide) rfl ?_
  refine Z_aload_n (i := 2) hX d_La_law_797 rfl rfl ?_
  refine Z_cVi0 hX d_La_law_798 c_Mo_thrown m_Mo_thrown rfl rfl lk_La_83 ⟨by decide, by decide⟩ ⟨ha, hb⟩ (Nat.le_of_ble_eq_true rfl) ?_
  refine Z_iload hX d_La_law_801 rfl ?_
  refine Z_iceq (tgt := 808) hX d_La_law_803 rfl (fun _ => ?_) (fun h => absurd ht h)
  refine Z_iload hX d_La_law_808 rfl ?_
  refine Z_ifne (tgt := 832) hX d_La_law_810 rfl (fun h810 => ?_) (fun h810 => ?_)
  · refine Z_goto (tgt := 1456) hX d_La_law_832 rfl ?_
    exact Z_loc rfl hk
  refine Z_aload_n (i := 3) hX d_La_law_813 rfl rfl ?_
  refine Z_iconst (v := nI 0) hX d_La_law_814 rfl ?_
  refine Z_lald hX d_La_law_815 rfl rfl (by decide) (by decide) ?_
  refine Z_topL (ho h810) ?_
  refine Z_iload hX d_La_law_816 rfl ?_
  refine Z_boolL hX d_La_law_818 d_La_law_821 d_La_law_822 d_La_law_825 ?_
  refine Z_lcmp hX d_La_law_826 ?_
  refine Z_top (lg_self _) ?_
  refine Z_ifeq (tgt := 832) hX d_La_law_827 rfl (fun _ => ?_) (fun h => absurd rfl h)
  refine Z_goto (tgt := 1456) hX d_La_law_832 rfl ?_
  exact Z_loc rfl hk

set_option maxRecDepth 100000 in
set_option maxHeartbeats 4000000 in
theorem w_failElement {X : zX} {G : zG} {b0 L : Nat} {xs : Nat → Int32} (hX : zOk X G code 8 "ClockTreeLaw" room_1) (hO : zOx X) (hS : zSc X b0 L xs) {i a b : Nat} (hi : i + 4 < L) (hL : L ≤ 2560) (ha : a + 1 ≤ 1116) (hb : b + 6 ≤ 13107) {I I1 I2 : zI} {J J1 J2 : zJ} {k : Int32} {q : Nat} (hq : q ≤ 8) {t : Bool} (hH : zCw X.2.1 G y_La_failElement (Cond.codeWith y_La_failElement method_11_code 5 (some .int) [(0, 17, 20, 13)] :: TBL) (zRx 8) [.ref (zad G 0), .int (xs (i + 1)), .int (zB (decide (¬ xs (i + 2) = 0))), .ref (zad G 86)] I J k I1 J1) (hM : zCi X.2.1 G y_Mo_failElement (Cond.code y_Mo_failElement prog_8_method_37_code 4 (some .boolean) :: TBL) (zR q) [.ref (zad G 64), .int (xs (i + 1)), .int (zB (decide (¬ xs (i + 2) = 0)))] I1 J1 (zB t) I2 J2) (ht : I2 64 0 = k) (ho : k = 0 → J2 86 0 = (zB t).toInt64) (hk : Z X G 8 (a + 1) (b + 6) 1456 [(4, .int (nI i)), (3, .ref (zad G 86)), (2, .ref (zad G 64)), (1, .ref (zad G 0)), (0, .ref b0)] [] I2 J2) : Z X G 8 a b 835 [(4, .int (nI i)), (3, .ref (zad G 86)), (2, .ref (zad G 64)), (1, .ref (zad G 0)), (0, .ref b0)] [] I J := by
  refine Z_aload_n (i := 1) hX d_La_law_835 rfl rfl ?_
  refine Z_aload_n (i := 0) hX d_La_law_836 rfl rfl ?_
  refine Z_iload hX d_La_law_837 rfl ?_
  refine Z_iconst (v := nI 1) hX d_La_law_839 rfl ?_
  refine Z_iaddN hX d_La_law_840 ?_
  refine Z_sld hX hS d_La_law_841 rfl (by omega) hL ?_
  refine Z_aload_n (i := 0) hX d_La_law_842 rfl rfl ?_
  refine Z_iload hX d_La_law_843 rfl ?_
  refine Z_iconst (v := nI 2) hX d_La_law_845 rfl ?_
  refine Z_iaddN hX d_La_law_846 ?_
  refine Z_sld hX hS d_La_law_847 rfl (by omega) hL ?_
  refine Z_bool hX d_La_law_848 d_La_law_851 d_La_law_852 d_La_law_855 ?_
  refine Z_aload_n (i := 3) hX d_La_law_856 rfl rfl ?_
  refine Z_cWi (As := [.ref (zad G 0), .int (xs (i + 1)), .int (zB (decide (¬ xs (i + 2) = 0))), .ref (zad G 86)]) (st := []) hX hO d_La_law_857 hH m_La_failElement rfl lk_La_118 ⟨by decide, by decide⟩ ⟨ha, hb⟩ (Nat.le_of_ble_eq_true rfl) ?_
  refine Z_istore hX d_La_law_860 (by decide) rfl ?_
  refine Z_aload_n (i := 2) hX d_La_law_862 rfl rfl ?_
  refine Z_aload_n (i := 0) hX d_La_law_863 rfl rfl ?_
  refine Z_iload hX d_La_law_864 rfl ?_
  refine Z_iconst (v := nI 1) hX d_La_law_866 rfl ?_
  refine Z_iaddN hX d_La_law_867 ?_
  refine Z_sld hX hS d_La_law_868 rfl (by omega) hL ?_
  refine Z_aload_n (i := 0) hX d_La_law_869 rfl rfl ?_
  refine Z_iload hX d_La_law_870 rfl ?_
  refine Z_iconst (v := nI 2) hX d_La_law_872 rfl ?_
  refine Z_iaddN hX d_La_law_873 ?_
  refine Z_sld hX hS d_La_law_874 rfl (by omega) hL ?_
  refine Z_bool hX d_La_law_875 d_La_law_878 d_La_law_879 d_La_law_882 ?_
  refine Z_cVi2 hX d_La_law_883 hM m_Mo_failElement rfl rfl lk_La_120 ⟨by show q + 1 ≤ 11; omega, by show 8 + (4 + 11) + (36 * q + 30) ≤ 394; omega⟩ ⟨ha, hb⟩ (Nat.le_of_ble_eq_true rfl) ?_
  refine Z_istore hX d_La_law_886 (by decide) rfl ?_
  refine Z_aload_n (i := 2) hX d_La_law_888 rfl rfl ?_
  refine Z_cVi0 hX d_La_law_889 c_Mo_thrown m_Mo_thrown rfl rfl lk_La_83 ⟨by decide, by decide⟩ ⟨ha, hb⟩ (Nat.le_of_ble_eq_true rfl) ?_
  refine Z_iload hX d_La_law_892 rfl ?_
  refine Z_iceq (tgt := 899) hX d_La_law_894 rfl (fun _ => ?_) (fun h => absurd ht h)
  refine Z_iload hX d_La_law_899 rfl ?_
  refine Z_ifne (tgt := 923) hX d_La_law_901 rfl (fun h901 => ?_) (fun h901 => ?_)
  · refine Z_goto (tgt := 1456) hX d_La_law_923 rfl ?_
    exact Z_loc rfl hk
  refine Z_aload_n (i := 3) hX d_La_law_904 rfl rfl ?_
  refine Z_iconst (v := nI 0) hX d_La_law_905 rfl ?_
  refine Z_lald hX d_La_law_906 rfl rfl (by decide) (by decide) ?_
  refine Z_topL (ho h901) ?_
  refine Z_iload hX d_La_law_907 rfl ?_
  refine Z_boolL hX d_La_law_909 d_La_law_912 d_La_law_913 d_La_law_916 ?_
  refine Z_lcmp hX d_La_law_917 ?_
  refine Z_top (lg_self _) ?_
  refine Z_ifeq (tgt := 923) hX d_La_law_918 rfl (fun _ => ?_) (fun h => absurd rfl h)
  refine Z_goto (tgt := 1456) hX d_La_law_923 rfl ?_
  exact Z_loc rfl hk

set_option maxRecDepth 100000 in
set_option maxHeartbeats 4000000 in
theorem w_lose {X : zX} {G : zG} {b0 L : Nat} {xs : Nat → Int32} (hX : zOk X G code 8 "ClockTreeLaw" room_1) (hO : zOx X) (hS : zSc X b0 L xs) {i a b : Nat} (hi : i + 4 < L) (hL : L ≤ 2560) (ha : a + 1 ≤ 1116) (hb : b + 6 ≤ 13107) {I I1 I2 : zI} {J J1 J2 : zJ} {k : Int32} {q : Nat} (hq : q ≤ 8) (hH : zCw X.2.1 G y_La_lose (Cond.codeWith y_La_lose method_12_code 4 (some .int) [(0, 6, 9, 13)] :: TBL) (zRx 8) [.ref (zad G 0), .int (xs (i + 1)), .int (zB (decide (¬ xs (i + 2) = 0)))] I J k I1 J1) (hM : zCv X.2.1 G y_Mo_lose (Cond.code y_Mo_lose prog_8_method_38_code 3 none :: TBL) (zR q) [.ref (zad G 64), .int (xs (i + 1)), .int (zB (decide (¬ xs (i + 2) = 0)))] I1 J1  I2 J2) (ht : I2 64 0 = k) (hk : Z X G 8 (a + 1) (b + 6) 1456 [(4, .int (nI i)), (3, .ref (zad G 86)), (2, .ref (zad G 64)), (1, .ref (zad G 0)), (0, .ref b0)] [] I2 J2) : Z X G 8 a b 926 [(4, .int (nI i)), (3, .ref (zad G 86)), (2, .ref (zad G 64)), (1, .ref (zad G 0)), (0, .ref b0)] [] I J := by
  refine Z_aload_n (i := 1) hX d_La_law_926 rfl rfl ?_
  refine Z_aload_n (i := 0) hX d_La_law_927 rfl rfl ?_
  refine Z_iload hX d_La_law_928 rfl ?_
  refine Z_iconst (v := nI 1) hX d_La_law_930 rfl ?_
  refine Z_iaddN hX d_La_law_931 ?_
  refine Z_sld hX hS d_La_law_932 rfl (by omega) hL ?_
  refine Z_aload_n (i := 0) hX d_La_law_933 rfl rfl ?_
  refine Z_iload hX d_La_law_934 rfl ?_
  refine Z_iconst (v := nI 2) hX d_La_law_936 rfl ?_
  refine Z_iaddN hX d_La_law_937 ?_
  refine Z_sld hX hS d_La_law_938 rfl (by omega) hL ?_
  refine Z_bool hX d_La_law_939 d_La_law_942 d_La_law_943 d_La_law_946 ?_
  refine Z_cWi (As := [.ref (zad G 0), .int (xs (i + 1)), .int (zB (decide (¬ xs (i + 2) = 0)))]) (st := []) hX hO d_La_law_947 hH m_La_lose rfl lk_La_121 ⟨by decide, by decide⟩ ⟨ha, hb⟩ (Nat.le_of_ble_eq_true rfl) ?_
  refine Z_istore hX d_La_law_950 (by decide) rfl ?_
  refine Z_aload_n (i := 2) hX d_La_law_952 rfl rfl ?_
  refine Z_aload_n (i := 0) hX d_La_law_953 rfl rfl ?_
  refine Z_iload hX d_La_law_954 rfl ?_
  refine Z_iconst (v := nI 1) hX d_La_law_956 rfl ?_
  refine Z_iaddN hX d_La_law_957 ?_
  refine Z_sld hX hS d_La_law_958 rfl (by omega) hL ?_
  refine Z_aload_n (i := 0) hX d_La_law_959 rfl rfl ?_
  refine Z_iload hX d_La_law_960 rfl ?_
  refine Z_iconst (v := nI 2) hX d_La_law_962 rfl ?_
  refine Z_iaddN hX d_La_law_963 ?_
  refine Z_sld hX hS d_La_law_964 rfl (by omega) hL ?_
  refine Z_bool hX d_La_law_965 d_La_law_968 d_La_law_969 d_La_law_972 ?_
  refine Z_cVv2 hX d_La_law_973 hM m_Mo_lose rfl rfl lk_La_124 ⟨by show q + 1 ≤ 11; omega, by show 8 + (3 + 11) + (36 * q + 30) ≤ 394; omega⟩ ⟨ha, hb⟩ (Nat.le_of_ble_eq_true rfl) ?_
  refine Z_aload_n (i := 2) hX d_La_law_976 rfl rfl ?_
  refine Z_cVi0 hX d_La_law_977 c_Mo_thrown m_Mo_thrown rfl rfl lk_La_83 ⟨by decide, by decide⟩ ⟨ha, hb⟩ (Nat.le_of_ble_eq_true rfl) ?_
  refine Z_iload hX d_La_law_980 rfl ?_
  refine Z_iceq (tgt := 987) hX d_La_law_982 rfl (fun _ => ?_) (fun h => absurd ht h)
  refine Z_goto (tgt := 1456) hX d_La_law_987 rfl ?_
  exact Z_loc rfl hk

set_option maxRecDepth 100000 in
set_option maxHeartbeats 4000000 in
theorem w_rounds {X : zX} {G : zG} {b0 L : Nat} {xs : Nat → Int32} (hX : zOk X G code 8 "ClockTreeLaw" room_1) (hO : zOx X) (hS : zSc X b0 L xs) {i a b : Nat} (hi : i + 4 < L) (hL : L ≤ 2560) (ha : a + 1 ≤ 1116) (hb : b + 6 ≤ 13107) {I I1 I2 : zI} {J J1 J2 : zJ} {k : Int32} {q : Nat} (hq : q ≤ 8) {r : Int32} (hH : zCw X.2.1 G y_La_rounds (Cond.codeWith y_La_rounds method_13_code 4 (some .int) [(0, 9, 12, 13)] :: TBL) (zRx 8) [.ref (zad G 0), .int (xs (i + 1)), .ref (zad G 86)] I J k I1 J1) (hM : zCi X.2.1 G y_Mo_rounds (Cond.code y_Mo_rounds prog_8_method_39_code 3 (some .int) :: TBL) (zR q) [.ref (zad G 64), .int (xs (i + 1))] I1 J1 r I2 J2) (ht : I2 64 0 = k) (ho : k = 0 → J2 86 0 = r.toInt64) (hk : Z X G 8 (a + 1) (b + 6) 1456 [(4, .int (nI i)), (3, .ref (zad G 86)), (2, .ref (zad G 64)), (1, .ref (zad G 0)), (0, .ref b0)] [] I2 J2) : Z X G 8 a b 990 [(4, .int (nI i)), (3, .ref (zad G 86)), (2, .ref (zad G 64)), (1, .ref (zad G 0)), (0, .ref b0)] [] I J := by
  refine Z_aload_n (i := 1) hX d_La_law_990 rfl rfl ?_
  refine Z_aload_n (i := 0) hX d_La_law_991 rfl rfl ?_
  refine Z_iload hX d_La_law_992 rfl ?_
  refine Z_iconst (v := nI 1) hX d_La_law_994 rfl ?_
  refine Z_iaddN hX d_La_law_995 ?_
  refine Z_sld hX hS d_La_law_996 rfl (by omega) hL ?_
  refine Z_aload_n (i := 3) hX d_La_law_997 rfl rfl ?_
  refine Z_cWi (As := [.ref (zad G 0), .int (xs (i + 1)), .ref (zad G 86)]) (st := []) hX hO d_La_law_998 hH m_La_rounds rfl lk_La_125 ⟨by decide, by decide⟩ ⟨ha, hb⟩ (Nat.le_of_ble_eq_true rfl) ?_
  refine Z_istore hX d_La_law_1001 (by decide) rfl ?_
  refine Z_aload_n (i := 2) hX d_La_law_1003 rfl rfl ?_
  refine Z_aload_n (i := 0) hX d_La_law_1004 rfl rfl ?_
  refine Z_iload hX d_La_law_1005 rfl ?_
  refine Z_iconst (v := nI 1) hX d_La_law_1007 rfl ?_
  refine Z_iaddN hX d_La_law_1008 ?_
  refine Z_sld hX hS d_La_law_1009 rfl (by omega) hL ?_
  refine Z_cVi1 hX d_La_law_1010 hM m_Mo_rounds rfl rfl lk_La_128 ⟨by show q + 1 ≤ 11; omega, by show 8 + (3 + 11) + (36 * q + 30) ≤ 394; omega⟩ ⟨ha, hb⟩ (Nat.le_of_ble_eq_true rfl) ?_
  refine Z_istore hX d_La_law_1013 (by decide) rfl ?_
  refine Z_aload_n (i := 2) hX d_La_law_1015 rfl rfl ?_
  refine Z_cVi0 hX d_La_law_1016 c_Mo_thrown m_Mo_thrown rfl rfl lk_La_83 ⟨by decide, by decide⟩ ⟨ha, hb⟩ (Nat.le_of_ble_eq_true rfl) ?_
  refine Z_iload hX d_La_law_1019 rfl ?_
  refine Z_iceq (tgt := 1026) hX d_La_law_1021 rfl (fun _ => ?_) (fun h => absurd ht h)
  refine Z_iload hX d_La_law_1026 rfl ?_
  refine Z_ifne (tgt := 1043) hX d_La_law_1028 rfl (fun h1028 => ?_) (fun h1028 => ?_)
  · refine Z_goto (tgt := 1456) hX d_La_law_1043 rfl ?_
    exact Z_loc rfl hk
  refine Z_aload_n (i := 3) hX d_La_law_1031 rfl rfl ?_
  refine Z_iconst (v := nI 0) hX d_La_law_1032 rfl ?_
  refine Z_lald hX d_La_law_1033 rfl rfl (by decide) (by decide) ?_
  refine Z_topL (ho h1028) ?_
  refine Z_iload hX d_La_law_1034 rfl ?_
  refine Z_i2l hX d_La_law_1036 ?_
  refine Z_lcmp hX d_La_law_1037 ?_
  refine Z_top (lg_self _) ?_
  refine Z_ifeq (tgt := 1043) hX d_La_law_1038 rfl (fun _ => ?_) (fun h => absurd rfl h)
  refine Z_goto (tgt := 1456) hX d_La_law_1043 rfl ?_
  exact Z_loc rfl hk

set_option maxRecDepth 100000 in
set_option maxHeartbeats 4000000 in
theorem w_settled {X : zX} {G : zG} {b0 L : Nat} {xs : Nat → Int32} (hX : zOk X G code 8 "ClockTreeLaw" room_1) (hO : zOx X) (hS : zSc X b0 L xs) {i a b : Nat} (hi : i + 4 < L) (hL : L ≤ 2560) (ha : a + 1 ≤ 1116) (hb : b + 6 ≤ 13107) {I I1 I2 : zI} {J J1 J2 : zJ} {v : Int32} {p q : Nat} (hp : p ≤ 8) (hq : q ≤ 8) (hC : zCi X.2.1 G y_CT_settled (Cond.code y_CT_settled prog_1_method_14_code 1 (some .int) :: TBL) (zR p) [.ref (zad G 0)] I J v I1 J1) (hM : zCi X.2.1 G y_Mo_settled (Cond.code y_Mo_settled prog_8_method_40_code 1 (some .int) :: TBL) (zR q) [.ref (zad G 64)] I1 J1 v I2 J2) (hk : Z X G 8 a b 1456 [(4, .int (nI i)), (3, .ref (zad G 86)), (2, .ref (zad G 64)), (1, .ref (zad G 0)), (0, .ref b0)] [] I2 J2) : Z X G 8 a b 1046 [(4, .int (nI i)), (3, .ref (zad G 86)), (2, .ref (zad G 64)), (1, .ref (zad G 0)), (0, .ref b0)] [] I J := by
  refine Z_aload_n (i := 1) hX d_La_law_1046 rfl rfl ?_
  refine Z_cVi0 hX d_La_law_1047 hC m_CT_settled rfl rfl lk_La_129 ⟨by show p + 1 ≤ 11; omega, by show 8 + (1 + 11) + (36 * p + 30) ≤ 394; omega⟩ ⟨by show a + 0 ≤ 1116; omega, by show b + 0 ≤ 13107; omega⟩ (Nat.le_of_ble_eq_true rfl) ?_
  refine Z_aload_n (i := 2) hX d_La_law_1050 rfl rfl ?_
  refine Z_cVi0 hX d_La_law_1051 hM m_Mo_settled rfl rfl lk_La_132 ⟨by show q + 1 ≤ 11; omega, by show 8 + (1 + 11) + (36 * q + 30) ≤ 394; omega⟩ ⟨by show a + 0 + 0 ≤ 1116; omega, by show b + 0 + 0 ≤ 13107; omega⟩ (Nat.le_of_ble_eq_true rfl) ?_
  refine Z_iceq (tgt := 1456) hX d_La_law_1054 rfl (fun _ => ?_) (fun h => absurd rfl h)
  exact Z_loc rfl hk

set_option maxRecDepth 100000 in
set_option maxHeartbeats 4000000 in
theorem w_state {X : zX} {G : zG} {b0 L : Nat} {xs : Nat → Int32} (hX : zOk X G code 8 "ClockTreeLaw" room_1) (hO : zOx X) (hS : zSc X b0 L xs) {i a b : Nat} (hi : i + 4 < L) (hL : L ≤ 2560) (ha : a + 1 ≤ 1116) (hb : b + 6 ≤ 13107) {I I1 I2 : zI} {J J1 J2 : zJ} {k : Int32} {q : Nat} (hq : q ≤ 8) {r : Int32} (hH : zCw X.2.1 G y_La_state (Cond.codeWith y_La_state method_14_code 5 (some .int) [(0, 10, 13, 13)] :: TBL) (zRx 8) [.ref (zad G 0), .int (xs (i + 1)), .int (xs (i + 2)), .ref (zad G 86)] I J k I1 J1) (hM : zCi X.2.1 G y_Mo_state (Cond.code y_Mo_state prog_8_method_41_code 3 (some .int) :: TBL) (zR q) [.ref (zad G 64), .int (xs (i + 1)), .int (xs (i + 2))] I1 J1 r I2 J2) (ht : I2 64 0 = k) (ho : k = 0 → J2 86 0 = r.toInt64) (hk : Z X G 8 (a + 1) (b + 6) 1456 [(4, .int (nI i)), (3, .ref (zad G 86)), (2, .ref (zad G 64)), (1, .ref (zad G 0)), (0, .ref b0)] [] I2 J2) : Z X G 8 a b 1059 [(4, .int (nI i)), (3, .ref (zad G 86)), (2, .ref (zad G 64)), (1, .ref (zad G 0)), (0, .ref b0)] [] I J := by
  refine Z_aload_n (i := 1) hX d_La_law_1059 rfl rfl ?_
  refine Z_aload_n (i := 0) hX d_La_law_1060 rfl rfl ?_
  refine Z_iload hX d_La_law_1061 rfl ?_
  refine Z_iconst (v := nI 1) hX d_La_law_1063 rfl ?_
  refine Z_iaddN hX d_La_law_1064 ?_
  refine Z_sld hX hS d_La_law_1065 rfl (by omega) hL ?_
  refine Z_aload_n (i := 0) hX d_La_law_1066 rfl rfl ?_
  refine Z_iload hX d_La_law_1067 rfl ?_
  refine Z_iconst (v := nI 2) hX d_La_law_1069 rfl ?_
  refine Z_iaddN hX d_La_law_1070 ?_
  refine Z_sld hX hS d_La_law_1071 rfl (by omega) hL ?_
  refine Z_aload_n (i := 3) hX d_La_law_1072 rfl rfl ?_
  refine Z_cWi (As := [.ref (zad G 0), .int (xs (i + 1)), .int (xs (i + 2)), .ref (zad G 86)]) (st := []) hX hO d_La_law_1073 hH m_La_state rfl lk_La_133 ⟨by decide, by decide⟩ ⟨ha, hb⟩ (Nat.le_of_ble_eq_true rfl) ?_
  refine Z_istore hX d_La_law_1076 (by decide) rfl ?_
  refine Z_aload_n (i := 2) hX d_La_law_1078 rfl rfl ?_
  refine Z_aload_n (i := 0) hX d_La_law_1079 rfl rfl ?_
  refine Z_iload hX d_La_law_1080 rfl ?_
  refine Z_iconst (v := nI 1) hX d_La_law_1082 rfl ?_
  refine Z_iaddN hX d_La_law_1083 ?_
  refine Z_sld hX hS d_La_law_1084 rfl (by omega) hL ?_
  refine Z_aload_n (i := 0) hX d_La_law_1085 rfl rfl ?_
  refine Z_iload hX d_La_law_1086 rfl ?_
  refine Z_iconst (v := nI 2) hX d_La_law_1088 rfl ?_
  refine Z_iaddN hX d_La_law_1089 ?_
  refine Z_sld hX hS d_La_law_1090 rfl (by omega) hL ?_
  refine Z_cVi2 hX d_La_law_1091 hM m_Mo_state rfl rfl lk_La_135 ⟨by show q + 1 ≤ 11; omega, by show 8 + (3 + 11) + (36 * q + 30) ≤ 394; omega⟩ ⟨ha, hb⟩ (Nat.le_of_ble_eq_true rfl) ?_
  refine Z_istore hX d_La_law_1094 (by decide) rfl ?_
  refine Z_aload_n (i := 2) hX d_La_law_1096 rfl rfl ?_
  refine Z_cVi0 hX d_La_law_1097 c_Mo_thrown m_Mo_thrown rfl rfl lk_La_83 ⟨by decide, by decide⟩ ⟨ha, hb⟩ (Nat.le_of_ble_eq_true rfl) ?_
  refine Z_iload hX d_La_law_1100 rfl ?_
  refine Z_iceq (tgt := 1107) hX d_La_law_1102 rfl (fun _ => ?_) (fun h => absurd ht h)
  refine Z_iload hX d_La_law_1107 rfl ?_
  refine Z_ifne (tgt := 1124) hX d_La_law_1109 rfl (fun h1109 => ?_) (fun h1109 => ?_)
  · refine Z_goto (tgt := 1456) hX d_La_law_1124 rfl ?_
    exact Z_loc rfl hk
  refine Z_aload_n (i := 3) hX d_La_law_1112 rfl rfl ?_
  refine Z_iconst (v := nI 0) hX d_La_law_1113 rfl ?_
  refine Z_lald hX d_La_law_1114 rfl rfl (by decide) (by decide) ?_
  refine Z_topL (ho h1109) ?_
  refine Z_iload hX d_La_law_1115 rfl ?_
  refine Z_i2l hX d_La_law_1117 ?_
  refine Z_lcmp hX d_La_law_1118 ?_
  refine Z_top (lg_self _) ?_
  refine Z_ifeq (tgt := 1124) hX d_La_law_1119 rfl (fun _ => ?_) (fun h => absurd rfl h)
  refine Z_goto (tgt := 1456) hX d_La_law_1124 rfl ?_
  exact Z_loc rfl hk

set_option maxRecDepth 100000 in
set_option maxHeartbeats 4000000 in
theorem w_phase {X : zX} {G : zG} {b0 L : Nat} {xs : Nat → Int32} (hX : zOk X G code 8 "ClockTreeLaw" room_1) (hO : zOx X) (hS : zSc X b0 L xs) {i a b : Nat} (hi : i + 4 < L) (hL : L ≤ 2560) (ha : a + 1 ≤ 1116) (hb : b + 6 ≤ 13107) {I I1 I2 : zI} {J J1 J2 : zJ} {k : Int32} {q : Nat} (hq : q ≤ 8) {r : Int64} (hH : zCw X.2.1 G y_La_phase (Cond.codeWith y_La_phase method_15_code 4 (some .int) [(0, 8, 11, 13)] :: TBL) (zRx 8) [.ref (zad G 0), .int (xs (i + 1)), .ref (zad G 86)] I J k I1 J1) (hM : zCl X.2.1 G y_Mo_phase (Cond.code y_Mo_phase prog_8_method_42_code 2 (some .long) :: TBL) (zR q) [.ref (zad G 64), .int (xs (i + 1))] I1 J1 r I2 J2) (ht : I2 64 0 = k) (ho : k = 0 → J2 86 0 = r) (hk : Z X G 8 (a + 1) (b + 6) 1456 [(4, .int (nI i)), (3, .ref (zad G 86)), (2, .ref (zad G 64)), (1, .ref (zad G 0)), (0, .ref b0)] [] I2 J2) : Z X G 8 a b 1127 [(4, .int (nI i)), (3, .ref (zad G 86)), (2, .ref (zad G 64)), (1, .ref (zad G 0)), (0, .ref b0)] [] I J := by
  refine Z_aload_n (i := 1) hX d_La_law_1127 rfl rfl ?_
  refine Z_aload_n (i := 0) hX d_La_law_1128 rfl rfl ?_
  refine Z_iload hX d_La_law_1129 rfl ?_
  refine Z_iconst (v := nI 1) hX d_La_law_1131 rfl ?_
  refine Z_iaddN hX d_La_law_1132 ?_
  refine Z_sld hX hS d_La_law_1133 rfl (by omega) hL ?_
  refine Z_aload_n (i := 3) hX d_La_law_1134 rfl rfl ?_
  refine Z_cWi (As := [.ref (zad G 0), .int (xs (i + 1)), .ref (zad G 86)]) (st := []) hX hO d_La_law_1135 hH m_La_phase rfl lk_La_136 ⟨by decide, by decide⟩ ⟨ha, hb⟩ (Nat.le_of_ble_eq_true rfl) ?_
  refine Z_istore hX d_La_law_1138 (by decide) rfl ?_
  refine Z_aload_n (i := 2) hX d_La_law_1140 rfl rfl ?_
  refine Z_aload_n (i := 0) hX d_La_law_1141 rfl rfl ?_
  refine Z_iload hX d_La_law_1142 rfl ?_
  refine Z_iconst (v := nI 1) hX d_La_law_1144 rfl ?_
  refine Z_iaddN hX d_La_law_1145 ?_
  refine Z_sld hX hS d_La_law_1146 rfl (by omega) hL ?_
  refine Z_cVl1 hX d_La_law_1147 hM m_Mo_phase rfl rfl lk_La_138 ⟨by show q + 1 ≤ 11; omega, by show 8 + (2 + 11) + (36 * q + 30) ≤ 394; omega⟩ ⟨ha, hb⟩ (Nat.le_of_ble_eq_true rfl) ?_
  refine Z_lstore hX d_La_law_1150 (by decide) rfl rfl ?_
  refine Z_aload_n (i := 2) hX d_La_law_1152 rfl rfl ?_
  refine Z_cVi0 hX d_La_law_1153 c_Mo_thrown m_Mo_thrown rfl rfl lk_La_83 ⟨by decide, by decide⟩ ⟨ha, hb⟩ (Nat.le_of_ble_eq_true rfl) ?_
  refine Z_iload hX d_La_law_1156 rfl ?_
  refine Z_iceq (tgt := 1163) hX d_La_law_1158 rfl (fun _ => ?_) (fun h => absurd ht h)
  refine Z_iload hX d_La_law_1163 rfl ?_
  refine Z_ifne (tgt := 1179) hX d_La_law_1165 rfl (fun h1165 => ?_) (fun h1165 => ?_)
  · refine Z_goto (tgt := 1456) hX d_La_law_1179 rfl ?_
    exact Z_loc rfl hk
  refine Z_aload_n (i := 3) hX d_La_law_1168 rfl rfl ?_
  refine Z_iconst (v := nI 0) hX d_La_law_1169 rfl ?_
  refine Z_lald hX d_La_law_1170 rfl rfl (by decide) (by decide) ?_
  refine Z_topL (ho h1165) ?_
  refine Z_lload hX d_La_law_1171 rfl ?_
  refine Z_lcmp hX d_La_law_1173 ?_
  refine Z_top (lg_self _) ?_
  refine Z_ifeq (tgt := 1179) hX d_La_law_1174 rfl (fun _ => ?_) (fun h => absurd rfl h)
  refine Z_goto (tgt := 1456) hX d_La_law_1179 rfl ?_
  exact Z_loc rfl hk

set_option maxRecDepth 100000 in
set_option maxHeartbeats 4000000 in
theorem w_sends {X : zX} {G : zG} {b0 L : Nat} {xs : Nat → Int32} (hX : zOk X G code 8 "ClockTreeLaw" room_1) (hO : zOx X) (hS : zSc X b0 L xs) {i a b : Nat} (hi : i + 4 < L) (hL : L ≤ 2560) (ha : a + 1 ≤ 1116) (hb : b + 6 ≤ 13107) {I I1 I2 : zI} {J J1 J2 : zJ} {k : Int32} {q : Nat} (hq : q ≤ 8) {r : Int32} (hH : zCw X.2.1 G y_La_sends (Cond.codeWith y_La_sends method_16_code 5 (some .int) [(0, 10, 13, 13)] :: TBL) (zRx 8) [.ref (zad G 0), .int (xs (i + 1)), .int (xs (i + 2)), .ref (zad G 86)] I J k I1 J1) (hM : zCi X.2.1 G y_Mo_sends (Cond.code y_Mo_sends prog_8_method_43_code 3 (some .int) :: TBL) (zR q) [.ref (zad G 64), .int (xs (i + 1)), .int (xs (i + 2))] I1 J1 r I2 J2) (ht : I2 64 0 = k) (ho : k = 0 → J2 86 0 = r.toInt64) (hk : Z X G 8 (a + 1) (b + 6) 1456 [(4, .int (nI i)), (3, .ref (zad G 86)), (2, .ref (zad G 64)), (1, .ref (zad G 0)), (0, .ref b0)] [] I2 J2) : Z X G 8 a b 1182 [(4, .int (nI i)), (3, .ref (zad G 86)), (2, .ref (zad G 64)), (1, .ref (zad G 0)), (0, .ref b0)] [] I J := by
  refine Z_aload_n (i := 1) hX d_La_law_1182 rfl rfl ?_
  refine Z_aload_n (i := 0) hX d_La_law_1183 rfl rfl ?_
  refine Z_iload hX d_La_law_1184 rfl ?_
  refine Z_iconst (v := nI 1) hX d_La_law_1186 rfl ?_
  refine Z_iaddN hX d_La_law_1187 ?_
  refine Z_sld hX hS d_La_law_1188 rfl (by omega) hL ?_
  refine Z_aload_n (i := 0) hX d_La_law_1189 rfl rfl ?_
  refine Z_iload hX d_La_law_1190 rfl ?_
  refine Z_iconst (v := nI 2) hX d_La_law_1192 rfl ?_
  refine Z_iaddN hX d_La_law_1193 ?_
  refine Z_sld hX hS d_La_law_1194 rfl (by omega) hL ?_
  refine Z_aload_n (i := 3) hX d_La_law_1195 rfl rfl ?_
  refine Z_cWi (As := [.ref (zad G 0), .int (xs (i + 1)), .int (xs (i + 2)), .ref (zad G 86)]) (st := []) hX hO d_La_law_1196 hH m_La_sends rfl lk_La_139 ⟨by decide, by decide⟩ ⟨ha, hb⟩ (Nat.le_of_ble_eq_true rfl) ?_
  refine Z_istore hX d_La_law_1199 (by decide) rfl ?_
  refine Z_aload_n (i := 2) hX d_La_law_1201 rfl rfl ?_
  refine Z_aload_n (i := 0) hX d_La_law_1202 rfl rfl ?_
  refine Z_iload hX d_La_law_1203 rfl ?_
  refine Z_iconst (v := nI 1) hX d_La_law_1205 rfl ?_
  refine Z_iaddN hX d_La_law_1206 ?_
  refine Z_sld hX hS d_La_law_1207 rfl (by omega) hL ?_
  refine Z_aload_n (i := 0) hX d_La_law_1208 rfl rfl ?_
  refine Z_iload hX d_La_law_1209 rfl ?_
  refine Z_iconst (v := nI 2) hX d_La_law_1211 rfl ?_
  refine Z_iaddN hX d_La_law_1212 ?_
  refine Z_sld hX hS d_La_law_1213 rfl (by omega) hL ?_
  refine Z_cVi2 hX d_La_law_1214 hM m_Mo_sends rfl rfl lk_La_141 ⟨by show q + 1 ≤ 11; omega, by show 8 + (3 + 11) + (36 * q + 30) ≤ 394; omega⟩ ⟨ha, hb⟩ (Nat.le_of_ble_eq_true rfl) ?_
  refine Z_istore hX d_La_law_1217 (by decide) rfl ?_
  refine Z_aload_n (i := 2) hX d_La_law_1219 rfl rfl ?_
  refine Z_cVi0 hX d_La_law_1220 c_Mo_thrown m_Mo_thrown rfl rfl lk_La_83 ⟨by decide, by decide⟩ ⟨ha, hb⟩ (Nat.le_of_ble_eq_true rfl) ?_
  refine Z_iload hX d_La_law_1223 rfl ?_
  refine Z_iceq (tgt := 1230) hX d_La_law_1225 rfl (fun _ => ?_) (fun h => absurd ht h)
  refine Z_iload hX d_La_law_1230 rfl ?_
  refine Z_ifne (tgt := 1247) hX d_La_law_1232 rfl (fun h1232 => ?_) (fun h1232 => ?_)
  · refine Z_goto (tgt := 1456) hX d_La_law_1247 rfl ?_
    exact Z_loc rfl hk
  refine Z_aload_n (i := 3) hX d_La_law_1235 rfl rfl ?_
  refine Z_iconst (v := nI 0) hX d_La_law_1236 rfl ?_
  refine Z_lald hX d_La_law_1237 rfl rfl (by decide) (by decide) ?_
  refine Z_topL (ho h1232) ?_
  refine Z_iload hX d_La_law_1238 rfl ?_
  refine Z_i2l hX d_La_law_1240 ?_
  refine Z_lcmp hX d_La_law_1241 ?_
  refine Z_top (lg_self _) ?_
  refine Z_ifeq (tgt := 1247) hX d_La_law_1242 rfl (fun _ => ?_) (fun h => absurd rfl h)
  refine Z_goto (tgt := 1456) hX d_La_law_1247 rfl ?_
  exact Z_loc rfl hk

set_option maxRecDepth 100000 in
set_option maxHeartbeats 4000000 in
theorem w_traced {X : zX} {G : zG} {b0 L : Nat} {xs : Nat → Int32} (hX : zOk X G code 8 "ClockTreeLaw" room_1) (hO : zOx X) (hS : zSc X b0 L xs) {i a b : Nat} (hi : i + 4 < L) (hL : L ≤ 2560) (ha : a + 1 ≤ 1116) (hb : b + 6 ≤ 13107) {I I1 I2 : zI} {J J1 J2 : zJ} {k : Int32} {q : Nat} (hq : q ≤ 8) {r : Int32} (hH : zCw X.2.1 G y_La_traced (Cond.codeWith y_La_traced method_17_code 4 (some .int) [(0, 9, 12, 13)] :: TBL) (zRx 8) [.ref (zad G 0), .int (xs (i + 1)), .ref (zad G 86)] I J k I1 J1) (hM : zCi X.2.1 G y_Mo_traced (Cond.code y_Mo_traced prog_8_method_44_code 4 (some .int) :: TBL) (zR q) [.ref (zad G 64), .int (xs (i + 1))] I1 J1 r I2 J2) (ht : I2 64 0 = k) (ho : k = 0 → J2 86 0 = r.toInt64) (hk : Z X G 8 (a + 1) (b + 6) 1456 [(4, .int (nI i)), (3, .ref (zad G 86)), (2, .ref (zad G 64)), (1, .ref (zad G 0)), (0, .ref b0)] [] I2 J2) : Z X G 8 a b 1250 [(4, .int (nI i)), (3, .ref (zad G 86)), (2, .ref (zad G 64)), (1, .ref (zad G 0)), (0, .ref b0)] [] I J := by
  refine Z_aload_n (i := 1) hX d_La_law_1250 rfl rfl ?_
  refine Z_aload_n (i := 0) hX d_La_law_1251 rfl rfl ?_
  refine Z_iload hX d_La_law_1252 rfl ?_
  refine Z_iconst (v := nI 1) hX d_La_law_1254 rfl ?_
  refine Z_iaddN hX d_La_law_1255 ?_
  refine Z_sld hX hS d_La_law_1256 rfl (by omega) hL ?_
  refine Z_aload_n (i := 3) hX d_La_law_1257 rfl rfl ?_
  refine Z_cWi (As := [.ref (zad G 0), .int (xs (i + 1)), .ref (zad G 86)]) (st := []) hX hO d_La_law_1258 hH m_La_traced rfl lk_La_142 ⟨by decide, by decide⟩ ⟨ha, hb⟩ (Nat.le_of_ble_eq_true rfl) ?_
  refine Z_istore hX d_La_law_1261 (by decide) rfl ?_
  refine Z_aload_n (i := 2) hX d_La_law_1263 rfl rfl ?_
  refine Z_aload_n (i := 0) hX d_La_law_1264 rfl rfl ?_
  refine Z_iload hX d_La_law_1265 rfl ?_
  refine Z_iconst (v := nI 1) hX d_La_law_1267 rfl ?_
  refine Z_iaddN hX d_La_law_1268 ?_
  refine Z_sld hX hS d_La_law_1269 rfl (by omega) hL ?_
  refine Z_cVi1 hX d_La_law_1270 hM m_Mo_traced rfl rfl lk_La_144 ⟨by show q + 1 ≤ 11; omega, by show 8 + (4 + 11) + (36 * q + 30) ≤ 394; omega⟩ ⟨ha, hb⟩ (Nat.le_of_ble_eq_true rfl) ?_
  refine Z_istore hX d_La_law_1273 (by decide) rfl ?_
  refine Z_aload_n (i := 2) hX d_La_law_1275 rfl rfl ?_
  refine Z_cVi0 hX d_La_law_1276 c_Mo_thrown m_Mo_thrown rfl rfl lk_La_83 ⟨by decide, by decide⟩ ⟨ha, hb⟩ (Nat.le_of_ble_eq_true rfl) ?_
  refine Z_iload hX d_La_law_1279 rfl ?_
  refine Z_iceq (tgt := 1286) hX d_La_law_1281 rfl (fun _ => ?_) (fun h => absurd ht h)
  refine Z_iload hX d_La_law_1286 rfl ?_
  refine Z_ifne (tgt := 1303) hX d_La_law_1288 rfl (fun h1288 => ?_) (fun h1288 => ?_)
  · refine Z_goto (tgt := 1456) hX d_La_law_1303 rfl ?_
    exact Z_loc rfl hk
  refine Z_aload_n (i := 3) hX d_La_law_1291 rfl rfl ?_
  refine Z_iconst (v := nI 0) hX d_La_law_1292 rfl ?_
  refine Z_lald hX d_La_law_1293 rfl rfl (by decide) (by decide) ?_
  refine Z_topL (ho h1288) ?_
  refine Z_iload hX d_La_law_1294 rfl ?_
  refine Z_i2l hX d_La_law_1296 ?_
  refine Z_lcmp hX d_La_law_1297 ?_
  refine Z_top (lg_self _) ?_
  refine Z_ifeq (tgt := 1303) hX d_La_law_1298 rfl (fun _ => ?_) (fun h => absurd rfl h)
  refine Z_goto (tgt := 1456) hX d_La_law_1303 rfl ?_
  exact Z_loc rfl hk

set_option maxRecDepth 100000 in
set_option maxHeartbeats 4000000 in
theorem w_loop {X : zX} {G : zG} {b0 L : Nat} {xs : Nat → Int32} (hX : zOk X G code 8 "ClockTreeLaw" room_1) (hO : zOx X) (hS : zSc X b0 L xs) {i a b : Nat} (hi : i + 4 < L) (hL : L ≤ 2560) (ha : a + 1 ≤ 1116) (hb : b + 6 ≤ 13107) {I I1 I2 : zI} {J J1 J2 : zJ} {v : Int32} {p q : Nat} (hp : p ≤ 8) (hq : q ≤ 8) (hC : zCi X.2.1 G y_CT_loop (Cond.code y_CT_loop prog_1_method_19_code 2 (some .boolean) :: TBL) (zR p) [.ref (zad G 0)] I J v I1 J1) (hM : zCi X.2.1 G y_Mo_loop (Cond.code y_Mo_loop prog_8_method_45_code 5 (some .boolean) :: TBL) (zR q) [.ref (zad G 64)] I1 J1 v I2 J2) (hk : Z X G 8 a b 1456 [(4, .int (nI i)), (3, .ref (zad G 86)), (2, .ref (zad G 64)), (1, .ref (zad G 0)), (0, .ref b0)] [] I2 J2) : Z X G 8 a b 1306 [(4, .int (nI i)), (3, .ref (zad G 86)), (2, .ref (zad G 64)), (1, .ref (zad G 0)), (0, .ref b0)] [] I J := by
  refine Z_aload_n (i := 1) hX d_La_law_1306 rfl rfl ?_
  refine Z_cVi0 hX d_La_law_1307 hC m_CT_loop rfl rfl lk_La_145 ⟨by show p + 1 ≤ 11; omega, by show 8 + (2 + 11) + (36 * p + 30) ≤ 394; omega⟩ ⟨by show a + 0 ≤ 1116; omega, by show b + 0 ≤ 13107; omega⟩ (Nat.le_of_ble_eq_true rfl) ?_
  refine Z_aload_n (i := 2) hX d_La_law_1310 rfl rfl ?_
  refine Z_cVi0 hX d_La_law_1311 hM m_Mo_loop rfl rfl lk_La_149 ⟨by show q + 1 ≤ 11; omega, by show 8 + (5 + 11) + (36 * q + 30) ≤ 394; omega⟩ ⟨by show a + 0 + 0 ≤ 1116; omega, by show b + 0 + 0 ≤ 13107; omega⟩ (Nat.le_of_ble_eq_true rfl) ?_
  refine Z_iceq (tgt := 1456) hX d_La_law_1314 rfl (fun _ => ?_) (fun h => absurd rfl h)
  exact Z_loc rfl hk

set_option maxRecDepth 100000 in
set_option maxHeartbeats 4000000 in
theorem w_best {X : zX} {G : zG} {b0 L : Nat} {xs : Nat → Int32} (hX : zOk X G code 8 "ClockTreeLaw" room_1) (hO : zOx X) (hS : zSc X b0 L xs) {i a b : Nat} (hi : i + 4 < L) (hL : L ≤ 2560) (ha : a + 1 ≤ 1116) (hb : b + 6 ≤ 13107) {I I1 I2 : zI} {J J1 J2 : zJ} {k : Int32} {q : Nat} (hq : q ≤ 8) {r : Int32} (hH : zCw X.2.1 G y_La_best (Cond.codeWith y_La_best method_18_code 4 (some .int) [(0, 9, 12, 13)] :: TBL) (zRx 8) [.ref (zad G 0), .int (xs (i + 1)), .ref (zad G 86)] I J k I1 J1) (hM : zCi X.2.1 G y_Mo_best (Cond.code y_Mo_best prog_8_method_46_code 2 (some .int) :: TBL) (zR q) [.ref (zad G 64), .int (xs (i + 1))] I1 J1 r I2 J2) (ht : I2 64 0 = k) (ho : k = 0 → J2 86 0 = r.toInt64) (hk : Z X G 8 (a + 1) (b + 6) 1456 [(4, .int (nI i)), (3, .ref (zad G 86)), (2, .ref (zad G 64)), (1, .ref (zad G 0)), (0, .ref b0)] [] I2 J2) : Z X G 8 a b 1319 [(4, .int (nI i)), (3, .ref (zad G 86)), (2, .ref (zad G 64)), (1, .ref (zad G 0)), (0, .ref b0)] [] I J := by
  refine Z_aload_n (i := 1) hX d_La_law_1319 rfl rfl ?_
  refine Z_aload_n (i := 0) hX d_La_law_1320 rfl rfl ?_
  refine Z_iload hX d_La_law_1321 rfl ?_
  refine Z_iconst (v := nI 1) hX d_La_law_1323 rfl ?_
  refine Z_iaddN hX d_La_law_1324 ?_
  refine Z_sld hX hS d_La_law_1325 rfl (by omega) hL ?_
  refine Z_aload_n (i := 3) hX d_La_law_1326 rfl rfl ?_
  refine Z_cWi (As := [.ref (zad G 0), .int (xs (i + 1)), .ref (zad G 86)]) (st := []) hX hO d_La_law_1327 hH m_La_best rfl lk_La_150 ⟨by decide, by decide⟩ ⟨ha, hb⟩ (Nat.le_of_ble_eq_true rfl) ?_
  refine Z_istore hX d_La_law_1330 (by decide) rfl ?_
  refine Z_aload_n (i := 2) hX d_La_law_1332 rfl rfl ?_
  refine Z_aload_n (i := 0) hX d_La_law_1333 rfl rfl ?_
  refine Z_iload hX d_La_law_1334 rfl ?_
  refine Z_iconst (v := nI 1) hX d_La_law_1336 rfl ?_
  refine Z_iaddN hX d_La_law_1337 ?_
  refine Z_sld hX hS d_La_law_1338 rfl (by omega) hL ?_
  refine Z_cVi1 hX d_La_law_1339 hM m_Mo_best rfl rfl lk_La_152 ⟨by show q + 1 ≤ 11; omega, by show 8 + (2 + 11) + (36 * q + 30) ≤ 394; omega⟩ ⟨ha, hb⟩ (Nat.le_of_ble_eq_true rfl) ?_
  refine Z_istore hX d_La_law_1342 (by decide) rfl ?_
  refine Z_aload_n (i := 2) hX d_La_law_1344 rfl rfl ?_
  refine Z_cVi0 hX d_La_law_1345 c_Mo_thrown m_Mo_thrown rfl rfl lk_La_83 ⟨by decide, by decide⟩ ⟨ha, hb⟩ (Nat.le_of_ble_eq_true rfl) ?_
  refine Z_iload hX d_La_law_1348 rfl ?_
  refine Z_iceq (tgt := 1355) hX d_La_law_1350 rfl (fun _ => ?_) (fun h => absurd ht h)
  refine Z_iload hX d_La_law_1355 rfl ?_
  refine Z_ifne (tgt := 1372) hX d_La_law_1357 rfl (fun h1357 => ?_) (fun h1357 => ?_)
  · refine Z_goto (tgt := 1456) hX d_La_law_1372 rfl ?_
    exact Z_loc rfl hk
  refine Z_aload_n (i := 3) hX d_La_law_1360 rfl rfl ?_
  refine Z_iconst (v := nI 0) hX d_La_law_1361 rfl ?_
  refine Z_lald hX d_La_law_1362 rfl rfl (by decide) (by decide) ?_
  refine Z_topL (ho h1357) ?_
  refine Z_iload hX d_La_law_1363 rfl ?_
  refine Z_i2l hX d_La_law_1365 ?_
  refine Z_lcmp hX d_La_law_1366 ?_
  refine Z_top (lg_self _) ?_
  refine Z_ifeq (tgt := 1372) hX d_La_law_1367 rfl (fun _ => ?_) (fun h => absurd rfl h)
  refine Z_goto (tgt := 1456) hX d_La_law_1372 rfl ?_
  exact Z_loc rfl hk

set_option maxRecDepth 100000 in
set_option maxHeartbeats 4000000 in
theorem w_check {X : zX} {G : zG} {b0 L : Nat} {xs : Nat → Int32} (hX : zOk X G code 8 "ClockTreeLaw" room_1) (hO : zOx X) (hS : zSc X b0 L xs) {i a b : Nat} (hi : i + 4 < L) (hL : L ≤ 2560) (ha : a + 1 ≤ 1116) (hb : b + 6 ≤ 13107) {I I1 I2 : zI} {J J1 J2 : zJ} {v : Int32} {p q : Nat} (hp : p ≤ 8) (hq : q ≤ 8) (hC : zCi X.2.1 G y_CT_check (Cond.code y_CT_check prog_1_method_21_code 3 (some .int) :: TBL) (zR p) [.ref (zad G 0)] I J v I1 J1) (hM : zCi X.2.1 G y_Mo_check (Cond.code y_Mo_check prog_8_method_47_code 2 (some .int) :: TBL) (zR q) [.ref (zad G 64)] I1 J1 v I2 J2) (hk : Z X G 8 a b 1456 [(4, .int (nI i)), (3, .ref (zad G 86)), (2, .ref (zad G 64)), (1, .ref (zad G 0)), (0, .ref b0)] [] I2 J2) : Z X G 8 a b 1375 [(4, .int (nI i)), (3, .ref (zad G 86)), (2, .ref (zad G 64)), (1, .ref (zad G 0)), (0, .ref b0)] [] I J := by
  refine Z_aload_n (i := 1) hX d_La_law_1375 rfl rfl ?_
  refine Z_cVi0 hX d_La_law_1376 hC m_CT_check rfl rfl lk_La_153 ⟨by show p + 1 ≤ 11; omega, by show 8 + (3 + 11) + (36 * p + 30) ≤ 394; omega⟩ ⟨by show a + 0 ≤ 1116; omega, by show b + 0 ≤ 13107; omega⟩ (Nat.le_of_ble_eq_true rfl) ?_
  refine Z_aload_n (i := 2) hX d_La_law_1379 rfl rfl ?_
  refine Z_cVi0 hX d_La_law_1380 hM m_Mo_check rfl rfl lk_La_156 ⟨by show q + 1 ≤ 11; omega, by show 8 + (2 + 11) + (36 * q + 30) ≤ 394; omega⟩ ⟨by show a + 0 + 0 ≤ 1116; omega, by show b + 0 + 0 ≤ 13107; omega⟩ (Nat.le_of_ble_eq_true rfl) ?_
  refine Z_iceq (tgt := 1456) hX d_La_law_1383 rfl (fun _ => ?_) (fun h => absurd rfl h)
  exact Z_loc rfl hk

set_option maxRecDepth 100000 in
set_option maxHeartbeats 4000000 in
theorem w_finding {X : zX} {G : zG} {b0 L : Nat} {xs : Nat → Int32} (hX : zOk X G code 8 "ClockTreeLaw" room_1) (hO : zOx X) (hS : zSc X b0 L xs) {i a b : Nat} (hi : i + 4 < L) (hL : L ≤ 2560) (ha : a + 1 ≤ 1116) (hb : b + 6 ≤ 13107) {I I1 I2 : zI} {J J1 J2 : zJ} {k : Int32} {q : Nat} (hq : q ≤ 8) {r : Int32} (hH : zCw X.2.1 G y_La_finding (Cond.codeWith y_La_finding method_19_code 5 (some .int) [(0, 10, 13, 13)] :: TBL) (zRx 8) [.ref (zad G 0), .int (xs (i + 1)), .int (xs (i + 2)), .ref (zad G 86)] I J k I1 J1) (hM : zCi X.2.1 G y_Mo_finding (Cond.code y_Mo_finding prog_8_method_48_code 3 (some .int) :: TBL) (zR q) [.ref (zad G 64), .int (xs (i + 1)), .int (xs (i + 2))] I1 J1 r I2 J2) (ht : I2 64 0 = k) (ho : k = 0 → J2 86 0 = r.toInt64) (hk : Z X G 8 (a + 1) (b + 6) 1456 [(4, .int (nI i)), (3, .ref (zad G 86)), (2, .ref (zad G 64)), (1, .ref (zad G 0)), (0, .ref b0)] [] I2 J2) : Z X G 8 a b 1388 [(4, .int (nI i)), (3, .ref (zad G 86)), (2, .ref (zad G 64)), (1, .ref (zad G 0)), (0, .ref b0)] [] I J := by
  refine Z_aload_n (i := 1) hX d_La_law_1388 rfl rfl ?_
  refine Z_aload_n (i := 0) hX d_La_law_1389 rfl rfl ?_
  refine Z_iload hX d_La_law_1390 rfl ?_
  refine Z_iconst (v := nI 1) hX d_La_law_1392 rfl ?_
  refine Z_iaddN hX d_La_law_1393 ?_
  refine Z_sld hX hS d_La_law_1394 rfl (by omega) hL ?_
  refine Z_aload_n (i := 0) hX d_La_law_1395 rfl rfl ?_
  refine Z_iload hX d_La_law_1396 rfl ?_
  refine Z_iconst (v := nI 2) hX d_La_law_1398 rfl ?_
  refine Z_iaddN hX d_La_law_1399 ?_
  refine Z_sld hX hS d_La_law_1400 rfl (by omega) hL ?_
  refine Z_aload_n (i := 3) hX d_La_law_1401 rfl rfl ?_
  refine Z_cWi (As := [.ref (zad G 0), .int (xs (i + 1)), .int (xs (i + 2)), .ref (zad G 86)]) (st := []) hX hO d_La_law_1402 hH m_La_finding rfl lk_La_157 ⟨by decide, by decide⟩ ⟨ha, hb⟩ (Nat.le_of_ble_eq_true rfl) ?_
  refine Z_istore hX d_La_law_1405 (by decide) rfl ?_
  refine Z_aload_n (i := 2) hX d_La_law_1407 rfl rfl ?_
  refine Z_aload_n (i := 0) hX d_La_law_1408 rfl rfl ?_
  refine Z_iload hX d_La_law_1409 rfl ?_
  refine Z_iconst (v := nI 1) hX d_La_law_1411 rfl ?_
  refine Z_iaddN hX d_La_law_1412 ?_
  refine Z_sld hX hS d_La_law_1413 rfl (by omega) hL ?_
  refine Z_aload_n (i := 0) hX d_La_law_1414 rfl rfl ?_
  refine Z_iload hX d_La_law_1415 rfl ?_
  refine Z_iconst (v := nI 2) hX d_La_law_1417 rfl ?_
  refine Z_iaddN hX d_La_law_1418 ?_
  refine Z_sld hX hS d_La_law_1419 rfl (by omega) hL ?_
  refine Z_cVi2 hX d_La_law_1420 hM m_Mo_finding rfl rfl lk_La_159 ⟨by show q + 1 ≤ 11; omega, by show 8 + (3 + 11) + (36 * q + 30) ≤ 394; omega⟩ ⟨ha, hb⟩ (Nat.le_of_ble_eq_true rfl) ?_
  refine Z_istore hX d_La_law_1423 (by decide) rfl ?_
  refine Z_aload_n (i := 2) hX d_La_law_1425 rfl rfl ?_
  refine Z_cVi0 hX d_La_law_1426 c_Mo_thrown m_Mo_thrown rfl rfl lk_La_83 ⟨by decide, by decide⟩ ⟨ha, hb⟩ (Nat.le_of_ble_eq_true rfl) ?_
  refine Z_iload hX d_La_law_1429 rfl ?_
  refine Z_iceq (tgt := 1436) hX d_La_law_1431 rfl (fun _ => ?_) (fun h => absurd ht h)
  refine Z_iload hX d_La_law_1436 rfl ?_
  refine Z_ifne (tgt := 1453) hX d_La_law_1438 rfl (fun h1438 => ?_) (fun h1438 => ?_)
  · refine Z_goto (tgt := 1456) hX d_La_law_1453 rfl ?_
    exact Z_loc rfl hk
  refine Z_aload_n (i := 3) hX d_La_law_1441 rfl rfl ?_
  refine Z_iconst (v := nI 0) hX d_La_law_1442 rfl ?_
  refine Z_lald hX d_La_law_1443 rfl rfl (by decide) (by decide) ?_
  refine Z_topL (ho h1438) ?_
  refine Z_iload hX d_La_law_1444 rfl ?_
  refine Z_i2l hX d_La_law_1446 ?_
  refine Z_lcmp hX d_La_law_1447 ?_
  refine Z_top (lg_self _) ?_
  refine Z_ifeq (tgt := 1453) hX d_La_law_1448 rfl (fun _ => ?_) (fun h => absurd rfl h)
  refine Z_goto (tgt := 1456) hX d_La_law_1453 rfl ?_
  exact Z_loc rfl hk
