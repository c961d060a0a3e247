/-! ===== the law: two memories, the script, the 25 cases ===== -/
theorem va_sw {D : va_G} {A R : va_W} {H : Heap} (h : va_P D pr_CL (A ++ R) H) : va_P D pr_CL (R ++ A) H := by
  intro k q hk
  by_cases c : k < R.length
  · rw [List.getElem?_append_left c] at hk
    exact h (A.length + k) q (by rw [List.getElem?_append_right (by omega), Nat.add_sub_cancel_left]; exact hk)
  · rw [List.getElem?_append_right (by omega)] at hk
    have hx : k - R.length < A.length := (List.getElem?_eq_some_iff.mp hk).1
    exact h (k - R.length) q (by rw [List.getElem?_append_left hx]; exact hk)
abbrev l_0 (D : va_G) (T : pr_T) (B : Nat) (aC aM : Nat → Nat) (fb : pr_M) : pr_E0 := (D, T, aC, pr_me T pr_LM aM fb, B)
abbrev l_1 (D : va_G) (T : pr_T) (B : Nat) (aC aM : Nat → Nat) (fa : pr_M) : pr_E0 := (D, T, aM, pr_me T pr_LC aC fa, B)
section LW
variable {l : Launch} {D : va_G} {T : pr_T} {B : Nat} {aC aM : Nat → Nat} {Y : pr_Y} {Rm : Room} {cc : ByteArray} {own : String} {nL : Nat} {c0 : Cond} {fa fb : pr_M} {pc : Nat} {lv : List (Nat × Value)} {st : List Value}
theorem to_sw {L1 L2 : List (Nat × Nat)} {a1 a2 : Nat → Nat} {f1 f2 : pr_M} (k : pr_W (l, D, T, L2, a2, pr_me T L1 a1 f1, B) Y Rm nL f2 pc lv st) : pr_W (l, D, T, L1, a1, pr_me T L2 a2 f2, B) Y Rm nL f1 pc lv st := fun H locs ls hP hS hl => by
  have hP1 : va_P D pr_CL (pr_me T L1 a1 f1 ++ pr_me T L2 a2 f2) H := hP
  exact k H locs ls (va_sw hP1) hS hl
theorem to_M (k : pr_W (pr_EM l (l_1 D T B aC aM fa)) Y Rm nL fb pc lv st) : pr_W (pr_EC l (l_0 D T B aC aM fb)) Y Rm nL fa pc lv st := by
  dsimp only [pr_EM, l_1] at k
  dsimp only [pr_EC, l_0]
  exact to_sw k
theorem to_C (k : pr_W (pr_EC l (l_0 D T B aC aM fb)) Y Rm nL fa pc lv st) : pr_W (pr_EM l (l_1 D T B aC aM fa)) Y Rm nL fb pc lv st := by
  dsimp only [pr_EC, l_0] at k
  dsimp only [pr_EM, l_1]
  exact to_sw k
end LW
/-- the law's own locals -/
abbrev l_lv (b o1 o2 i : Nat) : List (Nat × Value) := [(3, .int (nI i)), (2, .ref o2), (1, .ref o1), (0, .ref b)]
/-- an int of the script -/
theorem l_arg {E : pr_E} {Y : pr_Y} {Rm : Room} {cc : ByteArray} {own : String} {c0 : Cond} {f : pr_M} {pc b o1 o2 i L k : Nat} {xs : Nat → Int32} {st : List Value} {z : Int} {kv : Int32} (C : pr_C E Y Rm cc own 4 c0) (hX : va_X b L xs (pr_ys Y) (pr_ys Y).heap) (hb : b < (pr_ys Y).heap.size) (hA : ¬ pr_A E b) (hL : L ≤ 3072) (hi : i + k < L)
    (d0 : decode cc pc = .ok (.aload_n 0, 1)) (d1 : decode cc (pc + 1) = .ok (.iload_n 3, 1)) (d2 : decode cc (pc + 2) = .ok (.iconst z, 1)) (hz : Int32.ofInt z = kv) (hk : kv = nI k) (d3 : decode cc (pc + 3) = .ok (.iadd, 1)) (d4 : decode cc (pc + 4) = .ok (.iaload, 1))
    (kk : pr_W E Y Rm 4 f (pc + 5) (l_lv b o1 o2 i) (.int (xs (i + k)) :: st)) : pr_W E Y Rm 4 f pc (l_lv b o1 o2 i) st := by
  refine pr_aload_n C d0 rfl 3 rfl ?_
  refine pr_iload_n C d1 rfl 0 rfl ?_
  refine pr_iconst C d2 hz ?_
  refine pr_iadd C d3 ?_
  subst hk
  rw [nI_add]
  intro H locs ls hP hS hl
  refine va_sld C.1 C.2.1 hX hb hA hS (nI_in hi (by omega)) d4 ?_
  rw [nI_clamp (show i + k < 2 ^ 31 by omega)]
  exact kk H locs ls hP hS hl
theorem lc_0 {l : Launch} {D : va_G} {T : pr_T} {B : Nat} {aC aM : Nat → Nat} {Y : pr_Y} {c0 : Cond} {fa fb : pr_M} {b L i : Nat} {xs : Nat → Int32} (hC : ∀ fb, pr_C (pr_EC l (l_0 D T B aC aM fb)) Y room_1 cL_law RL 4 c0) (hM : ∀ fa, pr_C (pr_EM l (l_1 D T B aC aM fa)) Y room_1 cL_law RL 4 c0) (hX : va_X b L xs (pr_ys Y) (pr_ys Y).heap) (hb : b < (pr_ys Y).heap.size) (hA : ¬ B ≤ b) (hL : L ≤ 3072) (hi : i + 6 ≤ L) (h : rr fa fb)
    (K : ∀ fa fb, rr fa fb → pr_W (pr_EC l (l_0 D T B aC aM fb)) Y room_1 4 fa 963 (l_lv b (aC 0) (aM 0) i) []) : pr_W (pr_EC l (l_0 D T B aC aM fb)) Y room_1 4 fa 148 (l_lv b (aC 0) (aM 0) i) [] := by
  obtain ⟨r, fa2, fb2, e1, e2, h2⟩ := s_setUp h (xs (i + 1))
  refine pr_aload_n (hC fb) dL_law_148 rfl 2 rfl ?_
  refine l_arg (k := 1) (hC fb) hX hb hA hL (by omega) dL_law_149 dL_law_150 dL_law_151 rfl rfl dL_law_152 dL_law_153 ?_
  refine k_X8_setUp (e := l_0 D T B aC aM fb) (hC fb) pr_w696 (by decide +kernel) e1 (Nat.le_of_ble_eq_true rfl) (Nat.le_of_ble_eq_true rfl) (Nat.le_of_ble_eq_true rfl) dL_law_154 ?_
  refine to_M ?_
  refine pr_aload_n (hM fa2) dL_law_157 rfl 1 rfl ?_
  refine l_arg (k := 1) (hM fa2) hX hb hA hL (by omega) dL_law_158 dL_law_159 dL_law_160 rfl rfl dL_law_161 dL_law_162 ?_
  refine k_X9_setUp (e := l_1 D T B aC aM fa2) (hM fa2) pr_w699 (by decide +kernel) e2 (Nat.le_of_ble_eq_true rfl) (Nat.le_of_ble_eq_true rfl) (Nat.le_of_ble_eq_true rfl) dL_law_163 ?_
  refine to_C ?_
  exact pr_icmp_eq (tgt := 963) (hC fb2) dL_law_166 (by decide) (fun _ => K fa2 fb2 h2) (fun c => absurd rfl c)
theorem lc_1 {l : Launch} {D : va_G} {T : pr_T} {B : Nat} {aC aM : Nat → Nat} {Y : pr_Y} {c0 : Cond} {fa fb : pr_M} {b L i : Nat} {xs : Nat → Int32} (hC : ∀ fb, pr_C (pr_EC l (l_0 D T B aC aM fb)) Y room_1 cL_law RL 4 c0) (hM : ∀ fa, pr_C (pr_EM l (l_1 D T B aC aM fa)) Y room_1 cL_law RL 4 c0) (hX : va_X b L xs (pr_ys Y) (pr_ys Y).heap) (hb : b < (pr_ys Y).heap.size) (hA : ¬ B ≤ b) (hL : L ≤ 3072) (hi : i + 6 ≤ L) (h : rr fa fb)
    (K : ∀ fa fb, rr fa fb → pr_W (pr_EC l (l_0 D T B aC aM fb)) Y room_1 4 fa 963 (l_lv b (aC 0) (aM 0) i) []) : pr_W (pr_EC l (l_0 D T B aC aM fb)) Y room_1 4 fa 171 (l_lv b (aC 0) (aM 0) i) [] := by
  obtain ⟨r, fa2, fb2, e1, e2, h2⟩ := s_set h (xs (i + 1)) (xs (i + 2)) (xs (i + 3))
  refine pr_aload_n (hC fb) dL_law_171 rfl 2 rfl ?_
  refine l_arg (k := 1) (hC fb) hX hb hA hL (by omega) dL_law_172 dL_law_173 dL_law_174 rfl rfl dL_law_175 dL_law_176 ?_
  refine l_arg (k := 2) (hC fb) hX hb hA hL (by omega) dL_law_177 dL_law_178 dL_law_179 rfl rfl dL_law_180 dL_law_181 ?_
  refine l_arg (k := 3) (hC fb) hX hb hA hL (by omega) dL_law_182 dL_law_183 dL_law_184 rfl rfl dL_law_185 dL_law_186 ?_
  refine k_X8_set (e := l_0 D T B aC aM fb) (hC fb) pr_w702 (by decide +kernel) e1 (Nat.le_of_ble_eq_true rfl) (Nat.le_of_ble_eq_true rfl) (Nat.le_of_ble_eq_true rfl) dL_law_187 ?_
  refine to_M ?_
  refine pr_aload_n (hM fa2) dL_law_190 rfl 1 rfl ?_
  refine l_arg (k := 1) (hM fa2) hX hb hA hL (by omega) dL_law_191 dL_law_192 dL_law_193 rfl rfl dL_law_194 dL_law_195 ?_
  refine l_arg (k := 2) (hM fa2) hX hb hA hL (by omega) dL_law_196 dL_law_197 dL_law_198 rfl rfl dL_law_199 dL_law_200 ?_
  refine l_arg (k := 3) (hM fa2) hX hb hA hL (by omega) dL_law_201 dL_law_202 dL_law_203 rfl rfl dL_law_204 dL_law_205 ?_
  refine k_X9_set (e := l_1 D T B aC aM fa2) (hM fa2) pr_w705 (by decide +kernel) e2 (Nat.le_of_ble_eq_true rfl) (Nat.le_of_ble_eq_true rfl) (Nat.le_of_ble_eq_true rfl) dL_law_206 ?_
  refine to_C ?_
  exact pr_icmp_eq (tgt := 963) (hC fb2) dL_law_209 (by decide) (fun _ => K fa2 fb2 h2) (fun c => absurd rfl c)
theorem lc_2 {l : Launch} {D : va_G} {T : pr_T} {B : Nat} {aC aM : Nat → Nat} {Y : pr_Y} {c0 : Cond} {fa fb : pr_M} {b L i : Nat} {xs : Nat → Int32} (hC : ∀ fb, pr_C (pr_EC l (l_0 D T B aC aM fb)) Y room_1 cL_law RL 4 c0) (hM : ∀ fa, pr_C (pr_EM l (l_1 D T B aC aM fa)) Y room_1 cL_law RL 4 c0) (hX : va_X b L xs (pr_ys Y) (pr_ys Y).heap) (hb : b < (pr_ys Y).heap.size) (hA : ¬ B ≤ b) (hL : L ≤ 3072) (hi : i + 6 ≤ L) (h : rr fa fb)
    (K : ∀ fa fb, rr fa fb → pr_W (pr_EC l (l_0 D T B aC aM fb)) Y room_1 4 fa 963 (l_lv b (aC 0) (aM 0) i) []) : pr_W (pr_EC l (l_0 D T B aC aM fb)) Y room_1 4 fa 214 (l_lv b (aC 0) (aM 0) i) [] := by
  obtain ⟨r, e1, e2⟩ := s_get h (xs (i + 1)) (xs (i + 2))
  refine pr_aload_n (hC fb) dL_law_214 rfl 2 rfl ?_
  refine l_arg (k := 1) (hC fb) hX hb hA hL (by omega) dL_law_215 dL_law_216 dL_law_217 rfl rfl dL_law_218 dL_law_219 ?_
  refine l_arg (k := 2) (hC fb) hX hb hA hL (by omega) dL_law_220 dL_law_221 dL_law_222 rfl rfl dL_law_223 dL_law_224 ?_
  refine k_X8_get (e := l_0 D T B aC aM fb) (hC fb) pr_w708 (by decide +kernel) e1 (Nat.le_of_ble_eq_true rfl) (Nat.le_of_ble_eq_true rfl) (Nat.le_of_ble_eq_true rfl) dL_law_225 ?_
  refine to_M ?_
  refine pr_aload_n (hM fa) dL_law_228 rfl 1 rfl ?_
  refine l_arg (k := 1) (hM fa) hX hb hA hL (by omega) dL_law_229 dL_law_230 dL_law_231 rfl rfl dL_law_232 dL_law_233 ?_
  refine l_arg (k := 2) (hM fa) hX hb hA hL (by omega) dL_law_234 dL_law_235 dL_law_236 rfl rfl dL_law_237 dL_law_238 ?_
  refine k_X9_get (e := l_1 D T B aC aM fa) (hM fa) pr_w711 (by decide +kernel) e2 (Nat.le_of_ble_eq_true rfl) (Nat.le_of_ble_eq_true rfl) (Nat.le_of_ble_eq_true rfl) dL_law_239 ?_
  refine to_C ?_
  exact pr_icmp_eq (tgt := 963) (hC fb) dL_law_242 (by decide) (fun _ => K fa fb h) (fun c => absurd rfl c)
theorem lc_3 {l : Launch} {D : va_G} {T : pr_T} {B : Nat} {aC aM : Nat → Nat} {Y : pr_Y} {c0 : Cond} {fa fb : pr_M} {b L i : Nat} {xs : Nat → Int32} (hC : ∀ fb, pr_C (pr_EC l (l_0 D T B aC aM fb)) Y room_1 cL_law RL 4 c0) (hM : ∀ fa, pr_C (pr_EM l (l_1 D T B aC aM fa)) Y room_1 cL_law RL 4 c0) (hX : va_X b L xs (pr_ys Y) (pr_ys Y).heap) (hb : b < (pr_ys Y).heap.size) (hA : ¬ B ≤ b) (hL : L ≤ 3072) (hi : i + 6 ≤ L) (h : rr fa fb)
    (K : ∀ fa fb, rr fa fb → pr_W (pr_EC l (l_0 D T B aC aM fb)) Y room_1 4 fa 963 (l_lv b (aC 0) (aM 0) i) []) : pr_W (pr_EC l (l_0 D T B aC aM fb)) Y room_1 4 fa 247 (l_lv b (aC 0) (aM 0) i) [] := by
  obtain ⟨r, fa2, fb2, e1, e2, h2⟩ := s_adjust h (xs (i + 1)) (xs (i + 2)) (xs (i + 3))
  refine pr_aload_n (hC fb) dL_law_247 rfl 2 rfl ?_
  refine l_arg (k := 1) (hC fb) hX hb hA hL (by omega) dL_law_248 dL_law_249 dL_law_250 rfl rfl dL_law_251 dL_law_252 ?_
  refine l_arg (k := 2) (hC fb) hX hb hA hL (by omega) dL_law_253 dL_law_254 dL_law_255 rfl rfl dL_law_256 dL_law_257 ?_
  refine l_arg (k := 3) (hC fb) hX hb hA hL (by omega) dL_law_258 dL_law_259 dL_law_260 rfl rfl dL_law_261 dL_law_262 ?_
  refine k_X8_adjust (e := l_0 D T B aC aM fb) (hC fb) pr_w714 (by decide +kernel) e1 (Nat.le_of_ble_eq_true rfl) (Nat.le_of_ble_eq_true rfl) (Nat.le_of_ble_eq_true rfl) dL_law_263 ?_
  refine to_M ?_
  refine pr_aload_n (hM fa2) dL_law_266 rfl 1 rfl ?_
  refine l_arg (k := 1) (hM fa2) hX hb hA hL (by omega) dL_law_267 dL_law_268 dL_law_269 rfl rfl dL_law_270 dL_law_271 ?_
  refine l_arg (k := 2) (hM fa2) hX hb hA hL (by omega) dL_law_272 dL_law_273 dL_law_274 rfl rfl dL_law_275 dL_law_276 ?_
  refine l_arg (k := 3) (hM fa2) hX hb hA hL (by omega) dL_law_277 dL_law_278 dL_law_279 rfl rfl dL_law_280 dL_law_281 ?_
  refine k_X9_adjust (e := l_1 D T B aC aM fa2) (hM fa2) pr_w717 (by decide +kernel) e2 (Nat.le_of_ble_eq_true rfl) (Nat.le_of_ble_eq_true rfl) (Nat.le_of_ble_eq_true rfl) dL_law_282 ?_
  refine to_C ?_
  exact pr_icmp_eq (tgt := 963) (hC fb2) dL_law_285 (by decide) (fun _ => K fa2 fb2 h2) (fun c => absurd rfl c)
theorem lc_4 {l : Launch} {D : va_G} {T : pr_T} {B : Nat} {aC aM : Nat → Nat} {Y : pr_Y} {c0 : Cond} {fa fb : pr_M} {b L i : Nat} {xs : Nat → Int32} (hC : ∀ fb, pr_C (pr_EC l (l_0 D T B aC aM fb)) Y room_1 cL_law RL 4 c0) (hM : ∀ fa, pr_C (pr_EM l (l_1 D T B aC aM fa)) Y room_1 cL_law RL 4 c0) (hX : va_X b L xs (pr_ys Y) (pr_ys Y).heap) (hb : b < (pr_ys Y).heap.size) (hA : ¬ B ≤ b) (hL : L ≤ 3072) (hi : i + 6 ≤ L) (h : rr fa fb)
    (K : ∀ fa fb, rr fa fb → pr_W (pr_EC l (l_0 D T B aC aM fb)) Y room_1 4 fa 963 (l_lv b (aC 0) (aM 0) i) []) : pr_W (pr_EC l (l_0 D T B aC aM fb)) Y room_1 4 fa 290 (l_lv b (aC 0) (aM 0) i) [] := by
  obtain ⟨r, fa2, fb2, e1, e2, h2⟩ := s_restart h (xs (i + 1))
  refine pr_aload_n (hC fb) dL_law_290 rfl 2 rfl ?_
  refine l_arg (k := 1) (hC fb) hX hb hA hL (by omega) dL_law_291 dL_law_292 dL_law_293 rfl rfl dL_law_294 dL_law_295 ?_
  refine k_X8_restart (e := l_0 D T B aC aM fb) (hC fb) pr_w720 (by decide +kernel) e1 (Nat.le_of_ble_eq_true rfl) (Nat.le_of_ble_eq_true rfl) (Nat.le_of_ble_eq_true rfl) dL_law_296 ?_
  refine to_M ?_
  refine pr_aload_n (hM fa2) dL_law_299 rfl 1 rfl ?_
  refine l_arg (k := 1) (hM fa2) hX hb hA hL (by omega) dL_law_300 dL_law_301 dL_law_302 rfl rfl dL_law_303 dL_law_304 ?_
  refine k_X9_restart (e := l_1 D T B aC aM fa2) (hM fa2) pr_w723 (by decide +kernel) e2 (Nat.le_of_ble_eq_true rfl) (Nat.le_of_ble_eq_true rfl) (Nat.le_of_ble_eq_true rfl) dL_law_305 ?_
  refine to_C ?_
  exact pr_icmp_eq (tgt := 963) (hC fb2) dL_law_308 (by decide) (fun _ => K fa2 fb2 h2) (fun c => absurd rfl c)
theorem lc_5 {l : Launch} {D : va_G} {T : pr_T} {B : Nat} {aC aM : Nat → Nat} {Y : pr_Y} {c0 : Cond} {fa fb : pr_M} {b L i : Nat} {xs : Nat → Int32} (hC : ∀ fb, pr_C (pr_EC l (l_0 D T B aC aM fb)) Y room_1 cL_law RL 4 c0) (hM : ∀ fa, pr_C (pr_EM l (l_1 D T B aC aM fa)) Y room_1 cL_law RL 4 c0) (hX : va_X b L xs (pr_ys Y) (pr_ys Y).heap) (hb : b < (pr_ys Y).heap.size) (hA : ¬ B ≤ b) (hL : L ≤ 3072) (hi : i + 6 ≤ L) (h : rr fa fb)
    (K : ∀ fa fb, rr fa fb → pr_W (pr_EC l (l_0 D T B aC aM fb)) Y room_1 4 fa 963 (l_lv b (aC 0) (aM 0) i) []) : pr_W (pr_EC l (l_0 D T B aC aM fb)) Y room_1 4 fa 313 (l_lv b (aC 0) (aM 0) i) [] := by
  obtain ⟨r, fa2, fb2, e1, e2, h2⟩ := s_speed h (xs (i + 1))
  refine pr_aload_n (hC fb) dL_law_313 rfl 2 rfl ?_
  refine l_arg (k := 1) (hC fb) hX hb hA hL (by omega) dL_law_314 dL_law_315 dL_law_316 rfl rfl dL_law_317 dL_law_318 ?_
  refine k_X8_speed (e := l_0 D T B aC aM fb) (hC fb) pr_w726 (by decide +kernel) e1 (Nat.le_of_ble_eq_true rfl) (Nat.le_of_ble_eq_true rfl) (Nat.le_of_ble_eq_true rfl) dL_law_319 ?_
  refine to_M ?_
  refine pr_aload_n (hM fa2) dL_law_322 rfl 1 rfl ?_
  refine l_arg (k := 1) (hM fa2) hX hb hA hL (by omega) dL_law_323 dL_law_324 dL_law_325 rfl rfl dL_law_326 dL_law_327 ?_
  refine k_X9_speed (e := l_1 D T B aC aM fa2) (hM fa2) pr_w729 (by decide +kernel) e2 (Nat.le_of_ble_eq_true rfl) (Nat.le_of_ble_eq_true rfl) (Nat.le_of_ble_eq_true rfl) dL_law_328 ?_
  refine to_C ?_
  exact pr_icmp_eq (tgt := 963) (hC fb2) dL_law_331 (by decide) (fun _ => K fa2 fb2 h2) (fun c => absurd rfl c)
theorem lc_6 {l : Launch} {D : va_G} {T : pr_T} {B : Nat} {aC aM : Nat → Nat} {Y : pr_Y} {c0 : Cond} {fa fb : pr_M} {b L i : Nat} {xs : Nat → Int32} (hC : ∀ fb, pr_C (pr_EC l (l_0 D T B aC aM fb)) Y room_1 cL_law RL 4 c0) (hM : ∀ fa, pr_C (pr_EM l (l_1 D T B aC aM fa)) Y room_1 cL_law RL 4 c0) (hX : va_X b L xs (pr_ys Y) (pr_ys Y).heap) (hb : b < (pr_ys Y).heap.size) (hA : ¬ B ≤ b) (hL : L ≤ 3072) (hi : i + 6 ≤ L) (h : rr fa fb)
    (K : ∀ fa fb, rr fa fb → pr_W (pr_EC l (l_0 D T B aC aM fb)) Y room_1 4 fa 963 (l_lv b (aC 0) (aM 0) i) []) : pr_W (pr_EC l (l_0 D T B aC aM fb)) Y room_1 4 fa 336 (l_lv b (aC 0) (aM 0) i) [] := by
  obtain ⟨r, fa2, fb2, e1, e2, h2⟩ := s_disturb h (xs (i + 1)) (xs (i + 2)) (xs (i + 3))
  refine pr_aload_n (hC fb) dL_law_336 rfl 2 rfl ?_
  refine l_arg (k := 1) (hC fb) hX hb hA hL (by omega) dL_law_337 dL_law_338 dL_law_339 rfl rfl dL_law_340 dL_law_341 ?_
  refine l_arg (k := 2) (hC fb) hX hb hA hL (by omega) dL_law_342 dL_law_343 dL_law_344 rfl rfl dL_law_345 dL_law_346 ?_
  refine l_arg (k := 3) (hC fb) hX hb hA hL (by omega) dL_law_347 dL_law_348 dL_law_349 rfl rfl dL_law_350 dL_law_351 ?_
  refine k_X8_disturb (e := l_0 D T B aC aM fb) (hC fb) pr_w732 (by decide +kernel) e1 (Nat.le_of_ble_eq_true rfl) (Nat.le_of_ble_eq_true rfl) (Nat.le_of_ble_eq_true rfl) dL_law_352 ?_
  refine to_M ?_
  refine pr_aload_n (hM fa2) dL_law_355 rfl 1 rfl ?_
  refine l_arg (k := 1) (hM fa2) hX hb hA hL (by omega) dL_law_356 dL_law_357 dL_law_358 rfl rfl dL_law_359 dL_law_360 ?_
  refine l_arg (k := 2) (hM fa2) hX hb hA hL (by omega) dL_law_361 dL_law_362 dL_law_363 rfl rfl dL_law_364 dL_law_365 ?_
  refine l_arg (k := 3) (hM fa2) hX hb hA hL (by omega) dL_law_366 dL_law_367 dL_law_368 rfl rfl dL_law_369 dL_law_370 ?_
  refine k_X9_disturb (e := l_1 D T B aC aM fa2) (hM fa2) pr_w735 (by decide +kernel) e2 (Nat.le_of_ble_eq_true rfl) (Nat.le_of_ble_eq_true rfl) (Nat.le_of_ble_eq_true rfl) dL_law_371 ?_
  refine to_C ?_
  exact pr_icmp_eq (tgt := 963) (hC fb2) dL_law_374 (by decide) (fun _ => K fa2 fb2 h2) (fun c => absurd rfl c)
theorem lc_7 {l : Launch} {D : va_G} {T : pr_T} {B : Nat} {aC aM : Nat → Nat} {Y : pr_Y} {c0 : Cond} {fa fb : pr_M} {b L i : Nat} {xs : Nat → Int32} (hC : ∀ fb, pr_C (pr_EC l (l_0 D T B aC aM fb)) Y room_1 cL_law RL 4 c0) (hM : ∀ fa, pr_C (pr_EM l (l_1 D T B aC aM fa)) Y room_1 cL_law RL 4 c0) (hX : va_X b L xs (pr_ys Y) (pr_ys Y).heap) (hb : b < (pr_ys Y).heap.size) (hA : ¬ B ≤ b) (hL : L ≤ 3072) (hi : i + 6 ≤ L) (h : rr fa fb)
    (K : ∀ fa fb, rr fa fb → pr_W (pr_EC l (l_0 D T B aC aM fb)) Y room_1 4 fa 963 (l_lv b (aC 0) (aM 0) i) []) : pr_W (pr_EC l (l_0 D T B aC aM fb)) Y room_1 4 fa 379 (l_lv b (aC 0) (aM 0) i) [] := by
  obtain ⟨r, fa2, fb2, e1, e2, h2⟩ := s_hide h (xs (i + 1)) (xs (i + 2))
  refine pr_aload_n (hC fb) dL_law_379 rfl 2 rfl ?_
  refine l_arg (k := 1) (hC fb) hX hb hA hL (by omega) dL_law_380 dL_law_381 dL_law_382 rfl rfl dL_law_383 dL_law_384 ?_
  refine l_arg (k := 2) (hC fb) hX hb hA hL (by omega) dL_law_385 dL_law_386 dL_law_387 rfl rfl dL_law_388 dL_law_389 ?_
  refine k_X8_hide (e := l_0 D T B aC aM fb) (hC fb) pr_w738 (by decide +kernel) e1 (Nat.le_of_ble_eq_true rfl) (Nat.le_of_ble_eq_true rfl) (Nat.le_of_ble_eq_true rfl) dL_law_390 ?_
  refine to_M ?_
  refine pr_aload_n (hM fa2) dL_law_393 rfl 1 rfl ?_
  refine l_arg (k := 1) (hM fa2) hX hb hA hL (by omega) dL_law_394 dL_law_395 dL_law_396 rfl rfl dL_law_397 dL_law_398 ?_
  refine l_arg (k := 2) (hM fa2) hX hb hA hL (by omega) dL_law_399 dL_law_400 dL_law_401 rfl rfl dL_law_402 dL_law_403 ?_
  refine k_X9_hide (e := l_1 D T B aC aM fa2) (hM fa2) pr_w741 (by decide +kernel) e2 (Nat.le_of_ble_eq_true rfl) (Nat.le_of_ble_eq_true rfl) (Nat.le_of_ble_eq_true rfl) dL_law_404 ?_
  refine to_C ?_
  exact pr_icmp_eq (tgt := 963) (hC fb2) dL_law_407 (by decide) (fun _ => K fa2 fb2 h2) (fun c => absurd rfl c)
theorem lc_8 {l : Launch} {D : va_G} {T : pr_T} {B : Nat} {aC aM : Nat → Nat} {Y : pr_Y} {c0 : Cond} {fa fb : pr_M} {b L i : Nat} {xs : Nat → Int32} (hC : ∀ fb, pr_C (pr_EC l (l_0 D T B aC aM fb)) Y room_1 cL_law RL 4 c0) (hM : ∀ fa, pr_C (pr_EM l (l_1 D T B aC aM fa)) Y room_1 cL_law RL 4 c0) (hX : va_X b L xs (pr_ys Y) (pr_ys Y).heap) (hb : b < (pr_ys Y).heap.size) (hA : ¬ B ≤ b) (hL : L ≤ 3072) (hi : i + 6 ≤ L) (h : rr fa fb)
    (K : ∀ fa fb, rr fa fb → pr_W (pr_EC l (l_0 D T B aC aM fb)) Y room_1 4 fa 963 (l_lv b (aC 0) (aM 0) i) []) : pr_W (pr_EC l (l_0 D T B aC aM fb)) Y room_1 4 fa 412 (l_lv b (aC 0) (aM 0) i) [] := by
  obtain ⟨r, fa2, fb2, e1, e2, h2⟩ := s_falseMark h (xs (i + 1)) (xs (i + 2)) (xs (i + 3))
  refine pr_aload_n (hC fb) dL_law_412 rfl 2 rfl ?_
  refine l_arg (k := 1) (hC fb) hX hb hA hL (by omega) dL_law_413 dL_law_414 dL_law_415 rfl rfl dL_law_416 dL_law_417 ?_
  refine l_arg (k := 2) (hC fb) hX hb hA hL (by omega) dL_law_418 dL_law_419 dL_law_420 rfl rfl dL_law_421 dL_law_422 ?_
  refine l_arg (k := 3) (hC fb) hX hb hA hL (by omega) dL_law_423 dL_law_424 dL_law_425 rfl rfl dL_law_426 dL_law_427 ?_
  refine k_X8_falseMark (e := l_0 D T B aC aM fb) (hC fb) pr_w744 (by decide +kernel) e1 (Nat.le_of_ble_eq_true rfl) (Nat.le_of_ble_eq_true rfl) (Nat.le_of_ble_eq_true rfl) dL_law_428 ?_
  refine to_M ?_
  refine pr_aload_n (hM fa2) dL_law_431 rfl 1 rfl ?_
  refine l_arg (k := 1) (hM fa2) hX hb hA hL (by omega) dL_law_432 dL_law_433 dL_law_434 rfl rfl dL_law_435 dL_law_436 ?_
  refine l_arg (k := 2) (hM fa2) hX hb hA hL (by omega) dL_law_437 dL_law_438 dL_law_439 rfl rfl dL_law_440 dL_law_441 ?_
  refine l_arg (k := 3) (hM fa2) hX hb hA hL (by omega) dL_law_442 dL_law_443 dL_law_444 rfl rfl dL_law_445 dL_law_446 ?_
  refine k_X9_falseMark (e := l_1 D T B aC aM fa2) (hM fa2) pr_w747 (by decide +kernel) e2 (Nat.le_of_ble_eq_true rfl) (Nat.le_of_ble_eq_true rfl) (Nat.le_of_ble_eq_true rfl) dL_law_447 ?_
  refine to_C ?_
  exact pr_icmp_eq (tgt := 963) (hC fb2) dL_law_450 (by decide) (fun _ => K fa2 fb2 h2) (fun c => absurd rfl c)
theorem lc_9 {l : Launch} {D : va_G} {T : pr_T} {B : Nat} {aC aM : Nat → Nat} {Y : pr_Y} {c0 : Cond} {fa fb : pr_M} {b L i : Nat} {xs : Nat → Int32} (hC : ∀ fb, pr_C (pr_EC l (l_0 D T B aC aM fb)) Y room_1 cL_law RL 4 c0) (hM : ∀ fa, pr_C (pr_EM l (l_1 D T B aC aM fa)) Y room_1 cL_law RL 4 c0) (hX : va_X b L xs (pr_ys Y) (pr_ys Y).heap) (hb : b < (pr_ys Y).heap.size) (hA : ¬ B ≤ b) (hL : L ≤ 3072) (hi : i + 6 ≤ L) (h : rr fa fb)
    (K : ∀ fa fb, rr fa fb → pr_W (pr_EC l (l_0 D T B aC aM fb)) Y room_1 4 fa 963 (l_lv b (aC 0) (aM 0) i) []) : pr_W (pr_EC l (l_0 D T B aC aM fb)) Y room_1 4 fa 455 (l_lv b (aC 0) (aM 0) i) [] := by
  obtain ⟨r, fa2, fb2, e1, e2, h2⟩ := s_splice h (xs (i + 1)) (xs (i + 2))
  refine pr_aload_n (hC fb) dL_law_455 rfl 2 rfl ?_
  refine l_arg (k := 1) (hC fb) hX hb hA hL (by omega) dL_law_456 dL_law_457 dL_law_458 rfl rfl dL_law_459 dL_law_460 ?_
  refine l_arg (k := 2) (hC fb) hX hb hA hL (by omega) dL_law_461 dL_law_462 dL_law_463 rfl rfl dL_law_464 dL_law_465 ?_
  refine k_X8_splice (e := l_0 D T B aC aM fb) (hC fb) pr_w750 (by decide +kernel) e1 (Nat.le_of_ble_eq_true rfl) (Nat.le_of_ble_eq_true rfl) (Nat.le_of_ble_eq_true rfl) dL_law_466 ?_
  refine to_M ?_
  refine pr_aload_n (hM fa2) dL_law_469 rfl 1 rfl ?_
  refine l_arg (k := 1) (hM fa2) hX hb hA hL (by omega) dL_law_470 dL_law_471 dL_law_472 rfl rfl dL_law_473 dL_law_474 ?_
  refine l_arg (k := 2) (hM fa2) hX hb hA hL (by omega) dL_law_475 dL_law_476 dL_law_477 rfl rfl dL_law_478 dL_law_479 ?_
  refine k_X9_splice (e := l_1 D T B aC aM fa2) (hM fa2) pr_w753 (by decide +kernel) e2 (Nat.le_of_ble_eq_true rfl) (Nat.le_of_ble_eq_true rfl) (Nat.le_of_ble_eq_true rfl) dL_law_480 ?_
  refine to_C ?_
  exact pr_icmp_eq (tgt := 963) (hC fb2) dL_law_483 (by decide) (fun _ => K fa2 fb2 h2) (fun c => absurd rfl c)
theorem lc_10 {l : Launch} {D : va_G} {T : pr_T} {B : Nat} {aC aM : Nat → Nat} {Y : pr_Y} {c0 : Cond} {fa fb : pr_M} {b L i : Nat} {xs : Nat → Int32} (hC : ∀ fb, pr_C (pr_EC l (l_0 D T B aC aM fb)) Y room_1 cL_law RL 4 c0) (hM : ∀ fa, pr_C (pr_EM l (l_1 D T B aC aM fa)) Y room_1 cL_law RL 4 c0) (hX : va_X b L xs (pr_ys Y) (pr_ys Y).heap) (hb : b < (pr_ys Y).heap.size) (hA : ¬ B ≤ b) (hL : L ≤ 3072) (hi : i + 6 ≤ L) (h : rr fa fb)
    (K : ∀ fa fb, rr fa fb → pr_W (pr_EC l (l_0 D T B aC aM fb)) Y room_1 4 fa 963 (l_lv b (aC 0) (aM 0) i) []) : pr_W (pr_EC l (l_0 D T B aC aM fb)) Y room_1 4 fa 488 (l_lv b (aC 0) (aM 0) i) [] := by
  obtain ⟨r, fa2, fb2, e1, e2, h2⟩ := s_run h (xs (i + 1))
  refine pr_aload_n (hC fb) dL_law_488 rfl 2 rfl ?_
  refine l_arg (k := 1) (hC fb) hX hb hA hL (by omega) dL_law_489 dL_law_490 dL_law_491 rfl rfl dL_law_492 dL_law_493 ?_
  refine k_X8_run (e := l_0 D T B aC aM fb) (hC fb) pr_w756 (by decide +kernel) e1 (Nat.le_of_ble_eq_true rfl) (Nat.le_of_ble_eq_true rfl) (Nat.le_of_ble_eq_true rfl) dL_law_494 ?_
  refine to_M ?_
  refine pr_aload_n (hM fa2) dL_law_497 rfl 1 rfl ?_
  refine l_arg (k := 1) (hM fa2) hX hb hA hL (by omega) dL_law_498 dL_law_499 dL_law_500 rfl rfl dL_law_501 dL_law_502 ?_
  refine k_X9_run (e := l_1 D T B aC aM fa2) (hM fa2) pr_w759 (by decide +kernel) e2 (Nat.le_of_ble_eq_true rfl) (Nat.le_of_ble_eq_true rfl) (Nat.le_of_ble_eq_true rfl) dL_law_503 ?_
  refine to_C ?_
  exact pr_icmp_eq (tgt := 963) (hC fb2) dL_law_506 (by decide) (fun _ => K fa2 fb2 h2) (fun c => absurd rfl c)
theorem lc_11 {l : Launch} {D : va_G} {T : pr_T} {B : Nat} {aC aM : Nat → Nat} {Y : pr_Y} {c0 : Cond} {fa fb : pr_M} {b L i : Nat} {xs : Nat → Int32} (hC : ∀ fb, pr_C (pr_EC l (l_0 D T B aC aM fb)) Y room_1 cL_law RL 4 c0) (hM : ∀ fa, pr_C (pr_EM l (l_1 D T B aC aM fa)) Y room_1 cL_law RL 4 c0) (hX : va_X b L xs (pr_ys Y) (pr_ys Y).heap) (hb : b < (pr_ys Y).heap.size) (hA : ¬ B ≤ b) (hL : L ≤ 3072) (hi : i + 6 ≤ L) (h : rr fa fb)
    (K : ∀ fa fb, rr fa fb → pr_W (pr_EC l (l_0 D T B aC aM fb)) Y room_1 4 fa 963 (l_lv b (aC 0) (aM 0) i) []) : pr_W (pr_EC l (l_0 D T B aC aM fb)) Y room_1 4 fa 511 (l_lv b (aC 0) (aM 0) i) [] := by
  obtain ⟨r, e1, e2⟩ := s_seen h (xs (i + 1)) (xs (i + 2))
  refine pr_aload_n (hC fb) dL_law_511 rfl 2 rfl ?_
  refine l_arg (k := 1) (hC fb) hX hb hA hL (by omega) dL_law_512 dL_law_513 dL_law_514 rfl rfl dL_law_515 dL_law_516 ?_
  refine l_arg (k := 2) (hC fb) hX hb hA hL (by omega) dL_law_517 dL_law_518 dL_law_519 rfl rfl dL_law_520 dL_law_521 ?_
  refine k_X8_seen (e := l_0 D T B aC aM fb) (hC fb) pr_w762 (by decide +kernel) e1 (Nat.le_of_ble_eq_true rfl) (Nat.le_of_ble_eq_true rfl) (Nat.le_of_ble_eq_true rfl) dL_law_522 ?_
  refine to_M ?_
  refine pr_aload_n (hM fa) dL_law_525 rfl 1 rfl ?_
  refine l_arg (k := 1) (hM fa) hX hb hA hL (by omega) dL_law_526 dL_law_527 dL_law_528 rfl rfl dL_law_529 dL_law_530 ?_
  refine l_arg (k := 2) (hM fa) hX hb hA hL (by omega) dL_law_531 dL_law_532 dL_law_533 rfl rfl dL_law_534 dL_law_535 ?_
  refine k_X9_seen (e := l_1 D T B aC aM fa) (hM fa) pr_w765 (by decide +kernel) e2 (Nat.le_of_ble_eq_true rfl) (Nat.le_of_ble_eq_true rfl) (Nat.le_of_ble_eq_true rfl) dL_law_536 ?_
  refine to_C ?_
  exact pr_icmp_eq (tgt := 963) (hC fb) dL_law_539 (by decide) (fun _ => K fa fb h) (fun c => absurd rfl c)
theorem lc_12 {l : Launch} {D : va_G} {T : pr_T} {B : Nat} {aC aM : Nat → Nat} {Y : pr_Y} {c0 : Cond} {fa fb : pr_M} {b L i : Nat} {xs : Nat → Int32} (hC : ∀ fb, pr_C (pr_EC l (l_0 D T B aC aM fb)) Y room_1 cL_law RL 4 c0) (hM : ∀ fa, pr_C (pr_EM l (l_1 D T B aC aM fa)) Y room_1 cL_law RL 4 c0) (hX : va_X b L xs (pr_ys Y) (pr_ys Y).heap) (hb : b < (pr_ys Y).heap.size) (hA : ¬ B ≤ b) (hL : L ≤ 3072) (hi : i + 6 ≤ L) (h : rr fa fb)
    (K : ∀ fa fb, rr fa fb → pr_W (pr_EC l (l_0 D T B aC aM fb)) Y room_1 4 fa 963 (l_lv b (aC 0) (aM 0) i) []) : pr_W (pr_EC l (l_0 D T B aC aM fb)) Y room_1 4 fa 544 (l_lv b (aC 0) (aM 0) i) [] := by
  obtain ⟨r, e1, e2⟩ := s_state h (xs (i + 1)) (xs (i + 2))
  refine pr_aload_n (hC fb) dL_law_544 rfl 2 rfl ?_
  refine l_arg (k := 1) (hC fb) hX hb hA hL (by omega) dL_law_545 dL_law_546 dL_law_547 rfl rfl dL_law_548 dL_law_549 ?_
  refine l_arg (k := 2) (hC fb) hX hb hA hL (by omega) dL_law_550 dL_law_551 dL_law_552 rfl rfl dL_law_553 dL_law_554 ?_
  refine k_X8_state (e := l_0 D T B aC aM fb) (hC fb) pr_w768 (by decide +kernel) e1 (Nat.le_of_ble_eq_true rfl) (Nat.le_of_ble_eq_true rfl) (Nat.le_of_ble_eq_true rfl) dL_law_555 ?_
  refine to_M ?_
  refine pr_aload_n (hM fa) dL_law_558 rfl 1 rfl ?_
  refine l_arg (k := 1) (hM fa) hX hb hA hL (by omega) dL_law_559 dL_law_560 dL_law_561 rfl rfl dL_law_562 dL_law_563 ?_
  refine l_arg (k := 2) (hM fa) hX hb hA hL (by omega) dL_law_564 dL_law_565 dL_law_566 rfl rfl dL_law_567 dL_law_568 ?_
  refine k_X9_state (e := l_1 D T B aC aM fa) (hM fa) pr_w771 (by decide +kernel) e2 (Nat.le_of_ble_eq_true rfl) (Nat.le_of_ble_eq_true rfl) (Nat.le_of_ble_eq_true rfl) dL_law_569 ?_
  refine to_C ?_
  exact pr_icmp_eq (tgt := 963) (hC fb) dL_law_572 (by decide) (fun _ => K fa fb h) (fun c => absurd rfl c)
theorem lc_13 {l : Launch} {D : va_G} {T : pr_T} {B : Nat} {aC aM : Nat → Nat} {Y : pr_Y} {c0 : Cond} {fa fb : pr_M} {b L i : Nat} {xs : Nat → Int32} (hC : ∀ fb, pr_C (pr_EC l (l_0 D T B aC aM fb)) Y room_1 cL_law RL 4 c0) (hM : ∀ fa, pr_C (pr_EM l (l_1 D T B aC aM fa)) Y room_1 cL_law RL 4 c0) (hX : va_X b L xs (pr_ys Y) (pr_ys Y).heap) (hb : b < (pr_ys Y).heap.size) (hA : ¬ B ≤ b) (hL : L ≤ 3072) (hi : i + 6 ≤ L) (h : rr fa fb)
    (K : ∀ fa fb, rr fa fb → pr_W (pr_EC l (l_0 D T B aC aM fb)) Y room_1 4 fa 963 (l_lv b (aC 0) (aM 0) i) []) : pr_W (pr_EC l (l_0 D T B aC aM fb)) Y room_1 4 fa 577 (l_lv b (aC 0) (aM 0) i) [] := by
  obtain ⟨r, e1, e2⟩ := s_errors h (xs (i + 1)) (xs (i + 2)) (xs (i + 3))
  refine pr_aload_n (hC fb) dL_law_577 rfl 2 rfl ?_
  refine l_arg (k := 1) (hC fb) hX hb hA hL (by omega) dL_law_578 dL_law_579 dL_law_580 rfl rfl dL_law_581 dL_law_582 ?_
  refine l_arg (k := 2) (hC fb) hX hb hA hL (by omega) dL_law_583 dL_law_584 dL_law_585 rfl rfl dL_law_586 dL_law_587 ?_
  refine l_arg (k := 3) (hC fb) hX hb hA hL (by omega) dL_law_588 dL_law_589 dL_law_590 rfl rfl dL_law_591 dL_law_592 ?_
  refine k_X8_errors (e := l_0 D T B aC aM fb) (hC fb) pr_w774 (by decide +kernel) e1 (Nat.le_of_ble_eq_true rfl) (Nat.le_of_ble_eq_true rfl) (Nat.le_of_ble_eq_true rfl) dL_law_593 ?_
  refine to_M ?_
  refine pr_aload_n (hM fa) dL_law_596 rfl 1 rfl ?_
  refine l_arg (k := 1) (hM fa) hX hb hA hL (by omega) dL_law_597 dL_law_598 dL_law_599 rfl rfl dL_law_600 dL_law_601 ?_
  refine l_arg (k := 2) (hM fa) hX hb hA hL (by omega) dL_law_602 dL_law_603 dL_law_604 rfl rfl dL_law_605 dL_law_606 ?_
  refine l_arg (k := 3) (hM fa) hX hb hA hL (by omega) dL_law_607 dL_law_608 dL_law_609 rfl rfl dL_law_610 dL_law_611 ?_
  refine k_X9_errors (e := l_1 D T B aC aM fa) (hM fa) pr_w777 (by decide +kernel) e2 (Nat.le_of_ble_eq_true rfl) (Nat.le_of_ble_eq_true rfl) (Nat.le_of_ble_eq_true rfl) dL_law_612 ?_
  refine to_C ?_
  exact pr_icmp_eq (tgt := 963) (hC fb) dL_law_615 (by decide) (fun _ => K fa fb h) (fun c => absurd rfl c)
theorem lc_14 {l : Launch} {D : va_G} {T : pr_T} {B : Nat} {aC aM : Nat → Nat} {Y : pr_Y} {c0 : Cond} {fa fb : pr_M} {b L i : Nat} {xs : Nat → Int32} (hC : ∀ fb, pr_C (pr_EC l (l_0 D T B aC aM fb)) Y room_1 cL_law RL 4 c0) (hM : ∀ fa, pr_C (pr_EM l (l_1 D T B aC aM fa)) Y room_1 cL_law RL 4 c0) (hX : va_X b L xs (pr_ys Y) (pr_ys Y).heap) (hb : b < (pr_ys Y).heap.size) (hA : ¬ B ≤ b) (hL : L ≤ 3072) (hi : i + 6 ≤ L) (h : rr fa fb)
    (K : ∀ fa fb, rr fa fb → pr_W (pr_EC l (l_0 D T B aC aM fb)) Y room_1 4 fa 963 (l_lv b (aC 0) (aM 0) i) []) : pr_W (pr_EC l (l_0 D T B aC aM fb)) Y room_1 4 fa 620 (l_lv b (aC 0) (aM 0) i) [] := by
  obtain ⟨r, e1, e2⟩ := s_total h (xs (i + 1))
  refine pr_aload_n (hC fb) dL_law_620 rfl 2 rfl ?_
  refine l_arg (k := 1) (hC fb) hX hb hA hL (by omega) dL_law_621 dL_law_622 dL_law_623 rfl rfl dL_law_624 dL_law_625 ?_
  refine k_X8_total (e := l_0 D T B aC aM fb) (hC fb) pr_w780 (by decide +kernel) e1 (Nat.le_of_ble_eq_true rfl) (Nat.le_of_ble_eq_true rfl) (Nat.le_of_ble_eq_true rfl) dL_law_626 ?_
  refine to_M ?_
  refine pr_aload_n (hM fa) dL_law_629 rfl 1 rfl ?_
  refine l_arg (k := 1) (hM fa) hX hb hA hL (by omega) dL_law_630 dL_law_631 dL_law_632 rfl rfl dL_law_633 dL_law_634 ?_
  refine k_X9_total (e := l_1 D T B aC aM fa) (hM fa) pr_w783 (by decide +kernel) e2 (Nat.le_of_ble_eq_true rfl) (Nat.le_of_ble_eq_true rfl) (Nat.le_of_ble_eq_true rfl) dL_law_635 ?_
  refine to_C ?_
  exact pr_icmp_eq (tgt := 963) (hC fb) dL_law_638 (by decide) (fun _ => K fa fb h) (fun c => absurd rfl c)
theorem lc_15 {l : Launch} {D : va_G} {T : pr_T} {B : Nat} {aC aM : Nat → Nat} {Y : pr_Y} {c0 : Cond} {fa fb : pr_M} {b L i : Nat} {xs : Nat → Int32} (hC : ∀ fb, pr_C (pr_EC l (l_0 D T B aC aM fb)) Y room_1 cL_law RL 4 c0) (hM : ∀ fa, pr_C (pr_EM l (l_1 D T B aC aM fa)) Y room_1 cL_law RL 4 c0) (hX : va_X b L xs (pr_ys Y) (pr_ys Y).heap) (hb : b < (pr_ys Y).heap.size) (hA : ¬ B ≤ b) (hL : L ≤ 3072) (hi : i + 6 ≤ L) (h : rr fa fb)
    (K : ∀ fa fb, rr fa fb → pr_W (pr_EC l (l_0 D T B aC aM fb)) Y room_1 4 fa 963 (l_lv b (aC 0) (aM 0) i) []) : pr_W (pr_EC l (l_0 D T B aC aM fb)) Y room_1 4 fa 643 (l_lv b (aC 0) (aM 0) i) [] := by
  obtain ⟨r, fa2, fb2, e1, e2, h2⟩ := s_forecast h (xs (i + 1)) (xs (i + 2)) (xs (i + 3))
  refine pr_aload_n (hC fb) dL_law_643 rfl 2 rfl ?_
  refine l_arg (k := 1) (hC fb) hX hb hA hL (by omega) dL_law_644 dL_law_645 dL_law_646 rfl rfl dL_law_647 dL_law_648 ?_
  refine l_arg (k := 2) (hC fb) hX hb hA hL (by omega) dL_law_649 dL_law_650 dL_law_651 rfl rfl dL_law_652 dL_law_653 ?_
  refine l_arg (k := 3) (hC fb) hX hb hA hL (by omega) dL_law_654 dL_law_655 dL_law_656 rfl rfl dL_law_657 dL_law_658 ?_
  refine k_X8_forecast (e := l_0 D T B aC aM fb) (hC fb) pr_w786 (by decide +kernel) e1 (Nat.le_of_ble_eq_true rfl) (Nat.le_of_ble_eq_true rfl) (Nat.le_of_ble_eq_true rfl) dL_law_659 ?_
  refine to_M ?_
  refine pr_aload_n (hM fa2) dL_law_662 rfl 1 rfl ?_
  refine l_arg (k := 1) (hM fa2) hX hb hA hL (by omega) dL_law_663 dL_law_664 dL_law_665 rfl rfl dL_law_666 dL_law_667 ?_
  refine l_arg (k := 2) (hM fa2) hX hb hA hL (by omega) dL_law_668 dL_law_669 dL_law_670 rfl rfl dL_law_671 dL_law_672 ?_
  refine l_arg (k := 3) (hM fa2) hX hb hA hL (by omega) dL_law_673 dL_law_674 dL_law_675 rfl rfl dL_law_676 dL_law_677 ?_
  refine k_X9_forecast (e := l_1 D T B aC aM fa2) (hM fa2) pr_w789 (by decide +kernel) e2 (Nat.le_of_ble_eq_true rfl) (Nat.le_of_ble_eq_true rfl) (Nat.le_of_ble_eq_true rfl) dL_law_678 ?_
  refine to_C ?_
  exact pr_icmp_eq (tgt := 963) (hC fb2) dL_law_681 (by decide) (fun _ => K fa2 fb2 h2) (fun c => absurd rfl c)
theorem lc_16 {l : Launch} {D : va_G} {T : pr_T} {B : Nat} {aC aM : Nat → Nat} {Y : pr_Y} {c0 : Cond} {fa fb : pr_M} {b L i : Nat} {xs : Nat → Int32} (hC : ∀ fb, pr_C (pr_EC l (l_0 D T B aC aM fb)) Y room_1 cL_law RL 4 c0) (hM : ∀ fa, pr_C (pr_EM l (l_1 D T B aC aM fa)) Y room_1 cL_law RL 4 c0) (hX : va_X b L xs (pr_ys Y) (pr_ys Y).heap) (hb : b < (pr_ys Y).heap.size) (hA : ¬ B ≤ b) (hL : L ≤ 3072) (hi : i + 6 ≤ L) (h : rr fa fb)
    (K : ∀ fa fb, rr fa fb → pr_W (pr_EC l (l_0 D T B aC aM fb)) Y room_1 4 fa 963 (l_lv b (aC 0) (aM 0) i) []) : pr_W (pr_EC l (l_0 D T B aC aM fb)) Y room_1 4 fa 686 (l_lv b (aC 0) (aM 0) i) [] := by
  obtain ⟨r, fa2, fb2, e1, e2, h2⟩ := s_attempt h (xs (i + 1)) (xs (i + 2)) (xs (i + 3)) (xs (i + 4))
  refine pr_aload_n (hC fb) dL_law_686 rfl 2 rfl ?_
  refine l_arg (k := 1) (hC fb) hX hb hA hL (by omega) dL_law_687 dL_law_688 dL_law_689 rfl rfl dL_law_690 dL_law_691 ?_
  refine l_arg (k := 2) (hC fb) hX hb hA hL (by omega) dL_law_692 dL_law_693 dL_law_694 rfl rfl dL_law_695 dL_law_696 ?_
  refine l_arg (k := 3) (hC fb) hX hb hA hL (by omega) dL_law_697 dL_law_698 dL_law_699 rfl rfl dL_law_700 dL_law_701 ?_
  refine l_arg (k := 4) (hC fb) hX hb hA hL (by omega) dL_law_702 dL_law_703 dL_law_704 rfl rfl dL_law_705 dL_law_706 ?_
  refine k_X8_attempt (e := l_0 D T B aC aM fb) (hC fb) pr_w792 (by decide +kernel) e1 (Nat.le_of_ble_eq_true rfl) (Nat.le_of_ble_eq_true rfl) (Nat.le_of_ble_eq_true rfl) dL_law_707 ?_
  refine to_M ?_
  refine pr_aload_n (hM fa2) dL_law_710 rfl 1 rfl ?_
  refine l_arg (k := 1) (hM fa2) hX hb hA hL (by omega) dL_law_711 dL_law_712 dL_law_713 rfl rfl dL_law_714 dL_law_715 ?_
  refine l_arg (k := 2) (hM fa2) hX hb hA hL (by omega) dL_law_716 dL_law_717 dL_law_718 rfl rfl dL_law_719 dL_law_720 ?_
  refine l_arg (k := 3) (hM fa2) hX hb hA hL (by omega) dL_law_721 dL_law_722 dL_law_723 rfl rfl dL_law_724 dL_law_725 ?_
  refine l_arg (k := 4) (hM fa2) hX hb hA hL (by omega) dL_law_726 dL_law_727 dL_law_728 rfl rfl dL_law_729 dL_law_730 ?_
  refine k_X9_attempt (e := l_1 D T B aC aM fa2) (hM fa2) pr_w795 (by decide +kernel) e2 (Nat.le_of_ble_eq_true rfl) (Nat.le_of_ble_eq_true rfl) (Nat.le_of_ble_eq_true rfl) dL_law_731 ?_
  refine to_C ?_
  exact pr_icmp_eq (tgt := 963) (hC fb2) dL_law_734 (by decide) (fun _ => K fa2 fb2 h2) (fun c => absurd rfl c)
theorem lc_17 {l : Launch} {D : va_G} {T : pr_T} {B : Nat} {aC aM : Nat → Nat} {Y : pr_Y} {c0 : Cond} {fa fb : pr_M} {b L i : Nat} {xs : Nat → Int32} (hC : ∀ fb, pr_C (pr_EC l (l_0 D T B aC aM fb)) Y room_1 cL_law RL 4 c0) (hM : ∀ fa, pr_C (pr_EM l (l_1 D T B aC aM fa)) Y room_1 cL_law RL 4 c0) (hX : va_X b L xs (pr_ys Y) (pr_ys Y).heap) (hb : b < (pr_ys Y).heap.size) (hA : ¬ B ≤ b) (hL : L ≤ 3072) (hi : i + 6 ≤ L) (h : rr fa fb)
    (K : ∀ fa fb, rr fa fb → pr_W (pr_EC l (l_0 D T B aC aM fb)) Y room_1 4 fa 963 (l_lv b (aC 0) (aM 0) i) []) : pr_W (pr_EC l (l_0 D T B aC aM fb)) Y room_1 4 fa 739 (l_lv b (aC 0) (aM 0) i) [] := by
  obtain ⟨r, fa2, fb2, e1, e2, h2⟩ := s_bestGain h (xs (i + 1)) (xs (i + 2)) (xs (i + 3)) (xs (i + 4)) (xs (i + 5))
  refine pr_aload_n (hC fb) dL_law_739 rfl 2 rfl ?_
  refine l_arg (k := 1) (hC fb) hX hb hA hL (by omega) dL_law_740 dL_law_741 dL_law_742 rfl rfl dL_law_743 dL_law_744 ?_
  refine l_arg (k := 2) (hC fb) hX hb hA hL (by omega) dL_law_745 dL_law_746 dL_law_747 rfl rfl dL_law_748 dL_law_749 ?_
  refine l_arg (k := 3) (hC fb) hX hb hA hL (by omega) dL_law_750 dL_law_751 dL_law_752 rfl rfl dL_law_753 dL_law_754 ?_
  refine l_arg (k := 4) (hC fb) hX hb hA hL (by omega) dL_law_755 dL_law_756 dL_law_757 rfl rfl dL_law_758 dL_law_759 ?_
  refine l_arg (k := 5) (hC fb) hX hb hA hL (by omega) dL_law_760 dL_law_761 dL_law_762 rfl rfl dL_law_763 dL_law_764 ?_
  refine k_X8_bestGain (e := l_0 D T B aC aM fb) (hC fb) pr_w798 (by decide +kernel) e1 (Nat.le_of_ble_eq_true rfl) (Nat.le_of_ble_eq_true rfl) (Nat.le_of_ble_eq_true rfl) dL_law_765 ?_
  refine to_M ?_
  refine pr_aload_n (hM fa2) dL_law_768 rfl 1 rfl ?_
  refine l_arg (k := 1) (hM fa2) hX hb hA hL (by omega) dL_law_769 dL_law_770 dL_law_771 rfl rfl dL_law_772 dL_law_773 ?_
  refine l_arg (k := 2) (hM fa2) hX hb hA hL (by omega) dL_law_774 dL_law_775 dL_law_776 rfl rfl dL_law_777 dL_law_778 ?_
  refine l_arg (k := 3) (hM fa2) hX hb hA hL (by omega) dL_law_779 dL_law_780 dL_law_781 rfl rfl dL_law_782 dL_law_783 ?_
  refine l_arg (k := 4) (hM fa2) hX hb hA hL (by omega) dL_law_784 dL_law_785 dL_law_786 rfl rfl dL_law_787 dL_law_788 ?_
  refine l_arg (k := 5) (hM fa2) hX hb hA hL (by omega) dL_law_789 dL_law_790 dL_law_791 rfl rfl dL_law_792 dL_law_793 ?_
  refine k_X9_bestGain (e := l_1 D T B aC aM fa2) (hM fa2) pr_w801 (by decide +kernel) e2 (Nat.le_of_ble_eq_true rfl) (Nat.le_of_ble_eq_true rfl) (Nat.le_of_ble_eq_true rfl) dL_law_794 ?_
  refine to_C ?_
  exact pr_icmp_eq (tgt := 963) (hC fb2) dL_law_797 (by decide) (fun _ => K fa2 fb2 h2) (fun c => absurd rfl c)
theorem lc_18 {l : Launch} {D : va_G} {T : pr_T} {B : Nat} {aC aM : Nat → Nat} {Y : pr_Y} {c0 : Cond} {fa fb : pr_M} {b L i : Nat} {xs : Nat → Int32} (hC : ∀ fb, pr_C (pr_EC l (l_0 D T B aC aM fb)) Y room_1 cL_law RL 4 c0) (hM : ∀ fa, pr_C (pr_EM l (l_1 D T B aC aM fa)) Y room_1 cL_law RL 4 c0) (hX : va_X b L xs (pr_ys Y) (pr_ys Y).heap) (hb : b < (pr_ys Y).heap.size) (hA : ¬ B ≤ b) (hL : L ≤ 3072) (hi : i + 6 ≤ L) (h : rr fa fb)
    (K : ∀ fa fb, rr fa fb → pr_W (pr_EC l (l_0 D T B aC aM fb)) Y room_1 4 fa 963 (l_lv b (aC 0) (aM 0) i) []) : pr_W (pr_EC l (l_0 D T B aC aM fb)) Y room_1 4 fa 802 (l_lv b (aC 0) (aM 0) i) [] := by
  obtain ⟨r, fa2, fb2, e1, e2, h2⟩ := s_put h (((xs (i + 1)).toInt64 <<< ((32 : Int32).toInt64 &&& 63)) ||| ((xs (i + 2)).toInt64 &&& (4294967295)))
  refine pr_aload_n (hC fb) dL_law_802 rfl 2 rfl ?_
  refine l_arg (k := 1) (hC fb) hX hb hA hL (by omega) dL_law_803 dL_law_804 dL_law_805 rfl rfl dL_law_806 dL_law_807 ?_
  refine pr_i2l (hC fb) dL_law_808 ?_
  refine pr_bipush (v := 32) (hC fb) dL_law_809 (by decide) ?_
  refine pr_lshl (hC fb) dL_law_811 ?_
  refine l_arg (k := 2) (hC fb) hX hb hA hL (by omega) dL_law_812 dL_law_813 dL_law_814 rfl rfl dL_law_815 dL_law_816 ?_
  refine pr_i2l (hC fb) dL_law_817 ?_
  refine pr_ldc2 (hC fb) dL_law_818 pr_w691 ?_
  refine pr_land (hC fb) dL_law_821 ?_
  refine pr_lor (hC fb) dL_law_822 ?_
  refine k_X8_put (e := l_0 D T B aC aM fb) (hC fb) pr_w804 (by decide +kernel) e1 (Nat.le_of_ble_eq_true rfl) (Nat.le_of_ble_eq_true rfl) (Nat.le_of_ble_eq_true rfl) dL_law_823 ?_
  refine to_M ?_
  refine pr_aload_n (hM fa2) dL_law_826 rfl 1 rfl ?_
  refine l_arg (k := 1) (hM fa2) hX hb hA hL (by omega) dL_law_827 dL_law_828 dL_law_829 rfl rfl dL_law_830 dL_law_831 ?_
  refine pr_i2l (hM fa2) dL_law_832 ?_
  refine pr_bipush (v := 32) (hM fa2) dL_law_833 (by decide) ?_
  refine pr_lshl (hM fa2) dL_law_835 ?_
  refine l_arg (k := 2) (hM fa2) hX hb hA hL (by omega) dL_law_836 dL_law_837 dL_law_838 rfl rfl dL_law_839 dL_law_840 ?_
  refine pr_i2l (hM fa2) dL_law_841 ?_
  refine pr_ldc2 (hM fa2) dL_law_842 pr_w691 ?_
  refine pr_land (hM fa2) dL_law_845 ?_
  refine pr_lor (hM fa2) dL_law_846 ?_
  refine k_X9_put (e := l_1 D T B aC aM fa2) (hM fa2) pr_w807 (by decide +kernel) e2 (Nat.le_of_ble_eq_true rfl) (Nat.le_of_ble_eq_true rfl) (Nat.le_of_ble_eq_true rfl) dL_law_847 ?_
  refine to_C ?_
  exact pr_icmp_eq (tgt := 963) (hC fb2) dL_law_850 (by decide) (fun _ => K fa2 fb2 h2) (fun c => absurd rfl c)
theorem lc_19 {l : Launch} {D : va_G} {T : pr_T} {B : Nat} {aC aM : Nat → Nat} {Y : pr_Y} {c0 : Cond} {fa fb : pr_M} {b L i : Nat} {xs : Nat → Int32} (hC : ∀ fb, pr_C (pr_EC l (l_0 D T B aC aM fb)) Y room_1 cL_law RL 4 c0) (hM : ∀ fa, pr_C (pr_EM l (l_1 D T B aC aM fa)) Y room_1 cL_law RL 4 c0) (hX : va_X b L xs (pr_ys Y) (pr_ys Y).heap) (hb : b < (pr_ys Y).heap.size) (hA : ¬ B ≤ b) (hL : L ≤ 3072) (hi : i + 6 ≤ L) (h : rr fa fb)
    (K : ∀ fa fb, rr fa fb → pr_W (pr_EC l (l_0 D T B aC aM fb)) Y room_1 4 fa 963 (l_lv b (aC 0) (aM 0) i) []) : pr_W (pr_EC l (l_0 D T B aC aM fb)) Y room_1 4 fa 855 (l_lv b (aC 0) (aM 0) i) [] := by
  obtain ⟨r, fa2, fb2, e1, e2, h2⟩ := s_wipe h 
  refine pr_aload_n (hC fb) dL_law_855 rfl 2 rfl ?_
  refine k_X8_wipe (e := l_0 D T B aC aM fb) (hC fb) pr_w810 (by decide +kernel) e1 (Nat.le_of_ble_eq_true rfl) (Nat.le_of_ble_eq_true rfl) (Nat.le_of_ble_eq_true rfl) dL_law_856 ?_
  refine to_M ?_
  refine pr_aload_n (hM fa2) dL_law_859 rfl 1 rfl ?_
  refine k_X9_wipe (e := l_1 D T B aC aM fa2) (hM fa2) pr_w813 (by decide +kernel) e2 (Nat.le_of_ble_eq_true rfl) (Nat.le_of_ble_eq_true rfl) (Nat.le_of_ble_eq_true rfl) dL_law_860 ?_
  refine to_C ?_
  exact pr_icmp_eq (tgt := 963) (hC fb2) dL_law_863 (by decide) (fun _ => K fa2 fb2 h2) (fun c => absurd rfl c)
theorem lc_20 {l : Launch} {D : va_G} {T : pr_T} {B : Nat} {aC aM : Nat → Nat} {Y : pr_Y} {c0 : Cond} {fa fb : pr_M} {b L i : Nat} {xs : Nat → Int32} (hC : ∀ fb, pr_C (pr_EC l (l_0 D T B aC aM fb)) Y room_1 cL_law RL 4 c0) (hM : ∀ fa, pr_C (pr_EM l (l_1 D T B aC aM fa)) Y room_1 cL_law RL 4 c0) (hX : va_X b L xs (pr_ys Y) (pr_ys Y).heap) (hb : b < (pr_ys Y).heap.size) (hA : ¬ B ≤ b) (hL : L ≤ 3072) (hi : i + 6 ≤ L) (h : rr fa fb)
    (K : ∀ fa fb, rr fa fb → pr_W (pr_EC l (l_0 D T B aC aM fb)) Y room_1 4 fa 963 (l_lv b (aC 0) (aM 0) i) []) : pr_W (pr_EC l (l_0 D T B aC aM fb)) Y room_1 4 fa 868 (l_lv b (aC 0) (aM 0) i) [] := by
  obtain ⟨r, fa2, fb2, e1, e2, h2⟩ := s_fault h 
  refine pr_aload_n (hC fb) dL_law_868 rfl 2 rfl ?_
  refine k_X8_fault (e := l_0 D T B aC aM fb) (hC fb) pr_w816 (by decide +kernel) e1 (Nat.le_of_ble_eq_true rfl) (Nat.le_of_ble_eq_true rfl) (Nat.le_of_ble_eq_true rfl) dL_law_869 ?_
  refine to_M ?_
  refine pr_aload_n (hM fa2) dL_law_872 rfl 1 rfl ?_
  refine k_X9_fault (e := l_1 D T B aC aM fa2) (hM fa2) pr_w819 (by decide +kernel) e2 (Nat.le_of_ble_eq_true rfl) (Nat.le_of_ble_eq_true rfl) (Nat.le_of_ble_eq_true rfl) dL_law_873 ?_
  refine to_C ?_
  exact pr_icmp_eq (tgt := 963) (hC fb2) dL_law_876 (by decide) (fun _ => K fa2 fb2 h2) (fun c => absurd rfl c)
theorem lc_21 {l : Launch} {D : va_G} {T : pr_T} {B : Nat} {aC aM : Nat → Nat} {Y : pr_Y} {c0 : Cond} {fa fb : pr_M} {b L i : Nat} {xs : Nat → Int32} (hC : ∀ fb, pr_C (pr_EC l (l_0 D T B aC aM fb)) Y room_1 cL_law RL 4 c0) (hM : ∀ fa, pr_C (pr_EM l (l_1 D T B aC aM fa)) Y room_1 cL_law RL 4 c0) (hX : va_X b L xs (pr_ys Y) (pr_ys Y).heap) (hb : b < (pr_ys Y).heap.size) (hA : ¬ B ≤ b) (hL : L ≤ 3072) (hi : i + 6 ≤ L) (h : rr fa fb)
    (K : ∀ fa fb, rr fa fb → pr_W (pr_EC l (l_0 D T B aC aM fb)) Y room_1 4 fa 963 (l_lv b (aC 0) (aM 0) i) []) : pr_W (pr_EC l (l_0 D T B aC aM fb)) Y room_1 4 fa 881 (l_lv b (aC 0) (aM 0) i) [] := by
  obtain ⟨r, fa2, fb2, e1, e2, h2⟩ := s_carryOut h 
  refine pr_aload_n (hC fb) dL_law_881 rfl 2 rfl ?_
  refine k_X8_carryOut (e := l_0 D T B aC aM fb) (hC fb) pr_w820 (by decide +kernel) e1 (Nat.le_of_ble_eq_true rfl) (Nat.le_of_ble_eq_true rfl) (Nat.le_of_ble_eq_true rfl) dL_law_882 ?_
  refine to_M ?_
  refine pr_aload_n (hM fa2) dL_law_885 rfl 1 rfl ?_
  refine k_X9_carryOut (e := l_1 D T B aC aM fa2) (hM fa2) pr_w823 (by decide +kernel) e2 (Nat.le_of_ble_eq_true rfl) (Nat.le_of_ble_eq_true rfl) (Nat.le_of_ble_eq_true rfl) dL_law_886 ?_
  refine to_C ?_
  exact pr_icmp_eq (tgt := 963) (hC fb2) dL_law_889 (by decide) (fun _ => K fa2 fb2 h2) (fun c => absurd rfl c)
theorem lc_22 {l : Launch} {D : va_G} {T : pr_T} {B : Nat} {aC aM : Nat → Nat} {Y : pr_Y} {c0 : Cond} {fa fb : pr_M} {b L i : Nat} {xs : Nat → Int32} (hC : ∀ fb, pr_C (pr_EC l (l_0 D T B aC aM fb)) Y room_1 cL_law RL 4 c0) (hM : ∀ fa, pr_C (pr_EM l (l_1 D T B aC aM fa)) Y room_1 cL_law RL 4 c0) (hX : va_X b L xs (pr_ys Y) (pr_ys Y).heap) (hb : b < (pr_ys Y).heap.size) (hA : ¬ B ≤ b) (hL : L ≤ 3072) (hi : i + 6 ≤ L) (h : rr fa fb)
    (K : ∀ fa fb, rr fa fb → pr_W (pr_EC l (l_0 D T B aC aM fb)) Y room_1 4 fa 963 (l_lv b (aC 0) (aM 0) i) []) : pr_W (pr_EC l (l_0 D T B aC aM fb)) Y room_1 4 fa 894 (l_lv b (aC 0) (aM 0) i) [] := by
  obtain ⟨r, e1, e2⟩ := s_count h (xs (i + 1))
  refine pr_aload_n (hC fb) dL_law_894 rfl 2 rfl ?_
  refine l_arg (k := 1) (hC fb) hX hb hA hL (by omega) dL_law_895 dL_law_896 dL_law_897 rfl rfl dL_law_898 dL_law_899 ?_
  refine k_X8_count (e := l_0 D T B aC aM fb) (hC fb) pr_w826 (by decide +kernel) e1 (Nat.le_of_ble_eq_true rfl) (Nat.le_of_ble_eq_true rfl) (Nat.le_of_ble_eq_true rfl) dL_law_900 ?_
  refine to_M ?_
  refine pr_aload_n (hM fa) dL_law_903 rfl 1 rfl ?_
  refine l_arg (k := 1) (hM fa) hX hb hA hL (by omega) dL_law_904 dL_law_905 dL_law_906 rfl rfl dL_law_907 dL_law_908 ?_
  refine k_X9_count (e := l_1 D T B aC aM fa) (hM fa) pr_w829 (by decide +kernel) e2 (Nat.le_of_ble_eq_true rfl) (Nat.le_of_ble_eq_true rfl) (Nat.le_of_ble_eq_true rfl) dL_law_909 ?_
  refine to_C ?_
  exact pr_icmp_eq (tgt := 963) (hC fb) dL_law_912 (by decide) (fun _ => K fa fb h) (fun c => absurd rfl c)
theorem lc_23 {l : Launch} {D : va_G} {T : pr_T} {B : Nat} {aC aM : Nat → Nat} {Y : pr_Y} {c0 : Cond} {fa fb : pr_M} {b L i : Nat} {xs : Nat → Int32} (hC : ∀ fb, pr_C (pr_EC l (l_0 D T B aC aM fb)) Y room_1 cL_law RL 4 c0) (hM : ∀ fa, pr_C (pr_EM l (l_1 D T B aC aM fa)) Y room_1 cL_law RL 4 c0) (hX : va_X b L xs (pr_ys Y) (pr_ys Y).heap) (hb : b < (pr_ys Y).heap.size) (hA : ¬ B ≤ b) (hL : L ≤ 3072) (hi : i + 6 ≤ L) (h : rr fa fb)
    (K : ∀ fa fb, rr fa fb → pr_W (pr_EC l (l_0 D T B aC aM fb)) Y room_1 4 fa 963 (l_lv b (aC 0) (aM 0) i) []) : pr_W (pr_EC l (l_0 D T B aC aM fb)) Y room_1 4 fa 917 (l_lv b (aC 0) (aM 0) i) [] := by
  obtain ⟨r, fa2, fb2, e1, e2, h2⟩ := s_save h (xs (i + 1))
  refine pr_aload_n (hC fb) dL_law_917 rfl 2 rfl ?_
  refine l_arg (k := 1) (hC fb) hX hb hA hL (by omega) dL_law_918 dL_law_919 dL_law_920 rfl rfl dL_law_921 dL_law_922 ?_
  refine k_X8_save (e := l_0 D T B aC aM fb) (hC fb) pr_w832 (by decide +kernel) e1 (Nat.le_of_ble_eq_true rfl) (Nat.le_of_ble_eq_true rfl) (Nat.le_of_ble_eq_true rfl) dL_law_923 ?_
  refine to_M ?_
  refine pr_aload_n (hM fa2) dL_law_926 rfl 1 rfl ?_
  refine l_arg (k := 1) (hM fa2) hX hb hA hL (by omega) dL_law_927 dL_law_928 dL_law_929 rfl rfl dL_law_930 dL_law_931 ?_
  refine k_X9_save (e := l_1 D T B aC aM fa2) (hM fa2) pr_w835 (by decide +kernel) e2 (Nat.le_of_ble_eq_true rfl) (Nat.le_of_ble_eq_true rfl) (Nat.le_of_ble_eq_true rfl) dL_law_932 ?_
  refine to_C ?_
  exact pr_icmp_eq (tgt := 963) (hC fb2) dL_law_935 (by decide) (fun _ => K fa2 fb2 h2) (fun c => absurd rfl c)
theorem lc_24 {l : Launch} {D : va_G} {T : pr_T} {B : Nat} {aC aM : Nat → Nat} {Y : pr_Y} {c0 : Cond} {fa fb : pr_M} {b L i : Nat} {xs : Nat → Int32} (hC : ∀ fb, pr_C (pr_EC l (l_0 D T B aC aM fb)) Y room_1 cL_law RL 4 c0) (hM : ∀ fa, pr_C (pr_EM l (l_1 D T B aC aM fa)) Y room_1 cL_law RL 4 c0) (hX : va_X b L xs (pr_ys Y) (pr_ys Y).heap) (hb : b < (pr_ys Y).heap.size) (hA : ¬ B ≤ b) (hL : L ≤ 3072) (hi : i + 6 ≤ L) (h : rr fa fb)
    (K : ∀ fa fb, rr fa fb → pr_W (pr_EC l (l_0 D T B aC aM fb)) Y room_1 4 fa 963 (l_lv b (aC 0) (aM 0) i) []) : pr_W (pr_EC l (l_0 D T B aC aM fb)) Y room_1 4 fa 940 (l_lv b (aC 0) (aM 0) i) [] := by
  obtain ⟨r, fa2, fb2, e1, e2, h2⟩ := s_restore h (xs (i + 1))
  refine pr_aload_n (hC fb) dL_law_940 rfl 2 rfl ?_
  refine l_arg (k := 1) (hC fb) hX hb hA hL (by omega) dL_law_941 dL_law_942 dL_law_943 rfl rfl dL_law_944 dL_law_945 ?_
  refine k_X8_restore (e := l_0 D T B aC aM fb) (hC fb) pr_w838 (by decide +kernel) e1 (Nat.le_of_ble_eq_true rfl) (Nat.le_of_ble_eq_true rfl) (Nat.le_of_ble_eq_true rfl) dL_law_946 ?_
  refine to_M ?_
  refine pr_aload_n (hM fa2) dL_law_949 rfl 1 rfl ?_
  refine l_arg (k := 1) (hM fa2) hX hb hA hL (by omega) dL_law_950 dL_law_951 dL_law_952 rfl rfl dL_law_953 dL_law_954 ?_
  refine k_X9_restore (e := l_1 D T B aC aM fa2) (hM fa2) pr_w841 (by decide +kernel) e2 (Nat.le_of_ble_eq_true rfl) (Nat.le_of_ble_eq_true rfl) (Nat.le_of_ble_eq_true rfl) dL_law_955 ?_
  refine to_C ?_
  exact pr_icmp_eq (tgt := 963) (hC fb2) dL_law_958 (by decide) (fun _ => K fa2 fb2 h2) (fun c => absurd rfl c)
