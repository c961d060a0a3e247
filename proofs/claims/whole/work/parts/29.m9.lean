def F_X9_correct (c : Nat) (p1 : Int32) (f : pr_M) : Option (Unit × pr_M) :=
  pr_b1 (F_X9_of c p1 16 f) fun r2 =>
  if r2 ≤ 0 then (
    pr_b1 (F_X9_of c p1 34 f) fun r5 =>
    pr_b1 (F_X9_of c p1 35 f) fun r7 =>
    pr_b1 (F_X9_size r5 f) fun r9 =>
    pr_b1 (F_X9_of c p1 6 f) fun r11 =>
    pr_b1 (α := Int32) (
      if r9 ≤ r11 then (
        some 0
      ) else (
        some 1
      )
    ) fun v12 =>
    pr_b1 (F_X9_size r7 f) fun r15 =>
    pr_b1 (F_X9_of c p1 6 f) fun r17 =>
    pr_b1 (α := Int32) (
      if r15 ≤ r17 then (
        some 0
      ) else (
        some 1
      )
    ) fun v18 =>
    pr_b1 (F_X9_of c p1 11 f) fun r21 =>
    pr_b1 (F_X9_of c p1 12 f) fun r23 =>
    if v12 = 0 then (
      if v18 = 0 then (
        some ((), f)
      ) else (
        pr_b1 (F_X9_of c p1 4 f) fun r29 =>
        pr_b1 (F_X9_of c p1 7 f) fun r31 =>
        pr_b1 (F_X9_limited ((-(r29 * r7)) / 256) r31 f) fun r33 =>
        pr_b1 (F_X9_limited (r23 + r33) 3000 f) fun r35 =>
        pr_bd (F_X9_lay c p1 12 r35 f) fun u37 f38 =>
        pr_bd (F_X9_tally c 4 1 f38) fun u40 f41 =>
        pr_b1 (F_X9_of c p1 11 f41) fun r45 =>
        pr_bd (F_X9_lay c p1 27 (r45 - r21) f41) fun u47 f48 =>
        pr_b1 (F_X9_of c p1 12 f48) fun r50 =>
        pr_bd (F_X9_lay c p1 28 (r50 - r23) f48) fun u52 f53 =>
        pr_b1 (F_X9_of c p1 1 f53) fun r55 =>
        pr_bd (F_X9_lay c p1 16 (r55 + 1) f53) fun u57 f58 =>
        some ((), f58)
      )
    ) else (
      pr_b1 (F_X9_of c p1 15 f) fun r60 =>
      pr_b1 (F_X9_limited (r60 + r5) 20000 f) fun r62 =>
      pr_bd (F_X9_lay c p1 15 r62 f) fun u64 f65 =>
      pr_b1 (F_X9_of c p1 4 f65) fun r67 =>
      pr_b1 (F_X9_of c p1 5 f65) fun r69 =>
      pr_b1 (F_X9_of c p1 15 f65) fun r71 =>
      pr_b1 (F_X9_of c p1 7 f65) fun r73 =>
      pr_b1 (F_X9_limited ((-((r67 * r5) + (r69 * r71))) / 256) r73 f65) fun r75 =>
      pr_b1 (F_X9_limited (r21 + r75) 5000 f65) fun r77 =>
      pr_bd (F_X9_lay c p1 11 r77 f65) fun u79 f80 =>
      pr_bd (F_X9_tally c 3 1 f80) fun u82 f83 =>
      if v18 = 0 then (
        pr_b1 (F_X9_of c p1 11 f83) fun r87 =>
        pr_bd (F_X9_lay c p1 27 (r87 - r21) f83) fun u89 f90 =>
        pr_b1 (F_X9_of c p1 12 f90) fun r92 =>
        pr_bd (F_X9_lay c p1 28 (r92 - r23) f90) fun u94 f95 =>
        pr_b1 (F_X9_of c p1 1 f95) fun r97 =>
        pr_bd (F_X9_lay c p1 16 (r97 + 1) f95) fun u99 f100 =>
        some ((), f100)
      ) else (
        pr_b1 (F_X9_of c p1 4 f83) fun r102 =>
        pr_b1 (F_X9_of c p1 7 f83) fun r104 =>
        pr_b1 (F_X9_limited ((-(r102 * r7)) / 256) r104 f83) fun r106 =>
        pr_b1 (F_X9_limited (r23 + r106) 3000 f83) fun r108 =>
        pr_bd (F_X9_lay c p1 12 r108 f83) fun u110 f111 =>
        pr_bd (F_X9_tally c 4 1 f111) fun u113 f114 =>
        pr_b1 (F_X9_of c p1 11 f114) fun r117 =>
        pr_bd (F_X9_lay c p1 27 (r117 - r21) f114) fun u119 f120 =>
        pr_b1 (F_X9_of c p1 12 f120) fun r122 =>
        pr_bd (F_X9_lay c p1 28 (r122 - r23) f120) fun u124 f125 =>
        pr_b1 (F_X9_of c p1 1 f125) fun r127 =>
        pr_bd (F_X9_lay c p1 16 (r127 + 1) f125) fun u129 f130 =>
        some ((), f130)
      )
    )
  ) else (
    some ((), f)
  )
set_option maxHeartbeats 4000000 in
set_option maxRecDepth 100000 in
theorem m_X9_correct {l : Launch} {e : pr_E0} {c : Nat} {p1 : Int32} {f : pr_M} {r : Unit} {g : pr_M} (hk0 : pr_LM[c]? = some (9, 0)) (h : F_X9_correct c p1 f = some (r, g)) : pr_Met (pr_EM l e) yX9_correct cX9_correct 9 none { frames := 2, cells := 0, slots := 0, locals := 44 } [.ref (pr_ad (pr_EM l e) c), .int p1] f none g := by
  rw [F_X9_correct] at h
  refine pr_enter (by decide +kernel) (Nat.le_of_ble_eq_true rfl) (fun Y C Z => ?_)
  replace C : pr_C (pr_EM l e) Y { frames := 2, cells := 0, slots := 0, locals := 44 } cX9_correct RX9 9 _ := C
  show pr_W (pr_EM l e) Y _ 9 f 0 [(0, .ref (pr_ad (pr_EM l e) c)), (1, .int p1)] []
  refine pr_aload_n C dX9_correct_0 rfl 0 rfl ?_
  refine pr_iload_n C dX9_correct_1 rfl 1 rfl ?_
  refine pr_bipush (v := 16) C dX9_correct_2 (by decide) ?_
  obtain ⟨r2, hc1, h⟩ := pr_b1_some h
  refine k_X9_of C pr_w507 hk0 hc1 (Nat.le_of_ble_eq_true rfl) (Nat.le_of_ble_eq_true rfl) (Nat.le_of_ble_eq_true rfl) dX9_correct_4 ?_
  refine pr_if_le (tgt := 11) C dX9_correct_7 (by decide) (fun c3 => ?_) (fun c3 => ?_)
  · have h := pr_ifT h c3
    refine pr_aload_n C dX9_correct_11 rfl 0 rfl ?_
    refine pr_iload_n C dX9_correct_12 rfl 1 rfl ?_
    refine pr_bipush (v := 34) C dX9_correct_13 (by decide) ?_
    obtain ⟨r5, hc4, h⟩ := pr_b1_some h
    refine k_X9_of C pr_w507 hk0 hc4 (Nat.le_of_ble_eq_true rfl) (Nat.le_of_ble_eq_true rfl) (Nat.le_of_ble_eq_true rfl) dX9_correct_15 ?_
    refine pr_istore_n (lv' := [(2, .int r5), (0, .ref (pr_ad (pr_EM l e) c)), (1, .int p1)]) C dX9_correct_18 rfl (by decide) rfl ?_
    refine pr_aload_n C dX9_correct_19 rfl 1 rfl ?_
    refine pr_iload_n C dX9_correct_20 rfl 2 rfl ?_
    refine pr_bipush (v := 35) C dX9_correct_21 (by decide) ?_
    obtain ⟨r7, hc6, h⟩ := pr_b1_some h
    refine k_X9_of C pr_w507 hk0 hc6 (Nat.le_of_ble_eq_true rfl) (Nat.le_of_ble_eq_true rfl) (Nat.le_of_ble_eq_true rfl) dX9_correct_23 ?_
    refine pr_istore_n (lv' := [(3, .int r7), (2, .int r5), (0, .ref (pr_ad (pr_EM l e) c)), (1, .int p1)]) C dX9_correct_26 rfl (by decide) rfl ?_
    refine pr_iload_n C dX9_correct_27 rfl 1 rfl ?_
    obtain ⟨r9, hc8, h⟩ := pr_b1_some h
    refine k_X9_size C pr_w554  hc8 (Nat.le_of_ble_eq_true rfl) (Nat.le_of_ble_eq_true rfl) (Nat.le_of_ble_eq_true rfl) dX9_correct_28 ?_
    refine pr_aload_n C dX9_correct_31 rfl 2 rfl ?_
    refine pr_iload_n C dX9_correct_32 rfl 3 rfl ?_
    refine pr_bipush (v := 6) C dX9_correct_33 (by decide) ?_
    obtain ⟨r11, hc10, h⟩ := pr_b1_some h
    refine k_X9_of C pr_w507 hk0 hc10 (Nat.le_of_ble_eq_true rfl) (Nat.le_of_ble_eq_true rfl) (Nat.le_of_ble_eq_true rfl) dX9_correct_35 ?_
    obtain ⟨v12, hv, h⟩ := pr_b1_some h
    have K : pr_W (pr_EM l e) Y { frames := 2, cells := 0, slots := 0, locals := 44 } 9 f 46 [(0, .ref (pr_ad (pr_EM l e) c)), (1, .int p1), (2, .int r5), (3, .int r7)] [.int v12] := by
      refine pr_istore (lv' := [(4, .int v12), (0, .ref (pr_ad (pr_EM l e) c)), (1, .int p1), (2, .int r5), (3, .int r7)]) C dX9_correct_46 (by decide) rfl ?_
      refine pr_iload_n C dX9_correct_48 rfl 4 rfl ?_
      obtain ⟨r15, hc14, h⟩ := pr_b1_some h
      refine k_X9_size C pr_w554  hc14 (Nat.le_of_ble_eq_true rfl) (Nat.le_of_ble_eq_true rfl) (Nat.le_of_ble_eq_true rfl) dX9_correct_49 ?_
      refine pr_aload_n C dX9_correct_52 rfl 1 rfl ?_
      refine pr_iload_n C dX9_correct_53 rfl 2 rfl ?_
      refine pr_bipush (v := 6) C dX9_correct_54 (by decide) ?_
      obtain ⟨r17, hc16, h⟩ := pr_b1_some h
      refine k_X9_of C pr_w507 hk0 hc16 (Nat.le_of_ble_eq_true rfl) (Nat.le_of_ble_eq_true rfl) (Nat.le_of_ble_eq_true rfl) dX9_correct_56 ?_
      obtain ⟨v18, hv, h⟩ := pr_b1_some h
      have K : pr_W (pr_EM l e) Y { frames := 2, cells := 0, slots := 0, locals := 44 } 9 f 67 [(0, .ref (pr_ad (pr_EM l e) c)), (1, .int p1), (2, .int r5), (3, .int r7), (4, .int v12)] [.int v18] := by
        refine pr_istore (lv' := [(5, .int v18), (0, .ref (pr_ad (pr_EM l e) c)), (1, .int p1), (2, .int r5), (3, .int r7), (4, .int v12)]) C dX9_correct_67 (by decide) rfl ?_
        refine pr_aload_n C dX9_correct_69 rfl 1 rfl ?_
        refine pr_iload_n C dX9_correct_70 rfl 2 rfl ?_
        refine pr_bipush (v := 11) C dX9_correct_71 (by decide) ?_
        obtain ⟨r21, hc20, h⟩ := pr_b1_some h
        refine k_X9_of C pr_w507 hk0 hc20 (Nat.le_of_ble_eq_true rfl) (Nat.le_of_ble_eq_true rfl) (Nat.le_of_ble_eq_true rfl) dX9_correct_73 ?_
        refine pr_istore (lv' := [(6, .int r21), (5, .int v18), (0, .ref (pr_ad (pr_EM l e) c)), (1, .int p1), (2, .int r5), (3, .int r7), (4, .int v12)]) C dX9_correct_76 (by decide) rfl ?_
        refine pr_aload_n C dX9_correct_78 rfl 2 rfl ?_
        refine pr_iload_n C dX9_correct_79 rfl 3 rfl ?_
        refine pr_bipush (v := 12) C dX9_correct_80 (by decide) ?_
        obtain ⟨r23, hc22, h⟩ := pr_b1_some h
        refine k_X9_of C pr_w507 hk0 hc22 (Nat.le_of_ble_eq_true rfl) (Nat.le_of_ble_eq_true rfl) (Nat.le_of_ble_eq_true rfl) dX9_correct_82 ?_
        refine pr_istore (lv' := [(7, .int r23), (6, .int r21), (5, .int v18), (0, .ref (pr_ad (pr_EM l e) c)), (1, .int p1), (2, .int r5), (3, .int r7), (4, .int v12)]) C dX9_correct_85 (by decide) rfl ?_
        refine pr_iload C dX9_correct_87 7 rfl ?_
        refine pr_if_eq (tgt := 178) C dX9_correct_89 (by decide) (fun c24 => ?_) (fun c24 => ?_)
        · have h := pr_ifT h c24
          refine pr_iload C dX9_correct_178 2 rfl ?_
          refine pr_if_eq (tgt := 232) C dX9_correct_180 (by decide) (fun c25 => ?_) (fun c25 => ?_)
          · have h := pr_ifT h c25
            refine pr_iload C dX9_correct_232 7 rfl ?_
            refine pr_if_ne (tgt := 242) C dX9_correct_234 (by decide) (fun c26 => absurd c24 c26) (fun _ => ?_)
            refine pr_iload C dX9_correct_237 2 rfl ?_
            refine pr_if_eq (tgt := 291) C dX9_correct_239 (by decide) (fun _ => ?_) (fun c27 => absurd c25 c27)
            obtain ⟨rfl, rfl⟩ := pr_inj h
            exact pr_vret C Z dX9_correct_291
          · have h := pr_ifF h c25
            refine pr_aload_n C dX9_correct_183 rfl 3 rfl ?_
            refine pr_iload_n C dX9_correct_184 rfl 4 rfl ?_
            refine pr_iconst (v := 4) C dX9_correct_185 (by decide) ?_
            obtain ⟨r29, hc28, h⟩ := pr_b1_some h
            refine k_X9_of C pr_w507 hk0 hc28 (Nat.le_of_ble_eq_true rfl) (Nat.le_of_ble_eq_true rfl) (Nat.le_of_ble_eq_true rfl) dX9_correct_186 ?_
            refine pr_iload_n C dX9_correct_189 rfl 6 rfl ?_
            refine pr_imul C dX9_correct_190 ?_
            refine pr_ineg C dX9_correct_191 ?_
            refine pr_sipush (v := 256) C dX9_correct_192 (by decide) ?_
            refine pr_idiv C dX9_correct_195 (by decide) ?_
            refine pr_aload_n C dX9_correct_196 rfl 3 rfl ?_
            refine pr_iload_n C dX9_correct_197 rfl 4 rfl ?_
            refine pr_bipush (v := 7) C dX9_correct_198 (by decide) ?_
            obtain ⟨r31, hc30, h⟩ := pr_b1_some h
            refine k_X9_of C pr_w507 hk0 hc30 (Nat.le_of_ble_eq_true rfl) (Nat.le_of_ble_eq_true rfl) (Nat.le_of_ble_eq_true rfl) dX9_correct_200 ?_
            obtain ⟨r33, hc32, h⟩ := pr_b1_some h
            refine k_X9_limited C pr_w568  hc32 (Nat.le_of_ble_eq_true rfl) (Nat.le_of_ble_eq_true rfl) (Nat.le_of_ble_eq_true rfl) dX9_correct_203 ?_
            refine pr_istore (lv' := [(8, .int r33), (7, .int r23), (6, .int r21), (5, .int v18), (0, .ref (pr_ad (pr_EM l e) c)), (1, .int p1), (2, .int r5), (3, .int r7), (4, .int v12)]) C dX9_correct_206 (by decide) rfl ?_
            refine pr_aload_n C dX9_correct_208 rfl 4 rfl ?_
            refine pr_iload_n C dX9_correct_209 rfl 5 rfl ?_
            refine pr_bipush (v := 12) C dX9_correct_210 (by decide) ?_
            refine pr_iload C dX9_correct_212 1 rfl ?_
            refine pr_iload C dX9_correct_214 0 rfl ?_
            refine pr_iadd C dX9_correct_216 ?_
            refine pr_sipush (v := 3000) C dX9_correct_217 (by decide) ?_
            obtain ⟨r35, hc34, h⟩ := pr_b1_some h
            refine k_X9_limited C pr_w568  hc34 (Nat.le_of_ble_eq_true rfl) (Nat.le_of_ble_eq_true rfl) (Nat.le_of_ble_eq_true rfl) dX9_correct_220 ?_
            obtain ⟨u37, f38, hc36, h⟩ := pr_bd_some h
            refine k_X9_lay C pr_w483 hk0 hc36 (Nat.le_of_ble_eq_true rfl) (Nat.le_of_ble_eq_true rfl) (Nat.le_of_ble_eq_true rfl) dX9_correct_223 ?_
            refine pr_aload_n C dX9_correct_226 rfl 4 rfl ?_
            refine pr_iconst (v := 4) C dX9_correct_227 (by decide) ?_
            refine pr_iconst (v := 1) C dX9_correct_228 (by decide) ?_
            obtain ⟨u40, f41, hc39, h⟩ := pr_bd_some h
            refine k_X9_tally C pr_w560 hk0 hc39 (Nat.le_of_ble_eq_true rfl) (Nat.le_of_ble_eq_true rfl) (Nat.le_of_ble_eq_true rfl) dX9_correct_229 ?_
            refine pr_iload C dX9_correct_232 8 rfl ?_
            refine pr_if_ne (tgt := 242) C dX9_correct_234 (by decide) (fun c42 => absurd c24 c42) (fun _ => ?_)
            refine pr_iload C dX9_correct_237 3 rfl ?_
            refine pr_if_eq (tgt := 291) C dX9_correct_239 (by decide) (fun c43 => absurd c43 c25) (fun _ => ?_)
            refine pr_aload_n C dX9_correct_242 rfl 4 rfl ?_
            refine pr_iload_n C dX9_correct_243 rfl 5 rfl ?_
            refine pr_bipush (v := 27) C dX9_correct_244 (by decide) ?_
            refine pr_aload_n C dX9_correct_246 rfl 4 rfl ?_
            refine pr_iload_n C dX9_correct_247 rfl 5 rfl ?_
            refine pr_bipush (v := 11) C dX9_correct_248 (by decide) ?_
            obtain ⟨r45, hc44, h⟩ := pr_b1_some h
            refine k_X9_of C pr_w507 hk0 hc44 (Nat.le_of_ble_eq_true rfl) (Nat.le_of_ble_eq_true rfl) (Nat.le_of_ble_eq_true rfl) dX9_correct_250 ?_
            refine pr_iload C dX9_correct_253 2 rfl ?_
            refine pr_isub C dX9_correct_255 ?_
            obtain ⟨u47, f48, hc46, h⟩ := pr_bd_some h
            refine k_X9_lay C pr_w483 hk0 hc46 (Nat.le_of_ble_eq_true rfl) (Nat.le_of_ble_eq_true rfl) (Nat.le_of_ble_eq_true rfl) dX9_correct_256 ?_
            refine pr_aload_n C dX9_correct_259 rfl 4 rfl ?_
            refine pr_iload_n C dX9_correct_260 rfl 5 rfl ?_
            refine pr_bipush (v := 28) C dX9_correct_261 (by decide) ?_
            refine pr_aload_n C dX9_correct_263 rfl 4 rfl ?_
            refine pr_iload_n C dX9_correct_264 rfl 5 rfl ?_
            refine pr_bipush (v := 12) C dX9_correct_265 (by decide) ?_
            obtain ⟨r50, hc49, h⟩ := pr_b1_some h
            refine k_X9_of C pr_w507 hk0 hc49 (Nat.le_of_ble_eq_true rfl) (Nat.le_of_ble_eq_true rfl) (Nat.le_of_ble_eq_true rfl) dX9_correct_267 ?_
            refine pr_iload C dX9_correct_270 1 rfl ?_
            refine pr_isub C dX9_correct_272 ?_
            obtain ⟨u52, f53, hc51, h⟩ := pr_bd_some h
            refine k_X9_lay C pr_w483 hk0 hc51 (Nat.le_of_ble_eq_true rfl) (Nat.le_of_ble_eq_true rfl) (Nat.le_of_ble_eq_true rfl) dX9_correct_273 ?_
            refine pr_aload_n C dX9_correct_276 rfl 4 rfl ?_
            refine pr_iload_n C dX9_correct_277 rfl 5 rfl ?_
            refine pr_bipush (v := 16) C dX9_correct_278 (by decide) ?_
            refine pr_aload_n C dX9_correct_280 rfl 4 rfl ?_
            refine pr_iload_n C dX9_correct_281 rfl 5 rfl ?_
            refine pr_iconst (v := 1) C dX9_correct_282 (by decide) ?_
            obtain ⟨r55, hc54, h⟩ := pr_b1_some h
            refine k_X9_of C pr_w507 hk0 hc54 (Nat.le_of_ble_eq_true rfl) (Nat.le_of_ble_eq_true rfl) (Nat.le_of_ble_eq_true rfl) dX9_correct_283 ?_
            refine pr_iconst (v := 1) C dX9_correct_286 (by decide) ?_
            refine pr_iadd C dX9_correct_287 ?_
            obtain ⟨u57, f58, hc56, h⟩ := pr_bd_some h
            refine k_X9_lay C pr_w483 hk0 hc56 (Nat.le_of_ble_eq_true rfl) (Nat.le_of_ble_eq_true rfl) (Nat.le_of_ble_eq_true rfl) dX9_correct_288 ?_
            obtain ⟨rfl, rfl⟩ := pr_inj h
            exact pr_vret C Z dX9_correct_291
        · have h := pr_ifF h c24
          refine pr_aload_n C dX9_correct_92 rfl 3 rfl ?_
          refine pr_iload_n C dX9_correct_93 rfl 4 rfl ?_
          refine pr_bipush (v := 15) C dX9_correct_94 (by decide) ?_
          refine pr_aload_n C dX9_correct_96 rfl 3 rfl ?_
          refine pr_iload_n C dX9_correct_97 rfl 4 rfl ?_
          refine pr_bipush (v := 15) C dX9_correct_98 (by decide) ?_
          obtain ⟨r60, hc59, h⟩ := pr_b1_some h
          refine k_X9_of C pr_w507 hk0 hc59 (Nat.le_of_ble_eq_true rfl) (Nat.le_of_ble_eq_true rfl) (Nat.le_of_ble_eq_true rfl) dX9_correct_100 ?_
          refine pr_iload_n C dX9_correct_103 rfl 5 rfl ?_
          refine pr_iadd C dX9_correct_104 ?_
          refine pr_sipush (v := 20000) C dX9_correct_105 (by decide) ?_
          obtain ⟨r62, hc61, h⟩ := pr_b1_some h
          refine k_X9_limited C pr_w568  hc61 (Nat.le_of_ble_eq_true rfl) (Nat.le_of_ble_eq_true rfl) (Nat.le_of_ble_eq_true rfl) dX9_correct_108 ?_
          obtain ⟨u64, f65, hc63, h⟩ := pr_bd_some h
          refine k_X9_lay C pr_w483 hk0 hc63 (Nat.le_of_ble_eq_true rfl) (Nat.le_of_ble_eq_true rfl) (Nat.le_of_ble_eq_true rfl) dX9_correct_111 ?_
          refine pr_aload_n C dX9_correct_114 rfl 3 rfl ?_
          refine pr_iload_n C dX9_correct_115 rfl 4 rfl ?_
          refine pr_iconst (v := 4) C dX9_correct_116 (by decide) ?_
          obtain ⟨r67, hc66, h⟩ := pr_b1_some h
          refine k_X9_of C pr_w507 hk0 hc66 (Nat.le_of_ble_eq_true rfl) (Nat.le_of_ble_eq_true rfl) (Nat.le_of_ble_eq_true rfl) dX9_correct_117 ?_
          refine pr_iload_n C dX9_correct_120 rfl 5 rfl ?_
          refine pr_imul C dX9_correct_121 ?_
          refine pr_aload_n C dX9_correct_122 rfl 3 rfl ?_
          refine pr_iload_n C dX9_correct_123 rfl 4 rfl ?_
          refine pr_iconst (v := 5) C dX9_correct_124 (by decide) ?_
          obtain ⟨r69, hc68, h⟩ := pr_b1_some h
          refine k_X9_of C pr_w507 hk0 hc68 (Nat.le_of_ble_eq_true rfl) (Nat.le_of_ble_eq_true rfl) (Nat.le_of_ble_eq_true rfl) dX9_correct_125 ?_
          refine pr_aload_n C dX9_correct_128 rfl 3 rfl ?_
          refine pr_iload_n C dX9_correct_129 rfl 4 rfl ?_
          refine pr_bipush (v := 15) C dX9_correct_130 (by decide) ?_
          obtain ⟨r71, hc70, h⟩ := pr_b1_some h
          refine k_X9_of C pr_w507 hk0 hc70 (Nat.le_of_ble_eq_true rfl) (Nat.le_of_ble_eq_true rfl) (Nat.le_of_ble_eq_true rfl) dX9_correct_132 ?_
          refine pr_imul C dX9_correct_135 ?_
          refine pr_iadd C dX9_correct_136 ?_
          refine pr_ineg C dX9_correct_137 ?_
          refine pr_sipush (v := 256) C dX9_correct_138 (by decide) ?_
          refine pr_idiv C dX9_correct_141 (by decide) ?_
          refine pr_aload_n C dX9_correct_142 rfl 3 rfl ?_
          refine pr_iload_n C dX9_correct_143 rfl 4 rfl ?_
          refine pr_bipush (v := 7) C dX9_correct_144 (by decide) ?_
          obtain ⟨r73, hc72, h⟩ := pr_b1_some h
          refine k_X9_of C pr_w507 hk0 hc72 (Nat.le_of_ble_eq_true rfl) (Nat.le_of_ble_eq_true rfl) (Nat.le_of_ble_eq_true rfl) dX9_correct_146 ?_
          obtain ⟨r75, hc74, h⟩ := pr_b1_some h
          refine k_X9_limited C pr_w568  hc74 (Nat.le_of_ble_eq_true rfl) (Nat.le_of_ble_eq_true rfl) (Nat.le_of_ble_eq_true rfl) dX9_correct_149 ?_
          refine pr_istore (lv' := [(8, .int r75), (7, .int r23), (6, .int r21), (5, .int v18), (0, .ref (pr_ad (pr_EM l e) c)), (1, .int p1), (2, .int r5), (3, .int r7), (4, .int v12)]) C dX9_correct_152 (by decide) rfl ?_
          refine pr_aload_n C dX9_correct_154 rfl 4 rfl ?_
          refine pr_iload_n C dX9_correct_155 rfl 5 rfl ?_
          refine pr_bipush (v := 11) C dX9_correct_156 (by decide) ?_
          refine pr_iload C dX9_correct_158 2 rfl ?_
          refine pr_iload C dX9_correct_160 0 rfl ?_
          refine pr_iadd C dX9_correct_162 ?_
          refine pr_sipush (v := 5000) C dX9_correct_163 (by decide) ?_
          obtain ⟨r77, hc76, h⟩ := pr_b1_some h
          refine k_X9_limited C pr_w568  hc76 (Nat.le_of_ble_eq_true rfl) (Nat.le_of_ble_eq_true rfl) (Nat.le_of_ble_eq_true rfl) dX9_correct_166 ?_
          obtain ⟨u79, f80, hc78, h⟩ := pr_bd_some h
          refine k_X9_lay C pr_w483 hk0 hc78 (Nat.le_of_ble_eq_true rfl) (Nat.le_of_ble_eq_true rfl) (Nat.le_of_ble_eq_true rfl) dX9_correct_169 ?_
          refine pr_aload_n C dX9_correct_172 rfl 4 rfl ?_
          refine pr_iconst (v := 3) C dX9_correct_173 (by decide) ?_
          refine pr_iconst (v := 1) C dX9_correct_174 (by decide) ?_
          obtain ⟨u82, f83, hc81, h⟩ := pr_bd_some h
          refine k_X9_tally C pr_w560 hk0 hc81 (Nat.le_of_ble_eq_true rfl) (Nat.le_of_ble_eq_true rfl) (Nat.le_of_ble_eq_true rfl) dX9_correct_175 ?_
          refine pr_iload C dX9_correct_178 3 rfl ?_
          refine pr_if_eq (tgt := 232) C dX9_correct_180 (by decide) (fun c84 => ?_) (fun c84 => ?_)
          · have h := pr_ifT h c84
            refine pr_iload C dX9_correct_232 8 rfl ?_
            refine pr_if_ne (tgt := 242) C dX9_correct_234 (by decide) (fun _ => ?_) (fun c85 => absurd c85 c24)
            refine pr_aload_n C dX9_correct_242 rfl 4 rfl ?_
            refine pr_iload_n C dX9_correct_243 rfl 5 rfl ?_
            refine pr_bipush (v := 27) C dX9_correct_244 (by decide) ?_
            refine pr_aload_n C dX9_correct_246 rfl 4 rfl ?_
            refine pr_iload_n C dX9_correct_247 rfl 5 rfl ?_
            refine pr_bipush (v := 11) C dX9_correct_248 (by decide) ?_
            obtain ⟨r87, hc86, h⟩ := pr_b1_some h
            refine k_X9_of C pr_w507 hk0 hc86 (Nat.le_of_ble_eq_true rfl) (Nat.le_of_ble_eq_true rfl) (Nat.le_of_ble_eq_true rfl) dX9_correct_250 ?_
            refine pr_iload C dX9_correct_253 2 rfl ?_
            refine pr_isub C dX9_correct_255 ?_
            obtain ⟨u89, f90, hc88, h⟩ := pr_bd_some h
            refine k_X9_lay C pr_w483 hk0 hc88 (Nat.le_of_ble_eq_true rfl) (Nat.le_of_ble_eq_true rfl) (Nat.le_of_ble_eq_true rfl) dX9_correct_256 ?_
            refine pr_aload_n C dX9_correct_259 rfl 4 rfl ?_
            refine pr_iload_n C dX9_correct_260 rfl 5 rfl ?_
            refine pr_bipush (v := 28) C dX9_correct_261 (by decide) ?_
            refine pr_aload_n C dX9_correct_263 rfl 4 rfl ?_
            refine pr_iload_n C dX9_correct_264 rfl 5 rfl ?_
            refine pr_bipush (v := 12) C dX9_correct_265 (by decide) ?_
            obtain ⟨r92, hc91, h⟩ := pr_b1_some h
            refine k_X9_of C pr_w507 hk0 hc91 (Nat.le_of_ble_eq_true rfl) (Nat.le_of_ble_eq_true rfl) (Nat.le_of_ble_eq_true rfl) dX9_correct_267 ?_
            refine pr_iload C dX9_correct_270 1 rfl ?_
            refine pr_isub C dX9_correct_272 ?_
            obtain ⟨u94, f95, hc93, h⟩ := pr_bd_some h
            refine k_X9_lay C pr_w483 hk0 hc93 (Nat.le_of_ble_eq_true rfl) (Nat.le_of_ble_eq_true rfl) (Nat.le_of_ble_eq_true rfl) dX9_correct_273 ?_
            refine pr_aload_n C dX9_correct_276 rfl 4 rfl ?_
            refine pr_iload_n C dX9_correct_277 rfl 5 rfl ?_
            refine pr_bipush (v := 16) C dX9_correct_278 (by decide) ?_
            refine pr_aload_n C dX9_correct_280 rfl 4 rfl ?_
            refine pr_iload_n C dX9_correct_281 rfl 5 rfl ?_
            refine pr_iconst (v := 1) C dX9_correct_282 (by decide) ?_
            obtain ⟨r97, hc96, h⟩ := pr_b1_some h
            refine k_X9_of C pr_w507 hk0 hc96 (Nat.le_of_ble_eq_true rfl) (Nat.le_of_ble_eq_true rfl) (Nat.le_of_ble_eq_true rfl) dX9_correct_283 ?_
            refine pr_iconst (v := 1) C dX9_correct_286 (by decide) ?_
            refine pr_iadd C dX9_correct_287 ?_
            obtain ⟨u99, f100, hc98, h⟩ := pr_bd_some h
            refine k_X9_lay C pr_w483 hk0 hc98 (Nat.le_of_ble_eq_true rfl) (Nat.le_of_ble_eq_true rfl) (Nat.le_of_ble_eq_true rfl) dX9_correct_288 ?_
            obtain ⟨rfl, rfl⟩ := pr_inj h
            exact pr_vret C Z dX9_correct_291
          · have h := pr_ifF h c84
            refine pr_aload_n C dX9_correct_183 rfl 4 rfl ?_
            refine pr_iload_n C dX9_correct_184 rfl 5 rfl ?_
            refine pr_iconst (v := 4) C dX9_correct_185 (by decide) ?_
            obtain ⟨r102, hc101, h⟩ := pr_b1_some h
            refine k_X9_of C pr_w507 hk0 hc101 (Nat.le_of_ble_eq_true rfl) (Nat.le_of_ble_eq_true rfl) (Nat.le_of_ble_eq_true rfl) dX9_correct_186 ?_
            refine pr_iload_n C dX9_correct_189 rfl 7 rfl ?_
            refine pr_imul C dX9_correct_190 ?_
            refine pr_ineg C dX9_correct_191 ?_
            refine pr_sipush (v := 256) C dX9_correct_192 (by decide) ?_
            refine pr_idiv C dX9_correct_195 (by decide) ?_
            refine pr_aload_n C dX9_correct_196 rfl 4 rfl ?_
            refine pr_iload_n C dX9_correct_197 rfl 5 rfl ?_
            refine pr_bipush (v := 7) C dX9_correct_198 (by decide) ?_
            obtain ⟨r104, hc103, h⟩ := pr_b1_some h
            refine k_X9_of C pr_w507 hk0 hc103 (Nat.le_of_ble_eq_true rfl) (Nat.le_of_ble_eq_true rfl) (Nat.le_of_ble_eq_true rfl) dX9_correct_200 ?_
            obtain ⟨r106, hc105, h⟩ := pr_b1_some h
            refine k_X9_limited C pr_w568  hc105 (Nat.le_of_ble_eq_true rfl) (Nat.le_of_ble_eq_true rfl) (Nat.le_of_ble_eq_true rfl) dX9_correct_203 ?_
            refine pr_istore (lv' := [(8, .int r106), (7, .int r23), (6, .int r21), (5, .int v18), (0, .ref (pr_ad (pr_EM l e) c)), (1, .int p1), (2, .int r5), (3, .int r7), (4, .int v12)]) C dX9_correct_206 (by decide) rfl ?_
            refine pr_aload_n C dX9_correct_208 rfl 4 rfl ?_
            refine pr_iload_n C dX9_correct_209 rfl 5 rfl ?_
            refine pr_bipush (v := 12) C dX9_correct_210 (by decide) ?_
            refine pr_iload C dX9_correct_212 1 rfl ?_
            refine pr_iload C dX9_correct_214 0 rfl ?_
            refine pr_iadd C dX9_correct_216 ?_
            refine pr_sipush (v := 3000) C dX9_correct_217 (by decide) ?_
            obtain ⟨r108, hc107, h⟩ := pr_b1_some h
            refine k_X9_limited C pr_w568  hc107 (Nat.le_of_ble_eq_true rfl) (Nat.le_of_ble_eq_true rfl) (Nat.le_of_ble_eq_true rfl) dX9_correct_220 ?_
            obtain ⟨u110, f111, hc109, h⟩ := pr_bd_some h
            refine k_X9_lay C pr_w483 hk0 hc109 (Nat.le_of_ble_eq_true rfl) (Nat.le_of_ble_eq_true rfl) (Nat.le_of_ble_eq_true rfl) dX9_correct_223 ?_
            refine pr_aload_n C dX9_correct_226 rfl 4 rfl ?_
            refine pr_iconst (v := 4) C dX9_correct_227 (by decide) ?_
            refine pr_iconst (v := 1) C dX9_correct_228 (by decide) ?_
            obtain ⟨u113, f114, hc112, h⟩ := pr_bd_some h
            refine k_X9_tally C pr_w560 hk0 hc112 (Nat.le_of_ble_eq_true rfl) (Nat.le_of_ble_eq_true rfl) (Nat.le_of_ble_eq_true rfl) dX9_correct_229 ?_
            refine pr_iload C dX9_correct_232 8 rfl ?_
            refine pr_if_ne (tgt := 242) C dX9_correct_234 (by decide) (fun _ => ?_) (fun c115 => absurd c115 c24)
            refine pr_aload_n C dX9_correct_242 rfl 4 rfl ?_
            refine pr_iload_n C dX9_correct_243 rfl 5 rfl ?_
            refine pr_bipush (v := 27) C dX9_correct_244 (by decide) ?_
            refine pr_aload_n C dX9_correct_246 rfl 4 rfl ?_
            refine pr_iload_n C dX9_correct_247 rfl 5 rfl ?_
            refine pr_bipush (v := 11) C dX9_correct_248 (by decide) ?_
            obtain ⟨r117, hc116, h⟩ := pr_b1_some h
            refine k_X9_of C pr_w507 hk0 hc116 (Nat.le_of_ble_eq_true rfl) (Nat.le_of_ble_eq_true rfl) (Nat.le_of_ble_eq_true rfl) dX9_correct_250 ?_
            refine pr_iload C dX9_correct_253 2 rfl ?_
            refine pr_isub C dX9_correct_255 ?_
            obtain ⟨u119, f120, hc118, h⟩ := pr_bd_some h
            refine k_X9_lay C pr_w483 hk0 hc118 (Nat.le_of_ble_eq_true rfl) (Nat.le_of_ble_eq_true rfl) (Nat.le_of_ble_eq_true rfl) dX9_correct_256 ?_
            refine pr_aload_n C dX9_correct_259 rfl 4 rfl ?_
            refine pr_iload_n C dX9_correct_260 rfl 5 rfl ?_
            refine pr_bipush (v := 28) C dX9_correct_261 (by decide) ?_
            refine pr_aload_n C dX9_correct_263 rfl 4 rfl ?_
            refine pr_iload_n C dX9_correct_264 rfl 5 rfl ?_
            refine pr_bipush (v := 12) C dX9_correct_265 (by decide) ?_
            obtain ⟨r122, hc121, h⟩ := pr_b1_some h
            refine k_X9_of C pr_w507 hk0 hc121 (Nat.le_of_ble_eq_true rfl) (Nat.le_of_ble_eq_true rfl) (Nat.le_of_ble_eq_true rfl) dX9_correct_267 ?_
            refine pr_iload C dX9_correct_270 1 rfl ?_
            refine pr_isub C dX9_correct_272 ?_
            obtain ⟨u124, f125, hc123, h⟩ := pr_bd_some h
            refine k_X9_lay C pr_w483 hk0 hc123 (Nat.le_of_ble_eq_true rfl) (Nat.le_of_ble_eq_true rfl) (Nat.le_of_ble_eq_true rfl) dX9_correct_273 ?_
            refine pr_aload_n C dX9_correct_276 rfl 4 rfl ?_
            refine pr_iload_n C dX9_correct_277 rfl 5 rfl ?_
            refine pr_bipush (v := 16) C dX9_correct_278 (by decide) ?_
            refine pr_aload_n C dX9_correct_280 rfl 4 rfl ?_
            refine pr_iload_n C dX9_correct_281 rfl 5 rfl ?_
            refine pr_iconst (v := 1) C dX9_correct_282 (by decide) ?_
            obtain ⟨r127, hc126, h⟩ := pr_b1_some h
            refine k_X9_of C pr_w507 hk0 hc126 (Nat.le_of_ble_eq_true rfl) (Nat.le_of_ble_eq_true rfl) (Nat.le_of_ble_eq_true rfl) dX9_correct_283 ?_
            refine pr_iconst (v := 1) C dX9_correct_286 (by decide) ?_
            refine pr_iadd C dX9_correct_287 ?_
            obtain ⟨u129, f130, hc128, h⟩ := pr_bd_some h
            refine k_X9_lay C pr_w483 hk0 hc128 (Nat.le_of_ble_eq_true rfl) (Nat.le_of_ble_eq_true rfl) (Nat.le_of_ble_eq_true rfl) dX9_correct_288 ?_
            obtain ⟨rfl, rfl⟩ := pr_inj h
            exact pr_vret C Z dX9_correct_291
      clear h
      have h := hv
      clear hv
      refine pr_icmp_le (tgt := 66) C dX9_correct_59 (by decide) (fun c19 => ?_) (fun c19 => ?_)
      · have h := pr_ifT h c19
        refine pr_iconst (v := 0) C dX9_correct_66 (by decide) ?_
        obtain rfl := pr_in1 h
        exact pr_pick [1, 2, 3, 4, 0] rfl K
      · have h := pr_ifF h c19
        refine pr_iconst (v := 1) C dX9_correct_62 (by decide) ?_
        refine pr_goto (tgt := 67) C dX9_correct_63 (by decide) ?_
        obtain rfl := pr_in1 h
        exact pr_pick [1, 2, 3, 4, 0] rfl K
    clear h
    have h := hv
    clear hv
    refine pr_icmp_le (tgt := 45) C dX9_correct_38 (by decide) (fun c13 => ?_) (fun c13 => ?_)
    · have h := pr_ifT h c13
      refine pr_iconst (v := 0) C dX9_correct_45 (by decide) ?_
      obtain rfl := pr_in1 h
      exact pr_pick [2, 3, 1, 0] rfl K
    · have h := pr_ifF h c13
      refine pr_iconst (v := 1) C dX9_correct_41 (by decide) ?_
      refine pr_goto (tgt := 46) C dX9_correct_42 (by decide) ?_
      obtain rfl := pr_in1 h
      exact pr_pick [2, 3, 1, 0] rfl K
  · have h := pr_ifF h c3
    obtain ⟨rfl, rfl⟩ := pr_inj h
    exact pr_vret C Z dX9_correct_10
theorem k_X9_correct {l : Launch} {e : pr_E0} {Y : pr_Y} {Rm : Room} {cc : ByteArray} {own : String} {nL : Nat} {c0 : Cond} {pc idx : Nat} {lv : List (Nat × Value)} {st : List Value} {c : Nat} {p1 : Int32} {f : pr_M} {r : Unit} {g : pr_M} (C : pr_C (pr_EM l e) Y Rm cc own nL c0) (w1 : Cond.methodLink own idx yX9_correct ∈ pr_AL) (hk0 : pr_LM[c]? = some (9, 0)) (h : F_X9_correct c p1 f = some (r, g)) (hr1 : 3 ≤ Rm.frames) (hr2 : 72 ≤ Rm.locals) (hcat : (st.map fun v => v.category).sum ≤ 8) (hdg : decode cc pc = .ok (.invokevirtual idx, 3)) (k : pr_W (pr_EM l e) Y Rm nL g (pc + 3) lv (st)) : pr_W (pr_EM l e) Y Rm nL f pc lv (.int p1 :: .ref (pr_ad (pr_EM l e) c) :: st) :=
  pr_callV (As := [.int p1]) (n := 1) C (m_X9_correct hk0 h) hk0 (by decide) rfl w1 pr_w599 pr_w600 pr_w479 pr_w571 rfl rfl ⟨rfl, by decide +kernel, by decide +kernel, by decide +kernel⟩ rfl ⟨hr1, hr2⟩ rfl hcat hdg k

def F_X9_decrease (c : Nat) (p1 : Int32) (p2 : Int32) (f : pr_M) : Option (Unit × pr_M) :=
  pr_b1 (F_X9_of c p1 p2 f) fun r2 =>
  pr_b1 (α := Int32) (
    if r2 ≤ 0 then (
      some 0
    ) else (
      pr_b1 (F_X9_of c p1 p2 f) fun r6 =>
      some (r6 - 1)
    )
  ) fun v3 =>
  pr_bd (F_X9_lay c p1 p2 v3 f) fun u8 f9 =>
  some ((), f9)
set_option maxHeartbeats 4000000 in
set_option maxRecDepth 100000 in
theorem m_X9_decrease {l : Launch} {e : pr_E0} {c : Nat} {p1 : Int32} {p2 : Int32} {f : pr_M} {r : Unit} {g : pr_M} (hk0 : pr_LM[c]? = some (9, 0)) (h : F_X9_decrease c p1 p2 f = some (r, g)) : pr_Met (pr_EM l e) yX9_decrease cX9_decrease 3 none { frames := 2, cells := 0, slots := 0, locals := 44 } [.ref (pr_ad (pr_EM l e) c), .int p1, .int p2] f none g := by
  rw [F_X9_decrease] at h
  refine pr_enter (by decide +kernel) (Nat.le_of_ble_eq_true rfl) (fun Y C Z => ?_)
  replace C : pr_C (pr_EM l e) Y { frames := 2, cells := 0, slots := 0, locals := 44 } cX9_decrease RX9 3 _ := C
  show pr_W (pr_EM l e) Y _ 3 f 0 [(0, .ref (pr_ad (pr_EM l e) c)), (1, .int p1), (2, .int p2)] []
  refine pr_aload_n C dX9_decrease_0 rfl 0 rfl ?_
  refine pr_iload_n C dX9_decrease_1 rfl 1 rfl ?_
  refine pr_iload_n C dX9_decrease_2 rfl 2 rfl ?_
  refine pr_aload_n C dX9_decrease_3 rfl 0 rfl ?_
  refine pr_iload_n C dX9_decrease_4 rfl 1 rfl ?_
  refine pr_iload_n C dX9_decrease_5 rfl 2 rfl ?_
  obtain ⟨r2, hc1, h⟩ := pr_b1_some h
  refine k_X9_of C pr_w507 hk0 hc1 (Nat.le_of_ble_eq_true rfl) (Nat.le_of_ble_eq_true rfl) (Nat.le_of_ble_eq_true rfl) dX9_decrease_6 ?_
  obtain ⟨v3, hv, h⟩ := pr_b1_some h
  have K : pr_W (pr_EM l e) Y { frames := 2, cells := 0, slots := 0, locals := 44 } 3 f 24 [] [.int v3, .int p2, .int p1, .ref (pr_ad (pr_EM l e) c)] := by
    obtain ⟨u8, f9, hc7, h⟩ := pr_bd_some h
    refine k_X9_lay C pr_w483 hk0 hc7 (Nat.le_of_ble_eq_true rfl) (Nat.le_of_ble_eq_true rfl) (Nat.le_of_ble_eq_true rfl) dX9_decrease_24 ?_
    obtain ⟨rfl, rfl⟩ := pr_inj h
    exact pr_vret C Z dX9_decrease_27
  clear h
  have h := hv
  clear hv
  refine pr_if_le (tgt := 23) C dX9_decrease_9 (by decide) (fun c4 => ?_) (fun c4 => ?_)
  · have h := pr_ifT h c4
    refine pr_iconst (v := 0) C dX9_decrease_23 (by decide) ?_
    obtain rfl := pr_in1 h
    exact pr_pick [] rfl K
  · have h := pr_ifF h c4
    refine pr_aload_n C dX9_decrease_12 rfl 0 rfl ?_
    refine pr_iload_n C dX9_decrease_13 rfl 1 rfl ?_
    refine pr_iload_n C dX9_decrease_14 rfl 2 rfl ?_
    obtain ⟨r6, hc5, h⟩ := pr_b1_some h
    refine k_X9_of C pr_w507 hk0 hc5 (Nat.le_of_ble_eq_true rfl) (Nat.le_of_ble_eq_true rfl) (Nat.le_of_ble_eq_true rfl) dX9_decrease_15 ?_
    refine pr_iconst (v := 1) C dX9_decrease_18 (by decide) ?_
    refine pr_isub C dX9_decrease_19 ?_
    refine pr_goto (tgt := 24) C dX9_decrease_20 (by decide) ?_
    obtain rfl := pr_in1 h
    exact pr_pick [] rfl K
theorem k_X9_decrease {l : Launch} {e : pr_E0} {Y : pr_Y} {Rm : Room} {cc : ByteArray} {own : String} {nL : Nat} {c0 : Cond} {pc idx : Nat} {lv : List (Nat × Value)} {st : List Value} {c : Nat} {p1 : Int32} {p2 : Int32} {f : pr_M} {r : Unit} {g : pr_M} (C : pr_C (pr_EM l e) Y Rm cc own nL c0) (w1 : Cond.methodLink own idx yX9_decrease ∈ pr_AL) (hk0 : pr_LM[c]? = some (9, 0)) (h : F_X9_decrease c p1 p2 f = some (r, g)) (hr1 : 3 ≤ Rm.frames) (hr2 : 66 ≤ Rm.locals) (hcat : (st.map fun v => v.category).sum ≤ 8) (hdg : decode cc pc = .ok (.invokevirtual idx, 3)) (k : pr_W (pr_EM l e) Y Rm nL g (pc + 3) lv (st)) : pr_W (pr_EM l e) Y Rm nL f pc lv (.int p2 :: .int p1 :: .ref (pr_ad (pr_EM l e) c) :: st) :=
  pr_callV (As := [.int p1, .int p2]) (n := 2) C (m_X9_decrease hk0 h) hk0 (by decide) rfl w1 pr_w575 pr_w576 pr_w479 pr_w572 rfl rfl ⟨rfl, by decide +kernel, by decide +kernel, by decide +kernel⟩ rfl ⟨hr1, hr2⟩ rfl hcat hdg k

def F_X9_endRepeat (c : Nat) (p1 : Int32) (f : pr_M) : Option (Unit × pr_M) :=
  pr_b1 (F_X9_of c p1 16 f) fun r2 =>
  if r2 ≤ 0 then (
    pr_bd (F_X9_decrease c p1 18 f) fun u5 f6 =>
    pr_bd (F_X9_decrease c p1 23 f6) fun u8 f9 =>
    pr_bd (F_X9_decrease c p1 24 f9) fun u11 f12 =>
    pr_bd (F_X9_decrease c p1 26 f12) fun u14 f15 =>
    some ((), f15)
  ) else (
    pr_bd (F_X9_decrease c p1 16 f) fun u17 f18 =>
    pr_b1 (F_X9_of c p1 16 f18) fun r20 =>
    if r20 = 0 then (
      pr_b1 (F_X9_of c p1 19 f18) fun r35 =>
      pr_b1 (F_X9_of c p1 27 f18) fun r37 =>
      pr_bd (F_X9_lay c p1 19 (r35 + r37) f18) fun u39 f40 =>
      pr_b1 (F_X9_of c p1 20 f40) fun r42 =>
      pr_b1 (F_X9_of c p1 28 f40) fun r44 =>
      pr_bd (F_X9_lay c p1 20 (r42 + r44) f40) fun u46 f47 =>
      pr_bd (F_X9_decrease c p1 18 f47) fun u49 f50 =>
      pr_bd (F_X9_decrease c p1 23 f50) fun u52 f53 =>
      pr_bd (F_X9_decrease c p1 24 f53) fun u55 f56 =>
      pr_bd (F_X9_decrease c p1 26 f56) fun u58 f59 =>
      some ((), f59)
    ) else (
      pr_bd (F_X9_decrease c p1 18 f18) fun u23 f24 =>
      pr_bd (F_X9_decrease c p1 23 f24) fun u26 f27 =>
      pr_bd (F_X9_decrease c p1 24 f27) fun u29 f30 =>
      pr_bd (F_X9_decrease c p1 26 f30) fun u32 f33 =>
      some ((), f33)
    )
  )
set_option maxHeartbeats 4000000 in
set_option maxRecDepth 100000 in
theorem m_X9_endRepeat {l : Launch} {e : pr_E0} {c : Nat} {p1 : Int32} {f : pr_M} {r : Unit} {g : pr_M} (hk0 : pr_LM[c]? = some (9, 0)) (h : F_X9_endRepeat c p1 f = some (r, g)) : pr_Met (pr_EM l e) yX9_endRepeat cX9_endRepeat 2 none { frames := 3, cells := 0, slots := 0, locals := 66 } [.ref (pr_ad (pr_EM l e) c), .int p1] f none g := by
  rw [F_X9_endRepeat] at h
  refine pr_enter (by decide +kernel) (Nat.le_of_ble_eq_true rfl) (fun Y C Z => ?_)
  replace C : pr_C (pr_EM l e) Y { frames := 3, cells := 0, slots := 0, locals := 66 } cX9_endRepeat RX9 2 _ := C
  show pr_W (pr_EM l e) Y _ 2 f 0 [(0, .ref (pr_ad (pr_EM l e) c)), (1, .int p1)] []
  refine pr_aload_n C dX9_endRepeat_0 rfl 0 rfl ?_
  refine pr_iload_n C dX9_endRepeat_1 rfl 1 rfl ?_
  refine pr_bipush (v := 16) C dX9_endRepeat_2 (by decide) ?_
  obtain ⟨r2, hc1, h⟩ := pr_b1_some h
  refine k_X9_of C pr_w507 hk0 hc1 (Nat.le_of_ble_eq_true rfl) (Nat.le_of_ble_eq_true rfl) (Nat.le_of_ble_eq_true rfl) dX9_endRepeat_4 ?_
  refine pr_if_le (tgt := 71) C dX9_endRepeat_7 (by decide) (fun c3 => ?_) (fun c3 => ?_)
  · have h := pr_ifT h c3
    refine pr_aload_n C dX9_endRepeat_71 rfl 0 rfl ?_
    refine pr_iload_n C dX9_endRepeat_72 rfl 1 rfl ?_
    refine pr_bipush (v := 18) C dX9_endRepeat_73 (by decide) ?_
    obtain ⟨u5, f6, hc4, h⟩ := pr_bd_some h
    refine k_X9_decrease C pr_w574 hk0 hc4 (Nat.le_of_ble_eq_true rfl) (Nat.le_of_ble_eq_true rfl) (Nat.le_of_ble_eq_true rfl) dX9_endRepeat_75 ?_
    refine pr_aload_n C dX9_endRepeat_78 rfl 0 rfl ?_
    refine pr_iload_n C dX9_endRepeat_79 rfl 1 rfl ?_
    refine pr_bipush (v := 23) C dX9_endRepeat_80 (by decide) ?_
    obtain ⟨u8, f9, hc7, h⟩ := pr_bd_some h
    refine k_X9_decrease C pr_w574 hk0 hc7 (Nat.le_of_ble_eq_true rfl) (Nat.le_of_ble_eq_true rfl) (Nat.le_of_ble_eq_true rfl) dX9_endRepeat_82 ?_
    refine pr_aload_n C dX9_endRepeat_85 rfl 0 rfl ?_
    refine pr_iload_n C dX9_endRepeat_86 rfl 1 rfl ?_
    refine pr_bipush (v := 24) C dX9_endRepeat_87 (by decide) ?_
    obtain ⟨u11, f12, hc10, h⟩ := pr_bd_some h
    refine k_X9_decrease C pr_w574 hk0 hc10 (Nat.le_of_ble_eq_true rfl) (Nat.le_of_ble_eq_true rfl) (Nat.le_of_ble_eq_true rfl) dX9_endRepeat_89 ?_
    refine pr_aload_n C dX9_endRepeat_92 rfl 0 rfl ?_
    refine pr_iload_n C dX9_endRepeat_93 rfl 1 rfl ?_
    refine pr_bipush (v := 26) C dX9_endRepeat_94 (by decide) ?_
    obtain ⟨u14, f15, hc13, h⟩ := pr_bd_some h
    refine k_X9_decrease C pr_w574 hk0 hc13 (Nat.le_of_ble_eq_true rfl) (Nat.le_of_ble_eq_true rfl) (Nat.le_of_ble_eq_true rfl) dX9_endRepeat_96 ?_
    obtain ⟨rfl, rfl⟩ := pr_inj h
    exact pr_vret C Z dX9_endRepeat_99
  · have h := pr_ifF h c3
    refine pr_aload_n C dX9_endRepeat_10 rfl 0 rfl ?_
    refine pr_iload_n C dX9_endRepeat_11 rfl 1 rfl ?_
    refine pr_bipush (v := 16) C dX9_endRepeat_12 (by decide) ?_
    obtain ⟨u17, f18, hc16, h⟩ := pr_bd_some h
    refine k_X9_decrease C pr_w574 hk0 hc16 (Nat.le_of_ble_eq_true rfl) (Nat.le_of_ble_eq_true rfl) (Nat.le_of_ble_eq_true rfl) dX9_endRepeat_14 ?_
    refine pr_aload_n C dX9_endRepeat_17 rfl 0 rfl ?_
    refine pr_iload_n C dX9_endRepeat_18 rfl 1 rfl ?_
    refine pr_bipush (v := 16) C dX9_endRepeat_19 (by decide) ?_
    obtain ⟨r20, hc19, h⟩ := pr_b1_some h
    refine k_X9_of C pr_w507 hk0 hc19 (Nat.le_of_ble_eq_true rfl) (Nat.le_of_ble_eq_true rfl) (Nat.le_of_ble_eq_true rfl) dX9_endRepeat_21 ?_
    refine pr_if_ne (tgt := 71) C dX9_endRepeat_24 (by decide) (fun c21 => ?_) (fun c21 => ?_)
    · have h := pr_ifF h c21
      refine pr_aload_n C dX9_endRepeat_71 rfl 0 rfl ?_
      refine pr_iload_n C dX9_endRepeat_72 rfl 1 rfl ?_
      refine pr_bipush (v := 18) C dX9_endRepeat_73 (by decide) ?_
      obtain ⟨u23, f24, hc22, h⟩ := pr_bd_some h
      refine k_X9_decrease C pr_w574 hk0 hc22 (Nat.le_of_ble_eq_true rfl) (Nat.le_of_ble_eq_true rfl) (Nat.le_of_ble_eq_true rfl) dX9_endRepeat_75 ?_
      refine pr_aload_n C dX9_endRepeat_78 rfl 0 rfl ?_
      refine pr_iload_n C dX9_endRepeat_79 rfl 1 rfl ?_
      refine pr_bipush (v := 23) C dX9_endRepeat_80 (by decide) ?_
      obtain ⟨u26, f27, hc25, h⟩ := pr_bd_some h
      refine k_X9_decrease C pr_w574 hk0 hc25 (Nat.le_of_ble_eq_true rfl) (Nat.le_of_ble_eq_true rfl) (Nat.le_of_ble_eq_true rfl) dX9_endRepeat_82 ?_
      refine pr_aload_n C dX9_endRepeat_85 rfl 0 rfl ?_
      refine pr_iload_n C dX9_endRepeat_86 rfl 1 rfl ?_
      refine pr_bipush (v := 24) C dX9_endRepeat_87 (by decide) ?_
      obtain ⟨u29, f30, hc28, h⟩ := pr_bd_some h
      refine k_X9_decrease C pr_w574 hk0 hc28 (Nat.le_of_ble_eq_true rfl) (Nat.le_of_ble_eq_true rfl) (Nat.le_of_ble_eq_true rfl) dX9_endRepeat_89 ?_
      refine pr_aload_n C dX9_endRepeat_92 rfl 0 rfl ?_
      refine pr_iload_n C dX9_endRepeat_93 rfl 1 rfl ?_
      refine pr_bipush (v := 26) C dX9_endRepeat_94 (by decide) ?_
      obtain ⟨u32, f33, hc31, h⟩ := pr_bd_some h
      refine k_X9_decrease C pr_w574 hk0 hc31 (Nat.le_of_ble_eq_true rfl) (Nat.le_of_ble_eq_true rfl) (Nat.le_of_ble_eq_true rfl) dX9_endRepeat_96 ?_
      obtain ⟨rfl, rfl⟩ := pr_inj h
      exact pr_vret C Z dX9_endRepeat_99
    · have h := pr_ifT h c21
      refine pr_aload_n C dX9_endRepeat_27 rfl 0 rfl ?_
      refine pr_iload_n C dX9_endRepeat_28 rfl 1 rfl ?_
      refine pr_bipush (v := 19) C dX9_endRepeat_29 (by decide) ?_
      refine pr_aload_n C dX9_endRepeat_31 rfl 0 rfl ?_
      refine pr_iload_n C dX9_endRepeat_32 rfl 1 rfl ?_
      refine pr_bipush (v := 19) C dX9_endRepeat_33 (by decide) ?_
      obtain ⟨r35, hc34, h⟩ := pr_b1_some h
      refine k_X9_of C pr_w507 hk0 hc34 (Nat.le_of_ble_eq_true rfl) (Nat.le_of_ble_eq_true rfl) (Nat.le_of_ble_eq_true rfl) dX9_endRepeat_35 ?_
      refine pr_aload_n C dX9_endRepeat_38 rfl 0 rfl ?_
      refine pr_iload_n C dX9_endRepeat_39 rfl 1 rfl ?_
      refine pr_bipush (v := 27) C dX9_endRepeat_40 (by decide) ?_
      obtain ⟨r37, hc36, h⟩ := pr_b1_some h
      refine k_X9_of C pr_w507 hk0 hc36 (Nat.le_of_ble_eq_true rfl) (Nat.le_of_ble_eq_true rfl) (Nat.le_of_ble_eq_true rfl) dX9_endRepeat_42 ?_
      refine pr_iadd C dX9_endRepeat_45 ?_
      obtain ⟨u39, f40, hc38, h⟩ := pr_bd_some h
      refine k_X9_lay C pr_w483 hk0 hc38 (Nat.le_of_ble_eq_true rfl) (Nat.le_of_ble_eq_true rfl) (Nat.le_of_ble_eq_true rfl) dX9_endRepeat_46 ?_
      refine pr_aload_n C dX9_endRepeat_49 rfl 0 rfl ?_
      refine pr_iload_n C dX9_endRepeat_50 rfl 1 rfl ?_
      refine pr_bipush (v := 20) C dX9_endRepeat_51 (by decide) ?_
      refine pr_aload_n C dX9_endRepeat_53 rfl 0 rfl ?_
      refine pr_iload_n C dX9_endRepeat_54 rfl 1 rfl ?_
      refine pr_bipush (v := 20) C dX9_endRepeat_55 (by decide) ?_
      obtain ⟨r42, hc41, h⟩ := pr_b1_some h
      refine k_X9_of C pr_w507 hk0 hc41 (Nat.le_of_ble_eq_true rfl) (Nat.le_of_ble_eq_true rfl) (Nat.le_of_ble_eq_true rfl) dX9_endRepeat_57 ?_
      refine pr_aload_n C dX9_endRepeat_60 rfl 0 rfl ?_
      refine pr_iload_n C dX9_endRepeat_61 rfl 1 rfl ?_
      refine pr_bipush (v := 28) C dX9_endRepeat_62 (by decide) ?_
      obtain ⟨r44, hc43, h⟩ := pr_b1_some h
      refine k_X9_of C pr_w507 hk0 hc43 (Nat.le_of_ble_eq_true rfl) (Nat.le_of_ble_eq_true rfl) (Nat.le_of_ble_eq_true rfl) dX9_endRepeat_64 ?_
      refine pr_iadd C dX9_endRepeat_67 ?_
      obtain ⟨u46, f47, hc45, h⟩ := pr_bd_some h
      refine k_X9_lay C pr_w483 hk0 hc45 (Nat.le_of_ble_eq_true rfl) (Nat.le_of_ble_eq_true rfl) (Nat.le_of_ble_eq_true rfl) dX9_endRepeat_68 ?_
      refine pr_aload_n C dX9_endRepeat_71 rfl 0 rfl ?_
      refine pr_iload_n C dX9_endRepeat_72 rfl 1 rfl ?_
      refine pr_bipush (v := 18) C dX9_endRepeat_73 (by decide) ?_
      obtain ⟨u49, f50, hc48, h⟩ := pr_bd_some h
      refine k_X9_decrease C pr_w574 hk0 hc48 (Nat.le_of_ble_eq_true rfl) (Nat.le_of_ble_eq_true rfl) (Nat.le_of_ble_eq_true rfl) dX9_endRepeat_75 ?_
      refine pr_aload_n C dX9_endRepeat_78 rfl 0 rfl ?_
      refine pr_iload_n C dX9_endRepeat_79 rfl 1 rfl ?_
      refine pr_bipush (v := 23) C dX9_endRepeat_80 (by decide) ?_
      obtain ⟨u52, f53, hc51, h⟩ := pr_bd_some h
      refine k_X9_decrease C pr_w574 hk0 hc51 (Nat.le_of_ble_eq_true rfl) (Nat.le_of_ble_eq_true rfl) (Nat.le_of_ble_eq_true rfl) dX9_endRepeat_82 ?_
      refine pr_aload_n C dX9_endRepeat_85 rfl 0 rfl ?_
      refine pr_iload_n C dX9_endRepeat_86 rfl 1 rfl ?_
      refine pr_bipush (v := 24) C dX9_endRepeat_87 (by decide) ?_
      obtain ⟨u55, f56, hc54, h⟩ := pr_bd_some h
      refine k_X9_decrease C pr_w574 hk0 hc54 (Nat.le_of_ble_eq_true rfl) (Nat.le_of_ble_eq_true rfl) (Nat.le_of_ble_eq_true rfl) dX9_endRepeat_89 ?_
      refine pr_aload_n C dX9_endRepeat_92 rfl 0 rfl ?_
      refine pr_iload_n C dX9_endRepeat_93 rfl 1 rfl ?_
      refine pr_bipush (v := 26) C dX9_endRepeat_94 (by decide) ?_
      obtain ⟨u58, f59, hc57, h⟩ := pr_bd_some h
      refine k_X9_decrease C pr_w574 hk0 hc57 (Nat.le_of_ble_eq_true rfl) (Nat.le_of_ble_eq_true rfl) (Nat.le_of_ble_eq_true rfl) dX9_endRepeat_96 ?_
      obtain ⟨rfl, rfl⟩ := pr_inj h
      exact pr_vret C Z dX9_endRepeat_99
theorem k_X9_endRepeat {l : Launch} {e : pr_E0} {Y : pr_Y} {Rm : Room} {cc : ByteArray} {own : String} {nL : Nat} {c0 : Cond} {pc idx : Nat} {lv : List (Nat × Value)} {st : List Value} {c : Nat} {p1 : Int32} {f : pr_M} {r : Unit} {g : pr_M} (C : pr_C (pr_EM l e) Y Rm cc own nL c0) (w1 : Cond.methodLink own idx yX9_endRepeat ∈ pr_AL) (hk0 : pr_LM[c]? = some (9, 0)) (h : F_X9_endRepeat c p1 f = some (r, g)) (hr1 : 4 ≤ Rm.frames) (hr2 : 87 ≤ Rm.locals) (hcat : (st.map fun v => v.category).sum ≤ 8) (hdg : decode cc pc = .ok (.invokevirtual idx, 3)) (k : pr_W (pr_EM l e) Y Rm nL g (pc + 3) lv (st)) : pr_W (pr_EM l e) Y Rm nL f pc lv (.int p1 :: .ref (pr_ad (pr_EM l e) c) :: st) :=
  pr_callV (As := [.int p1]) (n := 1) C (m_X9_endRepeat hk0 h) hk0 (by decide) rfl w1 pr_w602 pr_w603 pr_w479 pr_w573 rfl rfl ⟨rfl, by decide +kernel, by decide +kernel, by decide +kernel⟩ rfl ⟨hr1, hr2⟩ rfl hcat hdg k

def L_X9_makeRepeat_44 (q0 : Nat) : Nat → Int32 → pr_M → Option ((Unit) × pr_M)
  | 0, _, _ => none
  | n + 1, x1, f =>
    if (f (q0 + 1) (Int32.toNatClampNeg 1766)) ≤ x1 then (
      some ((), f)
    ) else (
      pr_bd (F_X9_print q0 x1 f) fun u45004 f45005 =>
      L_X9_makeRepeat_44 q0 n (x1 + 1) f45005
    )
set_option maxHeartbeats 4000000 in
set_option maxRecDepth 100000 in
theorem l_X9_makeRepeat_44 {l : Launch} {e : pr_E0} {Y : pr_Y} {c0 : Cond} {q0 : Nat} {z : Unit} {g : pr_M} (C : pr_C (pr_EM l e) Y { frames := 5, cells := 0, slots := 0, locals := 108 } cX9_makeRepeat RX9 2 c0) (hq0 : pr_LM[q0]? = some (9, 0)) : ∀ (n : Nat) (x1 : Int32) (f : pr_M), L_X9_makeRepeat_44 q0 n x1 f = some (z, g) → pr_W (pr_EM l e) Y { frames := 5, cells := 0, slots := 0, locals := 108 } 2 g 67 [(0, .ref (pr_ad (pr_EM l e) q0))] [] → pr_W (pr_EM l e) Y { frames := 5, cells := 0, slots := 0, locals := 108 } 2 f 44 [(0, .ref (pr_ad (pr_EM l e) q0)), (1, .int x1)] [] := by
  intro n
  induction n with
  | zero =>
    intro x1 f h
    exact absurd h (by simp [L_X9_makeRepeat_44])
  | succ n ih =>
    intro x1 f h K
    rw [L_X9_makeRepeat_44] at h
    refine pr_iload_n C dX9_makeRepeat_44 rfl 1 rfl ?_
    refine pr_aload_n C dX9_makeRepeat_45 rfl 0 rfl ?_
    refine pr_g_9_0 C hq0 pr_w476 dX9_makeRepeat_46 ?_
    have hk45001 := pr_kM_9_0 hq0
    refine pr_sipush (v := 1766) C dX9_makeRepeat_49 (by decide) ?_
    refine pr_iaload C hk45001 (pr_inlit (by decide +kernel)) dX9_makeRepeat_52 ?_
    refine pr_icmp_ge (tgt := 67) C dX9_makeRepeat_53 (by decide) (fun c45002 => ?_) (fun c45002 => ?_)
    · have h := pr_ifT h c45002
      obtain ⟨rfl, rfl⟩ := pr_inj h
      exact pr_pick [0] rfl K
    · have h := pr_ifF h c45002
      refine pr_aload_n C dX9_makeRepeat_56 rfl 0 rfl ?_
      refine pr_iload_n C dX9_makeRepeat_57 rfl 1 rfl ?_
      obtain ⟨u45004, f45005, hc45003, h⟩ := pr_bd_some h
      refine k_X9_print C pr_w580 hq0 hc45003 (Nat.le_of_ble_eq_true rfl) (Nat.le_of_ble_eq_true rfl) (Nat.le_of_ble_eq_true rfl) dX9_makeRepeat_58 ?_
      refine pr_iinc (v := (x1 + 1)) (lv' := [(1, .int (x1 + 1)), (0, .ref (pr_ad (pr_EM l e) q0))]) C dX9_makeRepeat_61 1 rfl rfl (by decide) rfl ?_
      refine pr_goto (tgt := 44) C dX9_makeRepeat_64 (by decide) ?_
      exact pr_pick [1, 0] rfl (ih _ _ h K)
def L_X9_makeRepeat_69 (q0 : Nat) : Nat → Int32 → pr_M → Option ((Unit) × pr_M)
  | 0, _, _ => none
  | n + 1, x1, f =>
    if (f (q0 + 1) (Int32.toNatClampNeg 1766)) ≤ x1 then (
      some ((), f)
    ) else (
      pr_b1 (F_X9_isSeen q0 x1 f) fun r70004 =>
      if r70004 = 0 then (
        pr_b1 (F_X9_isRecognized q0 x1 f) fun r70007 =>
        if r70007 = 0 then (
          L_X9_makeRepeat_69 q0 n (x1 + 1) f
        ) else (
          pr_bd (F_X9_learn q0 x1 f) fun u70010 f70011 =>
          pr_bd (F_X9_expect q0 x1 f70011) fun u70013 f70014 =>
          pr_bd (F_X9_correct q0 x1 f70014) fun u70016 f70017 =>
          L_X9_makeRepeat_69 q0 n (x1 + 1) f70017
        )
      ) else (
        pr_bd (F_X9_see q0 x1 f) fun u70019 f70020 =>
        pr_bd (F_X9_recognize q0 x1 f70020) fun u70022 f70023 =>
        pr_b1 (F_X9_isRecognized q0 x1 f70023) fun r70025 =>
        if r70025 = 0 then (
          L_X9_makeRepeat_69 q0 n (x1 + 1) f70023
        ) else (
          pr_bd (F_X9_learn q0 x1 f70023) fun u70028 f70029 =>
          pr_bd (F_X9_expect q0 x1 f70029) fun u70031 f70032 =>
          pr_bd (F_X9_correct q0 x1 f70032) fun u70034 f70035 =>
          L_X9_makeRepeat_69 q0 n (x1 + 1) f70035
        )
      )
    )
set_option maxHeartbeats 4000000 in
set_option maxRecDepth 100000 in
theorem l_X9_makeRepeat_69 {l : Launch} {e : pr_E0} {Y : pr_Y} {c0 : Cond} {q0 : Nat} {z : Unit} {g : pr_M} (C : pr_C (pr_EM l e) Y { frames := 5, cells := 0, slots := 0, locals := 108 } cX9_makeRepeat RX9 2 c0) (hq0 : pr_LM[q0]? = some (9, 0)) : ∀ (n : Nat) (x1 : Int32) (f : pr_M), L_X9_makeRepeat_69 q0 n x1 f = some (z, g) → pr_W (pr_EM l e) Y { frames := 5, cells := 0, slots := 0, locals := 108 } 2 g 128 [(0, .ref (pr_ad (pr_EM l e) q0))] [] → pr_W (pr_EM l e) Y { frames := 5, cells := 0, slots := 0, locals := 108 } 2 f 69 [(0, .ref (pr_ad (pr_EM l e) q0)), (1, .int x1)] [] := by
  intro n
  induction n with
  | zero =>
    intro x1 f h
    exact absurd h (by simp [L_X9_makeRepeat_69])
  | succ n ih =>
    intro x1 f h K
    rw [L_X9_makeRepeat_69] at h
    refine pr_iload_n C dX9_makeRepeat_69 rfl 1 rfl ?_
    refine pr_aload_n C dX9_makeRepeat_70 rfl 0 rfl ?_
    refine pr_g_9_0 C hq0 pr_w476 dX9_makeRepeat_71 ?_
    have hk70001 := pr_kM_9_0 hq0
    refine pr_sipush (v := 1766) C dX9_makeRepeat_74 (by decide) ?_
    refine pr_iaload C hk70001 (pr_inlit (by decide +kernel)) dX9_makeRepeat_77 ?_
    refine pr_icmp_ge (tgt := 128) C dX9_makeRepeat_78 (by decide) (fun c70002 => ?_) (fun c70002 => ?_)
    · have h := pr_ifT h c70002
      obtain ⟨rfl, rfl⟩ := pr_inj h
      exact pr_pick [0] rfl K
    · have h := pr_ifF h c70002
      refine pr_aload_n C dX9_makeRepeat_81 rfl 0 rfl ?_
      refine pr_iload_n C dX9_makeRepeat_82 rfl 1 rfl ?_
      obtain ⟨r70004, hc70003, h⟩ := pr_b1_some h
      refine k_X9_isSeen C pr_w564 hq0 hc70003 (Nat.le_of_ble_eq_true rfl) (Nat.le_of_ble_eq_true rfl) (Nat.le_of_ble_eq_true rfl) dX9_makeRepeat_83 ?_
      refine pr_if_eq (tgt := 99) C dX9_makeRepeat_86 (by decide) (fun c70005 => ?_) (fun c70005 => ?_)
      · have h := pr_ifT h c70005
        refine pr_aload_n C dX9_makeRepeat_99 rfl 0 rfl ?_
        refine pr_iload_n C dX9_makeRepeat_100 rfl 1 rfl ?_
        obtain ⟨r70007, hc70006, h⟩ := pr_b1_some h
        refine k_X9_isRecognized C pr_w589 hq0 hc70006 (Nat.le_of_ble_eq_true rfl) (Nat.le_of_ble_eq_true rfl) (Nat.le_of_ble_eq_true rfl) dX9_makeRepeat_101 ?_
        refine pr_if_eq (tgt := 122) C dX9_makeRepeat_104 (by decide) (fun c70008 => ?_) (fun c70008 => ?_)
        · have h := pr_ifT h c70008
          refine pr_iinc (v := (x1 + 1)) (lv' := [(1, .int (x1 + 1)), (0, .ref (pr_ad (pr_EM l e) q0))]) C dX9_makeRepeat_122 1 rfl rfl (by decide) rfl ?_
          refine pr_goto (tgt := 69) C dX9_makeRepeat_125 (by decide) ?_
          exact pr_pick [1, 0] rfl (ih _ _ h K)
        · have h := pr_ifF h c70008
          refine pr_aload_n C dX9_makeRepeat_107 rfl 0 rfl ?_
          refine pr_iload_n C dX9_makeRepeat_108 rfl 1 rfl ?_
          obtain ⟨u70010, f70011, hc70009, h⟩ := pr_bd_some h
          refine k_X9_learn C pr_w592 hq0 hc70009 (Nat.le_of_ble_eq_true rfl) (Nat.le_of_ble_eq_true rfl) (Nat.le_of_ble_eq_true rfl) dX9_makeRepeat_109 ?_
          refine pr_aload_n C dX9_makeRepeat_112 rfl 0 rfl ?_
          refine pr_iload_n C dX9_makeRepeat_113 rfl 1 rfl ?_
          obtain ⟨u70013, f70014, hc70012, h⟩ := pr_bd_some h
          refine k_X9_expect C pr_w595 hq0 hc70012 (Nat.le_of_ble_eq_true rfl) (Nat.le_of_ble_eq_true rfl) (Nat.le_of_ble_eq_true rfl) dX9_makeRepeat_114 ?_
          refine pr_aload_n C dX9_makeRepeat_117 rfl 0 rfl ?_
          refine pr_iload_n C dX9_makeRepeat_118 rfl 1 rfl ?_
          obtain ⟨u70016, f70017, hc70015, h⟩ := pr_bd_some h
          refine k_X9_correct C pr_w598 hq0 hc70015 (Nat.le_of_ble_eq_true rfl) (Nat.le_of_ble_eq_true rfl) (Nat.le_of_ble_eq_true rfl) dX9_makeRepeat_119 ?_
          refine pr_iinc (v := (x1 + 1)) (lv' := [(1, .int (x1 + 1)), (0, .ref (pr_ad (pr_EM l e) q0))]) C dX9_makeRepeat_122 1 rfl rfl (by decide) rfl ?_
          refine pr_goto (tgt := 69) C dX9_makeRepeat_125 (by decide) ?_
          exact pr_pick [1, 0] rfl (ih _ _ h K)
      · have h := pr_ifF h c70005
        refine pr_aload_n C dX9_makeRepeat_89 rfl 0 rfl ?_
        refine pr_iload_n C dX9_makeRepeat_90 rfl 1 rfl ?_
        obtain ⟨u70019, f70020, hc70018, h⟩ := pr_bd_some h
        refine k_X9_see C pr_w583 hq0 hc70018 (Nat.le_of_ble_eq_true rfl) (Nat.le_of_ble_eq_true rfl) (Nat.le_of_ble_eq_true rfl) dX9_makeRepeat_91 ?_
        refine pr_aload_n C dX9_makeRepeat_94 rfl 0 rfl ?_
        refine pr_iload_n C dX9_makeRepeat_95 rfl 1 rfl ?_
        obtain ⟨u70022, f70023, hc70021, h⟩ := pr_bd_some h
        refine k_X9_recognize C pr_w586 hq0 hc70021 (Nat.le_of_ble_eq_true rfl) (Nat.le_of_ble_eq_true rfl) (Nat.le_of_ble_eq_true rfl) dX9_makeRepeat_96 ?_
        refine pr_aload_n C dX9_makeRepeat_99 rfl 0 rfl ?_
        refine pr_iload_n C dX9_makeRepeat_100 rfl 1 rfl ?_
        obtain ⟨r70025, hc70024, h⟩ := pr_b1_some h
        refine k_X9_isRecognized C pr_w589 hq0 hc70024 (Nat.le_of_ble_eq_true rfl) (Nat.le_of_ble_eq_true rfl) (Nat.le_of_ble_eq_true rfl) dX9_makeRepeat_101 ?_
        refine pr_if_eq (tgt := 122) C dX9_makeRepeat_104 (by decide) (fun c70026 => ?_) (fun c70026 => ?_)
        · have h := pr_ifT h c70026
          refine pr_iinc (v := (x1 + 1)) (lv' := [(1, .int (x1 + 1)), (0, .ref (pr_ad (pr_EM l e) q0))]) C dX9_makeRepeat_122 1 rfl rfl (by decide) rfl ?_
          refine pr_goto (tgt := 69) C dX9_makeRepeat_125 (by decide) ?_
          exact pr_pick [1, 0] rfl (ih _ _ h K)
        · have h := pr_ifF h c70026
          refine pr_aload_n C dX9_makeRepeat_107 rfl 0 rfl ?_
          refine pr_iload_n C dX9_makeRepeat_108 rfl 1 rfl ?_
          obtain ⟨u70028, f70029, hc70027, h⟩ := pr_bd_some h
          refine k_X9_learn C pr_w592 hq0 hc70027 (Nat.le_of_ble_eq_true rfl) (Nat.le_of_ble_eq_true rfl) (Nat.le_of_ble_eq_true rfl) dX9_makeRepeat_109 ?_
          refine pr_aload_n C dX9_makeRepeat_112 rfl 0 rfl ?_
          refine pr_iload_n C dX9_makeRepeat_113 rfl 1 rfl ?_
          obtain ⟨u70031, f70032, hc70030, h⟩ := pr_bd_some h
          refine k_X9_expect C pr_w595 hq0 hc70030 (Nat.le_of_ble_eq_true rfl) (Nat.le_of_ble_eq_true rfl) (Nat.le_of_ble_eq_true rfl) dX9_makeRepeat_114 ?_
          refine pr_aload_n C dX9_makeRepeat_117 rfl 0 rfl ?_
          refine pr_iload_n C dX9_makeRepeat_118 rfl 1 rfl ?_
          obtain ⟨u70034, f70035, hc70033, h⟩ := pr_bd_some h
          refine k_X9_correct C pr_w598 hq0 hc70033 (Nat.le_of_ble_eq_true rfl) (Nat.le_of_ble_eq_true rfl) (Nat.le_of_ble_eq_true rfl) dX9_makeRepeat_119 ?_
          refine pr_iinc (v := (x1 + 1)) (lv' := [(1, .int (x1 + 1)), (0, .ref (pr_ad (pr_EM l e) q0))]) C dX9_makeRepeat_122 1 rfl rfl (by decide) rfl ?_
          refine pr_goto (tgt := 69) C dX9_makeRepeat_125 (by decide) ?_
          exact pr_pick [1, 0] rfl (ih _ _ h K)
def L_X9_makeRepeat_130 (q0 : Nat) : Nat → Int32 → pr_M → Option ((Unit) × pr_M)
  | 0, _, _ => none
  | n + 1, x1, f =>
    if (f (q0 + 1) (Int32.toNatClampNeg 1766)) ≤ x1 then (
      some ((), f)
    ) else (
      pr_bd (F_X9_endRepeat q0 x1 f) fun u131004 f131005 =>
      L_X9_makeRepeat_130 q0 n (x1 + 1) f131005
    )
set_option maxHeartbeats 4000000 in
set_option maxRecDepth 100000 in
theorem l_X9_makeRepeat_130 {l : Launch} {e : pr_E0} {Y : pr_Y} {c0 : Cond} {q0 : Nat} {z : Unit} {g : pr_M} (C : pr_C (pr_EM l e) Y { frames := 5, cells := 0, slots := 0, locals := 108 } cX9_makeRepeat RX9 2 c0) (hq0 : pr_LM[q0]? = some (9, 0)) : ∀ (n : Nat) (x1 : Int32) (f : pr_M), L_X9_makeRepeat_130 q0 n x1 f = some (z, g) → pr_W (pr_EM l e) Y { frames := 5, cells := 0, slots := 0, locals := 108 } 2 g 153 [(0, .ref (pr_ad (pr_EM l e) q0))] [] → pr_W (pr_EM l e) Y { frames := 5, cells := 0, slots := 0, locals := 108 } 2 f 130 [(0, .ref (pr_ad (pr_EM l e) q0)), (1, .int x1)] [] := by
  intro n
  induction n with
  | zero =>
    intro x1 f h
    exact absurd h (by simp [L_X9_makeRepeat_130])
  | succ n ih =>
    intro x1 f h K
    rw [L_X9_makeRepeat_130] at h
    refine pr_iload_n C dX9_makeRepeat_130 rfl 1 rfl ?_
    refine pr_aload_n C dX9_makeRepeat_131 rfl 0 rfl ?_
    refine pr_g_9_0 C hq0 pr_w476 dX9_makeRepeat_132 ?_
    have hk131001 := pr_kM_9_0 hq0
    refine pr_sipush (v := 1766) C dX9_makeRepeat_135 (by decide) ?_
    refine pr_iaload C hk131001 (pr_inlit (by decide +kernel)) dX9_makeRepeat_138 ?_
    refine pr_icmp_ge (tgt := 153) C dX9_makeRepeat_139 (by decide) (fun c131002 => ?_) (fun c131002 => ?_)
    · have h := pr_ifT h c131002
      obtain ⟨rfl, rfl⟩ := pr_inj h
      exact pr_pick [0] rfl K
    · have h := pr_ifF h c131002
      refine pr_aload_n C dX9_makeRepeat_142 rfl 0 rfl ?_
      refine pr_iload_n C dX9_makeRepeat_143 rfl 1 rfl ?_
      obtain ⟨u131004, f131005, hc131003, h⟩ := pr_bd_some h
      refine k_X9_endRepeat C pr_w601 hq0 hc131003 (Nat.le_of_ble_eq_true rfl) (Nat.le_of_ble_eq_true rfl) (Nat.le_of_ble_eq_true rfl) dX9_makeRepeat_144 ?_
      refine pr_iinc (v := (x1 + 1)) (lv' := [(1, .int (x1 + 1)), (0, .ref (pr_ad (pr_EM l e) q0))]) C dX9_makeRepeat_147 1 rfl rfl (by decide) rfl ?_
      refine pr_goto (tgt := 130) C dX9_makeRepeat_150 (by decide) ?_
      exact pr_pick [1, 0] rfl (ih _ _ h K)
def F_X9_makeRepeat (c : Nat) (f : pr_M) : Option (Unit × pr_M) :=
  pr_gd (¬ ((1778 + ((f (c + 1) (Int32.toNatClampNeg 1765)) - (f (c + 1) (Int32.toNatClampNeg 1765)) / 128 * 128)) < 0 ∨ 1906 ≤ Int32.toNatClampNeg (1778 + ((f (c + 1) (Int32.toNatClampNeg 1765)) - (f (c + 1) (Int32.toNatClampNeg 1765)) / 128 * 128)))) <|
  pr_lt (pr_up f (c + 1) (Int32.toNatClampNeg (1778 + ((f (c + 1) (Int32.toNatClampNeg 1765)) - (f (c + 1) (Int32.toNatClampNeg 1765)) / 128 * 128))) ((f (c + 1) (Int32.toNatClampNeg 1767)) - (f (c + 1) (Int32.toNatClampNeg 1768)))) fun f3 =>
  pr_bd (F_X9_goOnSplice c f3) fun u6 f7 =>
  pr_bd (L_X9_makeRepeat_44 c pr_fuel 0 f7) fun v8 f9 =>
  pr_bd (L_X9_makeRepeat_69 c pr_fuel 1 f9) fun v10 f11 =>
  pr_bd (L_X9_makeRepeat_130 c pr_fuel 0 f11) fun v12 f13 =>
  pr_lt (pr_up f13 (c + 1) (Int32.toNatClampNeg 1768) (f13 (c + 1) (Int32.toNatClampNeg 1767))) fun f14 =>
  pr_lt (pr_up f14 (c + 1) (Int32.toNatClampNeg 1765) ((f14 (c + 1) (Int32.toNatClampNeg 1765)) + 1)) fun f16 =>
  some ((), f16)
set_option maxHeartbeats 4000000 in
set_option maxRecDepth 100000 in
theorem m_X9_makeRepeat {l : Launch} {e : pr_E0} {c : Nat} {f : pr_M} {r : Unit} {g : pr_M} (hk0 : pr_LM[c]? = some (9, 0)) (h : F_X9_makeRepeat c f = some (r, g)) : pr_Met (pr_EM l e) yX9_makeRepeat cX9_makeRepeat 2 none { frames := 5, cells := 0, slots := 0, locals := 108 } [.ref (pr_ad (pr_EM l e) c)] f none g := by
  rw [F_X9_makeRepeat] at h
  refine pr_enter (by decide +kernel) (Nat.le_of_ble_eq_true rfl) (fun Y C Z => ?_)
  replace C : pr_C (pr_EM l e) Y { frames := 5, cells := 0, slots := 0, locals := 108 } cX9_makeRepeat RX9 2 _ := C
  show pr_W (pr_EM l e) Y _ 2 f 0 [(0, .ref (pr_ad (pr_EM l e) c))] []
  refine pr_aload_n C dX9_makeRepeat_0 rfl 0 rfl ?_
  refine pr_g_9_0 C hk0 pr_w476 dX9_makeRepeat_1 ?_
  have hk1 := pr_kM_9_0 hk0
  refine pr_sipush (v := 1778) C dX9_makeRepeat_4 (by decide) ?_
  refine pr_aload_n C dX9_makeRepeat_7 rfl 0 rfl ?_
  refine pr_g_9_0 C hk0 pr_w476 dX9_makeRepeat_8 ?_
  refine pr_sipush (v := 1765) C dX9_makeRepeat_11 (by decide) ?_
  refine pr_iaload C hk1 (pr_inlit (by decide +kernel)) dX9_makeRepeat_14 ?_
  refine pr_sipush (v := 128) C dX9_makeRepeat_15 (by decide) ?_
  refine pr_irem C dX9_makeRepeat_18 (by decide) ?_
  refine pr_iadd C dX9_makeRepeat_19 ?_
  refine pr_aload_n C dX9_makeRepeat_20 rfl 0 rfl ?_
  refine pr_g_9_0 C hk0 pr_w476 dX9_makeRepeat_21 ?_
  refine pr_sipush (v := 1767) C dX9_makeRepeat_24 (by decide) ?_
  refine pr_iaload C hk1 (pr_inlit (by decide +kernel)) dX9_makeRepeat_27 ?_
  refine pr_aload_n C dX9_makeRepeat_28 rfl 0 rfl ?_
  refine pr_g_9_0 C hk0 pr_w476 dX9_makeRepeat_29 ?_
  refine pr_sipush (v := 1768) C dX9_makeRepeat_32 (by decide) ?_
  refine pr_iaload C hk1 (pr_inlit (by decide +kernel)) dX9_makeRepeat_35 ?_
  refine pr_isub C dX9_makeRepeat_36 ?_
  obtain ⟨hg2, h⟩ := pr_gd_some h
  refine pr_iastore C hk1 hg2 dX9_makeRepeat_37 (fun f3 e4 => ?_)
  have h := pr_lt_at h e4
  refine pr_aload_n C dX9_makeRepeat_38 rfl 0 rfl ?_
  obtain ⟨u6, f7, hc5, h⟩ := pr_bd_some h
  refine k_X9_goOnSplice C pr_w577 hk0 hc5 (Nat.le_of_ble_eq_true rfl) (Nat.le_of_ble_eq_true rfl) (Nat.le_of_ble_eq_true rfl) dX9_makeRepeat_39 ?_
  refine pr_iconst (v := 0) C dX9_makeRepeat_42 (by decide) ?_
  refine pr_istore_n (lv' := [(1, .int 0), (0, .ref (pr_ad (pr_EM l e) c))]) C dX9_makeRepeat_43 rfl (by decide) rfl ?_
  obtain ⟨v8, f9, hv, h⟩ := pr_bd_some h
  refine pr_pick [1, 0] rfl (l_X9_makeRepeat_44 C hk0 pr_fuel _ _ hv ?_)
  clear hv
  refine pr_iconst (v := 1) C dX9_makeRepeat_67 (by decide) ?_
  refine pr_istore_n (lv' := [(1, .int 1), (0, .ref (pr_ad (pr_EM l e) c))]) C dX9_makeRepeat_68 rfl (by decide) rfl ?_
  obtain ⟨v10, f11, hv, h⟩ := pr_bd_some h
  refine pr_pick [1, 0] rfl (l_X9_makeRepeat_69 C hk0 pr_fuel _ _ hv ?_)
  clear hv
  refine pr_iconst (v := 0) C dX9_makeRepeat_128 (by decide) ?_
  refine pr_istore_n (lv' := [(1, .int 0), (0, .ref (pr_ad (pr_EM l e) c))]) C dX9_makeRepeat_129 rfl (by decide) rfl ?_
  obtain ⟨v12, f13, hv, h⟩ := pr_bd_some h
  refine pr_pick [1, 0] rfl (l_X9_makeRepeat_130 C hk0 pr_fuel _ _ hv ?_)
  clear hv
  refine pr_aload_n C dX9_makeRepeat_153 rfl 0 rfl ?_
  refine pr_g_9_0 C hk0 pr_w476 dX9_makeRepeat_154 ?_
  refine pr_sipush (v := 1768) C dX9_makeRepeat_157 (by decide) ?_
  refine pr_aload_n C dX9_makeRepeat_160 rfl 0 rfl ?_
  refine pr_g_9_0 C hk0 pr_w476 dX9_makeRepeat_161 ?_
  refine pr_sipush (v := 1767) C dX9_makeRepeat_164 (by decide) ?_
  refine pr_iaload C hk1 (pr_inlit (by decide +kernel)) dX9_makeRepeat_167 ?_
  refine pr_iastore C hk1 (pr_inlit (by decide +kernel)) dX9_makeRepeat_168 (fun f14 e15 => ?_)
  have h := pr_lt_at h e15
  refine pr_aload_n C dX9_makeRepeat_169 rfl 0 rfl ?_
  refine pr_g_9_0 C hk0 pr_w476 dX9_makeRepeat_170 ?_
  refine pr_sipush (v := 1765) C dX9_makeRepeat_173 (by decide) ?_
  refine pr_dup2 C dX9_makeRepeat_176 rfl rfl ?_
  refine pr_iaload C hk1 (pr_inlit (by decide +kernel)) dX9_makeRepeat_177 ?_
  refine pr_iconst (v := 1) C dX9_makeRepeat_178 (by decide) ?_
  refine pr_iadd C dX9_makeRepeat_179 ?_
  refine pr_iastore C hk1 (pr_inlit (by decide +kernel)) dX9_makeRepeat_180 (fun f16 e17 => ?_)
  have h := pr_lt_at h e17
  obtain ⟨rfl, rfl⟩ := pr_inj h
  exact pr_vret C Z dX9_makeRepeat_181
theorem k_X9_makeRepeat {l : Launch} {e : pr_E0} {Y : pr_Y} {Rm : Room} {cc : ByteArray} {own : String} {nL : Nat} {c0 : Cond} {pc idx : Nat} {lv : List (Nat × Value)} {st : List Value} {c : Nat} {f : pr_M} {r : Unit} {g : pr_M} (C : pr_C (pr_EM l e) Y Rm cc own nL c0) (w1 : Cond.methodLink own idx yX9_makeRepeat ∈ pr_AL) (hk0 : pr_LM[c]? = some (9, 0)) (h : F_X9_makeRepeat c f = some (r, g)) (hr1 : 6 ≤ Rm.frames) (hr2 : 129 ≤ Rm.locals) (hcat : (st.map fun v => v.category).sum ≤ 8) (hdg : decode cc pc = .ok (.invokevirtual idx, 3)) (k : pr_W (pr_EM l e) Y Rm nL g (pc + 3) lv (st)) : pr_W (pr_EM l e) Y Rm nL f pc lv (.ref (pr_ad (pr_EM l e) c) :: st) :=
  pr_callV (As := []) (n := 0) C (m_X9_makeRepeat hk0 h) hk0 (by decide) rfl w1 pr_w606 pr_w607 pr_w479 pr_w604 rfl rfl ⟨rfl, by decide +kernel, by decide +kernel, by decide +kernel⟩ rfl ⟨hr1, hr2⟩ rfl hcat hdg k

def L_X9_makeRepeats_2 (q0 : Nat) (x1 : Int32) : Nat → Int32 → pr_M → Option ((Unit) × pr_M)
  | 0, _, _ => none
  | n + 1, x2, f =>
    if x1 ≤ x2 then (
      some ((), f)
    ) else (
      pr_bd (F_X9_makeRepeat q0 f) fun u3003 f3004 =>
      L_X9_makeRepeats_2 q0 x1 n (x2 + 1) f3004
    )
set_option maxHeartbeats 4000000 in
set_option maxRecDepth 100000 in
theorem l_X9_makeRepeats_2 {l : Launch} {e : pr_E0} {Y : pr_Y} {c0 : Cond} {q0 : Nat} {x1 : Int32} {z : Unit} {g : pr_M} (C : pr_C (pr_EM l e) Y { frames := 6, cells := 0, slots := 0, locals := 129 } cX9_makeRepeats RX9 3 c0) (hq0 : pr_LM[q0]? = some (9, 0)) : ∀ (n : Nat) (x2 : Int32) (f : pr_M), L_X9_makeRepeats_2 q0 x1 n x2 f = some (z, g) → pr_W (pr_EM l e) Y { frames := 6, cells := 0, slots := 0, locals := 129 } 3 g 17 [] [] → pr_W (pr_EM l e) Y { frames := 6, cells := 0, slots := 0, locals := 129 } 3 f 2 [(0, .ref (pr_ad (pr_EM l e) q0)), (1, .int x1), (2, .int x2)] [] := by
  intro n
  induction n with
  | zero =>
    intro x2 f h
    exact absurd h (by simp [L_X9_makeRepeats_2])
  | succ n ih =>
    intro x2 f h K
    rw [L_X9_makeRepeats_2] at h
    refine pr_iload_n C dX9_makeRepeats_2 rfl 2 rfl ?_
    refine pr_iload_n C dX9_makeRepeats_3 rfl 1 rfl ?_
    refine pr_icmp_ge (tgt := 17) C dX9_makeRepeats_4 (by decide) (fun c3001 => ?_) (fun c3001 => ?_)
    · have h := pr_ifT h c3001
      obtain ⟨rfl, rfl⟩ := pr_inj h
      exact pr_pick [] rfl K
    · have h := pr_ifF h c3001
      refine pr_aload_n C dX9_makeRepeats_7 rfl 0 rfl ?_
      obtain ⟨u3003, f3004, hc3002, h⟩ := pr_bd_some h
      refine k_X9_makeRepeat C pr_w605 hq0 hc3002 (Nat.le_of_ble_eq_true rfl) (Nat.le_of_ble_eq_true rfl) (Nat.le_of_ble_eq_true rfl) dX9_makeRepeats_8 ?_
      refine pr_iinc (v := (x2 + 1)) (lv' := [(2, .int (x2 + 1)), (0, .ref (pr_ad (pr_EM l e) q0)), (1, .int x1)]) C dX9_makeRepeats_11 2 rfl rfl (by decide) rfl ?_
      refine pr_goto (tgt := 2) C dX9_makeRepeats_14 (by decide) ?_
      exact pr_pick [1, 2, 0] rfl (ih _ _ h K)
def F_X9_makeRepeats (c : Nat) (p1 : Int32) (f : pr_M) : Option (Unit × pr_M) :=
  pr_bd (L_X9_makeRepeats_2 c p1 pr_fuel 0 f) fun v1 f2 =>
  some ((), f2)
set_option maxHeartbeats 4000000 in
set_option maxRecDepth 100000 in
theorem m_X9_makeRepeats {l : Launch} {e : pr_E0} {c : Nat} {p1 : Int32} {f : pr_M} {r : Unit} {g : pr_M} (hk0 : pr_LM[c]? = some (9, 0)) (h : F_X9_makeRepeats c p1 f = some (r, g)) : pr_Met (pr_EM l e) yX9_makeRepeats cX9_makeRepeats 3 none { frames := 6, cells := 0, slots := 0, locals := 129 } [.ref (pr_ad (pr_EM l e) c), .int p1] f none g := by
  rw [F_X9_makeRepeats] at h
  refine pr_enter (by decide +kernel) (Nat.le_of_ble_eq_true rfl) (fun Y C Z => ?_)
  replace C : pr_C (pr_EM l e) Y { frames := 6, cells := 0, slots := 0, locals := 129 } cX9_makeRepeats RX9 3 _ := C
  show pr_W (pr_EM l e) Y _ 3 f 0 [(0, .ref (pr_ad (pr_EM l e) c)), (1, .int p1)] []
  refine pr_iconst (v := 0) C dX9_makeRepeats_0 (by decide) ?_
  refine pr_istore_n (lv' := [(2, .int 0), (0, .ref (pr_ad (pr_EM l e) c)), (1, .int p1)]) C dX9_makeRepeats_1 rfl (by decide) rfl ?_
  obtain ⟨v1, f2, hv, h⟩ := pr_bd_some h
  refine pr_pick [1, 2, 0] rfl (l_X9_makeRepeats_2 C hk0 pr_fuel _ _ hv ?_)
  clear hv
  obtain ⟨rfl, rfl⟩ := pr_inj h
  exact pr_vret C Z dX9_makeRepeats_17
theorem k_X9_makeRepeats {l : Launch} {e : pr_E0} {Y : pr_Y} {Rm : Room} {cc : ByteArray} {own : String} {nL : Nat} {c0 : Cond} {pc idx : Nat} {lv : List (Nat × Value)} {st : List Value} {c : Nat} {p1 : Int32} {f : pr_M} {r : Unit} {g : pr_M} (C : pr_C (pr_EM l e) Y Rm cc own nL c0) (w1 : Cond.methodLink own idx yX9_makeRepeats ∈ pr_AL) (hk0 : pr_LM[c]? = some (9, 0)) (h : F_X9_makeRepeats c p1 f = some (r, g)) (hr1 : 7 ≤ Rm.frames) (hr2 : 151 ≤ Rm.locals) (hcat : (st.map fun v => v.category).sum ≤ 8) (hdg : decode cc pc = .ok (.invokevirtual idx, 3)) (k : pr_W (pr_EM l e) Y Rm nL g (pc + 3) lv (st)) : pr_W (pr_EM l e) Y Rm nL f pc lv (.int p1 :: .ref (pr_ad (pr_EM l e) c) :: st) :=
  pr_callV (As := [.int p1]) (n := 1) C (m_X9_makeRepeats hk0 h) hk0 (by decide) rfl w1 pr_w611 pr_w612 pr_w479 pr_w608 rfl rfl ⟨rfl, by decide +kernel, by decide +kernel, by decide +kernel⟩ rfl ⟨hr1, hr2⟩ rfl hcat hdg k

def F_X9_run (c : Nat) (p1 : Int32) (f : pr_M) : Option (Int32 × pr_M) :=
  pr_b1 (F_X9_in p1 1 300 f) fun r2 =>
  if r2 = 0 then (
    some ((-1000000002), f)
  ) else (
    if ((f (c + 1) (Int32.toNatClampNeg 1765)) + p1) ≤ 100000 then (
      pr_bd (F_X9_makeRepeats c p1 f) fun u7 f8 =>
      some ((f8 (c + 1) (Int32.toNatClampNeg 1765)), f8)
    ) else (
      some ((-1000000005), f)
    )
  )
set_option maxHeartbeats 4000000 in
set_option maxRecDepth 100000 in
theorem m_X9_run {l : Launch} {e : pr_E0} {c : Nat} {p1 : Int32} {f : pr_M} {r : Int32} {g : pr_M} (hk0 : pr_LM[c]? = some (9, 0)) (h : F_X9_run c p1 f = some (r, g)) : pr_Met (pr_EM l e) yX9_run cX9_run 2 (some .int) { frames := 7, cells := 0, slots := 0, locals := 151 } [.ref (pr_ad (pr_EM l e) c), .int p1] f (some (.int r)) g := by
  rw [F_X9_run] at h
  refine pr_enter (by decide +kernel) (Nat.le_of_ble_eq_true rfl) (fun Y C Z => ?_)
  replace C : pr_C (pr_EM l e) Y { frames := 7, cells := 0, slots := 0, locals := 151 } cX9_run RX9 2 _ := C
  show pr_W (pr_EM l e) Y _ 2 f 0 [(0, .ref (pr_ad (pr_EM l e) c)), (1, .int p1)] []
  refine pr_iload_n C dX9_run_0 rfl 1 rfl ?_
  refine pr_iconst (v := 1) C dX9_run_1 (by decide) ?_
  refine pr_sipush (v := 300) C dX9_run_2 (by decide) ?_
  obtain ⟨r2, hc1, h⟩ := pr_b1_some h
  refine k_X9_in C pr_w504  hc1 (Nat.le_of_ble_eq_true rfl) (Nat.le_of_ble_eq_true rfl) (Nat.le_of_ble_eq_true rfl) dX9_run_5 ?_
  refine pr_if_ne (tgt := 14) C dX9_run_8 (by decide) (fun c3 => ?_) (fun c3 => ?_)
  · have h := pr_ifF h c3
    refine pr_aload_n C dX9_run_14 rfl 0 rfl ?_
    refine pr_g_9_0 C hk0 pr_w476 dX9_run_15 ?_
    have hk4 := pr_kM_9_0 hk0
    refine pr_sipush (v := 1765) C dX9_run_18 (by decide) ?_
    refine pr_iaload C hk4 (pr_inlit (by decide +kernel)) dX9_run_21 ?_
    refine pr_iload_n C dX9_run_22 rfl 1 rfl ?_
    refine pr_iadd C dX9_run_23 ?_
    refine pr_ldc (v := 100000) C dX9_run_24 pr_w609 ?_
    refine pr_icmp_le (tgt := 32) C dX9_run_26 (by decide) (fun c5 => ?_) (fun c5 => ?_)
    · have h := pr_ifT h c5
      refine pr_aload_n C dX9_run_32 rfl 0 rfl ?_
      refine pr_iload_n C dX9_run_33 rfl 1 rfl ?_
      obtain ⟨u7, f8, hc6, h⟩ := pr_bd_some h
      refine k_X9_makeRepeats C pr_w610 hk0 hc6 (Nat.le_of_ble_eq_true rfl) (Nat.le_of_ble_eq_true rfl) (Nat.le_of_ble_eq_true rfl) dX9_run_34 ?_
      refine pr_aload_n C dX9_run_37 rfl 0 rfl ?_
      refine pr_g_9_0 C hk0 pr_w476 dX9_run_38 ?_
      refine pr_sipush (v := 1765) C dX9_run_41 (by decide) ?_
      refine pr_iaload C hk4 (pr_inlit (by decide +kernel)) dX9_run_44 ?_
      obtain ⟨rfl, rfl⟩ := pr_inj h
      exact pr_iret C Z dX9_run_45
    · have h := pr_ifF h c5
      refine pr_ldc (v := (-1000000005)) C dX9_run_29 pr_w514 ?_
      obtain ⟨rfl, rfl⟩ := pr_inj h
      exact pr_iret C Z dX9_run_31
  · have h := pr_ifT h c3
    refine pr_ldc (v := (-1000000002)) C dX9_run_11 pr_w511 ?_
    obtain ⟨rfl, rfl⟩ := pr_inj h
    exact pr_iret C Z dX9_run_13

def F_X9_seen (c : Nat) (p1 : Int32) (p2 : Int32) (f : pr_M) : Option (Int32) :=
  pr_b1 (F_X9_isUnit c p1 f) fun r2 =>
  if r2 = 0 then (
    some (-1000000001)
  ) else (
    pr_b1 (F_X9_in p2 0 6 f) fun r5 =>
    if r5 = 0 then (
      some (-1000000002)
    ) else (
      if (f (c + 1) (Int32.toNatClampNeg 1765)) = 0 then (
        some (-1000000005)
      ) else (
        pr_b1 (F_X9_of c p1 (29 + p2) f) fun r10 =>
        some r10
      )
    )
  )
set_option maxHeartbeats 4000000 in
set_option maxRecDepth 100000 in
theorem m_X9_seen {l : Launch} {e : pr_E0} {c : Nat} {p1 : Int32} {p2 : Int32} {f : pr_M} {r : Int32} (hk0 : pr_LM[c]? = some (9, 0)) (h : F_X9_seen c p1 p2 f = some r) : pr_Met (pr_EM l e) yX9_seen cX9_seen 3 (some .int) { frames := 2, cells := 0, slots := 0, locals := 43 } [.ref (pr_ad (pr_EM l e) c), .int p1, .int p2] f (some (.int r)) f := by
  rw [F_X9_seen] at h
  refine pr_enter (by decide +kernel) (Nat.le_of_ble_eq_true rfl) (fun Y C Z => ?_)
  replace C : pr_C (pr_EM l e) Y { frames := 2, cells := 0, slots := 0, locals := 43 } cX9_seen RX9 3 _ := C
  show pr_W (pr_EM l e) Y _ 3 f 0 [(0, .ref (pr_ad (pr_EM l e) c)), (1, .int p1), (2, .int p2)] []
  refine pr_aload_n C dX9_seen_0 rfl 0 rfl ?_
  refine pr_iload_n C dX9_seen_1 rfl 1 rfl ?_
  obtain ⟨r2, hc1, h⟩ := pr_b1_some h
  refine k_X9_isUnit C pr_w515 hk0 hc1 (Nat.le_of_ble_eq_true rfl) (Nat.le_of_ble_eq_true rfl) (Nat.le_of_ble_eq_true rfl) dX9_seen_2 ?_
  refine pr_if_ne (tgt := 11) C dX9_seen_5 (by decide) (fun c3 => ?_) (fun c3 => ?_)
  · have h := pr_ifF h c3
    refine pr_iload_n C dX9_seen_11 rfl 2 rfl ?_
    refine pr_iconst (v := 0) C dX9_seen_12 (by decide) ?_
    refine pr_bipush (v := 6) C dX9_seen_13 (by decide) ?_
    obtain ⟨r5, hc4, h⟩ := pr_b1_some h
    refine k_X9_in C pr_w504  hc4 (Nat.le_of_ble_eq_true rfl) (Nat.le_of_ble_eq_true rfl) (Nat.le_of_ble_eq_true rfl) dX9_seen_15 ?_
    refine pr_if_ne (tgt := 24) C dX9_seen_18 (by decide) (fun c6 => ?_) (fun c6 => ?_)
    · have h := pr_ifF h c6
      refine pr_aload_n C dX9_seen_24 rfl 0 rfl ?_
      refine pr_g_9_0 C hk0 pr_w476 dX9_seen_25 ?_
      have hk7 := pr_kM_9_0 hk0
      refine pr_sipush (v := 1765) C dX9_seen_28 (by decide) ?_
      refine pr_iaload C hk7 (pr_inlit (by decide +kernel)) dX9_seen_31 ?_
      refine pr_if_ne (tgt := 40) C dX9_seen_32 (by decide) (fun c8 => ?_) (fun c8 => ?_)
      · have h := pr_ifF h c8
        refine pr_aload_n C dX9_seen_40 rfl 0 rfl ?_
        refine pr_iload_n C dX9_seen_41 rfl 1 rfl ?_
        refine pr_bipush (v := 29) C dX9_seen_42 (by decide) ?_
        refine pr_iload_n C dX9_seen_44 rfl 2 rfl ?_
        refine pr_iadd C dX9_seen_45 ?_
        obtain ⟨r10, hc9, h⟩ := pr_b1_some h
        refine k_X9_of C pr_w507 hk0 hc9 (Nat.le_of_ble_eq_true rfl) (Nat.le_of_ble_eq_true rfl) (Nat.le_of_ble_eq_true rfl) dX9_seen_46 ?_
        obtain rfl := pr_in1 h
        exact pr_iret C Z dX9_seen_49
      · have h := pr_ifT h c8
        refine pr_ldc (v := (-1000000005)) C dX9_seen_35 pr_w514 ?_
        refine pr_goto (tgt := 49) C dX9_seen_37 (by decide) ?_
        obtain rfl := pr_in1 h
        exact pr_iret C Z dX9_seen_49
    · have h := pr_ifT h c6
      refine pr_ldc (v := (-1000000002)) C dX9_seen_21 pr_w511 ?_
      obtain rfl := pr_in1 h
      exact pr_iret C Z dX9_seen_23
  · have h := pr_ifT h c3
    refine pr_ldc (v := (-1000000001)) C dX9_seen_8 pr_w513 ?_
    obtain rfl := pr_in1 h
    exact pr_iret C Z dX9_seen_10

def F_X9_state (c : Nat) (p1 : Int32) (p2 : Int32) (f : pr_M) : Option (Int32) :=
  pr_b1 (F_X9_isUnit c p1 f) fun r2 =>
  if r2 = 0 then (
    some (-1000000001)
  ) else (
    pr_b1 (F_X9_in p2 0 9 f) fun r5 =>
    if r5 = 0 then (
      if p2 = 10 then (
        pr_b1 (F_X9_of c p1 23 f) fun r9 =>
        some r9
      ) else (
        if p2 = 11 then (
          pr_b1 (F_X9_of c p1 24 f) fun r12 =>
          some r12
        ) else (
          if p2 = 12 then (
            pr_b1 (F_X9_of c p1 26 f) fun r15 =>
            some r15
          ) else (
            if p2 = 13 then (
              pr_b1 (F_X9_way c p1 f) fun r18 =>
              some r18
            ) else (
              some (-1000000002)
              )
              )
              )
              )
    ) else (
      pr_b1 (F_X9_of c p1 (11 + p2) f) fun r20 =>
      some r20
    )
  )
set_option maxHeartbeats 4000000 in
set_option maxRecDepth 100000 in
theorem m_X9_state {l : Launch} {e : pr_E0} {c : Nat} {p1 : Int32} {p2 : Int32} {f : pr_M} {r : Int32} (hk0 : pr_LM[c]? = some (9, 0)) (h : F_X9_state c p1 p2 f = some r) : pr_Met (pr_EM l e) yX9_state cX9_state 3 (some .int) { frames := 3, cells := 0, slots := 0, locals := 66 } [.ref (pr_ad (pr_EM l e) c), .int p1, .int p2] f (some (.int r)) f := by
  rw [F_X9_state] at h
  refine pr_enter (by decide +kernel) (Nat.le_of_ble_eq_true rfl) (fun Y C Z => ?_)
  replace C : pr_C (pr_EM l e) Y { frames := 3, cells := 0, slots := 0, locals := 66 } cX9_state RX9 3 _ := C
  show pr_W (pr_EM l e) Y _ 3 f 0 [(0, .ref (pr_ad (pr_EM l e) c)), (1, .int p1), (2, .int p2)] []
  refine pr_aload_n C dX9_state_0 rfl 0 rfl ?_
  refine pr_iload_n C dX9_state_1 rfl 1 rfl ?_
  obtain ⟨r2, hc1, h⟩ := pr_b1_some h
  refine k_X9_isUnit C pr_w515 hk0 hc1 (Nat.le_of_ble_eq_true rfl) (Nat.le_of_ble_eq_true rfl) (Nat.le_of_ble_eq_true rfl) dX9_state_2 ?_
  refine pr_if_ne (tgt := 11) C dX9_state_5 (by decide) (fun c3 => ?_) (fun c3 => ?_)
  · have h := pr_ifF h c3
    refine pr_iload_n C dX9_state_11 rfl 2 rfl ?_
    refine pr_iconst (v := 0) C dX9_state_12 (by decide) ?_
    refine pr_bipush (v := 9) C dX9_state_13 (by decide) ?_
    obtain ⟨r5, hc4, h⟩ := pr_b1_some h
    refine k_X9_in C pr_w504  hc4 (Nat.le_of_ble_eq_true rfl) (Nat.le_of_ble_eq_true rfl) (Nat.le_of_ble_eq_true rfl) dX9_state_15 ?_
    refine pr_if_eq (tgt := 31) C dX9_state_18 (by decide) (fun c6 => ?_) (fun c6 => ?_)
    · have h := pr_ifT h c6
      refine pr_iload_n C dX9_state_31 rfl 2 rfl ?_
      by_cases c7 : p2 = 10
      · have h := pr_ifT h c7
        refine pr_tableIn (tgt := 64) (off := 32) C dX9_state_32 c7 (by decide) (by decide) (by decide) (by decide) ?_
        refine pr_aload_n C dX9_state_64 rfl 0 rfl ?_
        refine pr_iload_n C dX9_state_65 rfl 1 rfl ?_
        refine pr_bipush (v := 23) C dX9_state_66 (by decide) ?_
        obtain ⟨r9, hc8, h⟩ := pr_b1_some h
        refine k_X9_of C pr_w507 hk0 hc8 (Nat.le_of_ble_eq_true rfl) (Nat.le_of_ble_eq_true rfl) (Nat.le_of_ble_eq_true rfl) dX9_state_68 ?_
        obtain rfl := pr_in1 h
        exact pr_iret C Z dX9_state_71
      · have h := pr_ifF h c7
        by_cases c10 : p2 = 11
        · have h := pr_ifT h c10
          refine pr_tableIn (tgt := 72) (off := 40) C dX9_state_32 c10 (by decide) (by decide) (by decide) (by decide) ?_
          refine pr_aload_n C dX9_state_72 rfl 0 rfl ?_
          refine pr_iload_n C dX9_state_73 rfl 1 rfl ?_
          refine pr_bipush (v := 24) C dX9_state_74 (by decide) ?_
          obtain ⟨r12, hc11, h⟩ := pr_b1_some h
          refine k_X9_of C pr_w507 hk0 hc11 (Nat.le_of_ble_eq_true rfl) (Nat.le_of_ble_eq_true rfl) (Nat.le_of_ble_eq_true rfl) dX9_state_76 ?_
          obtain rfl := pr_in1 h
          exact pr_iret C Z dX9_state_79
        · have h := pr_ifF h c10
          by_cases c13 : p2 = 12
          · have h := pr_ifT h c13
            refine pr_tableIn (tgt := 80) (off := 48) C dX9_state_32 c13 (by decide) (by decide) (by decide) (by decide) ?_
            refine pr_aload_n C dX9_state_80 rfl 0 rfl ?_
            refine pr_iload_n C dX9_state_81 rfl 1 rfl ?_
            refine pr_bipush (v := 26) C dX9_state_82 (by decide) ?_
            obtain ⟨r15, hc14, h⟩ := pr_b1_some h
            refine k_X9_of C pr_w507 hk0 hc14 (Nat.le_of_ble_eq_true rfl) (Nat.le_of_ble_eq_true rfl) (Nat.le_of_ble_eq_true rfl) dX9_state_84 ?_
            obtain rfl := pr_in1 h
            exact pr_iret C Z dX9_state_87
          · have h := pr_ifF h c13
            by_cases c16 : p2 = 13
            · have h := pr_ifT h c16
              refine pr_tableIn (tgt := 88) (off := 56) C dX9_state_32 c16 (by decide) (by decide) (by decide) (by decide) ?_
              refine pr_aload_n C dX9_state_88 rfl 0 rfl ?_
              refine pr_iload_n C dX9_state_89 rfl 1 rfl ?_
              obtain ⟨r18, hc17, h⟩ := pr_b1_some h
              refine k_X9_way C pr_w536 hk0 hc17 (Nat.le_of_ble_eq_true rfl) (Nat.le_of_ble_eq_true rfl) (Nat.le_of_ble_eq_true rfl) dX9_state_90 ?_
              obtain rfl := pr_in1 h
              exact pr_iret C Z dX9_state_93
            · have h := pr_ifF h c16
              refine pr_tableOut (tgt := 94) C dX9_state_32 (by have n0 := lv_neT (a := 10) c7 (by decide); have n1 := lv_neT (a := 11) c10 (by decide); have n2 := lv_neT (a := 12) c13 (by decide); have n3 := lv_neT (a := 13) c16 (by decide); omega) (by decide) ?_
              refine pr_ldc (v := (-1000000002)) C dX9_state_94 pr_w511 ?_
              obtain rfl := pr_in1 h
              exact pr_iret C Z dX9_state_96
    · have h := pr_ifF h c6
      refine pr_aload_n C dX9_state_21 rfl 0 rfl ?_
      refine pr_iload_n C dX9_state_22 rfl 1 rfl ?_
      refine pr_bipush (v := 11) C dX9_state_23 (by decide) ?_
      refine pr_iload_n C dX9_state_25 rfl 2 rfl ?_
      refine pr_iadd C dX9_state_26 ?_
      obtain ⟨r20, hc19, h⟩ := pr_b1_some h
      refine k_X9_of C pr_w507 hk0 hc19 (Nat.le_of_ble_eq_true rfl) (Nat.le_of_ble_eq_true rfl) (Nat.le_of_ble_eq_true rfl) dX9_state_27 ?_
      obtain rfl := pr_in1 h
      exact pr_iret C Z dX9_state_30
  · have h := pr_ifT h c3
    refine pr_ldc (v := (-1000000001)) C dX9_state_8 pr_w513 ?_
    obtain rfl := pr_in1 h
    exact pr_iret C Z dX9_state_10

def F_X9_isControlled (c : Nat) (p1 : Int32) (f : pr_M) : Option (Int32) :=
  if p1 = 0 then (
    some 0
  ) else (
    pr_b1 (F_X9_isUnit c p1 f) fun r3 =>
    if r3 = 0 then (
      some 0
    ) else (
      some 1
    )
  )
set_option maxHeartbeats 4000000 in
set_option maxRecDepth 100000 in
theorem m_X9_isControlled {l : Launch} {e : pr_E0} {c : Nat} {p1 : Int32} {f : pr_M} {r : Int32} (hk0 : pr_LM[c]? = some (9, 0)) (h : F_X9_isControlled c p1 f = some r) : pr_Met (pr_EM l e) yX9_isControlled cX9_isControlled 2 (some .boolean) { frames := 2, cells := 0, slots := 0, locals := 43 } [.ref (pr_ad (pr_EM l e) c), .int p1] f (some (.int r)) f := by
  rw [F_X9_isControlled] at h
  refine pr_enter (by decide +kernel) (Nat.le_of_ble_eq_true rfl) (fun Y C Z => ?_)
  replace C : pr_C (pr_EM l e) Y { frames := 2, cells := 0, slots := 0, locals := 43 } cX9_isControlled RX9 2 _ := C
  show pr_W (pr_EM l e) Y _ 2 f 0 [(0, .ref (pr_ad (pr_EM l e) c)), (1, .int p1)] []
  refine pr_iload_n C dX9_isControlled_0 rfl 1 rfl ?_
  refine pr_if_eq (tgt := 16) C dX9_isControlled_1 (by decide) (fun c1 => ?_) (fun c1 => ?_)
  · have h := pr_ifT h c1
    refine pr_iconst (v := 0) C dX9_isControlled_16 (by decide) ?_
    obtain rfl := pr_in1 h
    exact pr_zret C (by decide) Z dX9_isControlled_17
  · have h := pr_ifF h c1
    refine pr_aload_n C dX9_isControlled_4 rfl 0 rfl ?_
    refine pr_iload_n C dX9_isControlled_5 rfl 1 rfl ?_
    obtain ⟨r3, hc2, h⟩ := pr_b1_some h
    refine k_X9_isUnit C pr_w515 hk0 hc2 (Nat.le_of_ble_eq_true rfl) (Nat.le_of_ble_eq_true rfl) (Nat.le_of_ble_eq_true rfl) dX9_isControlled_6 ?_
    refine pr_if_eq (tgt := 16) C dX9_isControlled_9 (by decide) (fun c4 => ?_) (fun c4 => ?_)
    · have h := pr_ifT h c4
      refine pr_iconst (v := 0) C dX9_isControlled_16 (by decide) ?_
      obtain rfl := pr_in1 h
      exact pr_zret C (by decide) Z dX9_isControlled_17
    · have h := pr_ifF h c4
      refine pr_iconst (v := 1) C dX9_isControlled_12 (by decide) ?_
      refine pr_goto (tgt := 17) C dX9_isControlled_13 (by decide) ?_
      obtain rfl := pr_in1 h
      exact pr_zret C (by decide) Z dX9_isControlled_17
theorem k_X9_isControlled {l : Launch} {e : pr_E0} {Y : pr_Y} {Rm : Room} {cc : ByteArray} {own : String} {nL : Nat} {c0 : Cond} {pc idx : Nat} {lv : List (Nat × Value)} {st : List Value} {c : Nat} {p1 : Int32} {f : pr_M} {r : Int32} (C : pr_C (pr_EM l e) Y Rm cc own nL c0) (w1 : Cond.methodLink own idx yX9_isControlled ∈ pr_AL) (hk0 : pr_LM[c]? = some (9, 0)) (h : F_X9_isControlled c p1 f = some r) (hr1 : 3 ≤ Rm.frames) (hr2 : 64 ≤ Rm.locals) (hcat : (st.map fun v => v.category).sum ≤ 8) (hdg : decode cc pc = .ok (.invokevirtual idx, 3)) (k : pr_W (pr_EM l e) Y Rm nL f (pc + 3) lv (.int r :: st)) : pr_W (pr_EM l e) Y Rm nL f pc lv (.int p1 :: .ref (pr_ad (pr_EM l e) c) :: st) :=
  pr_callV (As := [.int p1]) (n := 1) C (m_X9_isControlled hk0 h) hk0 (by decide) rfl w1 pr_w618 pr_w619 pr_w479 pr_w616 rfl rfl ⟨rfl, by decide +kernel, by decide +kernel, by decide +kernel⟩ rfl ⟨hr1, hr2⟩ rfl hcat hdg k
