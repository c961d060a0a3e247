def F_L_isPrinted (p1 : Nat) (p2 : Int32) (p3 : Nat) (p4 : Nat) (p5 : Nat) (p6 : Nat) (p7 : Int32) (p8 : Int32) (f : pr_M) : Option (Int32 × pr_M) :=
  pr_b1 (F_L_value p3 p4 f) fun r2 =>
  pr_b1 (F_X8_get p1 p2 10 f) fun r4 =>
  pr_gd (¬ (p7 < 0 ∨ 48 ≤ Int32.toNatClampNeg p7)) <|
  pr_lt (pr_up f p5 (Int32.toNatClampNeg p7) (((f p3 (Int32.toNatClampNeg 0)) + r2) + (((r4 - (f p3 (Int32.toNatClampNeg 3))) * p8) / 100))) fun f6 =>
  pr_lt (pr_up f6 p6 (Int32.toNatClampNeg p7) ((f6 p3 (Int32.toNatClampNeg 2)) + (f6 p3 (Int32.toNatClampNeg 1)))) fun f8 =>
  pr_b1 (F_X8_seen p1 p2 0 f8) fun r11 =>
  if r11 = (f8 p5 (Int32.toNatClampNeg p7)) then (
    pr_b1 (F_X8_seen p1 p2 1 f8) fun r14 =>
    if r14 = (f8 p6 (Int32.toNatClampNeg p7)) then (
      some (1, f8)
    ) else (
      some (0, f8)
    )
  ) else (
    some (0, f8)
  )
set_option maxHeartbeats 4000000 in
set_option maxRecDepth 100000 in
theorem m_L_isPrinted {l : Launch} {e : pr_E0} {p1 : Nat} {p2 : Int32} {p3 : Nat} {p4 : Nat} {p5 : Nat} {p6 : Nat} {p7 : Int32} {p8 : Int32} {f : pr_M} {r : Int32} {g : pr_M} (hk01 : (pr_LE e)[p1]? = some (8, 0)) (hk03 : (pr_LE e)[p3]? = some (10, 14)) (hk04 : (pr_LE e)[p4]? = some (10, 5)) (hk05 : (pr_LE e)[p5]? = some (10, 48)) (hk06 : (pr_LE e)[p6]? = some (10, 48)) (h : F_L_isPrinted p1 p2 p3 p4 p5 p6 p7 p8 f = some (r, g)) : pr_Met (pr_EC l e) yL_isPrinted cL_isPrinted 8 (some .boolean) { frames := 2, cells := 0, slots := 0, locals := 47 } [.ref (pr_ad (pr_EC l e) p1), .int p2, .ref (pr_ad (pr_EC l e) p3), .ref (pr_ad (pr_EC l e) p4), .ref (pr_ad (pr_EC l e) p5), .ref (pr_ad (pr_EC l e) p6), .int p7, .int p8] f (some (.int r)) g := by
  rw [F_L_isPrinted] at h
  refine pr_enter (by decide +kernel) (Nat.le_of_ble_eq_true rfl) (fun Y C Z => ?_)
  replace C : pr_C (pr_EC l e) Y { frames := 2, cells := 0, slots := 0, locals := 47 } cL_isPrinted RL 8 _ := C
  show pr_W (pr_EC l e) Y _ 8 f 0 [(0, .ref (pr_ad (pr_EC l e) p1)), (1, .int p2), (2, .ref (pr_ad (pr_EC l e) p3)), (3, .ref (pr_ad (pr_EC l e) p4)), (4, .ref (pr_ad (pr_EC l e) p5)), (5, .ref (pr_ad (pr_EC l e) p6)), (6, .int p7), (7, .int p8)] []
  refine pr_aload C dL_isPrinted_0 4 rfl ?_
  refine pr_iload C dL_isPrinted_2 6 rfl ?_
  refine pr_aload_n C dL_isPrinted_4 rfl 2 rfl ?_
  refine pr_iconst (v := 0) C dL_isPrinted_5 (by decide) ?_
  refine pr_iaload C hk03 (pr_inlit (by decide +kernel)) dL_isPrinted_6 ?_
  refine pr_aload_n C dL_isPrinted_7 rfl 2 rfl ?_
  refine pr_aload_n C dL_isPrinted_8 rfl 3 rfl ?_
  obtain ⟨r2, hc1, h⟩ := pr_b1_some h
  refine k_L_value C pr_w360 hk03 hk04 hc1 (Nat.le_of_ble_eq_true rfl) (Nat.le_of_ble_eq_true rfl) (Nat.le_of_ble_eq_true rfl) dL_isPrinted_9 ?_
  refine pr_iadd C dL_isPrinted_12 ?_
  refine pr_aload_n C dL_isPrinted_13 rfl 0 rfl ?_
  refine pr_iload_n C dL_isPrinted_14 rfl 1 rfl ?_
  refine pr_bipush (v := 10) C dL_isPrinted_15 (by decide) ?_
  obtain ⟨r4, hc3, h⟩ := pr_b1_some h
  refine k_X8_get C pr_w363 hk01 hc3 (Nat.le_of_ble_eq_true rfl) (Nat.le_of_ble_eq_true rfl) (Nat.le_of_ble_eq_true rfl) dL_isPrinted_17 ?_
  refine pr_aload_n C dL_isPrinted_20 rfl 2 rfl ?_
  refine pr_iconst (v := 3) C dL_isPrinted_21 (by decide) ?_
  refine pr_iaload C hk03 (pr_inlit (by decide +kernel)) dL_isPrinted_22 ?_
  refine pr_isub C dL_isPrinted_23 ?_
  refine pr_iload C dL_isPrinted_24 7 rfl ?_
  refine pr_imul C dL_isPrinted_26 ?_
  refine pr_bipush (v := 100) C dL_isPrinted_27 (by decide) ?_
  refine pr_idiv C dL_isPrinted_29 (by decide) ?_
  refine pr_iadd C dL_isPrinted_30 ?_
  obtain ⟨hg5, h⟩ := pr_gd_some h
  refine pr_iastore C hk05 hg5 dL_isPrinted_31 (fun f6 e7 => ?_)
  have h := pr_lt_at h e7
  refine pr_aload C dL_isPrinted_32 5 rfl ?_
  refine pr_iload C dL_isPrinted_34 6 rfl ?_
  refine pr_aload_n C dL_isPrinted_36 rfl 2 rfl ?_
  refine pr_iconst (v := 2) C dL_isPrinted_37 (by decide) ?_
  refine pr_iaload C hk03 (pr_inlit (by decide +kernel)) dL_isPrinted_38 ?_
  refine pr_aload_n C dL_isPrinted_39 rfl 2 rfl ?_
  refine pr_iconst (v := 1) C dL_isPrinted_40 (by decide) ?_
  refine pr_iaload C hk03 (pr_inlit (by decide +kernel)) dL_isPrinted_41 ?_
  refine pr_iadd C dL_isPrinted_42 ?_
  refine pr_iastore C hk06 hg5 dL_isPrinted_43 (fun f8 e9 => ?_)
  have h := pr_lt_at h e9
  refine pr_aload_n C dL_isPrinted_44 rfl 0 rfl ?_
  refine pr_iload_n C dL_isPrinted_45 rfl 1 rfl ?_
  refine pr_iconst (v := 0) C dL_isPrinted_46 (by decide) ?_
  obtain ⟨r11, hc10, h⟩ := pr_b1_some h
  refine k_X8_seen C pr_w366 hk01 hc10 (Nat.le_of_ble_eq_true rfl) (Nat.le_of_ble_eq_true rfl) (Nat.le_of_ble_eq_true rfl) dL_isPrinted_47 ?_
  refine pr_aload C dL_isPrinted_50 4 rfl ?_
  refine pr_iload C dL_isPrinted_52 6 rfl ?_
  refine pr_iaload C hk05 hg5 dL_isPrinted_54 ?_
  refine pr_icmp_ne (tgt := 76) C dL_isPrinted_55 (by decide) (fun c12 => ?_) (fun c12 => ?_)
  · have h := pr_ifF h c12
    refine pr_iconst (v := 0) C dL_isPrinted_76 (by decide) ?_
    obtain ⟨rfl, rfl⟩ := pr_inj h
    exact pr_zret C (by decide) Z dL_isPrinted_77
  · have h := pr_ifT h c12
    refine pr_aload_n C dL_isPrinted_58 rfl 0 rfl ?_
    refine pr_iload_n C dL_isPrinted_59 rfl 1 rfl ?_
    refine pr_iconst (v := 1) C dL_isPrinted_60 (by decide) ?_
    obtain ⟨r14, hc13, h⟩ := pr_b1_some h
    refine k_X8_seen C pr_w366 hk01 hc13 (Nat.le_of_ble_eq_true rfl) (Nat.le_of_ble_eq_true rfl) (Nat.le_of_ble_eq_true rfl) dL_isPrinted_61 ?_
    refine pr_aload C dL_isPrinted_64 5 rfl ?_
    refine pr_iload C dL_isPrinted_66 6 rfl ?_
    refine pr_iaload C hk06 hg5 dL_isPrinted_68 ?_
    refine pr_icmp_ne (tgt := 76) C dL_isPrinted_69 (by decide) (fun c15 => ?_) (fun c15 => ?_)
    · have h := pr_ifF h c15
      refine pr_iconst (v := 0) C dL_isPrinted_76 (by decide) ?_
      obtain ⟨rfl, rfl⟩ := pr_inj h
      exact pr_zret C (by decide) Z dL_isPrinted_77
    · have h := pr_ifT h c15
      refine pr_iconst (v := 1) C dL_isPrinted_72 (by decide) ?_
      refine pr_goto (tgt := 77) C dL_isPrinted_73 (by decide) ?_
      obtain ⟨rfl, rfl⟩ := pr_inj h
      exact pr_zret C (by decide) Z dL_isPrinted_77
theorem k_L_isPrinted {l : Launch} {e : pr_E0} {Y : pr_Y} {Rm : Room} {cc : ByteArray} {own : String} {nL : Nat} {c0 : Cond} {pc idx : Nat} {lv : List (Nat × Value)} {st : List Value} {p1 : Nat} {p2 : Int32} {p3 : Nat} {p4 : Nat} {p5 : Nat} {p6 : Nat} {p7 : Int32} {p8 : Int32} {f : pr_M} {r : Int32} {g : pr_M} (C : pr_C (pr_EC l e) Y Rm cc own nL c0) (w1 : Cond.methodLink own idx yL_isPrinted ∈ pr_AL) (hk01 : (pr_LE e)[p1]? = some (8, 0)) (hk03 : (pr_LE e)[p3]? = some (10, 14)) (hk04 : (pr_LE e)[p4]? = some (10, 5)) (hk05 : (pr_LE e)[p5]? = some (10, 48)) (hk06 : (pr_LE e)[p6]? = some (10, 48)) (h : F_L_isPrinted p1 p2 p3 p4 p5 p6 p7 p8 f = some (r, g)) (hr1 : 3 ≤ Rm.frames) (hr2 : 74 ≤ Rm.locals) (hcat : (st.map fun v => v.category).sum ≤ 8) (hdg : decode cc pc = .ok (.invokestatic idx, 3)) (k : pr_W (pr_EC l e) Y Rm nL g (pc + 3) lv (.int r :: st)) : pr_W (pr_EC l e) Y Rm nL f pc lv (.int p8 :: .int p7 :: .ref (pr_ad (pr_EC l e) p6) :: .ref (pr_ad (pr_EC l e) p5) :: .ref (pr_ad (pr_EC l e) p4) :: .ref (pr_ad (pr_EC l e) p3) :: .int p2 :: .ref (pr_ad (pr_EC l e) p1) :: st) :=
  pr_callS (As := [.ref (pr_ad (pr_EC l e) p1), .int p2, .ref (pr_ad (pr_EC l e) p3), .ref (pr_ad (pr_EC l e) p4), .ref (pr_ad (pr_EC l e) p5), .ref (pr_ad (pr_EC l e) p6), .int p7, .int p8]) (n := 8) C (m_L_isPrinted hk01 hk03 hk04 hk05 hk06 h) w1 pr_w423 pr_w362 pr_w369 rfl rfl ⟨by decide +kernel, by decide +kernel, by decide +kernel⟩ rfl ⟨hr1, hr2⟩ rfl hcat hdg k

def F_L_isSeen (p1 : Nat) (p2 : Int32) (p3 : Nat) (p4 : Nat) (p5 : Int32) (p6 : Int32) (p7 : Int32) (f : pr_M) : Option (Int32 × pr_M) :=
  pr_b1 (F_X8_get p1 p2 2 f) fun r2 =>
  pr_b1 (F_X8_get p1 p2 3 f) fun r4 =>
  pr_b1 (α := Int32) (
    if r4 ≤ (f p3 (Int32.toNatClampNeg 6)) then (
      some 4
    ) else (
      if (f p3 (Int32.toNatClampNeg 7)) ≤ 0 then (
        some 1
      ) else (
        some 4
      )
    )
  ) fun v5 =>
  pr_b1 (F_L_size (p5 - (f p3 (Int32.toNatClampNeg 8))) f) fun r9 =>
  pr_b1 (F_L_size ((f p4 (Int32.toNatClampNeg 4)) - (f p3 (Int32.toNatClampNeg 8))) f) fun r11 =>
  pr_b1 (α := Int32) (
    if (f p3 (Int32.toNatClampNeg 11)) = 0 then (
      if (r2 * v5) < r9 then (
        some 0
      ) else (
        some 1
      )
    ) else (
      some 0
    )
  ) fun v12 =>
  pr_b1 (α := Int32) (
    if (f p3 (Int32.toNatClampNeg 12)) ≤ 0 then (
      some 0
    ) else (
      if (r2 * v5) < r11 then (
        some 0
      ) else (
        some 1
      )
    )
  ) fun v15 =>
  pr_b1 (α := Int32) (
    if v12 = 0 then (
      if v15 = 0 then (
        some 0
      ) else (
        some 2
      )
    ) else (
      if v15 = 0 then (
        some 1
      ) else (
        if r11 < r9 then (
          some 2
        ) else (
          some 1
        )
      )
    )
  ) fun v18 =>
  pr_b1 (F_X8_seen p1 p2 2 f) fun r26 =>
  if r26 = p5 then (
    pr_b1 (F_X8_seen p1 p2 3 f) fun r29 =>
    if r29 = p6 then (
      pr_b1 (F_X8_seen p1 p2 4 f) fun r32 =>
      if r32 = v18 then (
        if v18 = 0 then (
          pr_lt (pr_up f p3 (Int32.toNatClampNeg 6) ((f p3 (Int32.toNatClampNeg 6)) + 1)) fun f149 =>
          pr_b1 (F_X8_seen p1 p2 5 f149) fun r152 =>
          if r152 = (-1000000006) then (
            pr_b1 (F_X8_seen p1 p2 6 f149) fun r155 =>
            if r155 = (-1000000006) then (
              some (1, f149)
            ) else (
              some (0, f149)
            )
          ) else (
            some (0, f149)
          )
        ) else (
          pr_b1 (α := Int32) (
            if v18 = 1 then (
              some p5
            ) else (
              some (f p4 (Int32.toNatClampNeg 4))
            )
          ) fun v35 =>
          pr_b1 (α := Int32) (
            if v18 = 1 then (
              some p6
            ) else (
              some (f p3 (Int32.toNatClampNeg 9))
            )
          ) fun v37 =>
          pr_b1 (F_X8_seen p1 p2 5 f) fun r40 =>
          if r40 = v35 then (
            pr_b1 (F_X8_seen p1 p2 6 f) fun r43 =>
            if r43 = v37 then (
              pr_lt (pr_up f p3 (Int32.toNatClampNeg 6) 0) fun f45 =>
              pr_b1 (F_X8_get p1 p2 8 f45) fun r48 =>
              pr_b1 (F_L_size p7 f45) fun r50 =>
              pr_bd (α := Unit) (
                if r50 ≤ 9 then (
                  some ((), f45)
                ) else (
                  if r48 ≤ 0 then (
                    some ((), f45)
                  ) else (
                    pr_gd (¬ p7 = 0) <|
                    pr_b1 (F_L_limited ((f45 p3 (Int32.toNatClampNeg 3)) + (((((v35 - (f45 p3 (Int32.toNatClampNeg 8))) * 100) / p7) * r48) / 256)) 500 f45) fun r57 =>
                    pr_lt (pr_up f45 p3 (Int32.toNatClampNeg 3) r57) fun f58 =>
                    some ((), f58)
                  )
                )
              ) fun v51 f52 =>
              pr_lt (pr_up f52 p3 (Int32.toNatClampNeg 8) v35) fun f60 =>
              pr_lt (pr_up f60 p3 (Int32.toNatClampNeg 9) v37) fun f62 =>
              pr_b1 (F_X8_get p1 p2 6 f62) fun r65 =>
              pr_b1 (F_X8_get p1 p2 4 f62) fun r67 =>
              pr_b1 (F_X8_get p1 p2 7 f62) fun r69 =>
              if (f62 p3 (Int32.toNatClampNeg 5)) = 0 then (
                pr_b1 (F_L_size v35 f62) fun r72 =>
                if r65 < r72 then (
                  pr_b1 (F_L_size v35 f62) fun r75 =>
                  pr_bd (α := Unit) (
                    if r75 ≤ r65 then (
                      some ((), f62)
                    ) else (
                      pr_b1 (F_L_limited ((f62 p3 (Int32.toNatClampNeg 4)) + v35) 20000 f62) fun r80 =>
                      pr_lt (pr_up f62 p3 (Int32.toNatClampNeg 4) r80) fun f81 =>
                      pr_b1 (F_X8_get p1 p2 5 f81) fun r84 =>
                      pr_b1 (F_L_limited ((-((r67 * v35) + (r84 * (f81 p3 (Int32.toNatClampNeg 4))))) / 256) r69 f81) fun r86 =>
                      pr_b1 (F_L_limited ((f62 p3 (Int32.toNatClampNeg 0)) + r86) 5000 f81) fun r88 =>
                      pr_lt (pr_up f81 p3 (Int32.toNatClampNeg 0) r88) fun f89 =>
                      some ((), f89)
                    )
                  ) fun v76 f77 =>
                  pr_b1 (F_L_size v37 f77) fun r92 =>
                  pr_bd (α := Unit) (
                    if r92 ≤ r65 then (
                      some ((), f77)
                    ) else (
                      pr_b1 (F_L_limited ((-(r67 * v37)) / 256) r69 f77) fun r97 =>
                      pr_b1 (F_L_limited ((f62 p3 (Int32.toNatClampNeg 1)) + r97) 3000 f77) fun r99 =>
                      pr_lt (pr_up f77 p3 (Int32.toNatClampNeg 1) r99) fun f100 =>
                      some ((), f100)
                    )
                  ) fun v93 f94 =>
                  pr_lt (pr_up f94 p4 (Int32.toNatClampNeg 2) ((f94 p3 (Int32.toNatClampNeg 0)) - (f62 p3 (Int32.toNatClampNeg 0)))) fun f102 =>
                  pr_lt (pr_up f102 p4 (Int32.toNatClampNeg 3) ((f102 p3 (Int32.toNatClampNeg 1)) - (f62 p3 (Int32.toNatClampNeg 1)))) fun f104 =>
                  pr_b1 (F_X8_get p1 p2 1 f104) fun r107 =>
                  pr_lt (pr_up f104 p3 (Int32.toNatClampNeg 5) (r107 + 1)) fun f108 =>
                  some (1, f108)
                ) else (
                  pr_b1 (F_L_size v37 f62) fun r111 =>
                  if r111 ≤ r65 then (
                    some (1, f62)
                  ) else (
                    pr_b1 (F_L_size v35 f62) fun r114 =>
                    pr_bd (α := Unit) (
                      if r114 ≤ r65 then (
                        some ((), f62)
                      ) else (
                        pr_b1 (F_L_limited ((f62 p3 (Int32.toNatClampNeg 4)) + v35) 20000 f62) fun r119 =>
                        pr_lt (pr_up f62 p3 (Int32.toNatClampNeg 4) r119) fun f120 =>
                        pr_b1 (F_X8_get p1 p2 5 f120) fun r123 =>
                        pr_b1 (F_L_limited ((-((r67 * v35) + (r123 * (f120 p3 (Int32.toNatClampNeg 4))))) / 256) r69 f120) fun r125 =>
                        pr_b1 (F_L_limited ((f62 p3 (Int32.toNatClampNeg 0)) + r125) 5000 f120) fun r127 =>
                        pr_lt (pr_up f120 p3 (Int32.toNatClampNeg 0) r127) fun f128 =>
                        some ((), f128)
                      )
                    ) fun v115 f116 =>
                    pr_b1 (F_L_size v37 f116) fun r131 =>
                    pr_bd (α := Unit) (
                      if r131 ≤ r65 then (
                        some ((), f116)
                      ) else (
                        pr_b1 (F_L_limited ((-(r67 * v37)) / 256) r69 f116) fun r136 =>
                        pr_b1 (F_L_limited ((f62 p3 (Int32.toNatClampNeg 1)) + r136) 3000 f116) fun r138 =>
                        pr_lt (pr_up f116 p3 (Int32.toNatClampNeg 1) r138) fun f139 =>
                        some ((), f139)
                      )
                    ) fun v132 f133 =>
                    pr_lt (pr_up f133 p4 (Int32.toNatClampNeg 2) ((f133 p3 (Int32.toNatClampNeg 0)) - (f62 p3 (Int32.toNatClampNeg 0)))) fun f141 =>
                    pr_lt (pr_up f141 p4 (Int32.toNatClampNeg 3) ((f141 p3 (Int32.toNatClampNeg 1)) - (f62 p3 (Int32.toNatClampNeg 1)))) fun f143 =>
                    pr_b1 (F_X8_get p1 p2 1 f143) fun r146 =>
                    pr_lt (pr_up f143 p3 (Int32.toNatClampNeg 5) (r146 + 1)) fun f147 =>
                    some (1, f147)
                  )
                )
              ) else (
                some (1, f62)
              )
            ) else (
              some (0, f)
            )
          ) else (
            some (0, f)
          )
        )
      ) else (
        some (0, f)
      )
    ) else (
      some (0, f)
    )
  ) else (
    some (0, f)
  )
set_option maxHeartbeats 4000000 in
set_option maxRecDepth 100000 in
theorem m_L_isSeen {l : Launch} {e : pr_E0} {p1 : Nat} {p2 : Int32} {p3 : Nat} {p4 : Nat} {p5 : Int32} {p6 : Int32} {p7 : Int32} {f : pr_M} {r : Int32} {g : pr_M} (hk01 : (pr_LE e)[p1]? = some (8, 0)) (hk03 : (pr_LE e)[p3]? = some (10, 14)) (hk04 : (pr_LE e)[p4]? = some (10, 5)) (h : F_L_isSeen p1 p2 p3 p4 p5 p6 p7 f = some (r, g)) : pr_Met (pr_EC l e) yL_isSeen cL_isSeen 21 (some .boolean) { frames := 2, cells := 0, slots := 0, locals := 47 } [.ref (pr_ad (pr_EC l e) p1), .int p2, .ref (pr_ad (pr_EC l e) p3), .ref (pr_ad (pr_EC l e) p4), .int p5, .int p6, .int p7] f (some (.int r)) g := by
  rw [F_L_isSeen] at h
  refine pr_enter (by decide +kernel) (Nat.le_of_ble_eq_true rfl) (fun Y C Z => ?_)
  replace C : pr_C (pr_EC l e) Y { frames := 2, cells := 0, slots := 0, locals := 47 } cL_isSeen RL 21 _ := C
  show pr_W (pr_EC l e) Y _ 21 f 0 [(0, .ref (pr_ad (pr_EC l e) p1)), (1, .int p2), (2, .ref (pr_ad (pr_EC l e) p3)), (3, .ref (pr_ad (pr_EC l e) p4)), (4, .int p5), (5, .int p6), (6, .int p7)] []
  refine pr_aload_n C dL_isSeen_0 rfl 0 rfl ?_
  refine pr_iload_n C dL_isSeen_1 rfl 1 rfl ?_
  refine pr_iconst (v := 2) C dL_isSeen_2 (by decide) ?_
  obtain ⟨r2, hc1, h⟩ := pr_b1_some h
  refine k_X8_get C pr_w363 hk01 hc1 (Nat.le_of_ble_eq_true rfl) (Nat.le_of_ble_eq_true rfl) (Nat.le_of_ble_eq_true rfl) dL_isSeen_3 ?_
  refine pr_aload_n C dL_isSeen_6 rfl 2 rfl ?_
  refine pr_bipush (v := 6) C dL_isSeen_7 (by decide) ?_
  refine pr_iaload C hk03 (pr_inlit (by decide +kernel)) dL_isSeen_9 ?_
  refine pr_aload_n C dL_isSeen_10 rfl 0 rfl ?_
  refine pr_iload_n C dL_isSeen_11 rfl 1 rfl ?_
  refine pr_iconst (v := 3) C dL_isSeen_12 (by decide) ?_
  obtain ⟨r4, hc3, h⟩ := pr_b1_some h
  refine k_X8_get C pr_w363 hk01 hc3 (Nat.le_of_ble_eq_true rfl) (Nat.le_of_ble_eq_true rfl) (Nat.le_of_ble_eq_true rfl) dL_isSeen_13 ?_
  obtain ⟨v5, hv, h⟩ := pr_b1_some h
  have K : pr_W (pr_EC l e) Y { frames := 2, cells := 0, slots := 0, locals := 47 } 21 f 31 [(0, .ref (pr_ad (pr_EC l e) p1)), (1, .int p2), (2, .ref (pr_ad (pr_EC l e) p3)), (3, .ref (pr_ad (pr_EC l e) p4)), (4, .int p5), (5, .int p6), (6, .int p7)] [.int v5, .int r2] := by
    refine pr_imul C dL_isSeen_31 ?_
    refine pr_istore (lv' := [(7, .int (r2 * v5)), (0, .ref (pr_ad (pr_EC l e) p1)), (1, .int p2), (2, .ref (pr_ad (pr_EC l e) p3)), (3, .ref (pr_ad (pr_EC l e) p4)), (4, .int p5), (5, .int p6), (6, .int p7)]) C dL_isSeen_32 (by decide) rfl ?_
    refine pr_iload C dL_isSeen_34 5 rfl ?_
    refine pr_aload_n C dL_isSeen_36 rfl 3 rfl ?_
    refine pr_bipush (v := 8) C dL_isSeen_37 (by decide) ?_
    refine pr_iaload C hk03 (pr_inlit (by decide +kernel)) dL_isSeen_39 ?_
    refine pr_isub C dL_isSeen_40 ?_
    obtain ⟨r9, hc8, h⟩ := pr_b1_some h
    refine k_L_size C pr_w371  hc8 (Nat.le_of_ble_eq_true rfl) (Nat.le_of_ble_eq_true rfl) (Nat.le_of_ble_eq_true rfl) dL_isSeen_41 ?_
    refine pr_istore (lv' := [(8, .int r9), (7, .int (r2 * v5)), (0, .ref (pr_ad (pr_EC l e) p1)), (1, .int p2), (2, .ref (pr_ad (pr_EC l e) p3)), (3, .ref (pr_ad (pr_EC l e) p4)), (4, .int p5), (5, .int p6), (6, .int p7)]) C dL_isSeen_44 (by decide) rfl ?_
    refine pr_aload_n C dL_isSeen_46 rfl 5 rfl ?_
    refine pr_iconst (v := 4) C dL_isSeen_47 (by decide) ?_
    refine pr_iaload C hk04 (pr_inlit (by decide +kernel)) dL_isSeen_48 ?_
    refine pr_aload_n C dL_isSeen_49 rfl 4 rfl ?_
    refine pr_bipush (v := 8) C dL_isSeen_50 (by decide) ?_
    refine pr_iaload C hk03 (pr_inlit (by decide +kernel)) dL_isSeen_52 ?_
    refine pr_isub C dL_isSeen_53 ?_
    obtain ⟨r11, hc10, h⟩ := pr_b1_some h
    refine k_L_size C pr_w371  hc10 (Nat.le_of_ble_eq_true rfl) (Nat.le_of_ble_eq_true rfl) (Nat.le_of_ble_eq_true rfl) dL_isSeen_54 ?_
    refine pr_istore (lv' := [(9, .int r11), (8, .int r9), (7, .int (r2 * v5)), (0, .ref (pr_ad (pr_EC l e) p1)), (1, .int p2), (2, .ref (pr_ad (pr_EC l e) p3)), (3, .ref (pr_ad (pr_EC l e) p4)), (4, .int p5), (5, .int p6), (6, .int p7)]) C dL_isSeen_57 (by decide) rfl ?_
    refine pr_aload_n C dL_isSeen_59 rfl 5 rfl ?_
    refine pr_bipush (v := 11) C dL_isSeen_60 (by decide) ?_
    refine pr_iaload C hk03 (pr_inlit (by decide +kernel)) dL_isSeen_62 ?_
    obtain ⟨v12, hv, h⟩ := pr_b1_some h
    have K : pr_W (pr_EC l e) Y { frames := 2, cells := 0, slots := 0, locals := 47 } 21 f 78 [(0, .ref (pr_ad (pr_EC l e) p1)), (1, .int p2), (2, .ref (pr_ad (pr_EC l e) p3)), (3, .ref (pr_ad (pr_EC l e) p4)), (4, .int p5), (5, .int p6), (6, .int p7), (7, .int (r2 * v5)), (8, .int r9), (9, .int r11)] [.int v12] := by
      refine pr_istore (lv' := [(10, .int v12), (0, .ref (pr_ad (pr_EC l e) p1)), (1, .int p2), (2, .ref (pr_ad (pr_EC l e) p3)), (3, .ref (pr_ad (pr_EC l e) p4)), (4, .int p5), (5, .int p6), (6, .int p7), (7, .int (r2 * v5)), (8, .int r9), (9, .int r11)]) C dL_isSeen_78 (by decide) rfl ?_
      refine pr_aload_n C dL_isSeen_80 rfl 3 rfl ?_
      refine pr_bipush (v := 12) C dL_isSeen_81 (by decide) ?_
      refine pr_iaload C hk03 (pr_inlit (by decide +kernel)) dL_isSeen_83 ?_
      obtain ⟨v15, hv, h⟩ := pr_b1_some h
      have K : pr_W (pr_EC l e) Y { frames := 2, cells := 0, slots := 0, locals := 47 } 21 f 99 [(0, .ref (pr_ad (pr_EC l e) p1)), (1, .int p2), (2, .ref (pr_ad (pr_EC l e) p3)), (3, .ref (pr_ad (pr_EC l e) p4)), (4, .int p5), (5, .int p6), (6, .int p7), (8, .int r9), (9, .int r11), (10, .int v12)] [.int v15] := by
        refine pr_istore (lv' := [(11, .int v15), (0, .ref (pr_ad (pr_EC l e) p1)), (1, .int p2), (2, .ref (pr_ad (pr_EC l e) p3)), (3, .ref (pr_ad (pr_EC l e) p4)), (4, .int p5), (5, .int p6), (6, .int p7), (8, .int r9), (9, .int r11), (10, .int v12)]) C dL_isSeen_99 (by decide) rfl ?_
        refine pr_iload C dL_isSeen_101 10 rfl ?_
        obtain ⟨v18, hv, h⟩ := pr_b1_some h
        have K : pr_W (pr_EC l e) Y { frames := 2, cells := 0, slots := 0, locals := 47 } 21 f 145 [(0, .ref (pr_ad (pr_EC l e) p1)), (1, .int p2), (2, .ref (pr_ad (pr_EC l e) p3)), (3, .ref (pr_ad (pr_EC l e) p4)), (4, .int p5), (5, .int p6), (6, .int p7)] [.int v18] := by
          refine pr_istore (lv' := [(12, .int v18), (0, .ref (pr_ad (pr_EC l e) p1)), (1, .int p2), (2, .ref (pr_ad (pr_EC l e) p3)), (3, .ref (pr_ad (pr_EC l e) p4)), (4, .int p5), (5, .int p6), (6, .int p7)]) C dL_isSeen_145 (by decide) rfl ?_
          refine pr_aload_n C dL_isSeen_147 rfl 1 rfl ?_
          refine pr_iload_n C dL_isSeen_148 rfl 2 rfl ?_
          refine pr_iconst (v := 2) C dL_isSeen_149 (by decide) ?_
          obtain ⟨r26, hc25, h⟩ := pr_b1_some h
          refine k_X8_seen C pr_w366 hk01 hc25 (Nat.le_of_ble_eq_true rfl) (Nat.le_of_ble_eq_true rfl) (Nat.le_of_ble_eq_true rfl) dL_isSeen_150 ?_
          refine pr_iload C dL_isSeen_153 5 rfl ?_
          refine pr_icmp_ne (tgt := 180) C dL_isSeen_155 (by decide) (fun c27 => ?_) (fun c27 => ?_)
          · have h := pr_ifF h c27
            refine pr_iconst (v := 0) C dL_isSeen_180 (by decide) ?_
            obtain ⟨rfl, rfl⟩ := pr_inj h
            exact pr_zret C (by decide) Z dL_isSeen_181
          · have h := pr_ifT h c27
            refine pr_aload_n C dL_isSeen_158 rfl 1 rfl ?_
            refine pr_iload_n C dL_isSeen_159 rfl 2 rfl ?_
            refine pr_iconst (v := 3) C dL_isSeen_160 (by decide) ?_
            obtain ⟨r29, hc28, h⟩ := pr_b1_some h
            refine k_X8_seen C pr_w366 hk01 hc28 (Nat.le_of_ble_eq_true rfl) (Nat.le_of_ble_eq_true rfl) (Nat.le_of_ble_eq_true rfl) dL_isSeen_161 ?_
            refine pr_iload C dL_isSeen_164 6 rfl ?_
            refine pr_icmp_ne (tgt := 180) C dL_isSeen_166 (by decide) (fun c30 => ?_) (fun c30 => ?_)
            · have h := pr_ifF h c30
              refine pr_iconst (v := 0) C dL_isSeen_180 (by decide) ?_
              obtain ⟨rfl, rfl⟩ := pr_inj h
              exact pr_zret C (by decide) Z dL_isSeen_181
            · have h := pr_ifT h c30
              refine pr_aload_n C dL_isSeen_169 rfl 1 rfl ?_
              refine pr_iload_n C dL_isSeen_170 rfl 2 rfl ?_
              refine pr_iconst (v := 4) C dL_isSeen_171 (by decide) ?_
              obtain ⟨r32, hc31, h⟩ := pr_b1_some h
              refine k_X8_seen C pr_w366 hk01 hc31 (Nat.le_of_ble_eq_true rfl) (Nat.le_of_ble_eq_true rfl) (Nat.le_of_ble_eq_true rfl) dL_isSeen_172 ?_
              refine pr_iload C dL_isSeen_175 0 rfl ?_
              refine pr_icmp_eq (tgt := 182) C dL_isSeen_177 (by decide) (fun c33 => ?_) (fun c33 => ?_)
              · have h := pr_ifT h c33
                refine pr_iload C dL_isSeen_182 0 rfl ?_
                refine pr_if_ne (tgt := 224) C dL_isSeen_184 (by decide) (fun c34 => ?_) (fun c34 => ?_)
                · have h := pr_ifF h c34
                  refine pr_iload C dL_isSeen_224 0 rfl ?_
                  refine pr_iconst (v := 1) C dL_isSeen_226 (by decide) ?_
                  obtain ⟨v35, hv, h⟩ := pr_b1_some h
                  have K : pr_W (pr_EC l e) Y { frames := 2, cells := 0, slots := 0, locals := 47 } 21 f 238 [(0, .ref (pr_ad (pr_EC l e) p1)), (1, .int p2), (2, .ref (pr_ad (pr_EC l e) p3)), (3, .ref (pr_ad (pr_EC l e) p4)), (5, .int p6), (6, .int p7), (12, .int v18)] [.int v35] := by
                    refine pr_istore (lv' := [(13, .int v35), (0, .ref (pr_ad (pr_EC l e) p1)), (1, .int p2), (2, .ref (pr_ad (pr_EC l e) p3)), (3, .ref (pr_ad (pr_EC l e) p4)), (5, .int p6), (6, .int p7), (12, .int v18)]) C dL_isSeen_238 (by decide) rfl ?_
                    refine pr_iload C dL_isSeen_240 7 rfl ?_
                    refine pr_iconst (v := 1) C dL_isSeen_242 (by decide) ?_
                    obtain ⟨v37, hv, h⟩ := pr_b1_some h
                    have K : pr_W (pr_EC l e) Y { frames := 2, cells := 0, slots := 0, locals := 47 } 21 f 255 [(0, .ref (pr_ad (pr_EC l e) p1)), (1, .int p2), (2, .ref (pr_ad (pr_EC l e) p3)), (3, .ref (pr_ad (pr_EC l e) p4)), (6, .int p7), (13, .int v35)] [.int v37] := by
                      refine pr_istore (lv' := [(14, .int v37), (0, .ref (pr_ad (pr_EC l e) p1)), (1, .int p2), (2, .ref (pr_ad (pr_EC l e) p3)), (3, .ref (pr_ad (pr_EC l e) p4)), (6, .int p7), (13, .int v35)]) C dL_isSeen_255 (by decide) rfl ?_
                      refine pr_aload_n C dL_isSeen_257 rfl 1 rfl ?_
                      refine pr_iload_n C dL_isSeen_258 rfl 2 rfl ?_
                      refine pr_iconst (v := 5) C dL_isSeen_259 (by decide) ?_
                      obtain ⟨r40, hc39, h⟩ := pr_b1_some h
                      refine k_X8_seen C pr_w366 hk01 hc39 (Nat.le_of_ble_eq_true rfl) (Nat.le_of_ble_eq_true rfl) (Nat.le_of_ble_eq_true rfl) dL_isSeen_260 ?_
                      refine pr_iload C dL_isSeen_263 6 rfl ?_
                      refine pr_icmp_ne (tgt := 280) C dL_isSeen_265 (by decide) (fun c41 => ?_) (fun c41 => ?_)
                      · have h := pr_ifF h c41
                        refine pr_iconst (v := 0) C dL_isSeen_280 (by decide) ?_
                        obtain ⟨rfl, rfl⟩ := pr_inj h
                        exact pr_zret C (by decide) Z dL_isSeen_281
                      · have h := pr_ifT h c41
                        refine pr_aload_n C dL_isSeen_268 rfl 1 rfl ?_
                        refine pr_iload_n C dL_isSeen_269 rfl 2 rfl ?_
                        refine pr_bipush (v := 6) C dL_isSeen_270 (by decide) ?_
                        obtain ⟨r43, hc42, h⟩ := pr_b1_some h
                        refine k_X8_seen C pr_w366 hk01 hc42 (Nat.le_of_ble_eq_true rfl) (Nat.le_of_ble_eq_true rfl) (Nat.le_of_ble_eq_true rfl) dL_isSeen_272 ?_
                        refine pr_iload C dL_isSeen_275 0 rfl ?_
                        refine pr_icmp_eq (tgt := 282) C dL_isSeen_277 (by decide) (fun c44 => ?_) (fun c44 => ?_)
                        · have h := pr_ifT h c44
                          refine pr_aload_n C dL_isSeen_282 rfl 3 rfl ?_
                          refine pr_bipush (v := 6) C dL_isSeen_283 (by decide) ?_
                          refine pr_iconst (v := 0) C dL_isSeen_285 (by decide) ?_
                          refine pr_iastore C hk03 (pr_inlit (by decide +kernel)) dL_isSeen_286 (fun f45 e46 => ?_)
                          have h := pr_lt_at h e46
                          refine pr_aload_n C dL_isSeen_287 rfl 1 rfl ?_
                          refine pr_iload_n C dL_isSeen_288 rfl 2 rfl ?_
                          refine pr_bipush (v := 8) C dL_isSeen_289 (by decide) ?_
                          obtain ⟨r48, hc47, h⟩ := pr_b1_some h
                          refine k_X8_get C pr_w363 hk01 hc47 (Nat.le_of_ble_eq_true rfl) (Nat.le_of_ble_eq_true rfl) (Nat.le_of_ble_eq_true rfl) dL_isSeen_291 ?_
                          refine pr_istore (lv' := [(15, .int r48), (14, .int v37), (0, .ref (pr_ad (pr_EC l e) p1)), (1, .int p2), (2, .ref (pr_ad (pr_EC l e) p3)), (3, .ref (pr_ad (pr_EC l e) p4)), (6, .int p7), (13, .int v35)]) C dL_isSeen_294 (by decide) rfl ?_
                          refine pr_iload C dL_isSeen_296 6 rfl ?_
                          obtain ⟨r50, hc49, h⟩ := pr_b1_some h
                          refine k_L_size C pr_w371  hc49 (Nat.le_of_ble_eq_true rfl) (Nat.le_of_ble_eq_true rfl) (Nat.le_of_ble_eq_true rfl) dL_isSeen_298 ?_
                          refine pr_bipush (v := 9) C dL_isSeen_301 (by decide) ?_
                          obtain ⟨v51, f52, hv, h⟩ := pr_bd_some h
                          have K : pr_W (pr_EC l e) Y { frames := 2, cells := 0, slots := 0, locals := 47 } 21 f52 344 [(0, .ref (pr_ad (pr_EC l e) p1)), (1, .int p2), (2, .ref (pr_ad (pr_EC l e) p3)), (3, .ref (pr_ad (pr_EC l e) p4)), (13, .int v35), (14, .int v37)] [] := by
                            refine pr_aload_n C dL_isSeen_344 rfl 2 rfl ?_
                            refine pr_bipush (v := 8) C dL_isSeen_345 (by decide) ?_
                            refine pr_iload C dL_isSeen_347 4 rfl ?_
                            refine pr_iastore C hk03 (pr_inlit (by decide +kernel)) dL_isSeen_349 (fun f60 e61 => ?_)
                            have h := pr_lt_at h e61
                            refine pr_aload_n C dL_isSeen_350 rfl 2 rfl ?_
                            refine pr_bipush (v := 9) C dL_isSeen_351 (by decide) ?_
                            refine pr_iload C dL_isSeen_353 5 rfl ?_
                            refine pr_iastore C hk03 (pr_inlit (by decide +kernel)) dL_isSeen_355 (fun f62 e63 => ?_)
                            have h := pr_lt_at h e63
                            refine pr_aload_n C dL_isSeen_356 rfl 0 rfl ?_
                            refine pr_iload_n C dL_isSeen_357 rfl 1 rfl ?_
                            refine pr_bipush (v := 6) C dL_isSeen_358 (by decide) ?_
                            obtain ⟨r65, hc64, h⟩ := pr_b1_some h
                            refine k_X8_get C pr_w363 hk01 hc64 (Nat.le_of_ble_eq_true rfl) (Nat.le_of_ble_eq_true rfl) (Nat.le_of_ble_eq_true rfl) dL_isSeen_360 ?_
                            refine pr_istore (lv' := [(16, .int r65), (0, .ref (pr_ad (pr_EC l e) p1)), (1, .int p2), (2, .ref (pr_ad (pr_EC l e) p3)), (3, .ref (pr_ad (pr_EC l e) p4)), (13, .int v35), (14, .int v37)]) C dL_isSeen_363 (by decide) rfl ?_
                            refine pr_aload_n C dL_isSeen_365 rfl 1 rfl ?_
                            refine pr_iload_n C dL_isSeen_366 rfl 2 rfl ?_
                            refine pr_iconst (v := 4) C dL_isSeen_367 (by decide) ?_
                            obtain ⟨r67, hc66, h⟩ := pr_b1_some h
                            refine k_X8_get C pr_w363 hk01 hc66 (Nat.le_of_ble_eq_true rfl) (Nat.le_of_ble_eq_true rfl) (Nat.le_of_ble_eq_true rfl) dL_isSeen_368 ?_
                            refine pr_istore (lv' := [(17, .int r67), (16, .int r65), (0, .ref (pr_ad (pr_EC l e) p1)), (1, .int p2), (2, .ref (pr_ad (pr_EC l e) p3)), (3, .ref (pr_ad (pr_EC l e) p4)), (13, .int v35), (14, .int v37)]) C dL_isSeen_371 (by decide) rfl ?_
                            refine pr_aload_n C dL_isSeen_373 rfl 2 rfl ?_
                            refine pr_iload_n C dL_isSeen_374 rfl 3 rfl ?_
                            refine pr_bipush (v := 7) C dL_isSeen_375 (by decide) ?_
                            obtain ⟨r69, hc68, h⟩ := pr_b1_some h
                            refine k_X8_get C pr_w363 hk01 hc68 (Nat.le_of_ble_eq_true rfl) (Nat.le_of_ble_eq_true rfl) (Nat.le_of_ble_eq_true rfl) dL_isSeen_377 ?_
                            refine pr_istore (lv' := [(18, .int r69), (17, .int r67), (16, .int r65), (0, .ref (pr_ad (pr_EC l e) p1)), (1, .int p2), (2, .ref (pr_ad (pr_EC l e) p3)), (3, .ref (pr_ad (pr_EC l e) p4)), (13, .int v35), (14, .int v37)]) C dL_isSeen_380 (by decide) rfl ?_
                            refine pr_aload_n C dL_isSeen_382 rfl 5 rfl ?_
                            refine pr_iconst (v := 5) C dL_isSeen_383 (by decide) ?_
                            refine pr_iaload C hk03 (pr_inlit (by decide +kernel)) dL_isSeen_384 ?_
                            refine pr_if_ne (tgt := 547) C dL_isSeen_385 (by decide) (fun c70 => ?_) (fun c70 => ?_)
                            · have h := pr_ifF h c70
                              refine pr_iconst (v := 1) C dL_isSeen_547 (by decide) ?_
                              obtain ⟨rfl, rfl⟩ := pr_inj h
                              exact pr_zret C (by decide) Z dL_isSeen_548
                            · have h := pr_ifT h c70
                              refine pr_iload C dL_isSeen_388 7 rfl ?_
                              obtain ⟨r72, hc71, h⟩ := pr_b1_some h
                              refine k_L_size C pr_w371  hc71 (Nat.le_of_ble_eq_true rfl) (Nat.le_of_ble_eq_true rfl) (Nat.le_of_ble_eq_true rfl) dL_isSeen_390 ?_
                              refine pr_iload C dL_isSeen_393 2 rfl ?_
                              refine pr_icmp_gt (tgt := 408) C dL_isSeen_395 (by decide) (fun c73 => ?_) (fun c73 => ?_)
                              · have h := pr_ifT h c73
                                refine pr_aload_n C dL_isSeen_408 rfl 5 rfl ?_
                                refine pr_iconst (v := 0) C dL_isSeen_409 (by decide) ?_
                                refine pr_iaload C hk03 (pr_inlit (by decide +kernel)) dL_isSeen_410 ?_
                                refine pr_istore (lv' := [(19, .int (f62 p3 (Int32.toNatClampNeg 0))), (18, .int r69), (17, .int r67), (16, .int r65), (0, .ref (pr_ad (pr_EC l e) p1)), (1, .int p2), (2, .ref (pr_ad (pr_EC l e) p3)), (3, .ref (pr_ad (pr_EC l e) p4)), (13, .int v35), (14, .int v37)]) C dL_isSeen_411 (by decide) rfl ?_
                                refine pr_aload_n C dL_isSeen_413 rfl 6 rfl ?_
                                refine pr_iconst (v := 1) C dL_isSeen_414 (by decide) ?_
                                refine pr_iaload C hk03 (pr_inlit (by decide +kernel)) dL_isSeen_415 ?_
                                refine pr_istore (lv' := [(20, .int (f62 p3 (Int32.toNatClampNeg 1))), (19, .int (f62 p3 (Int32.toNatClampNeg 0))), (18, .int r69), (17, .int r67), (16, .int r65), (0, .ref (pr_ad (pr_EC l e) p1)), (1, .int p2), (2, .ref (pr_ad (pr_EC l e) p3)), (3, .ref (pr_ad (pr_EC l e) p4)), (13, .int v35), (14, .int v37)]) C dL_isSeen_416 (by decide) rfl ?_
                                refine pr_iload C dL_isSeen_418 9 rfl ?_
                                obtain ⟨r75, hc74, h⟩ := pr_b1_some h
                                refine k_L_size C pr_w371  hc74 (Nat.le_of_ble_eq_true rfl) (Nat.le_of_ble_eq_true rfl) (Nat.le_of_ble_eq_true rfl) dL_isSeen_420 ?_
                                refine pr_iload C dL_isSeen_423 4 rfl ?_
                                obtain ⟨v76, f77, hv, h⟩ := pr_bd_some h
                                have K : pr_W (pr_EC l e) Y { frames := 2, cells := 0, slots := 0, locals := 47 } 21 f77 481 [(0, .ref (pr_ad (pr_EC l e) p1)), (1, .int p2), (2, .ref (pr_ad (pr_EC l e) p3)), (3, .ref (pr_ad (pr_EC l e) p4)), (14, .int v37), (16, .int r65), (17, .int r67), (18, .int r69), (19, .int (f62 p3 (Int32.toNatClampNeg 0))), (20, .int (f62 p3 (Int32.toNatClampNeg 1)))] [] := by
                                  refine pr_iload C dL_isSeen_481 4 rfl ?_
                                  obtain ⟨r92, hc91, h⟩ := pr_b1_some h
                                  refine k_L_size C pr_w371  hc91 (Nat.le_of_ble_eq_true rfl) (Nat.le_of_ble_eq_true rfl) (Nat.le_of_ble_eq_true rfl) dL_isSeen_483 ?_
                                  refine pr_iload C dL_isSeen_486 5 rfl ?_
                                  obtain ⟨v93, f94, hv, h⟩ := pr_bd_some h
                                  have K : pr_W (pr_EC l e) Y { frames := 2, cells := 0, slots := 0, locals := 47 } 21 f94 518 [(0, .ref (pr_ad (pr_EC l e) p1)), (1, .int p2), (2, .ref (pr_ad (pr_EC l e) p3)), (3, .ref (pr_ad (pr_EC l e) p4)), (19, .int (f62 p3 (Int32.toNatClampNeg 0))), (20, .int (f62 p3 (Int32.toNatClampNeg 1)))] [] := by
                                    refine pr_aload_n C dL_isSeen_518 rfl 3 rfl ?_
                                    refine pr_iconst (v := 2) C dL_isSeen_519 (by decide) ?_
                                    refine pr_aload_n C dL_isSeen_520 rfl 2 rfl ?_
                                    refine pr_iconst (v := 0) C dL_isSeen_521 (by decide) ?_
                                    refine pr_iaload C hk03 (pr_inlit (by decide +kernel)) dL_isSeen_522 ?_
                                    refine pr_iload C dL_isSeen_523 4 rfl ?_
                                    refine pr_isub C dL_isSeen_525 ?_
                                    refine pr_iastore C hk04 (pr_inlit (by decide +kernel)) dL_isSeen_526 (fun f102 e103 => ?_)
                                    have h := pr_lt_at h e103
                                    refine pr_aload_n C dL_isSeen_527 rfl 3 rfl ?_
                                    refine pr_iconst (v := 3) C dL_isSeen_528 (by decide) ?_
                                    refine pr_aload_n C dL_isSeen_529 rfl 2 rfl ?_
                                    refine pr_iconst (v := 1) C dL_isSeen_530 (by decide) ?_
                                    refine pr_iaload C hk03 (pr_inlit (by decide +kernel)) dL_isSeen_531 ?_
                                    refine pr_iload C dL_isSeen_532 5 rfl ?_
                                    refine pr_isub C dL_isSeen_534 ?_
                                    refine pr_iastore C hk04 (pr_inlit (by decide +kernel)) dL_isSeen_535 (fun f104 e105 => ?_)
                                    have h := pr_lt_at h e105
                                    refine pr_aload_n C dL_isSeen_536 rfl 2 rfl ?_
                                    refine pr_iconst (v := 5) C dL_isSeen_537 (by decide) ?_
                                    refine pr_aload_n C dL_isSeen_538 rfl 0 rfl ?_
                                    refine pr_iload_n C dL_isSeen_539 rfl 1 rfl ?_
                                    refine pr_iconst (v := 1) C dL_isSeen_540 (by decide) ?_
                                    obtain ⟨r107, hc106, h⟩ := pr_b1_some h
                                    refine k_X8_get C pr_w363 hk01 hc106 (Nat.le_of_ble_eq_true rfl) (Nat.le_of_ble_eq_true rfl) (Nat.le_of_ble_eq_true rfl) dL_isSeen_541 ?_
                                    refine pr_iconst (v := 1) C dL_isSeen_544 (by decide) ?_
                                    refine pr_iadd C dL_isSeen_545 ?_
                                    refine pr_iastore C hk03 (pr_inlit (by decide +kernel)) dL_isSeen_546 (fun f108 e109 => ?_)
                                    have h := pr_lt_at h e109
                                    refine pr_iconst (v := 1) C dL_isSeen_547 (by decide) ?_
                                    obtain ⟨rfl, rfl⟩ := pr_inj h
                                    exact pr_zret C (by decide) Z dL_isSeen_548
                                  clear h
                                  have h := hv
                                  clear hv
                                  refine pr_icmp_le (tgt := 518) C dL_isSeen_488 (by decide) (fun c95 => ?_) (fun c95 => ?_)
                                  · have h := pr_ifT h c95
                                    obtain ⟨rfl, rfl⟩ := pr_inj h
                                    exact pr_pick [0, 1, 2, 3, 8, 9] rfl K
                                  · have h := pr_ifF h c95
                                    refine pr_aload_n C dL_isSeen_491 rfl 2 rfl ?_
                                    refine pr_iconst (v := 1) C dL_isSeen_492 (by decide) ?_
                                    refine pr_iload C dL_isSeen_493 9 rfl ?_
                                    refine pr_iload C dL_isSeen_495 6 rfl ?_
                                    refine pr_iload C dL_isSeen_497 4 rfl ?_
                                    refine pr_imul C dL_isSeen_499 ?_
                                    refine pr_ineg C dL_isSeen_500 ?_
                                    refine pr_sipush (v := 256) C dL_isSeen_501 (by decide) ?_
                                    refine pr_idiv C dL_isSeen_504 (by decide) ?_
                                    refine pr_iload C dL_isSeen_505 7 rfl ?_
                                    obtain ⟨r97, hc96, h⟩ := pr_b1_some h
                                    refine k_L_limited C pr_w373  hc96 (Nat.le_of_ble_eq_true rfl) (Nat.le_of_ble_eq_true rfl) (Nat.le_of_ble_eq_true rfl) dL_isSeen_507 ?_
                                    refine pr_iadd C dL_isSeen_510 ?_
                                    refine pr_sipush (v := 3000) C dL_isSeen_511 (by decide) ?_
                                    obtain ⟨r99, hc98, h⟩ := pr_b1_some h
                                    refine k_L_limited C pr_w373  hc98 (Nat.le_of_ble_eq_true rfl) (Nat.le_of_ble_eq_true rfl) (Nat.le_of_ble_eq_true rfl) dL_isSeen_514 ?_
                                    refine pr_iastore C hk03 (pr_inlit (by decide +kernel)) dL_isSeen_517 (fun f100 e101 => ?_)
                                    have h := pr_lt_at h e101
                                    obtain ⟨rfl, rfl⟩ := pr_inj h
                                    exact pr_pick [0, 1, 2, 3, 8, 9] rfl K
                                clear h
                                have h := hv
                                clear hv
                                refine pr_icmp_le (tgt := 481) C dL_isSeen_425 (by decide) (fun c78 => ?_) (fun c78 => ?_)
                                · have h := pr_ifT h c78
                                  obtain ⟨rfl, rfl⟩ := pr_inj h
                                  exact pr_pick [5, 6, 7, 8, 10, 4, 3, 2, 1, 0] rfl K
                                · have h := pr_ifF h c78
                                  refine pr_aload_n C dL_isSeen_428 rfl 7 rfl ?_
                                  refine pr_iconst (v := 4) C dL_isSeen_429 (by decide) ?_
                                  refine pr_aload_n C dL_isSeen_430 rfl 7 rfl ?_
                                  refine pr_iconst (v := 4) C dL_isSeen_431 (by decide) ?_
                                  refine pr_iaload C hk03 (pr_inlit (by decide +kernel)) dL_isSeen_432 ?_
                                  refine pr_iload C dL_isSeen_433 9 rfl ?_
                                  refine pr_iadd C dL_isSeen_435 ?_
                                  refine pr_sipush (v := 20000) C dL_isSeen_436 (by decide) ?_
                                  obtain ⟨r80, hc79, h⟩ := pr_b1_some h
                                  refine k_L_limited C pr_w373  hc79 (Nat.le_of_ble_eq_true rfl) (Nat.le_of_ble_eq_true rfl) (Nat.le_of_ble_eq_true rfl) dL_isSeen_439 ?_
                                  refine pr_iastore C hk03 (pr_inlit (by decide +kernel)) dL_isSeen_442 (fun f81 e82 => ?_)
                                  have h := pr_lt_at h e82
                                  refine pr_aload_n C dL_isSeen_443 rfl 7 rfl ?_
                                  refine pr_iconst (v := 0) C dL_isSeen_444 (by decide) ?_
                                  refine pr_iload C dL_isSeen_445 1 rfl ?_
                                  refine pr_iload C dL_isSeen_447 3 rfl ?_
                                  refine pr_iload C dL_isSeen_449 9 rfl ?_
                                  refine pr_imul C dL_isSeen_451 ?_
                                  refine pr_aload_n C dL_isSeen_452 rfl 5 rfl ?_
                                  refine pr_iload_n C dL_isSeen_453 rfl 6 rfl ?_
                                  refine pr_iconst (v := 5) C dL_isSeen_454 (by decide) ?_
                                  obtain ⟨r84, hc83, h⟩ := pr_b1_some h
                                  refine k_X8_get C pr_w363 hk01 hc83 (Nat.le_of_ble_eq_true rfl) (Nat.le_of_ble_eq_true rfl) (Nat.le_of_ble_eq_true rfl) dL_isSeen_455 ?_
                                  refine pr_aload_n C dL_isSeen_458 rfl 7 rfl ?_
                                  refine pr_iconst (v := 4) C dL_isSeen_459 (by decide) ?_
                                  refine pr_iaload C hk03 (pr_inlit (by decide +kernel)) dL_isSeen_460 ?_
                                  refine pr_imul C dL_isSeen_461 ?_
                                  refine pr_iadd C dL_isSeen_462 ?_
                                  refine pr_ineg C dL_isSeen_463 ?_
                                  refine pr_sipush (v := 256) C dL_isSeen_464 (by decide) ?_
                                  refine pr_idiv C dL_isSeen_467 (by decide) ?_
                                  refine pr_iload C dL_isSeen_468 2 rfl ?_
                                  obtain ⟨r86, hc85, h⟩ := pr_b1_some h
                                  refine k_L_limited C pr_w373  hc85 (Nat.le_of_ble_eq_true rfl) (Nat.le_of_ble_eq_true rfl) (Nat.le_of_ble_eq_true rfl) dL_isSeen_470 ?_
                                  refine pr_iadd C dL_isSeen_473 ?_
                                  refine pr_sipush (v := 5000) C dL_isSeen_474 (by decide) ?_
                                  obtain ⟨r88, hc87, h⟩ := pr_b1_some h
                                  refine k_L_limited C pr_w373  hc87 (Nat.le_of_ble_eq_true rfl) (Nat.le_of_ble_eq_true rfl) (Nat.le_of_ble_eq_true rfl) dL_isSeen_477 ?_
                                  refine pr_iastore C hk03 (pr_inlit (by decide +kernel)) dL_isSeen_480 (fun f89 e90 => ?_)
                                  have h := pr_lt_at h e90
                                  obtain ⟨rfl, rfl⟩ := pr_inj h
                                  exact pr_pick [5, 6, 7, 8, 10, 4, 3, 2, 1, 0] rfl K
                              · have h := pr_ifF h c73
                                refine pr_iload C dL_isSeen_398 8 rfl ?_
                                obtain ⟨r111, hc110, h⟩ := pr_b1_some h
                                refine k_L_size C pr_w371  hc110 (Nat.le_of_ble_eq_true rfl) (Nat.le_of_ble_eq_true rfl) (Nat.le_of_ble_eq_true rfl) dL_isSeen_400 ?_
                                refine pr_iload C dL_isSeen_403 2 rfl ?_
                                refine pr_icmp_le (tgt := 547) C dL_isSeen_405 (by decide) (fun c112 => ?_) (fun c112 => ?_)
                                · have h := pr_ifT h c112
                                  refine pr_iconst (v := 1) C dL_isSeen_547 (by decide) ?_
                                  obtain ⟨rfl, rfl⟩ := pr_inj h
                                  exact pr_zret C (by decide) Z dL_isSeen_548
                                · have h := pr_ifF h c112
                                  refine pr_aload_n C dL_isSeen_408 rfl 5 rfl ?_
                                  refine pr_iconst (v := 0) C dL_isSeen_409 (by decide) ?_
                                  refine pr_iaload C hk03 (pr_inlit (by decide +kernel)) dL_isSeen_410 ?_
                                  refine pr_istore (lv' := [(19, .int (f62 p3 (Int32.toNatClampNeg 0))), (18, .int r69), (17, .int r67), (16, .int r65), (0, .ref (pr_ad (pr_EC l e) p1)), (1, .int p2), (2, .ref (pr_ad (pr_EC l e) p3)), (3, .ref (pr_ad (pr_EC l e) p4)), (13, .int v35), (14, .int v37)]) C dL_isSeen_411 (by decide) rfl ?_
                                  refine pr_aload_n C dL_isSeen_413 rfl 6 rfl ?_
                                  refine pr_iconst (v := 1) C dL_isSeen_414 (by decide) ?_
                                  refine pr_iaload C hk03 (pr_inlit (by decide +kernel)) dL_isSeen_415 ?_
                                  refine pr_istore (lv' := [(20, .int (f62 p3 (Int32.toNatClampNeg 1))), (19, .int (f62 p3 (Int32.toNatClampNeg 0))), (18, .int r69), (17, .int r67), (16, .int r65), (0, .ref (pr_ad (pr_EC l e) p1)), (1, .int p2), (2, .ref (pr_ad (pr_EC l e) p3)), (3, .ref (pr_ad (pr_EC l e) p4)), (13, .int v35), (14, .int v37)]) C dL_isSeen_416 (by decide) rfl ?_
                                  refine pr_iload C dL_isSeen_418 9 rfl ?_
                                  obtain ⟨r114, hc113, h⟩ := pr_b1_some h
                                  refine k_L_size C pr_w371  hc113 (Nat.le_of_ble_eq_true rfl) (Nat.le_of_ble_eq_true rfl) (Nat.le_of_ble_eq_true rfl) dL_isSeen_420 ?_
                                  refine pr_iload C dL_isSeen_423 4 rfl ?_
                                  obtain ⟨v115, f116, hv, h⟩ := pr_bd_some h
                                  have K : pr_W (pr_EC l e) Y { frames := 2, cells := 0, slots := 0, locals := 47 } 21 f116 481 [(0, .ref (pr_ad (pr_EC l e) p1)), (1, .int p2), (2, .ref (pr_ad (pr_EC l e) p3)), (3, .ref (pr_ad (pr_EC l e) p4)), (14, .int v37), (16, .int r65), (17, .int r67), (18, .int r69), (19, .int (f62 p3 (Int32.toNatClampNeg 0))), (20, .int (f62 p3 (Int32.toNatClampNeg 1)))] [] := by
                                    refine pr_iload C dL_isSeen_481 4 rfl ?_
                                    obtain ⟨r131, hc130, h⟩ := pr_b1_some h
                                    refine k_L_size C pr_w371  hc130 (Nat.le_of_ble_eq_true rfl) (Nat.le_of_ble_eq_true rfl) (Nat.le_of_ble_eq_true rfl) dL_isSeen_483 ?_
                                    refine pr_iload C dL_isSeen_486 5 rfl ?_
                                    obtain ⟨v132, f133, hv, h⟩ := pr_bd_some h
                                    have K : pr_W (pr_EC l e) Y { frames := 2, cells := 0, slots := 0, locals := 47 } 21 f133 518 [(0, .ref (pr_ad (pr_EC l e) p1)), (1, .int p2), (2, .ref (pr_ad (pr_EC l e) p3)), (3, .ref (pr_ad (pr_EC l e) p4)), (19, .int (f62 p3 (Int32.toNatClampNeg 0))), (20, .int (f62 p3 (Int32.toNatClampNeg 1)))] [] := by
                                      refine pr_aload_n C dL_isSeen_518 rfl 3 rfl ?_
                                      refine pr_iconst (v := 2) C dL_isSeen_519 (by decide) ?_
                                      refine pr_aload_n C dL_isSeen_520 rfl 2 rfl ?_
                                      refine pr_iconst (v := 0) C dL_isSeen_521 (by decide) ?_
                                      refine pr_iaload C hk03 (pr_inlit (by decide +kernel)) dL_isSeen_522 ?_
                                      refine pr_iload C dL_isSeen_523 4 rfl ?_
                                      refine pr_isub C dL_isSeen_525 ?_
                                      refine pr_iastore C hk04 (pr_inlit (by decide +kernel)) dL_isSeen_526 (fun f141 e142 => ?_)
                                      have h := pr_lt_at h e142
                                      refine pr_aload_n C dL_isSeen_527 rfl 3 rfl ?_
                                      refine pr_iconst (v := 3) C dL_isSeen_528 (by decide) ?_
                                      refine pr_aload_n C dL_isSeen_529 rfl 2 rfl ?_
                                      refine pr_iconst (v := 1) C dL_isSeen_530 (by decide) ?_
                                      refine pr_iaload C hk03 (pr_inlit (by decide +kernel)) dL_isSeen_531 ?_
                                      refine pr_iload C dL_isSeen_532 5 rfl ?_
                                      refine pr_isub C dL_isSeen_534 ?_
                                      refine pr_iastore C hk04 (pr_inlit (by decide +kernel)) dL_isSeen_535 (fun f143 e144 => ?_)
                                      have h := pr_lt_at h e144
                                      refine pr_aload_n C dL_isSeen_536 rfl 2 rfl ?_
                                      refine pr_iconst (v := 5) C dL_isSeen_537 (by decide) ?_
                                      refine pr_aload_n C dL_isSeen_538 rfl 0 rfl ?_
                                      refine pr_iload_n C dL_isSeen_539 rfl 1 rfl ?_
                                      refine pr_iconst (v := 1) C dL_isSeen_540 (by decide) ?_
                                      obtain ⟨r146, hc145, h⟩ := pr_b1_some h
                                      refine k_X8_get C pr_w363 hk01 hc145 (Nat.le_of_ble_eq_true rfl) (Nat.le_of_ble_eq_true rfl) (Nat.le_of_ble_eq_true rfl) dL_isSeen_541 ?_
                                      refine pr_iconst (v := 1) C dL_isSeen_544 (by decide) ?_
                                      refine pr_iadd C dL_isSeen_545 ?_
                                      refine pr_iastore C hk03 (pr_inlit (by decide +kernel)) dL_isSeen_546 (fun f147 e148 => ?_)
                                      have h := pr_lt_at h e148
                                      refine pr_iconst (v := 1) C dL_isSeen_547 (by decide) ?_
                                      obtain ⟨rfl, rfl⟩ := pr_inj h
                                      exact pr_zret C (by decide) Z dL_isSeen_548
                                    clear h
                                    have h := hv
                                    clear hv
                                    refine pr_icmp_le (tgt := 518) C dL_isSeen_488 (by decide) (fun c134 => ?_) (fun c134 => ?_)
                                    · have h := pr_ifT h c134
                                      obtain ⟨rfl, rfl⟩ := pr_inj h
                                      exact pr_pick [0, 1, 2, 3, 8, 9] rfl K
                                    · have h := pr_ifF h c134
                                      refine pr_aload_n C dL_isSeen_491 rfl 2 rfl ?_
                                      refine pr_iconst (v := 1) C dL_isSeen_492 (by decide) ?_
                                      refine pr_iload C dL_isSeen_493 9 rfl ?_
                                      refine pr_iload C dL_isSeen_495 6 rfl ?_
                                      refine pr_iload C dL_isSeen_497 4 rfl ?_
                                      refine pr_imul C dL_isSeen_499 ?_
                                      refine pr_ineg C dL_isSeen_500 ?_
                                      refine pr_sipush (v := 256) C dL_isSeen_501 (by decide) ?_
                                      refine pr_idiv C dL_isSeen_504 (by decide) ?_
                                      refine pr_iload C dL_isSeen_505 7 rfl ?_
                                      obtain ⟨r136, hc135, h⟩ := pr_b1_some h
                                      refine k_L_limited C pr_w373  hc135 (Nat.le_of_ble_eq_true rfl) (Nat.le_of_ble_eq_true rfl) (Nat.le_of_ble_eq_true rfl) dL_isSeen_507 ?_
                                      refine pr_iadd C dL_isSeen_510 ?_
                                      refine pr_sipush (v := 3000) C dL_isSeen_511 (by decide) ?_
                                      obtain ⟨r138, hc137, h⟩ := pr_b1_some h
                                      refine k_L_limited C pr_w373  hc137 (Nat.le_of_ble_eq_true rfl) (Nat.le_of_ble_eq_true rfl) (Nat.le_of_ble_eq_true rfl) dL_isSeen_514 ?_
                                      refine pr_iastore C hk03 (pr_inlit (by decide +kernel)) dL_isSeen_517 (fun f139 e140 => ?_)
                                      have h := pr_lt_at h e140
                                      obtain ⟨rfl, rfl⟩ := pr_inj h
                                      exact pr_pick [0, 1, 2, 3, 8, 9] rfl K
                                  clear h
                                  have h := hv
                                  clear hv
                                  refine pr_icmp_le (tgt := 481) C dL_isSeen_425 (by decide) (fun c117 => ?_) (fun c117 => ?_)
                                  · have h := pr_ifT h c117
                                    obtain ⟨rfl, rfl⟩ := pr_inj h
                                    exact pr_pick [5, 6, 7, 8, 10, 4, 3, 2, 1, 0] rfl K
                                  · have h := pr_ifF h c117
                                    refine pr_aload_n C dL_isSeen_428 rfl 7 rfl ?_
                                    refine pr_iconst (v := 4) C dL_isSeen_429 (by decide) ?_
                                    refine pr_aload_n C dL_isSeen_430 rfl 7 rfl ?_
                                    refine pr_iconst (v := 4) C dL_isSeen_431 (by decide) ?_
                                    refine pr_iaload C hk03 (pr_inlit (by decide +kernel)) dL_isSeen_432 ?_
                                    refine pr_iload C dL_isSeen_433 9 rfl ?_
                                    refine pr_iadd C dL_isSeen_435 ?_
                                    refine pr_sipush (v := 20000) C dL_isSeen_436 (by decide) ?_
                                    obtain ⟨r119, hc118, h⟩ := pr_b1_some h
                                    refine k_L_limited C pr_w373  hc118 (Nat.le_of_ble_eq_true rfl) (Nat.le_of_ble_eq_true rfl) (Nat.le_of_ble_eq_true rfl) dL_isSeen_439 ?_
                                    refine pr_iastore C hk03 (pr_inlit (by decide +kernel)) dL_isSeen_442 (fun f120 e121 => ?_)
                                    have h := pr_lt_at h e121
                                    refine pr_aload_n C dL_isSeen_443 rfl 7 rfl ?_
                                    refine pr_iconst (v := 0) C dL_isSeen_444 (by decide) ?_
                                    refine pr_iload C dL_isSeen_445 1 rfl ?_
                                    refine pr_iload C dL_isSeen_447 3 rfl ?_
                                    refine pr_iload C dL_isSeen_449 9 rfl ?_
                                    refine pr_imul C dL_isSeen_451 ?_
                                    refine pr_aload_n C dL_isSeen_452 rfl 5 rfl ?_
                                    refine pr_iload_n C dL_isSeen_453 rfl 6 rfl ?_
                                    refine pr_iconst (v := 5) C dL_isSeen_454 (by decide) ?_
                                    obtain ⟨r123, hc122, h⟩ := pr_b1_some h
                                    refine k_X8_get C pr_w363 hk01 hc122 (Nat.le_of_ble_eq_true rfl) (Nat.le_of_ble_eq_true rfl) (Nat.le_of_ble_eq_true rfl) dL_isSeen_455 ?_
                                    refine pr_aload_n C dL_isSeen_458 rfl 7 rfl ?_
                                    refine pr_iconst (v := 4) C dL_isSeen_459 (by decide) ?_
                                    refine pr_iaload C hk03 (pr_inlit (by decide +kernel)) dL_isSeen_460 ?_
                                    refine pr_imul C dL_isSeen_461 ?_
                                    refine pr_iadd C dL_isSeen_462 ?_
                                    refine pr_ineg C dL_isSeen_463 ?_
                                    refine pr_sipush (v := 256) C dL_isSeen_464 (by decide) ?_
                                    refine pr_idiv C dL_isSeen_467 (by decide) ?_
                                    refine pr_iload C dL_isSeen_468 2 rfl ?_
                                    obtain ⟨r125, hc124, h⟩ := pr_b1_some h
                                    refine k_L_limited C pr_w373  hc124 (Nat.le_of_ble_eq_true rfl) (Nat.le_of_ble_eq_true rfl) (Nat.le_of_ble_eq_true rfl) dL_isSeen_470 ?_
                                    refine pr_iadd C dL_isSeen_473 ?_
                                    refine pr_sipush (v := 5000) C dL_isSeen_474 (by decide) ?_
                                    obtain ⟨r127, hc126, h⟩ := pr_b1_some h
                                    refine k_L_limited C pr_w373  hc126 (Nat.le_of_ble_eq_true rfl) (Nat.le_of_ble_eq_true rfl) (Nat.le_of_ble_eq_true rfl) dL_isSeen_477 ?_
                                    refine pr_iastore C hk03 (pr_inlit (by decide +kernel)) dL_isSeen_480 (fun f128 e129 => ?_)
                                    have h := pr_lt_at h e129
                                    obtain ⟨rfl, rfl⟩ := pr_inj h
                                    exact pr_pick [5, 6, 7, 8, 10, 4, 3, 2, 1, 0] rfl K
                          clear h
                          have h := hv
                          clear hv
                          refine pr_icmp_le (tgt := 344) C dL_isSeen_303 (by decide) (fun c53 => ?_) (fun c53 => ?_)
                          · have h := pr_ifT h c53
                            obtain ⟨rfl, rfl⟩ := pr_inj h
                            exact pr_pick [2, 3, 4, 5, 7, 1] rfl K
                          · have h := pr_ifF h c53
                            refine pr_iload C dL_isSeen_306 0 rfl ?_
                            refine pr_if_le (tgt := 344) C dL_isSeen_308 (by decide) (fun c54 => ?_) (fun c54 => ?_)
                            · have h := pr_ifT h c54
                              obtain ⟨rfl, rfl⟩ := pr_inj h
                              exact pr_pick [2, 3, 4, 5, 7, 1] rfl K
                            · have h := pr_ifF h c54
                              refine pr_aload_n C dL_isSeen_311 rfl 4 rfl ?_
                              refine pr_iconst (v := 3) C dL_isSeen_312 (by decide) ?_
                              refine pr_aload_n C dL_isSeen_313 rfl 4 rfl ?_
                              refine pr_iconst (v := 3) C dL_isSeen_314 (by decide) ?_
                              refine pr_iaload C hk03 (pr_inlit (by decide +kernel)) dL_isSeen_315 ?_
                              refine pr_iload C dL_isSeen_316 7 rfl ?_
                              refine pr_aload_n C dL_isSeen_318 rfl 4 rfl ?_
                              refine pr_bipush (v := 8) C dL_isSeen_319 (by decide) ?_
                              refine pr_iaload C hk03 (pr_inlit (by decide +kernel)) dL_isSeen_321 ?_
                              refine pr_isub C dL_isSeen_322 ?_
                              refine pr_bipush (v := 100) C dL_isSeen_323 (by decide) ?_
                              refine pr_imul C dL_isSeen_325 ?_
                              refine pr_iload C dL_isSeen_326 6 rfl ?_
                              obtain ⟨hg55, h⟩ := pr_gd_some h
                              refine pr_idiv C dL_isSeen_328 hg55 ?_
                              refine pr_iload C dL_isSeen_329 0 rfl ?_
                              refine pr_imul C dL_isSeen_331 ?_
                              refine pr_sipush (v := 256) C dL_isSeen_332 (by decide) ?_
                              refine pr_idiv C dL_isSeen_335 (by decide) ?_
                              refine pr_iadd C dL_isSeen_336 ?_
                              refine pr_sipush (v := 500) C dL_isSeen_337 (by decide) ?_
                              obtain ⟨r57, hc56, h⟩ := pr_b1_some h
                              refine k_L_limited C pr_w373  hc56 (Nat.le_of_ble_eq_true rfl) (Nat.le_of_ble_eq_true rfl) (Nat.le_of_ble_eq_true rfl) dL_isSeen_340 ?_
                              refine pr_iastore C hk03 (pr_inlit (by decide +kernel)) dL_isSeen_343 (fun f58 e59 => ?_)
                              have h := pr_lt_at h e59
                              obtain ⟨rfl, rfl⟩ := pr_inj h
                              exact pr_pick [2, 3, 4, 5, 7, 1] rfl K
                        · have h := pr_ifF h c44
                          refine pr_iconst (v := 0) C dL_isSeen_280 (by decide) ?_
                          obtain ⟨rfl, rfl⟩ := pr_inj h
                          exact pr_zret C (by decide) Z dL_isSeen_281
                    clear h
                    have h := hv
                    clear hv
                    refine pr_icmp_ne (tgt := 251) C dL_isSeen_243 (by decide) (fun c38 => ?_) (fun c38 => ?_)
                    · have h := pr_ifF h c38
                      refine pr_aload_n C dL_isSeen_251 rfl 3 rfl ?_
                      refine pr_bipush (v := 9) C dL_isSeen_252 (by decide) ?_
                      refine pr_iaload C hk03 (pr_inlit (by decide +kernel)) dL_isSeen_254 ?_
                      obtain rfl := pr_in1 h
                      exact pr_pick [1, 2, 3, 4, 6, 0] rfl K
                    · have h := pr_ifT h c38
                      refine pr_iload C dL_isSeen_246 5 rfl ?_
                      refine pr_goto (tgt := 255) C dL_isSeen_248 (by decide) ?_
                      obtain rfl := pr_in1 h
                      exact pr_pick [1, 2, 3, 4, 6, 0] rfl K
                  clear h
                  have h := hv
                  clear hv
                  refine pr_icmp_ne (tgt := 235) C dL_isSeen_227 (by decide) (fun c36 => ?_) (fun c36 => ?_)
                  · have h := pr_ifF h c36
                    refine pr_aload_n C dL_isSeen_235 rfl 4 rfl ?_
                    refine pr_iconst (v := 4) C dL_isSeen_236 (by decide) ?_
                    refine pr_iaload C hk04 (pr_inlit (by decide +kernel)) dL_isSeen_237 ?_
                    obtain rfl := pr_in1 h
                    exact pr_pick [1, 2, 3, 4, 6, 7, 0] rfl K
                  · have h := pr_ifT h c36
                    refine pr_iload C dL_isSeen_230 5 rfl ?_
                    refine pr_goto (tgt := 238) C dL_isSeen_232 (by decide) ?_
                    obtain rfl := pr_in1 h
                    exact pr_pick [1, 2, 3, 4, 6, 7, 0] rfl K
                · have h := pr_ifT h c34
                  refine pr_aload_n C dL_isSeen_187 rfl 3 rfl ?_
                  refine pr_bipush (v := 6) C dL_isSeen_188 (by decide) ?_
                  refine pr_dup2 C dL_isSeen_190 rfl rfl ?_
                  refine pr_iaload C hk03 (pr_inlit (by decide +kernel)) dL_isSeen_191 ?_
                  refine pr_iconst (v := 1) C dL_isSeen_192 (by decide) ?_
                  refine pr_iadd C dL_isSeen_193 ?_
                  refine pr_iastore C hk03 (pr_inlit (by decide +kernel)) dL_isSeen_194 (fun f149 e150 => ?_)
                  have h := pr_lt_at h e150
                  refine pr_aload_n C dL_isSeen_195 rfl 1 rfl ?_
                  refine pr_iload_n C dL_isSeen_196 rfl 2 rfl ?_
                  refine pr_iconst (v := 5) C dL_isSeen_197 (by decide) ?_
                  obtain ⟨r152, hc151, h⟩ := pr_b1_some h
                  refine k_X8_seen C pr_w366 hk01 hc151 (Nat.le_of_ble_eq_true rfl) (Nat.le_of_ble_eq_true rfl) (Nat.le_of_ble_eq_true rfl) dL_isSeen_198 ?_
                  refine pr_ldc (v := (-1000000006)) C dL_isSeen_201 pr_w370 ?_
                  refine pr_icmp_ne (tgt := 222) C dL_isSeen_203 (by decide) (fun c153 => ?_) (fun c153 => ?_)
                  · have h := pr_ifF h c153
                    refine pr_iconst (v := 0) C dL_isSeen_222 (by decide) ?_
                    obtain ⟨rfl, rfl⟩ := pr_inj h
                    exact pr_zret C (by decide) Z dL_isSeen_223
                  · have h := pr_ifT h c153
                    refine pr_aload_n C dL_isSeen_206 rfl 1 rfl ?_
                    refine pr_iload_n C dL_isSeen_207 rfl 2 rfl ?_
                    refine pr_bipush (v := 6) C dL_isSeen_208 (by decide) ?_
                    obtain ⟨r155, hc154, h⟩ := pr_b1_some h
                    refine k_X8_seen C pr_w366 hk01 hc154 (Nat.le_of_ble_eq_true rfl) (Nat.le_of_ble_eq_true rfl) (Nat.le_of_ble_eq_true rfl) dL_isSeen_210 ?_
                    refine pr_ldc (v := (-1000000006)) C dL_isSeen_213 pr_w370 ?_
                    refine pr_icmp_ne (tgt := 222) C dL_isSeen_215 (by decide) (fun c156 => ?_) (fun c156 => ?_)
                    · have h := pr_ifF h c156
                      refine pr_iconst (v := 0) C dL_isSeen_222 (by decide) ?_
                      obtain ⟨rfl, rfl⟩ := pr_inj h
                      exact pr_zret C (by decide) Z dL_isSeen_223
                    · have h := pr_ifT h c156
                      refine pr_iconst (v := 1) C dL_isSeen_218 (by decide) ?_
                      refine pr_goto (tgt := 223) C dL_isSeen_219 (by decide) ?_
                      obtain ⟨rfl, rfl⟩ := pr_inj h
                      exact pr_zret C (by decide) Z dL_isSeen_223
              · have h := pr_ifF h c33
                refine pr_iconst (v := 0) C dL_isSeen_180 (by decide) ?_
                obtain ⟨rfl, rfl⟩ := pr_inj h
                exact pr_zret C (by decide) Z dL_isSeen_181
        clear h
        have h := hv
        clear hv
        refine pr_if_eq (tgt := 126) C dL_isSeen_103 (by decide) (fun c19 => ?_) (fun c19 => ?_)
        · have h := pr_ifT h c19
          refine pr_iload C dL_isSeen_126 10 rfl ?_
          refine pr_if_eq (tgt := 135) C dL_isSeen_128 (by decide) (fun _ => ?_) (fun c20 => absurd c19 c20)
          refine pr_iload C dL_isSeen_135 0 rfl ?_
          refine pr_if_eq (tgt := 144) C dL_isSeen_137 (by decide) (fun c21 => ?_) (fun c21 => ?_)
          · have h := pr_ifT h c21
            refine pr_iconst (v := 0) C dL_isSeen_144 (by decide) ?_
            obtain rfl := pr_in1 h
            exact pr_pick [1, 2, 3, 4, 5, 6, 7] rfl K
          · have h := pr_ifF h c21
            refine pr_iconst (v := 2) C dL_isSeen_140 (by decide) ?_
            refine pr_goto (tgt := 145) C dL_isSeen_141 (by decide) ?_
            obtain rfl := pr_in1 h
            exact pr_pick [1, 2, 3, 4, 5, 6, 7] rfl K
        · have h := pr_ifF h c19
          refine pr_iload C dL_isSeen_106 0 rfl ?_
          refine pr_if_eq (tgt := 126) C dL_isSeen_108 (by decide) (fun c22 => ?_) (fun c22 => ?_)
          · have h := pr_ifT h c22
            refine pr_iload C dL_isSeen_126 10 rfl ?_
            refine pr_if_eq (tgt := 135) C dL_isSeen_128 (by decide) (fun c23 => absurd c23 c19) (fun _ => ?_)
            refine pr_iconst (v := 1) C dL_isSeen_131 (by decide) ?_
            refine pr_goto (tgt := 145) C dL_isSeen_132 (by decide) ?_
            obtain rfl := pr_in1 h
            exact pr_pick [1, 2, 3, 4, 5, 6, 7] rfl K
          · have h := pr_ifF h c22
            refine pr_iload C dL_isSeen_111 8 rfl ?_
            refine pr_iload C dL_isSeen_113 9 rfl ?_
            refine pr_icmp_gt (tgt := 122) C dL_isSeen_115 (by decide) (fun c24 => ?_) (fun c24 => ?_)
            · have h := pr_ifT h c24
              refine pr_iconst (v := 2) C dL_isSeen_122 (by decide) ?_
              refine pr_goto (tgt := 145) C dL_isSeen_123 (by decide) ?_
              obtain rfl := pr_in1 h
              exact pr_pick [1, 2, 3, 4, 5, 6, 7] rfl K
            · have h := pr_ifF h c24
              refine pr_iconst (v := 1) C dL_isSeen_118 (by decide) ?_
              refine pr_goto (tgt := 145) C dL_isSeen_119 (by decide) ?_
              obtain rfl := pr_in1 h
              exact pr_pick [1, 2, 3, 4, 5, 6, 7] rfl K
      clear h
      have h := hv
      clear hv
      refine pr_if_le (tgt := 98) C dL_isSeen_84 (by decide) (fun c16 => ?_) (fun c16 => ?_)
      · have h := pr_ifT h c16
        refine pr_iconst (v := 0) C dL_isSeen_98 (by decide) ?_
        obtain rfl := pr_in1 h
        exact pr_pick [1, 2, 3, 4, 5, 6, 7, 9, 10, 0] rfl K
      · have h := pr_ifF h c16
        refine pr_iload C dL_isSeen_87 10 rfl ?_
        refine pr_iload C dL_isSeen_89 8 rfl ?_
        refine pr_icmp_gt (tgt := 98) C dL_isSeen_91 (by decide) (fun c17 => ?_) (fun c17 => ?_)
        · have h := pr_ifT h c17
          refine pr_iconst (v := 0) C dL_isSeen_98 (by decide) ?_
          obtain rfl := pr_in1 h
          exact pr_pick [1, 2, 3, 4, 5, 6, 7, 9, 10, 0] rfl K
        · have h := pr_ifF h c17
          refine pr_iconst (v := 1) C dL_isSeen_94 (by decide) ?_
          refine pr_goto (tgt := 99) C dL_isSeen_95 (by decide) ?_
          obtain rfl := pr_in1 h
          exact pr_pick [1, 2, 3, 4, 5, 6, 7, 9, 10, 0] rfl K
    clear h
    have h := hv
    clear hv
    refine pr_if_ne (tgt := 77) C dL_isSeen_63 (by decide) (fun c13 => ?_) (fun c13 => ?_)
    · have h := pr_ifF h c13
      refine pr_iconst (v := 0) C dL_isSeen_77 (by decide) ?_
      obtain rfl := pr_in1 h
      exact pr_pick [3, 4, 5, 6, 7, 8, 9, 2, 1, 0] rfl K
    · have h := pr_ifT h c13
      refine pr_iload C dL_isSeen_66 1 rfl ?_
      refine pr_iload C dL_isSeen_68 2 rfl ?_
      refine pr_icmp_gt (tgt := 77) C dL_isSeen_70 (by decide) (fun c14 => ?_) (fun c14 => ?_)
      · have h := pr_ifT h c14
        refine pr_iconst (v := 0) C dL_isSeen_77 (by decide) ?_
        obtain rfl := pr_in1 h
        exact pr_pick [3, 4, 5, 6, 7, 8, 9, 2, 1, 0] rfl K
      · have h := pr_ifF h c14
        refine pr_iconst (v := 1) C dL_isSeen_73 (by decide) ?_
        refine pr_goto (tgt := 78) C dL_isSeen_74 (by decide) ?_
        obtain rfl := pr_in1 h
        exact pr_pick [3, 4, 5, 6, 7, 8, 9, 2, 1, 0] rfl K
  clear h
  have h := hv
  clear hv
  refine pr_icmp_ge (tgt := 26) C dL_isSeen_16 (by decide) (fun c6 => ?_) (fun c6 => ?_)
  · have h := pr_ifT h c6
    refine pr_iconst (v := 4) C dL_isSeen_26 (by decide) ?_
    refine pr_goto (tgt := 31) C dL_isSeen_27 (by decide) ?_
    obtain rfl := pr_in1 h
    exact pr_pick [0, 1, 2, 3, 4, 5, 6] rfl K
  · have h := pr_ifF h c6
    refine pr_aload_n C dL_isSeen_19 rfl 2 rfl ?_
    refine pr_bipush (v := 7) C dL_isSeen_20 (by decide) ?_
    refine pr_iaload C hk03 (pr_inlit (by decide +kernel)) dL_isSeen_22 ?_
    refine pr_if_le (tgt := 30) C dL_isSeen_23 (by decide) (fun c7 => ?_) (fun c7 => ?_)
    · have h := pr_ifT h c7
      refine pr_iconst (v := 1) C dL_isSeen_30 (by decide) ?_
      obtain rfl := pr_in1 h
      exact pr_pick [0, 1, 2, 3, 4, 5, 6] rfl K
    · have h := pr_ifF h c7
      refine pr_iconst (v := 4) C dL_isSeen_26 (by decide) ?_
      refine pr_goto (tgt := 31) C dL_isSeen_27 (by decide) ?_
      obtain rfl := pr_in1 h
      exact pr_pick [0, 1, 2, 3, 4, 5, 6] rfl K
theorem k_L_isSeen {l : Launch} {e : pr_E0} {Y : pr_Y} {Rm : Room} {cc : ByteArray} {own : String} {nL : Nat} {c0 : Cond} {pc idx : Nat} {lv : List (Nat × Value)} {st : List Value} {p1 : Nat} {p2 : Int32} {p3 : Nat} {p4 : Nat} {p5 : Int32} {p6 : Int32} {p7 : Int32} {f : pr_M} {r : Int32} {g : pr_M} (C : pr_C (pr_EC l e) Y Rm cc own nL c0) (w1 : Cond.methodLink own idx yL_isSeen ∈ pr_AL) (hk01 : (pr_LE e)[p1]? = some (8, 0)) (hk03 : (pr_LE e)[p3]? = some (10, 14)) (hk04 : (pr_LE e)[p4]? = some (10, 5)) (h : F_L_isSeen p1 p2 p3 p4 p5 p6 p7 f = some (r, g)) (hr1 : 3 ≤ Rm.frames) (hr2 : 87 ≤ Rm.locals) (hcat : (st.map fun v => v.category).sum ≤ 8) (hdg : decode cc pc = .ok (.invokestatic idx, 3)) (k : pr_W (pr_EC l e) Y Rm nL g (pc + 3) lv (.int r :: st)) : pr_W (pr_EC l e) Y Rm nL f pc lv (.int p7 :: .int p6 :: .int p5 :: .ref (pr_ad (pr_EC l e) p4) :: .ref (pr_ad (pr_EC l e) p3) :: .int p2 :: .ref (pr_ad (pr_EC l e) p1) :: st) :=
  pr_callS (As := [.ref (pr_ad (pr_EC l e) p1), .int p2, .ref (pr_ad (pr_EC l e) p3), .ref (pr_ad (pr_EC l e) p4), .int p5, .int p6, .int p7]) (n := 7) C (m_L_isSeen hk01 hk03 hk04 h) w1 pr_w425 pr_w362 pr_w375 rfl rfl ⟨by decide +kernel, by decide +kernel, by decide +kernel⟩ rfl ⟨hr1, hr2⟩ rfl hcat hdg k

def L_L_isPassed_76 (q0 : Nat) (x1 : Int32) (q2 : Nat) : Nat → Int32 → pr_M → Option ((Unit) × pr_M)
  | 0, _, _ => none
  | n + 1, x4, f =>
    if 13 ≤ x4 then (
      some ((), f)
    ) else (
      pr_gd (¬ (x4 < 0 ∨ 14 ≤ Int32.toNatClampNeg x4)) <|
      pr_b1 (α := Int32) (
        if (f q2 (Int32.toNatClampNeg x4)) ≤ 0 then (
          some 0
        ) else (
          some 1
        )
      ) fun v77003 =>
      pr_lt (pr_up f q2 (Int32.toNatClampNeg x4) ((f q2 (Int32.toNatClampNeg x4)) - v77003)) fun f77005 =>
      L_L_isPassed_76 q0 x1 q2 n (x4 + 1) f77005
    )
set_option maxHeartbeats 4000000 in
set_option maxRecDepth 100000 in
theorem l_L_isPassed_76 {l : Launch} {e : pr_E0} {Y : pr_Y} {c0 : Cond} {q0 : Nat} {x1 : Int32} {q2 : Nat} {z : Unit} {g : pr_M} (C : pr_C (pr_EC l e) Y { frames := 3, cells := 0, slots := 0, locals := 67 } cL_isPassed RL 5 c0) (hq0 : (pr_LE e)[q0]? = some (8, 0)) (hq2 : (pr_LE e)[q2]? = some (10, 14)) : ∀ (n : Nat) (x4 : Int32) (f : pr_M), L_L_isPassed_76 q0 x1 q2 n x4 f = some (z, g) → pr_W (pr_EC l e) Y { frames := 3, cells := 0, slots := 0, locals := 67 } 5 g 108 [(0, .ref (pr_ad (pr_EC l e) q0)), (1, .int x1), (2, .ref (pr_ad (pr_EC l e) q2))] [] → pr_W (pr_EC l e) Y { frames := 3, cells := 0, slots := 0, locals := 67 } 5 f 76 [(0, .ref (pr_ad (pr_EC l e) q0)), (1, .int x1), (2, .ref (pr_ad (pr_EC l e) q2)), (4, .int x4)] [] := by
  intro n
  induction n with
  | zero =>
    intro x4 f h
    exact absurd h (by simp [L_L_isPassed_76])
  | succ n ih =>
    intro x4 f h K
    rw [L_L_isPassed_76] at h
    refine pr_iload C dL_isPassed_76 3 rfl ?_
    refine pr_bipush (v := 13) C dL_isPassed_78 (by decide) ?_
    refine pr_icmp_ge (tgt := 108) C dL_isPassed_80 (by decide) (fun c77001 => ?_) (fun c77001 => ?_)
    · have h := pr_ifT h c77001
      obtain ⟨rfl, rfl⟩ := pr_inj h
      exact pr_pick [0, 1, 2] rfl K
    · have h := pr_ifF h c77001
      refine pr_aload_n C dL_isPassed_83 rfl 2 rfl ?_
      refine pr_iload C dL_isPassed_84 3 rfl ?_
      refine pr_dup2 C dL_isPassed_86 rfl rfl ?_
      obtain ⟨hg77002, h⟩ := pr_gd_some h
      refine pr_iaload C hq2 hg77002 dL_isPassed_87 ?_
      refine pr_aload_n C dL_isPassed_88 rfl 2 rfl ?_
      refine pr_iload C dL_isPassed_89 3 rfl ?_
      refine pr_iaload C hq2 hg77002 dL_isPassed_91 ?_
      obtain ⟨v77003, hv, h⟩ := pr_b1_some h
      have K : pr_W (pr_EC l e) Y { frames := 3, cells := 0, slots := 0, locals := 67 } 5 f 100 [(0, .ref (pr_ad (pr_EC l e) q0)), (1, .int x1), (2, .ref (pr_ad (pr_EC l e) q2)), (4, .int x4)] [.int v77003, .int (f q2 (Int32.toNatClampNeg x4)), .int x4, .ref (pr_ad (pr_EC l e) q2)] := by
        refine pr_isub C dL_isPassed_100 ?_
        refine pr_iastore C hq2 hg77002 dL_isPassed_101 (fun f77005 e77006 => ?_)
        have h := pr_lt_at h e77006
        refine pr_iinc (v := (x4 + 1)) (lv' := [(4, .int (x4 + 1)), (0, .ref (pr_ad (pr_EC l e) q0)), (1, .int x1), (2, .ref (pr_ad (pr_EC l e) q2))]) C dL_isPassed_102 3 rfl rfl (by decide) rfl ?_
        refine pr_goto (tgt := 76) C dL_isPassed_105 (by decide) ?_
        exact pr_pick [1, 2, 3, 0] rfl (ih _ _ h K)
      clear h
      have h := hv
      clear hv
      refine pr_if_le (tgt := 99) C dL_isPassed_92 (by decide) (fun c77004 => ?_) (fun c77004 => ?_)
      · have h := pr_ifT h c77004
        refine pr_iconst (v := 0) C dL_isPassed_99 (by decide) ?_
        obtain rfl := pr_in1 h
        exact pr_pick [0, 1, 2, 3] rfl K
      · have h := pr_ifF h c77004
        refine pr_iconst (v := 1) C dL_isPassed_95 (by decide) ?_
        refine pr_goto (tgt := 100) C dL_isPassed_96 (by decide) ?_
        obtain rfl := pr_in1 h
        exact pr_pick [0, 1, 2, 3] rfl K
def L_L_isPassed_111 (q0 : Nat) (x1 : Int32) (q2 : Nat) : Nat → Int32 → pr_M → Option (Int32 × pr_M)
  | 0, _, _ => none
  | n + 1, x4, f =>
    if 14 ≤ x4 then (
      some (1, f)
    ) else (
      pr_b1 (F_X8_state q0 x1 x4 f) fun r112003 =>
      pr_gd (¬ (x4 < 0 ∨ 14 ≤ Int32.toNatClampNeg x4)) <|
      if r112003 = (f q2 (Int32.toNatClampNeg x4)) then (
        L_L_isPassed_111 q0 x1 q2 n (x4 + 1) f
      ) else (
        some (0, f)
      )
    )
set_option maxHeartbeats 4000000 in
set_option maxRecDepth 100000 in
theorem l_L_isPassed_111 {l : Launch} {e : pr_E0} {Y : pr_Y} {c0 : Cond} {q0 : Nat} {x1 : Int32} {q2 : Nat} {z : Int32} {g : pr_M} (C : pr_C (pr_EC l e) Y { frames := 3, cells := 0, slots := 0, locals := 67 } cL_isPassed RL 5 c0) (hq0 : (pr_LE e)[q0]? = some (8, 0)) (hq2 : (pr_LE e)[q2]? = some (10, 14)) : ∀ (n : Nat) (x4 : Int32) (f : pr_M), L_L_isPassed_111 q0 x1 q2 n x4 f = some (z, g) → pr_Z (pr_EC l e) Y (some .boolean) (some (.int z)) g → pr_W (pr_EC l e) Y { frames := 3, cells := 0, slots := 0, locals := 67 } 5 f 111 [(0, .ref (pr_ad (pr_EC l e) q0)), (1, .int x1), (2, .ref (pr_ad (pr_EC l e) q2)), (4, .int x4)] [] := by
  intro n
  induction n with
  | zero =>
    intro x4 f h
    exact absurd h (by simp [L_L_isPassed_111])
  | succ n ih =>
    intro x4 f h Z
    rw [L_L_isPassed_111] at h
    refine pr_iload C dL_isPassed_111 3 rfl ?_
    refine pr_bipush (v := 14) C dL_isPassed_113 (by decide) ?_
    refine pr_icmp_ge (tgt := 140) C dL_isPassed_115 (by decide) (fun c112001 => ?_) (fun c112001 => ?_)
    · have h := pr_ifT h c112001
      refine pr_iconst (v := 1) C dL_isPassed_140 (by decide) ?_
      obtain ⟨rfl, rfl⟩ := pr_inj h
      exact pr_zret C (by decide) Z dL_isPassed_141
    · have h := pr_ifF h c112001
      refine pr_aload_n C dL_isPassed_118 rfl 0 rfl ?_
      refine pr_iload_n C dL_isPassed_119 rfl 1 rfl ?_
      refine pr_iload C dL_isPassed_120 3 rfl ?_
      obtain ⟨r112003, hc112002, h⟩ := pr_b1_some h
      refine k_X8_state C pr_w355 hq0 hc112002 (Nat.le_of_ble_eq_true rfl) (Nat.le_of_ble_eq_true rfl) (Nat.le_of_ble_eq_true rfl) dL_isPassed_122 ?_
      refine pr_aload_n C dL_isPassed_125 rfl 2 rfl ?_
      refine pr_iload C dL_isPassed_126 3 rfl ?_
      obtain ⟨hg112004, h⟩ := pr_gd_some h
      refine pr_iaload C hq2 hg112004 dL_isPassed_128 ?_
      refine pr_icmp_eq (tgt := 134) C dL_isPassed_129 (by decide) (fun c112005 => ?_) (fun c112005 => ?_)
      · have h := pr_ifT h c112005
        refine pr_iinc (v := (x4 + 1)) (lv' := [(4, .int (x4 + 1)), (0, .ref (pr_ad (pr_EC l e) q0)), (1, .int x1), (2, .ref (pr_ad (pr_EC l e) q2))]) C dL_isPassed_134 3 rfl rfl (by decide) rfl ?_
        refine pr_goto (tgt := 111) C dL_isPassed_137 (by decide) ?_
        exact pr_pick [1, 2, 3, 0] rfl (ih _ _ h Z)
      · have h := pr_ifF h c112005
        refine pr_iconst (v := 0) C dL_isPassed_132 (by decide) ?_
        obtain ⟨rfl, rfl⟩ := pr_inj h
        exact pr_zret C (by decide) Z dL_isPassed_133
def F_L_isPassed (p1 : Nat) (p2 : Int32) (p3 : Nat) (p4 : Nat) (f : pr_M) : Option (Int32 × pr_M) :=
  pr_bd (α := Unit) (
    if (f p3 (Int32.toNatClampNeg 5)) ≤ 0 then (
      some ((), f)
    ) else (
      pr_lt (pr_up f p3 (Int32.toNatClampNeg 5) ((f p3 (Int32.toNatClampNeg 5)) - 1)) fun f4 =>
      pr_b1 (α := Int32) (
        if (f4 p3 (Int32.toNatClampNeg 5)) = 0 then (
          some (f4 p4 (Int32.toNatClampNeg 2))
        ) else (
          some 0
        )
      ) fun v6 =>
      pr_lt (pr_up f4 p3 (Int32.toNatClampNeg 8) ((f4 p3 (Int32.toNatClampNeg 8)) + v6)) fun f8 =>
      pr_b1 (α := Int32) (
        if (f8 p3 (Int32.toNatClampNeg 5)) = 0 then (
          some (f8 p4 (Int32.toNatClampNeg 3))
        ) else (
          some 0
        )
      ) fun v10 =>
      pr_lt (pr_up f8 p3 (Int32.toNatClampNeg 9) ((f8 p3 (Int32.toNatClampNeg 9)) + v10)) fun f12 =>
      some ((), f12)
    )
  ) fun v1 f2 =>
  pr_b1 (α := Int32) (
    if (f2 p3 (Int32.toNatClampNeg 7)) ≤ 0 then (
      some 0
    ) else (
      some 1
    )
  ) fun v14 =>
  pr_lt (pr_up f2 p3 (Int32.toNatClampNeg 7) ((f2 p3 (Int32.toNatClampNeg 7)) - v14)) fun f16 =>
  pr_bd (L_L_isPassed_76 p1 p2 p3 pr_fuel 10 f16) fun v18 f19 =>
  L_L_isPassed_111 p1 p2 p3 pr_fuel 0 f19
set_option maxHeartbeats 4000000 in
set_option maxRecDepth 100000 in
theorem m_L_isPassed {l : Launch} {e : pr_E0} {p1 : Nat} {p2 : Int32} {p3 : Nat} {p4 : Nat} {f : pr_M} {r : Int32} {g : pr_M} (hk01 : (pr_LE e)[p1]? = some (8, 0)) (hk03 : (pr_LE e)[p3]? = some (10, 14)) (hk04 : (pr_LE e)[p4]? = some (10, 5)) (h : F_L_isPassed p1 p2 p3 p4 f = some (r, g)) : pr_Met (pr_EC l e) yL_isPassed cL_isPassed 5 (some .boolean) { frames := 3, cells := 0, slots := 0, locals := 67 } [.ref (pr_ad (pr_EC l e) p1), .int p2, .ref (pr_ad (pr_EC l e) p3), .ref (pr_ad (pr_EC l e) p4)] f (some (.int r)) g := by
  rw [F_L_isPassed] at h
  refine pr_enter (by decide +kernel) (Nat.le_of_ble_eq_true rfl) (fun Y C Z => ?_)
  replace C : pr_C (pr_EC l e) Y { frames := 3, cells := 0, slots := 0, locals := 67 } cL_isPassed RL 5 _ := C
  show pr_W (pr_EC l e) Y _ 5 f 0 [(0, .ref (pr_ad (pr_EC l e) p1)), (1, .int p2), (2, .ref (pr_ad (pr_EC l e) p3)), (3, .ref (pr_ad (pr_EC l e) p4))] []
  refine pr_aload_n C dL_isPassed_0 rfl 2 rfl ?_
  refine pr_iconst (v := 5) C dL_isPassed_1 (by decide) ?_
  refine pr_iaload C hk03 (pr_inlit (by decide +kernel)) dL_isPassed_2 ?_
  obtain ⟨v1, f2, hv, h⟩ := pr_bd_some h
  have K : pr_W (pr_EC l e) Y { frames := 3, cells := 0, slots := 0, locals := 67 } 5 f2 53 [(0, .ref (pr_ad (pr_EC l e) p1)), (1, .int p2), (2, .ref (pr_ad (pr_EC l e) p3))] [] := by
    refine pr_aload_n C dL_isPassed_53 rfl 2 rfl ?_
    refine pr_bipush (v := 7) C dL_isPassed_54 (by decide) ?_
    refine pr_dup2 C dL_isPassed_56 rfl rfl ?_
    refine pr_iaload C hk03 (pr_inlit (by decide +kernel)) dL_isPassed_57 ?_
    refine pr_aload_n C dL_isPassed_58 rfl 2 rfl ?_
    refine pr_bipush (v := 7) C dL_isPassed_59 (by decide) ?_
    refine pr_iaload C hk03 (pr_inlit (by decide +kernel)) dL_isPassed_61 ?_
    obtain ⟨v14, hv, h⟩ := pr_b1_some h
    have K : pr_W (pr_EC l e) Y { frames := 3, cells := 0, slots := 0, locals := 67 } 5 f2 70 [(0, .ref (pr_ad (pr_EC l e) p1)), (1, .int p2), (2, .ref (pr_ad (pr_EC l e) p3))] [.int v14, .int (f2 p3 (Int32.toNatClampNeg 7)), .int 7, .ref (pr_ad (pr_EC l e) p3)] := by
      refine pr_isub C dL_isPassed_70 ?_
      refine pr_iastore C hk03 (pr_inlit (by decide +kernel)) dL_isPassed_71 (fun f16 e17 => ?_)
      have h := pr_lt_at h e17
      refine pr_bipush (v := 10) C dL_isPassed_72 (by decide) ?_
      refine pr_istore (lv' := [(4, .int 10), (0, .ref (pr_ad (pr_EC l e) p1)), (1, .int p2), (2, .ref (pr_ad (pr_EC l e) p3))]) C dL_isPassed_74 (by decide) rfl ?_
      obtain ⟨v18, f19, hv, h⟩ := pr_bd_some h
      refine pr_pick [1, 2, 3, 0] rfl (l_L_isPassed_76 C hk01 hk03 pr_fuel _ _ hv ?_)
      clear hv
      refine pr_iconst (v := 0) C dL_isPassed_108 (by decide) ?_
      refine pr_istore (lv' := [(4, .int 0), (0, .ref (pr_ad (pr_EC l e) p1)), (1, .int p2), (2, .ref (pr_ad (pr_EC l e) p3))]) C dL_isPassed_109 (by decide) rfl ?_
      exact pr_pick [1, 2, 3, 0] rfl (l_L_isPassed_111 C hk01 hk03 pr_fuel _ _ h Z)
    clear h
    have h := hv
    clear hv
    refine pr_if_le (tgt := 69) C dL_isPassed_62 (by decide) (fun c15 => ?_) (fun c15 => ?_)
    · have h := pr_ifT h c15
      refine pr_iconst (v := 0) C dL_isPassed_69 (by decide) ?_
      obtain rfl := pr_in1 h
      exact pr_pick [0, 1, 2] rfl K
    · have h := pr_ifF h c15
      refine pr_iconst (v := 1) C dL_isPassed_65 (by decide) ?_
      refine pr_goto (tgt := 70) C dL_isPassed_66 (by decide) ?_
      obtain rfl := pr_in1 h
      exact pr_pick [0, 1, 2] rfl K
  clear h
  have h := hv
  clear hv
  refine pr_if_le (tgt := 53) C dL_isPassed_3 (by decide) (fun c3 => ?_) (fun c3 => ?_)
  · have h := pr_ifT h c3
    obtain ⟨rfl, rfl⟩ := pr_inj h
    exact pr_pick [0, 1, 2] rfl K
  · have h := pr_ifF h c3
    refine pr_aload_n C dL_isPassed_6 rfl 2 rfl ?_
    refine pr_iconst (v := 5) C dL_isPassed_7 (by decide) ?_
    refine pr_dup2 C dL_isPassed_8 rfl rfl ?_
    refine pr_iaload C hk03 (pr_inlit (by decide +kernel)) dL_isPassed_9 ?_
    refine pr_iconst (v := 1) C dL_isPassed_10 (by decide) ?_
    refine pr_isub C dL_isPassed_11 ?_
    refine pr_iastore C hk03 (pr_inlit (by decide +kernel)) dL_isPassed_12 (fun f4 e5 => ?_)
    have h := pr_lt_at h e5
    refine pr_aload_n C dL_isPassed_13 rfl 2 rfl ?_
    refine pr_bipush (v := 8) C dL_isPassed_14 (by decide) ?_
    refine pr_dup2 C dL_isPassed_16 rfl rfl ?_
    refine pr_iaload C hk03 (pr_inlit (by decide +kernel)) dL_isPassed_17 ?_
    refine pr_aload_n C dL_isPassed_18 rfl 2 rfl ?_
    refine pr_iconst (v := 5) C dL_isPassed_19 (by decide) ?_
    refine pr_iaload C hk03 (pr_inlit (by decide +kernel)) dL_isPassed_20 ?_
    obtain ⟨v6, hv, h⟩ := pr_b1_some h
    have K : pr_W (pr_EC l e) Y { frames := 3, cells := 0, slots := 0, locals := 67 } 5 f4 31 [(0, .ref (pr_ad (pr_EC l e) p1)), (1, .int p2), (2, .ref (pr_ad (pr_EC l e) p3)), (3, .ref (pr_ad (pr_EC l e) p4))] [.int v6, .int (f4 p3 (Int32.toNatClampNeg 8)), .int 8, .ref (pr_ad (pr_EC l e) p3)] := by
      refine pr_iadd C dL_isPassed_31 ?_
      refine pr_iastore C hk03 (pr_inlit (by decide +kernel)) dL_isPassed_32 (fun f8 e9 => ?_)
      have h := pr_lt_at h e9
      refine pr_aload_n C dL_isPassed_33 rfl 2 rfl ?_
      refine pr_bipush (v := 9) C dL_isPassed_34 (by decide) ?_
      refine pr_dup2 C dL_isPassed_36 rfl rfl ?_
      refine pr_iaload C hk03 (pr_inlit (by decide +kernel)) dL_isPassed_37 ?_
      refine pr_aload_n C dL_isPassed_38 rfl 2 rfl ?_
      refine pr_iconst (v := 5) C dL_isPassed_39 (by decide) ?_
      refine pr_iaload C hk03 (pr_inlit (by decide +kernel)) dL_isPassed_40 ?_
      obtain ⟨v10, hv, h⟩ := pr_b1_some h
      have K : pr_W (pr_EC l e) Y { frames := 3, cells := 0, slots := 0, locals := 67 } 5 f8 51 [(0, .ref (pr_ad (pr_EC l e) p1)), (1, .int p2), (2, .ref (pr_ad (pr_EC l e) p3))] [.int v10, .int (f8 p3 (Int32.toNatClampNeg 9)), .int 9, .ref (pr_ad (pr_EC l e) p3)] := by
        refine pr_iadd C dL_isPassed_51 ?_
        refine pr_iastore C hk03 (pr_inlit (by decide +kernel)) dL_isPassed_52 (fun f12 e13 => ?_)
        have h := pr_lt_at h e13
        obtain ⟨rfl, rfl⟩ := pr_inj h
        exact pr_pick [0, 1, 2] rfl K
      clear h
      have h := hv
      clear hv
      refine pr_if_ne (tgt := 50) C dL_isPassed_41 (by decide) (fun c11 => ?_) (fun c11 => ?_)
      · have h := pr_ifF h c11
        refine pr_iconst (v := 0) C dL_isPassed_50 (by decide) ?_
        obtain rfl := pr_in1 h
        exact pr_pick [0, 1, 2] rfl K
      · have h := pr_ifT h c11
        refine pr_aload_n C dL_isPassed_44 rfl 3 rfl ?_
        refine pr_iconst (v := 3) C dL_isPassed_45 (by decide) ?_
        refine pr_iaload C hk04 (pr_inlit (by decide +kernel)) dL_isPassed_46 ?_
        refine pr_goto (tgt := 51) C dL_isPassed_47 (by decide) ?_
        obtain rfl := pr_in1 h
        exact pr_pick [0, 1, 2] rfl K
    clear h
    have h := hv
    clear hv
    refine pr_if_ne (tgt := 30) C dL_isPassed_21 (by decide) (fun c7 => ?_) (fun c7 => ?_)
    · have h := pr_ifF h c7
      refine pr_iconst (v := 0) C dL_isPassed_30 (by decide) ?_
      obtain rfl := pr_in1 h
      exact pr_pick [0, 1, 2, 3] rfl K
    · have h := pr_ifT h c7
      refine pr_aload_n C dL_isPassed_24 rfl 3 rfl ?_
      refine pr_iconst (v := 2) C dL_isPassed_25 (by decide) ?_
      refine pr_iaload C hk04 (pr_inlit (by decide +kernel)) dL_isPassed_26 ?_
      refine pr_goto (tgt := 31) C dL_isPassed_27 (by decide) ?_
      obtain rfl := pr_in1 h
      exact pr_pick [0, 1, 2, 3] rfl K
theorem k_L_isPassed {l : Launch} {e : pr_E0} {Y : pr_Y} {Rm : Room} {cc : ByteArray} {own : String} {nL : Nat} {c0 : Cond} {pc idx : Nat} {lv : List (Nat × Value)} {st : List Value} {p1 : Nat} {p2 : Int32} {p3 : Nat} {p4 : Nat} {f : pr_M} {r : Int32} {g : pr_M} (C : pr_C (pr_EC l e) Y Rm cc own nL c0) (w1 : Cond.methodLink own idx yL_isPassed ∈ pr_AL) (hk01 : (pr_LE e)[p1]? = some (8, 0)) (hk03 : (pr_LE e)[p3]? = some (10, 14)) (hk04 : (pr_LE e)[p4]? = some (10, 5)) (h : F_L_isPassed p1 p2 p3 p4 f = some (r, g)) (hr1 : 4 ≤ Rm.frames) (hr2 : 91 ≤ Rm.locals) (hcat : (st.map fun v => v.category).sum ≤ 8) (hdg : decode cc pc = .ok (.invokestatic idx, 3)) (k : pr_W (pr_EC l e) Y Rm nL g (pc + 3) lv (.int r :: st)) : pr_W (pr_EC l e) Y Rm nL f pc lv (.ref (pr_ad (pr_EC l e) p4) :: .ref (pr_ad (pr_EC l e) p3) :: .int p2 :: .ref (pr_ad (pr_EC l e) p1) :: st) :=
  pr_callS (As := [.ref (pr_ad (pr_EC l e) p1), .int p2, .ref (pr_ad (pr_EC l e) p3), .ref (pr_ad (pr_EC l e) p4)]) (n := 4) C (m_L_isPassed hk01 hk03 hk04 h) w1 pr_w427 pr_w362 pr_w376 rfl rfl ⟨by decide +kernel, by decide +kernel, by decide +kernel⟩ rfl ⟨hr1, hr2⟩ rfl hcat hdg k
