def F_X9_takes (p1 : Int32) (p2 : Int32) (f : pr_M) : Option (Int32) :=
  if p1 = 0 then (
    pr_b1 (F_X9_in p2 1 20 f) fun r3 =>
    pr_gd (r3 = 0 ∨ r3 = 1) <|
    some r3
  ) else (
    if p1 = 1 then (
      pr_b1 (F_X9_in p2 1 10 f) fun r7 =>
      pr_gd (r7 = 0 ∨ r7 = 1) <|
      some r7
    ) else (
      if p1 = 2 then (
        pr_b1 (F_X9_in p2 5 2000 f) fun r11 =>
        pr_gd (r11 = 0 ∨ r11 = 1) <|
        some r11
      ) else (
        if p1 = 3 then (
          pr_b1 (F_X9_in p2 1 20 f) fun r15 =>
          pr_gd (r15 = 0 ∨ r15 = 1) <|
          some r15
        ) else (
          if p1 = 4 then (
            pr_b1 (F_X9_in p2 0 256 f) fun r19 =>
            pr_gd (r19 = 0 ∨ r19 = 1) <|
            some r19
          ) else (
            if p1 = 5 then (
              pr_b1 (F_X9_in p2 0 256 f) fun r23 =>
              pr_gd (r23 = 0 ∨ r23 = 1) <|
              some r23
            ) else (
              if p1 = 6 then (
                pr_b1 (F_X9_in p2 0 500 f) fun r27 =>
                pr_gd (r27 = 0 ∨ r27 = 1) <|
                some r27
              ) else (
                if p1 = 7 then (
                  pr_b1 (F_X9_in p2 1 2000 f) fun r31 =>
                  pr_gd (r31 = 0 ∨ r31 = 1) <|
                  some r31
                ) else (
                  if p1 = 8 then (
                    pr_b1 (F_X9_in p2 0 256 f) fun r35 =>
                    pr_gd (r35 = 0 ∨ r35 = 1) <|
                    some r35
                  ) else (
                    if p1 = 9 then (
                      pr_b1 (F_X9_in p2 0 30 f) fun r39 =>
                      pr_gd (r39 = 0 ∨ r39 = 1) <|
                      some r39
                    ) else (
                      if p1 = 10 then (
                        pr_b1 (F_X9_in p2 (-500) 500 f) fun r43 =>
                        if r43 = 0 then (
                          some 0
                        ) else (
                          some 1
                        )
                      ) else (
                        some 0
                      )
                      )
                      )
                      )
                      )
                      )
                      )
                      )
                      )
                      )
                      )
set_option maxHeartbeats 4000000 in
set_option maxRecDepth 100000 in
theorem m_X9_takes {l : Launch} {e : pr_E0} {p1 : Int32} {p2 : Int32} {f : pr_M} {r : Int32}  (h : F_X9_takes p1 p2 f = some r) : pr_Met (pr_EM l e) yX9_takes cX9_takes 2 (some .boolean) { frames := 1, cells := 0, slots := 0, locals := 22 } [.int p1, .int p2] f (some (.int r)) f := by
  rw [F_X9_takes] at h
  refine pr_enter (by decide +kernel) (Nat.le_of_ble_eq_true rfl) (fun Y C Z => ?_)
  replace C : pr_C (pr_EM l e) Y { frames := 1, cells := 0, slots := 0, locals := 22 } cX9_takes RX9 2 _ := C
  show pr_W (pr_EM l e) Y _ 2 f 0 [(0, .int p1), (1, .int p2)] []
  refine pr_iload_n C dX9_takes_0 rfl 0 rfl ?_
  by_cases c1 : p1 = 0
  · have h := pr_ifT h c1
    refine pr_tableIn (tgt := 56) (off := 55) C dX9_takes_1 c1 (by decide) (by decide) (by decide) (by decide) ?_
    refine pr_iload_n C dX9_takes_56 rfl 1 rfl ?_
    refine pr_iconst (v := 1) C dX9_takes_57 (by decide) ?_
    refine pr_bipush (v := 20) C dX9_takes_58 (by decide) ?_
    obtain ⟨r3, hc2, h⟩ := pr_b1_some h
    refine k_X9_in C pr_w504  hc2 (Nat.le_of_ble_eq_true rfl) (Nat.le_of_ble_eq_true rfl) (Nat.le_of_ble_eq_true rfl) dX9_takes_60 ?_
    obtain ⟨hg4, h⟩ := pr_gd_some h
    obtain rfl := pr_in1 h
    exact pr_zret C (pr_b01 hg4).1 Z dX9_takes_63
  · have h := pr_ifF h c1
    by_cases c5 : p1 = 1
    · have h := pr_ifT h c5
      refine pr_tableIn (tgt := 64) (off := 63) C dX9_takes_1 c5 (by decide) (by decide) (by decide) (by decide) ?_
      refine pr_iload_n C dX9_takes_64 rfl 1 rfl ?_
      refine pr_iconst (v := 1) C dX9_takes_65 (by decide) ?_
      refine pr_bipush (v := 10) C dX9_takes_66 (by decide) ?_
      obtain ⟨r7, hc6, h⟩ := pr_b1_some h
      refine k_X9_in C pr_w504  hc6 (Nat.le_of_ble_eq_true rfl) (Nat.le_of_ble_eq_true rfl) (Nat.le_of_ble_eq_true rfl) dX9_takes_68 ?_
      obtain ⟨hg8, h⟩ := pr_gd_some h
      obtain rfl := pr_in1 h
      exact pr_zret C (pr_b01 hg8).1 Z dX9_takes_71
    · have h := pr_ifF h c5
      by_cases c9 : p1 = 2
      · have h := pr_ifT h c9
        refine pr_tableIn (tgt := 72) (off := 71) C dX9_takes_1 c9 (by decide) (by decide) (by decide) (by decide) ?_
        refine pr_iload_n C dX9_takes_72 rfl 1 rfl ?_
        refine pr_iconst (v := 5) C dX9_takes_73 (by decide) ?_
        refine pr_sipush (v := 2000) C dX9_takes_74 (by decide) ?_
        obtain ⟨r11, hc10, h⟩ := pr_b1_some h
        refine k_X9_in C pr_w504  hc10 (Nat.le_of_ble_eq_true rfl) (Nat.le_of_ble_eq_true rfl) (Nat.le_of_ble_eq_true rfl) dX9_takes_77 ?_
        obtain ⟨hg12, h⟩ := pr_gd_some h
        obtain rfl := pr_in1 h
        exact pr_zret C (pr_b01 hg12).1 Z dX9_takes_80
      · have h := pr_ifF h c9
        by_cases c13 : p1 = 3
        · have h := pr_ifT h c13
          refine pr_tableIn (tgt := 56) (off := 55) C dX9_takes_1 c13 (by decide) (by decide) (by decide) (by decide) ?_
          refine pr_iload_n C dX9_takes_56 rfl 1 rfl ?_
          refine pr_iconst (v := 1) C dX9_takes_57 (by decide) ?_
          refine pr_bipush (v := 20) C dX9_takes_58 (by decide) ?_
          obtain ⟨r15, hc14, h⟩ := pr_b1_some h
          refine k_X9_in C pr_w504  hc14 (Nat.le_of_ble_eq_true rfl) (Nat.le_of_ble_eq_true rfl) (Nat.le_of_ble_eq_true rfl) dX9_takes_60 ?_
          obtain ⟨hg16, h⟩ := pr_gd_some h
          obtain rfl := pr_in1 h
          exact pr_zret C (pr_b01 hg16).1 Z dX9_takes_63
        · have h := pr_ifF h c13
          by_cases c17 : p1 = 4
          · have h := pr_ifT h c17
            refine pr_tableIn (tgt := 81) (off := 80) C dX9_takes_1 c17 (by decide) (by decide) (by decide) (by decide) ?_
            refine pr_iload_n C dX9_takes_81 rfl 1 rfl ?_
            refine pr_iconst (v := 0) C dX9_takes_82 (by decide) ?_
            refine pr_sipush (v := 256) C dX9_takes_83 (by decide) ?_
            obtain ⟨r19, hc18, h⟩ := pr_b1_some h
            refine k_X9_in C pr_w504  hc18 (Nat.le_of_ble_eq_true rfl) (Nat.le_of_ble_eq_true rfl) (Nat.le_of_ble_eq_true rfl) dX9_takes_86 ?_
            obtain ⟨hg20, h⟩ := pr_gd_some h
            obtain rfl := pr_in1 h
            exact pr_zret C (pr_b01 hg20).1 Z dX9_takes_89
          · have h := pr_ifF h c17
            by_cases c21 : p1 = 5
            · have h := pr_ifT h c21
              refine pr_tableIn (tgt := 81) (off := 80) C dX9_takes_1 c21 (by decide) (by decide) (by decide) (by decide) ?_
              refine pr_iload_n C dX9_takes_81 rfl 1 rfl ?_
              refine pr_iconst (v := 0) C dX9_takes_82 (by decide) ?_
              refine pr_sipush (v := 256) C dX9_takes_83 (by decide) ?_
              obtain ⟨r23, hc22, h⟩ := pr_b1_some h
              refine k_X9_in C pr_w504  hc22 (Nat.le_of_ble_eq_true rfl) (Nat.le_of_ble_eq_true rfl) (Nat.le_of_ble_eq_true rfl) dX9_takes_86 ?_
              obtain ⟨hg24, h⟩ := pr_gd_some h
              obtain rfl := pr_in1 h
              exact pr_zret C (pr_b01 hg24).1 Z dX9_takes_89
            · have h := pr_ifF h c21
              by_cases c25 : p1 = 6
              · have h := pr_ifT h c25
                refine pr_tableIn (tgt := 90) (off := 89) C dX9_takes_1 c25 (by decide) (by decide) (by decide) (by decide) ?_
                refine pr_iload_n C dX9_takes_90 rfl 1 rfl ?_
                refine pr_iconst (v := 0) C dX9_takes_91 (by decide) ?_
                refine pr_sipush (v := 500) C dX9_takes_92 (by decide) ?_
                obtain ⟨r27, hc26, h⟩ := pr_b1_some h
                refine k_X9_in C pr_w504  hc26 (Nat.le_of_ble_eq_true rfl) (Nat.le_of_ble_eq_true rfl) (Nat.le_of_ble_eq_true rfl) dX9_takes_95 ?_
                obtain ⟨hg28, h⟩ := pr_gd_some h
                obtain rfl := pr_in1 h
                exact pr_zret C (pr_b01 hg28).1 Z dX9_takes_98
              · have h := pr_ifF h c25
                by_cases c29 : p1 = 7
                · have h := pr_ifT h c29
                  refine pr_tableIn (tgt := 99) (off := 98) C dX9_takes_1 c29 (by decide) (by decide) (by decide) (by decide) ?_
                  refine pr_iload_n C dX9_takes_99 rfl 1 rfl ?_
                  refine pr_iconst (v := 1) C dX9_takes_100 (by decide) ?_
                  refine pr_sipush (v := 2000) C dX9_takes_101 (by decide) ?_
                  obtain ⟨r31, hc30, h⟩ := pr_b1_some h
                  refine k_X9_in C pr_w504  hc30 (Nat.le_of_ble_eq_true rfl) (Nat.le_of_ble_eq_true rfl) (Nat.le_of_ble_eq_true rfl) dX9_takes_104 ?_
                  obtain ⟨hg32, h⟩ := pr_gd_some h
                  obtain rfl := pr_in1 h
                  exact pr_zret C (pr_b01 hg32).1 Z dX9_takes_107
                · have h := pr_ifF h c29
                  by_cases c33 : p1 = 8
                  · have h := pr_ifT h c33
                    refine pr_tableIn (tgt := 81) (off := 80) C dX9_takes_1 c33 (by decide) (by decide) (by decide) (by decide) ?_
                    refine pr_iload_n C dX9_takes_81 rfl 1 rfl ?_
                    refine pr_iconst (v := 0) C dX9_takes_82 (by decide) ?_
                    refine pr_sipush (v := 256) C dX9_takes_83 (by decide) ?_
                    obtain ⟨r35, hc34, h⟩ := pr_b1_some h
                    refine k_X9_in C pr_w504  hc34 (Nat.le_of_ble_eq_true rfl) (Nat.le_of_ble_eq_true rfl) (Nat.le_of_ble_eq_true rfl) dX9_takes_86 ?_
                    obtain ⟨hg36, h⟩ := pr_gd_some h
                    obtain rfl := pr_in1 h
                    exact pr_zret C (pr_b01 hg36).1 Z dX9_takes_89
                  · have h := pr_ifF h c33
                    by_cases c37 : p1 = 9
                    · have h := pr_ifT h c37
                      refine pr_tableIn (tgt := 108) (off := 107) C dX9_takes_1 c37 (by decide) (by decide) (by decide) (by decide) ?_
                      refine pr_iload_n C dX9_takes_108 rfl 1 rfl ?_
                      refine pr_iconst (v := 0) C dX9_takes_109 (by decide) ?_
                      refine pr_bipush (v := 30) C dX9_takes_110 (by decide) ?_
                      obtain ⟨r39, hc38, h⟩ := pr_b1_some h
                      refine k_X9_in C pr_w504  hc38 (Nat.le_of_ble_eq_true rfl) (Nat.le_of_ble_eq_true rfl) (Nat.le_of_ble_eq_true rfl) dX9_takes_112 ?_
                      obtain ⟨hg40, h⟩ := pr_gd_some h
                      obtain rfl := pr_in1 h
                      exact pr_zret C (pr_b01 hg40).1 Z dX9_takes_115
                    · have h := pr_ifF h c37
                      refine pr_tableOut (tgt := 116) C dX9_takes_1 (by have n0 := lv_neT (a := 0) c1 (by decide); have n1 := lv_neT (a := 1) c5 (by decide); have n2 := lv_neT (a := 2) c9 (by decide); have n3 := lv_neT (a := 3) c13 (by decide); have n4 := lv_neT (a := 4) c17 (by decide); have n5 := lv_neT (a := 5) c21 (by decide); have n6 := lv_neT (a := 6) c25 (by decide); have n7 := lv_neT (a := 7) c29 (by decide); have n8 := lv_neT (a := 8) c33 (by decide); have n9 := lv_neT (a := 9) c37 (by decide); omega) (by decide) ?_
                      refine pr_iload_n C dX9_takes_116 rfl 0 rfl ?_
                      refine pr_bipush (v := 10) C dX9_takes_117 (by decide) ?_
                      refine pr_icmp_ne (tgt := 139) C dX9_takes_119 (by decide) (fun c41 => ?_) (fun c41 => ?_)
                      · have h := pr_ifF h c41
                        refine pr_iconst (v := 0) C dX9_takes_139 (by decide) ?_
                        obtain rfl := pr_in1 h
                        exact pr_zret C (by decide) Z dX9_takes_140
                      · have h := pr_ifT h c41
                        refine pr_iload_n C dX9_takes_122 rfl 1 rfl ?_
                        refine pr_sipush (v := (-500)) C dX9_takes_123 (by decide) ?_
                        refine pr_sipush (v := 500) C dX9_takes_126 (by decide) ?_
                        obtain ⟨r43, hc42, h⟩ := pr_b1_some h
                        refine k_X9_in C pr_w504  hc42 (Nat.le_of_ble_eq_true rfl) (Nat.le_of_ble_eq_true rfl) (Nat.le_of_ble_eq_true rfl) dX9_takes_129 ?_
                        refine pr_if_eq (tgt := 139) C dX9_takes_132 (by decide) (fun c44 => ?_) (fun c44 => ?_)
                        · have h := pr_ifT h c44
                          refine pr_iconst (v := 0) C dX9_takes_139 (by decide) ?_
                          obtain rfl := pr_in1 h
                          exact pr_zret C (by decide) Z dX9_takes_140
                        · have h := pr_ifF h c44
                          refine pr_iconst (v := 1) C dX9_takes_135 (by decide) ?_
                          refine pr_goto (tgt := 140) C dX9_takes_136 (by decide) ?_
                          obtain rfl := pr_in1 h
                          exact pr_zret C (by decide) Z dX9_takes_140
theorem k_X9_takes {l : Launch} {e : pr_E0} {Y : pr_Y} {Rm : Room} {cc : ByteArray} {own : String} {nL : Nat} {c0 : Cond} {pc idx : Nat} {lv : List (Nat × Value)} {st : List Value} {p1 : Int32} {p2 : Int32} {f : pr_M} {r : Int32} (C : pr_C (pr_EM l e) Y Rm cc own nL c0) (w1 : Cond.methodLink own idx yX9_takes ∈ pr_AL)  (h : F_X9_takes p1 p2 f = some r) (hr1 : 2 ≤ Rm.frames) (hr2 : 43 ≤ Rm.locals) (hcat : (st.map fun v => v.category).sum ≤ 8) (hdg : decode cc pc = .ok (.invokestatic idx, 3)) (k : pr_W (pr_EM l e) Y Rm nL f (pc + 3) lv (.int r :: st)) : pr_W (pr_EM l e) Y Rm nL f pc lv (.int p2 :: .int p1 :: st) :=
  pr_callS (As := [.int p1, .int p2]) (n := 2) C (m_X9_takes  h) w1 pr_w519 pr_w479 pr_w512 rfl rfl ⟨by decide +kernel, by decide +kernel, by decide +kernel⟩ rfl ⟨hr1, hr2⟩ rfl hcat hdg k

def F_X9_set (c : Nat) (p1 : Int32) (p2 : Int32) (p3 : Int32) (f : pr_M) : Option (Int32 × pr_M) :=
  pr_b1 (F_X9_isUnit c p1 f) fun r2 =>
  if r2 = 0 then (
    some ((-1000000001), f)
  ) else (
    pr_b1 (F_X9_takes p2 p3 f) fun r5 =>
    if r5 = 0 then (
      some ((-1000000002), f)
    ) else (
      if 1 < p2 then (
        pr_b1 (F_X9_of c p1 p2 f) fun r9 =>
        pr_bd (F_X9_lay c p1 p2 p3 f) fun u11 f12 =>
        some (r9, f12)
      ) else (
        if (f (c + 1) (Int32.toNatClampNeg 1765)) = 0 then (
          pr_b1 (F_X9_of c p1 p2 f) fun r16 =>
          pr_bd (F_X9_lay c p1 p2 p3 f) fun u18 f19 =>
          some (r16, f19)
        ) else (
          some ((-1000000005), f)
        )
      )
    )
  )
set_option maxHeartbeats 4000000 in
set_option maxRecDepth 100000 in
theorem m_X9_set {l : Launch} {e : pr_E0} {c : Nat} {p1 : Int32} {p2 : Int32} {p3 : Int32} {f : pr_M} {r : Int32} {g : pr_M} (hk0 : pr_LM[c]? = some (9, 0)) (h : F_X9_set c p1 p2 p3 f = some (r, g)) : pr_Met (pr_EM l e) yX9_set cX9_set 5 (some .int) { frames := 2, cells := 0, slots := 0, locals := 44 } [.ref (pr_ad (pr_EM l e) c), .int p1, .int p2, .int p3] f (some (.int r)) g := by
  rw [F_X9_set] at h
  refine pr_enter (by decide +kernel) (Nat.le_of_ble_eq_true rfl) (fun Y C Z => ?_)
  replace C : pr_C (pr_EM l e) Y { frames := 2, cells := 0, slots := 0, locals := 44 } cX9_set RX9 5 _ := C
  show pr_W (pr_EM l e) Y _ 5 f 0 [(0, .ref (pr_ad (pr_EM l e) c)), (1, .int p1), (2, .int p2), (3, .int p3)] []
  refine pr_aload_n C dX9_set_0 rfl 0 rfl ?_
  refine pr_iload_n C dX9_set_1 rfl 1 rfl ?_
  obtain ⟨r2, hc1, h⟩ := pr_b1_some h
  refine k_X9_isUnit C pr_w515 hk0 hc1 (Nat.le_of_ble_eq_true rfl) (Nat.le_of_ble_eq_true rfl) (Nat.le_of_ble_eq_true rfl) dX9_set_2 ?_
  refine pr_if_ne (tgt := 11) C dX9_set_5 (by decide) (fun c3 => ?_) (fun c3 => ?_)
  · have h := pr_ifF h c3
    refine pr_iload_n C dX9_set_11 rfl 2 rfl ?_
    refine pr_iload_n C dX9_set_12 rfl 3 rfl ?_
    obtain ⟨r5, hc4, h⟩ := pr_b1_some h
    refine k_X9_takes C pr_w518  hc4 (Nat.le_of_ble_eq_true rfl) (Nat.le_of_ble_eq_true rfl) (Nat.le_of_ble_eq_true rfl) dX9_set_13 ?_
    refine pr_if_ne (tgt := 22) C dX9_set_16 (by decide) (fun c6 => ?_) (fun c6 => ?_)
    · have h := pr_ifF h c6
      refine pr_iload_n C dX9_set_22 rfl 2 rfl ?_
      refine pr_iconst (v := 1) C dX9_set_23 (by decide) ?_
      refine pr_icmp_gt (tgt := 41) C dX9_set_24 (by decide) (fun c7 => ?_) (fun c7 => ?_)
      · have h := pr_ifT h c7
        refine pr_aload_n C dX9_set_41 rfl 0 rfl ?_
        refine pr_iload_n C dX9_set_42 rfl 1 rfl ?_
        refine pr_iload_n C dX9_set_43 rfl 2 rfl ?_
        obtain ⟨r9, hc8, h⟩ := pr_b1_some h
        refine k_X9_of C pr_w507 hk0 hc8 (Nat.le_of_ble_eq_true rfl) (Nat.le_of_ble_eq_true rfl) (Nat.le_of_ble_eq_true rfl) dX9_set_44 ?_
        refine pr_istore (lv' := [(4, .int r9), (0, .ref (pr_ad (pr_EM l e) c)), (1, .int p1), (2, .int p2), (3, .int p3)]) C dX9_set_47 (by decide) rfl ?_
        refine pr_aload_n C dX9_set_49 rfl 1 rfl ?_
        refine pr_iload_n C dX9_set_50 rfl 2 rfl ?_
        refine pr_iload_n C dX9_set_51 rfl 3 rfl ?_
        refine pr_iload_n C dX9_set_52 rfl 4 rfl ?_
        obtain ⟨u11, f12, hc10, h⟩ := pr_bd_some h
        refine k_X9_lay C pr_w483 hk0 hc10 (Nat.le_of_ble_eq_true rfl) (Nat.le_of_ble_eq_true rfl) (Nat.le_of_ble_eq_true rfl) dX9_set_53 ?_
        refine pr_iload C dX9_set_56 0 rfl ?_
        obtain ⟨rfl, rfl⟩ := pr_inj h
        exact pr_iret C Z dX9_set_58
      · have h := pr_ifF h c7
        refine pr_aload_n C dX9_set_27 rfl 0 rfl ?_
        refine pr_g_9_0 C hk0 pr_w476 dX9_set_28 ?_
        have hk13 := pr_kM_9_0 hk0
        refine pr_sipush (v := 1765) C dX9_set_31 (by decide) ?_
        refine pr_iaload C hk13 (pr_inlit (by decide +kernel)) dX9_set_34 ?_
        refine pr_if_eq (tgt := 41) C dX9_set_35 (by decide) (fun c14 => ?_) (fun c14 => ?_)
        · have h := pr_ifT h c14
          refine pr_aload_n C dX9_set_41 rfl 0 rfl ?_
          refine pr_iload_n C dX9_set_42 rfl 1 rfl ?_
          refine pr_iload_n C dX9_set_43 rfl 2 rfl ?_
          obtain ⟨r16, hc15, h⟩ := pr_b1_some h
          refine k_X9_of C pr_w507 hk0 hc15 (Nat.le_of_ble_eq_true rfl) (Nat.le_of_ble_eq_true rfl) (Nat.le_of_ble_eq_true rfl) dX9_set_44 ?_
          refine pr_istore (lv' := [(4, .int r16), (0, .ref (pr_ad (pr_EM l e) c)), (1, .int p1), (2, .int p2), (3, .int p3)]) C dX9_set_47 (by decide) rfl ?_
          refine pr_aload_n C dX9_set_49 rfl 1 rfl ?_
          refine pr_iload_n C dX9_set_50 rfl 2 rfl ?_
          refine pr_iload_n C dX9_set_51 rfl 3 rfl ?_
          refine pr_iload_n C dX9_set_52 rfl 4 rfl ?_
          obtain ⟨u18, f19, hc17, h⟩ := pr_bd_some h
          refine k_X9_lay C pr_w483 hk0 hc17 (Nat.le_of_ble_eq_true rfl) (Nat.le_of_ble_eq_true rfl) (Nat.le_of_ble_eq_true rfl) dX9_set_53 ?_
          refine pr_iload C dX9_set_56 0 rfl ?_
          obtain ⟨rfl, rfl⟩ := pr_inj h
          exact pr_iret C Z dX9_set_58
        · have h := pr_ifF h c14
          refine pr_ldc (v := (-1000000005)) C dX9_set_38 pr_w514 ?_
          obtain ⟨rfl, rfl⟩ := pr_inj h
          exact pr_iret C Z dX9_set_40
    · have h := pr_ifT h c6
      refine pr_ldc (v := (-1000000002)) C dX9_set_19 pr_w511 ?_
      obtain ⟨rfl, rfl⟩ := pr_inj h
      exact pr_iret C Z dX9_set_21
  · have h := pr_ifT h c3
    refine pr_ldc (v := (-1000000001)) C dX9_set_8 pr_w513 ?_
    obtain ⟨rfl, rfl⟩ := pr_inj h
    exact pr_iret C Z dX9_set_10

def F_X9_get (c : Nat) (p1 : Int32) (p2 : Int32) (f : pr_M) : Option (Int32) :=
  pr_b1 (F_X9_isUnit c p1 f) fun r2 =>
  if r2 = 0 then (
    some (-1000000001)
  ) else (
    pr_b1 (F_X9_in p2 0 10 f) fun r5 =>
    if r5 = 0 then (
      some (-1000000002)
    ) else (
      pr_b1 (F_X9_of c p1 p2 f) fun r8 =>
      some r8
    )
  )
set_option maxHeartbeats 4000000 in
set_option maxRecDepth 100000 in
theorem m_X9_get {l : Launch} {e : pr_E0} {c : Nat} {p1 : Int32} {p2 : Int32} {f : pr_M} {r : Int32} (hk0 : pr_LM[c]? = some (9, 0)) (h : F_X9_get c p1 p2 f = some r) : pr_Met (pr_EM l e) yX9_get cX9_get 3 (some .int) { frames := 2, cells := 0, slots := 0, locals := 43 } [.ref (pr_ad (pr_EM l e) c), .int p1, .int p2] f (some (.int r)) f := by
  rw [F_X9_get] at h
  refine pr_enter (by decide +kernel) (Nat.le_of_ble_eq_true rfl) (fun Y C Z => ?_)
  replace C : pr_C (pr_EM l e) Y { frames := 2, cells := 0, slots := 0, locals := 43 } cX9_get RX9 3 _ := C
  show pr_W (pr_EM l e) Y _ 3 f 0 [(0, .ref (pr_ad (pr_EM l e) c)), (1, .int p1), (2, .int p2)] []
  refine pr_aload_n C dX9_get_0 rfl 0 rfl ?_
  refine pr_iload_n C dX9_get_1 rfl 1 rfl ?_
  obtain ⟨r2, hc1, h⟩ := pr_b1_some h
  refine k_X9_isUnit C pr_w515 hk0 hc1 (Nat.le_of_ble_eq_true rfl) (Nat.le_of_ble_eq_true rfl) (Nat.le_of_ble_eq_true rfl) dX9_get_2 ?_
  refine pr_if_ne (tgt := 11) C dX9_get_5 (by decide) (fun c3 => ?_) (fun c3 => ?_)
  · have h := pr_ifF h c3
    refine pr_iload_n C dX9_get_11 rfl 2 rfl ?_
    refine pr_iconst (v := 0) C dX9_get_12 (by decide) ?_
    refine pr_bipush (v := 10) C dX9_get_13 (by decide) ?_
    obtain ⟨r5, hc4, h⟩ := pr_b1_some h
    refine k_X9_in C pr_w504  hc4 (Nat.le_of_ble_eq_true rfl) (Nat.le_of_ble_eq_true rfl) (Nat.le_of_ble_eq_true rfl) dX9_get_15 ?_
    refine pr_if_eq (tgt := 30) C dX9_get_18 (by decide) (fun c6 => ?_) (fun c6 => ?_)
    · have h := pr_ifT h c6
      refine pr_ldc (v := (-1000000002)) C dX9_get_30 pr_w511 ?_
      obtain rfl := pr_in1 h
      exact pr_iret C Z dX9_get_32
    · have h := pr_ifF h c6
      refine pr_aload_n C dX9_get_21 rfl 0 rfl ?_
      refine pr_iload_n C dX9_get_22 rfl 1 rfl ?_
      refine pr_iload_n C dX9_get_23 rfl 2 rfl ?_
      obtain ⟨r8, hc7, h⟩ := pr_b1_some h
      refine k_X9_of C pr_w507 hk0 hc7 (Nat.le_of_ble_eq_true rfl) (Nat.le_of_ble_eq_true rfl) (Nat.le_of_ble_eq_true rfl) dX9_get_24 ?_
      refine pr_goto (tgt := 32) C dX9_get_27 (by decide) ?_
      obtain rfl := pr_in1 h
      exact pr_iret C Z dX9_get_32
  · have h := pr_ifT h c3
    refine pr_ldc (v := (-1000000001)) C dX9_get_8 pr_w513 ?_
    obtain rfl := pr_in1 h
    exact pr_iret C Z dX9_get_10

def F_X9_adjust (c : Nat) (p1 : Int32) (p2 : Int32) (p3 : Int32) (f : pr_M) : Option (Int32 × pr_M) :=
  pr_b1 (F_X9_isUnit c p1 f) fun r2 =>
  if r2 = 0 then (
    some ((-1000000001), f)
  ) else (
    pr_b1 (α := Int32) (
      if p2 = 0 then (
        some 5000
      ) else (
        if p2 = 1 then (
          some 3000
        ) else (
          some 2000
        )
      )
    ) fun v4 =>
    pr_b1 (F_X9_in p2 0 2 f) fun r8 =>
    if r8 = 0 then (
      some ((-1000000002), f)
    ) else (
      pr_b1 (F_X9_in p3 (-v4) v4 f) fun r11 =>
      if r11 = 0 then (
        some ((-1000000002), f)
      ) else (
        pr_b1 (F_X9_of c p1 (11 + p2) f) fun r14 =>
        pr_bd (F_X9_lay c p1 (11 + p2) p3 f) fun u16 f17 =>
        some (r14, f17)
      )
    )
  )
set_option maxHeartbeats 4000000 in
set_option maxRecDepth 100000 in
theorem m_X9_adjust {l : Launch} {e : pr_E0} {c : Nat} {p1 : Int32} {p2 : Int32} {p3 : Int32} {f : pr_M} {r : Int32} {g : pr_M} (hk0 : pr_LM[c]? = some (9, 0)) (h : F_X9_adjust c p1 p2 p3 f = some (r, g)) : pr_Met (pr_EM l e) yX9_adjust cX9_adjust 6 (some .int) { frames := 2, cells := 0, slots := 0, locals := 44 } [.ref (pr_ad (pr_EM l e) c), .int p1, .int p2, .int p3] f (some (.int r)) g := by
  rw [F_X9_adjust] at h
  refine pr_enter (by decide +kernel) (Nat.le_of_ble_eq_true rfl) (fun Y C Z => ?_)
  replace C : pr_C (pr_EM l e) Y { frames := 2, cells := 0, slots := 0, locals := 44 } cX9_adjust RX9 6 _ := C
  show pr_W (pr_EM l e) Y _ 6 f 0 [(0, .ref (pr_ad (pr_EM l e) c)), (1, .int p1), (2, .int p2), (3, .int p3)] []
  refine pr_aload_n C dX9_adjust_0 rfl 0 rfl ?_
  refine pr_iload_n C dX9_adjust_1 rfl 1 rfl ?_
  obtain ⟨r2, hc1, h⟩ := pr_b1_some h
  refine k_X9_isUnit C pr_w515 hk0 hc1 (Nat.le_of_ble_eq_true rfl) (Nat.le_of_ble_eq_true rfl) (Nat.le_of_ble_eq_true rfl) dX9_adjust_2 ?_
  refine pr_if_ne (tgt := 11) C dX9_adjust_5 (by decide) (fun c3 => ?_) (fun c3 => ?_)
  · have h := pr_ifF h c3
    refine pr_iload_n C dX9_adjust_11 rfl 2 rfl ?_
    obtain ⟨v4, hv, h⟩ := pr_b1_some h
    have K : pr_W (pr_EM l e) Y { frames := 2, cells := 0, slots := 0, locals := 44 } 6 f 35 [(0, .ref (pr_ad (pr_EM l e) c)), (1, .int p1), (2, .int p2), (3, .int p3)] [.int v4] := by
      refine pr_istore (lv' := [(4, .int v4), (0, .ref (pr_ad (pr_EM l e) c)), (1, .int p1), (2, .int p2), (3, .int p3)]) C dX9_adjust_35 (by decide) rfl ?_
      refine pr_iload_n C dX9_adjust_37 rfl 3 rfl ?_
      refine pr_iconst (v := 0) C dX9_adjust_38 (by decide) ?_
      refine pr_iconst (v := 2) C dX9_adjust_39 (by decide) ?_
      obtain ⟨r8, hc7, h⟩ := pr_b1_some h
      refine k_X9_in C pr_w504  hc7 (Nat.le_of_ble_eq_true rfl) (Nat.le_of_ble_eq_true rfl) (Nat.le_of_ble_eq_true rfl) dX9_adjust_40 ?_
      refine pr_if_eq (tgt := 58) C dX9_adjust_43 (by decide) (fun c9 => ?_) (fun c9 => ?_)
      · have h := pr_ifT h c9
        refine pr_ldc (v := (-1000000002)) C dX9_adjust_58 pr_w511 ?_
        obtain ⟨rfl, rfl⟩ := pr_inj h
        exact pr_iret C Z dX9_adjust_60
      · have h := pr_ifF h c9
        refine pr_iload_n C dX9_adjust_46 rfl 4 rfl ?_
        refine pr_iload C dX9_adjust_47 0 rfl ?_
        refine pr_ineg C dX9_adjust_49 ?_
        refine pr_iload C dX9_adjust_50 0 rfl ?_
        obtain ⟨r11, hc10, h⟩ := pr_b1_some h
        refine k_X9_in C pr_w504  hc10 (Nat.le_of_ble_eq_true rfl) (Nat.le_of_ble_eq_true rfl) (Nat.le_of_ble_eq_true rfl) dX9_adjust_52 ?_
        refine pr_if_ne (tgt := 61) C dX9_adjust_55 (by decide) (fun c12 => ?_) (fun c12 => ?_)
        · have h := pr_ifF h c12
          refine pr_aload_n C dX9_adjust_61 rfl 1 rfl ?_
          refine pr_iload_n C dX9_adjust_62 rfl 2 rfl ?_
          refine pr_bipush (v := 11) C dX9_adjust_63 (by decide) ?_
          refine pr_iload_n C dX9_adjust_65 rfl 3 rfl ?_
          refine pr_iadd C dX9_adjust_66 ?_
          obtain ⟨r14, hc13, h⟩ := pr_b1_some h
          refine k_X9_of C pr_w507 hk0 hc13 (Nat.le_of_ble_eq_true rfl) (Nat.le_of_ble_eq_true rfl) (Nat.le_of_ble_eq_true rfl) dX9_adjust_67 ?_
          refine pr_istore (lv' := [(5, .int r14), (4, .int v4), (0, .ref (pr_ad (pr_EM l e) c)), (1, .int p1), (2, .int p2), (3, .int p3)]) C dX9_adjust_70 (by decide) rfl ?_
          refine pr_aload_n C dX9_adjust_72 rfl 2 rfl ?_
          refine pr_iload_n C dX9_adjust_73 rfl 3 rfl ?_
          refine pr_bipush (v := 11) C dX9_adjust_74 (by decide) ?_
          refine pr_iload_n C dX9_adjust_76 rfl 4 rfl ?_
          refine pr_iadd C dX9_adjust_77 ?_
          refine pr_iload_n C dX9_adjust_78 rfl 5 rfl ?_
          obtain ⟨u16, f17, hc15, h⟩ := pr_bd_some h
          refine k_X9_lay C pr_w483 hk0 hc15 (Nat.le_of_ble_eq_true rfl) (Nat.le_of_ble_eq_true rfl) (Nat.le_of_ble_eq_true rfl) dX9_adjust_79 ?_
          refine pr_iload C dX9_adjust_82 0 rfl ?_
          obtain ⟨rfl, rfl⟩ := pr_inj h
          exact pr_iret C Z dX9_adjust_84
        · have h := pr_ifT h c12
          refine pr_ldc (v := (-1000000002)) C dX9_adjust_58 pr_w511 ?_
          obtain ⟨rfl, rfl⟩ := pr_inj h
          exact pr_iret C Z dX9_adjust_60
    clear h
    have h := hv
    clear hv
    refine pr_if_ne (tgt := 21) C dX9_adjust_12 (by decide) (fun c5 => ?_) (fun c5 => ?_)
    · have h := pr_ifF h c5
      refine pr_iload_n C dX9_adjust_21 rfl 2 rfl ?_
      refine pr_iconst (v := 1) C dX9_adjust_22 (by decide) ?_
      refine pr_icmp_ne (tgt := 32) C dX9_adjust_23 (by decide) (fun c6 => ?_) (fun c6 => ?_)
      · have h := pr_ifF h c6
        refine pr_sipush (v := 2000) C dX9_adjust_32 (by decide) ?_
        obtain rfl := pr_in1 h
        exact pr_pick [0, 1, 2, 3] rfl K
      · have h := pr_ifT h c6
        refine pr_sipush (v := 3000) C dX9_adjust_26 (by decide) ?_
        refine pr_goto (tgt := 35) C dX9_adjust_29 (by decide) ?_
        obtain rfl := pr_in1 h
        exact pr_pick [0, 1, 2, 3] rfl K
    · have h := pr_ifT h c5
      refine pr_sipush (v := 5000) C dX9_adjust_15 (by decide) ?_
      refine pr_goto (tgt := 35) C dX9_adjust_18 (by decide) ?_
      obtain rfl := pr_in1 h
      exact pr_pick [0, 1, 2, 3] rfl K
  · have h := pr_ifT h c3
    refine pr_ldc (v := (-1000000001)) C dX9_adjust_8 pr_w513 ?_
    obtain ⟨rfl, rfl⟩ := pr_inj h
    exact pr_iret C Z dX9_adjust_10

def L_X9_restart_22 (q0 : Nat) (x1 : Int32) (x2 : Int32) : Nat → Int32 → pr_M → Option ((Unit) × pr_M)
  | 0, _, _ => none
  | n + 1, x3, f =>
    if 20 < x3 then (
      some ((), f)
    ) else (
      pr_bd (F_X9_lay q0 x1 x3 0 f) fun u23003 f23004 =>
      L_X9_restart_22 q0 x1 x2 n (x3 + 1) f23004
    )
set_option maxHeartbeats 4000000 in
set_option maxRecDepth 100000 in
theorem l_X9_restart_22 {l : Launch} {e : pr_E0} {Y : pr_Y} {c0 : Cond} {q0 : Nat} {x1 : Int32} {x2 : Int32} {z : Unit} {g : pr_M} (C : pr_C (pr_EM l e) Y { frames := 2, cells := 0, slots := 0, locals := 44 } cX9_restart RX9 4 c0) (hq0 : pr_LM[q0]? = some (9, 0)) : ∀ (n : Nat) (x3 : Int32) (f : pr_M), L_X9_restart_22 q0 x1 x2 n x3 f = some (z, g) → pr_W (pr_EM l e) Y { frames := 2, cells := 0, slots := 0, locals := 44 } 4 g 41 [(2, .int x2)] [] → pr_W (pr_EM l e) Y { frames := 2, cells := 0, slots := 0, locals := 44 } 4 f 22 [(0, .ref (pr_ad (pr_EM l e) q0)), (1, .int x1), (2, .int x2), (3, .int x3)] [] := by
  intro n
  induction n with
  | zero =>
    intro x3 f h
    exact absurd h (by simp [L_X9_restart_22])
  | succ n ih =>
    intro x3 f h K
    rw [L_X9_restart_22] at h
    refine pr_iload_n C dX9_restart_22 rfl 3 rfl ?_
    refine pr_bipush (v := 20) C dX9_restart_23 (by decide) ?_
    refine pr_icmp_gt (tgt := 41) C dX9_restart_25 (by decide) (fun c23001 => ?_) (fun c23001 => ?_)
    · have h := pr_ifT h c23001
      obtain ⟨rfl, rfl⟩ := pr_inj h
      exact pr_pick [2] rfl K
    · have h := pr_ifF h c23001
      refine pr_aload_n C dX9_restart_28 rfl 0 rfl ?_
      refine pr_iload_n C dX9_restart_29 rfl 1 rfl ?_
      refine pr_iload_n C dX9_restart_30 rfl 3 rfl ?_
      refine pr_iconst (v := 0) C dX9_restart_31 (by decide) ?_
      obtain ⟨u23003, f23004, hc23002, h⟩ := pr_bd_some h
      refine k_X9_lay C pr_w483 hq0 hc23002 (Nat.le_of_ble_eq_true rfl) (Nat.le_of_ble_eq_true rfl) (Nat.le_of_ble_eq_true rfl) dX9_restart_32 ?_
      refine pr_iinc (v := (x3 + 1)) (lv' := [(3, .int (x3 + 1)), (0, .ref (pr_ad (pr_EM l e) q0)), (1, .int x1), (2, .int x2)]) C dX9_restart_35 3 rfl rfl (by decide) rfl ?_
      refine pr_goto (tgt := 22) C dX9_restart_38 (by decide) ?_
      exact pr_pick [1, 2, 3, 0] rfl (ih _ _ h K)
def F_X9_restart (c : Nat) (p1 : Int32) (f : pr_M) : Option (Int32 × pr_M) :=
  pr_b1 (F_X9_isUnit c p1 f) fun r2 =>
  if r2 = 0 then (
    some ((-1000000001), f)
  ) else (
    pr_b1 (F_X9_of c p1 14 f) fun r5 =>
    pr_bd (L_X9_restart_22 c p1 r5 pr_fuel 14 f) fun v6 f7 =>
    some (r5, f7)
  )
set_option maxHeartbeats 4000000 in
set_option maxRecDepth 100000 in
theorem m_X9_restart {l : Launch} {e : pr_E0} {c : Nat} {p1 : Int32} {f : pr_M} {r : Int32} {g : pr_M} (hk0 : pr_LM[c]? = some (9, 0)) (h : F_X9_restart c p1 f = some (r, g)) : pr_Met (pr_EM l e) yX9_restart cX9_restart 4 (some .int) { frames := 2, cells := 0, slots := 0, locals := 44 } [.ref (pr_ad (pr_EM l e) c), .int p1] f (some (.int r)) g := by
  rw [F_X9_restart] at h
  refine pr_enter (by decide +kernel) (Nat.le_of_ble_eq_true rfl) (fun Y C Z => ?_)
  replace C : pr_C (pr_EM l e) Y { frames := 2, cells := 0, slots := 0, locals := 44 } cX9_restart RX9 4 _ := C
  show pr_W (pr_EM l e) Y _ 4 f 0 [(0, .ref (pr_ad (pr_EM l e) c)), (1, .int p1)] []
  refine pr_aload_n C dX9_restart_0 rfl 0 rfl ?_
  refine pr_iload_n C dX9_restart_1 rfl 1 rfl ?_
  obtain ⟨r2, hc1, h⟩ := pr_b1_some h
  refine k_X9_isUnit C pr_w515 hk0 hc1 (Nat.le_of_ble_eq_true rfl) (Nat.le_of_ble_eq_true rfl) (Nat.le_of_ble_eq_true rfl) dX9_restart_2 ?_
  refine pr_if_ne (tgt := 11) C dX9_restart_5 (by decide) (fun c3 => ?_) (fun c3 => ?_)
  · have h := pr_ifF h c3
    refine pr_aload_n C dX9_restart_11 rfl 0 rfl ?_
    refine pr_iload_n C dX9_restart_12 rfl 1 rfl ?_
    refine pr_bipush (v := 14) C dX9_restart_13 (by decide) ?_
    obtain ⟨r5, hc4, h⟩ := pr_b1_some h
    refine k_X9_of C pr_w507 hk0 hc4 (Nat.le_of_ble_eq_true rfl) (Nat.le_of_ble_eq_true rfl) (Nat.le_of_ble_eq_true rfl) dX9_restart_15 ?_
    refine pr_istore_n (lv' := [(2, .int r5), (0, .ref (pr_ad (pr_EM l e) c)), (1, .int p1)]) C dX9_restart_18 rfl (by decide) rfl ?_
    refine pr_bipush (v := 14) C dX9_restart_19 (by decide) ?_
    refine pr_istore_n (lv' := [(3, .int 14), (2, .int r5), (0, .ref (pr_ad (pr_EM l e) c)), (1, .int p1)]) C dX9_restart_21 rfl (by decide) rfl ?_
    obtain ⟨v6, f7, hv, h⟩ := pr_bd_some h
    refine pr_pick [2, 3, 1, 0] rfl (l_X9_restart_22 C hk0 pr_fuel _ _ hv ?_)
    clear hv
    refine pr_iload_n C dX9_restart_41 rfl 0 rfl ?_
    obtain ⟨rfl, rfl⟩ := pr_inj h
    exact pr_iret C Z dX9_restart_42
  · have h := pr_ifT h c3
    refine pr_ldc (v := (-1000000001)) C dX9_restart_8 pr_w513 ?_
    obtain ⟨rfl, rfl⟩ := pr_inj h
    exact pr_iret C Z dX9_restart_10

def F_X9_speed (c : Nat) (p1 : Int32) (f : pr_M) : Option (Int32 × pr_M) :=
  pr_b1 (F_X9_in p1 0 1000 f) fun r2 =>
  if r2 = 0 then (
    some ((-1000000002), f)
  ) else (
    pr_lt (pr_up f (c + 1) (Int32.toNatClampNeg 1767) p1) fun f5 =>
    some ((f (c + 1) (Int32.toNatClampNeg 1767)), f5)
  )
set_option maxHeartbeats 4000000 in
set_option maxRecDepth 100000 in
theorem m_X9_speed {l : Launch} {e : pr_E0} {c : Nat} {p1 : Int32} {f : pr_M} {r : Int32} {g : pr_M} (hk0 : pr_LM[c]? = some (9, 0)) (h : F_X9_speed c p1 f = some (r, g)) : pr_Met (pr_EM l e) yX9_speed cX9_speed 3 (some .int) { frames := 1, cells := 0, slots := 0, locals := 22 } [.ref (pr_ad (pr_EM l e) c), .int p1] f (some (.int r)) g := by
  rw [F_X9_speed] at h
  refine pr_enter (by decide +kernel) (Nat.le_of_ble_eq_true rfl) (fun Y C Z => ?_)
  replace C : pr_C (pr_EM l e) Y { frames := 1, cells := 0, slots := 0, locals := 22 } cX9_speed RX9 3 _ := C
  show pr_W (pr_EM l e) Y _ 3 f 0 [(0, .ref (pr_ad (pr_EM l e) c)), (1, .int p1)] []
  refine pr_iload_n C dX9_speed_0 rfl 1 rfl ?_
  refine pr_iconst (v := 0) C dX9_speed_1 (by decide) ?_
  refine pr_sipush (v := 1000) C dX9_speed_2 (by decide) ?_
  obtain ⟨r2, hc1, h⟩ := pr_b1_some h
  refine k_X9_in C pr_w504  hc1 (Nat.le_of_ble_eq_true rfl) (Nat.le_of_ble_eq_true rfl) (Nat.le_of_ble_eq_true rfl) dX9_speed_5 ?_
  refine pr_if_ne (tgt := 14) C dX9_speed_8 (by decide) (fun c3 => ?_) (fun c3 => ?_)
  · have h := pr_ifF h c3
    refine pr_aload_n C dX9_speed_14 rfl 0 rfl ?_
    refine pr_g_9_0 C hk0 pr_w476 dX9_speed_15 ?_
    have hk4 := pr_kM_9_0 hk0
    refine pr_sipush (v := 1767) C dX9_speed_18 (by decide) ?_
    refine pr_iaload C hk4 (pr_inlit (by decide +kernel)) dX9_speed_21 ?_
    refine pr_istore_n (lv' := [(2, .int (f (c + 1) (Int32.toNatClampNeg 1767))), (0, .ref (pr_ad (pr_EM l e) c)), (1, .int p1)]) C dX9_speed_22 rfl (by decide) rfl ?_
    refine pr_aload_n C dX9_speed_23 rfl 1 rfl ?_
    refine pr_g_9_0 C hk0 pr_w476 dX9_speed_24 ?_
    refine pr_sipush (v := 1767) C dX9_speed_27 (by decide) ?_
    refine pr_iload_n C dX9_speed_30 rfl 2 rfl ?_
    refine pr_iastore C hk4 (pr_inlit (by decide +kernel)) dX9_speed_31 (fun f5 e6 => ?_)
    have h := pr_lt_at h e6
    refine pr_iload_n C dX9_speed_32 rfl 0 rfl ?_
    obtain ⟨rfl, rfl⟩ := pr_inj h
    exact pr_iret C Z dX9_speed_33
  · have h := pr_ifT h c3
    refine pr_ldc (v := (-1000000002)) C dX9_speed_11 pr_w511 ?_
    obtain ⟨rfl, rfl⟩ := pr_inj h
    exact pr_iret C Z dX9_speed_13

def F_X9_giveDisturbance (c : Nat) (p1 : Int32) (p2 : Int32) (p3 : Int32) (f : pr_M) : Option (Unit × pr_M) :=
  pr_bd (F_X9_lay c p1 21 p2 f) fun u2 f3 =>
  pr_bd (F_X9_lay c p1 22 p3 f3) fun u5 f6 =>
  pr_bd (F_X9_lay c p1 23 p3 f6) fun u8 f9 =>
  some ((), f9)
set_option maxHeartbeats 4000000 in
set_option maxRecDepth 100000 in
theorem m_X9_giveDisturbance {l : Launch} {e : pr_E0} {c : Nat} {p1 : Int32} {p2 : Int32} {p3 : Int32} {f : pr_M} {r : Unit} {g : pr_M} (hk0 : pr_LM[c]? = some (9, 0)) (h : F_X9_giveDisturbance c p1 p2 p3 f = some (r, g)) : pr_Met (pr_EM l e) yX9_giveDisturbance cX9_giveDisturbance 4 none { frames := 2, cells := 0, slots := 0, locals := 44 } [.ref (pr_ad (pr_EM l e) c), .int p1, .int p2, .int p3] f none g := by
  rw [F_X9_giveDisturbance] at h
  refine pr_enter (by decide +kernel) (Nat.le_of_ble_eq_true rfl) (fun Y C Z => ?_)
  replace C : pr_C (pr_EM l e) Y { frames := 2, cells := 0, slots := 0, locals := 44 } cX9_giveDisturbance RX9 4 _ := C
  show pr_W (pr_EM l e) Y _ 4 f 0 [(0, .ref (pr_ad (pr_EM l e) c)), (1, .int p1), (2, .int p2), (3, .int p3)] []
  refine pr_aload_n C dX9_giveDisturbance_0 rfl 0 rfl ?_
  refine pr_iload_n C dX9_giveDisturbance_1 rfl 1 rfl ?_
  refine pr_bipush (v := 21) C dX9_giveDisturbance_2 (by decide) ?_
  refine pr_iload_n C dX9_giveDisturbance_4 rfl 2 rfl ?_
  obtain ⟨u2, f3, hc1, h⟩ := pr_bd_some h
  refine k_X9_lay C pr_w483 hk0 hc1 (Nat.le_of_ble_eq_true rfl) (Nat.le_of_ble_eq_true rfl) (Nat.le_of_ble_eq_true rfl) dX9_giveDisturbance_5 ?_
  refine pr_aload_n C dX9_giveDisturbance_8 rfl 0 rfl ?_
  refine pr_iload_n C dX9_giveDisturbance_9 rfl 1 rfl ?_
  refine pr_bipush (v := 22) C dX9_giveDisturbance_10 (by decide) ?_
  refine pr_iload_n C dX9_giveDisturbance_12 rfl 3 rfl ?_
  obtain ⟨u5, f6, hc4, h⟩ := pr_bd_some h
  refine k_X9_lay C pr_w483 hk0 hc4 (Nat.le_of_ble_eq_true rfl) (Nat.le_of_ble_eq_true rfl) (Nat.le_of_ble_eq_true rfl) dX9_giveDisturbance_13 ?_
  refine pr_aload_n C dX9_giveDisturbance_16 rfl 0 rfl ?_
  refine pr_iload_n C dX9_giveDisturbance_17 rfl 1 rfl ?_
  refine pr_bipush (v := 23) C dX9_giveDisturbance_18 (by decide) ?_
  refine pr_iload_n C dX9_giveDisturbance_20 rfl 3 rfl ?_
  obtain ⟨u8, f9, hc7, h⟩ := pr_bd_some h
  refine k_X9_lay C pr_w483 hk0 hc7 (Nat.le_of_ble_eq_true rfl) (Nat.le_of_ble_eq_true rfl) (Nat.le_of_ble_eq_true rfl) dX9_giveDisturbance_21 ?_
  obtain ⟨rfl, rfl⟩ := pr_inj h
  exact pr_vret C Z dX9_giveDisturbance_24
theorem k_X9_giveDisturbance {l : Launch} {e : pr_E0} {Y : pr_Y} {Rm : Room} {cc : ByteArray} {own : String} {nL : Nat} {c0 : Cond} {pc idx : Nat} {lv : List (Nat × Value)} {st : List Value} {c : Nat} {p1 : Int32} {p2 : Int32} {p3 : Int32} {f : pr_M} {r : Unit} {g : pr_M} (C : pr_C (pr_EM l e) Y Rm cc own nL c0) (w1 : Cond.methodLink own idx yX9_giveDisturbance ∈ pr_AL) (hk0 : pr_LM[c]? = some (9, 0)) (h : F_X9_giveDisturbance c p1 p2 p3 f = some (r, g)) (hr1 : 3 ≤ Rm.frames) (hr2 : 67 ≤ Rm.locals) (hcat : (st.map fun v => v.category).sum ≤ 8) (hdg : decode cc pc = .ok (.invokevirtual idx, 3)) (k : pr_W (pr_EM l e) Y Rm nL g (pc + 3) lv (st)) : pr_W (pr_EM l e) Y Rm nL f pc lv (.int p3 :: .int p2 :: .int p1 :: .ref (pr_ad (pr_EM l e) c) :: st) :=
  pr_callV (As := [.int p1, .int p2, .int p3]) (n := 3) C (m_X9_giveDisturbance hk0 h) hk0 (by decide) rfl w1 pr_w530 pr_w531 pr_w479 pr_w525 rfl rfl ⟨rfl, by decide +kernel, by decide +kernel, by decide +kernel⟩ rfl ⟨hr1, hr2⟩ rfl hcat hdg k

def F_X9_isDisturbance (p1 : Int32) (p2 : Int32) (f : pr_M) : Option (Int32) :=
  pr_b1 (F_X9_in p1 (-3000) 3000 f) fun r2 =>
  if r2 = 0 then (
    some 0
  ) else (
    pr_b1 (F_X9_in p2 1 50 f) fun r5 =>
    if r5 = 0 then (
      some 0
    ) else (
      some 1
    )
  )
set_option maxHeartbeats 4000000 in
set_option maxRecDepth 100000 in
theorem m_X9_isDisturbance {l : Launch} {e : pr_E0} {p1 : Int32} {p2 : Int32} {f : pr_M} {r : Int32}  (h : F_X9_isDisturbance p1 p2 f = some r) : pr_Met (pr_EM l e) yX9_isDisturbance cX9_isDisturbance 2 (some .boolean) { frames := 1, cells := 0, slots := 0, locals := 22 } [.int p1, .int p2] f (some (.int r)) f := by
  rw [F_X9_isDisturbance] at h
  refine pr_enter (by decide +kernel) (Nat.le_of_ble_eq_true rfl) (fun Y C Z => ?_)
  replace C : pr_C (pr_EM l e) Y { frames := 1, cells := 0, slots := 0, locals := 22 } cX9_isDisturbance RX9 2 _ := C
  show pr_W (pr_EM l e) Y _ 2 f 0 [(0, .int p1), (1, .int p2)] []
  refine pr_iload_n C dX9_isDisturbance_0 rfl 0 rfl ?_
  refine pr_sipush (v := (-3000)) C dX9_isDisturbance_1 (by decide) ?_
  refine pr_sipush (v := 3000) C dX9_isDisturbance_4 (by decide) ?_
  obtain ⟨r2, hc1, h⟩ := pr_b1_some h
  refine k_X9_in C pr_w504  hc1 (Nat.le_of_ble_eq_true rfl) (Nat.le_of_ble_eq_true rfl) (Nat.le_of_ble_eq_true rfl) dX9_isDisturbance_7 ?_
  refine pr_if_eq (tgt := 27) C dX9_isDisturbance_10 (by decide) (fun c3 => ?_) (fun c3 => ?_)
  · have h := pr_ifT h c3
    refine pr_iconst (v := 0) C dX9_isDisturbance_27 (by decide) ?_
    obtain rfl := pr_in1 h
    exact pr_zret C (by decide) Z dX9_isDisturbance_28
  · have h := pr_ifF h c3
    refine pr_iload_n C dX9_isDisturbance_13 rfl 1 rfl ?_
    refine pr_iconst (v := 1) C dX9_isDisturbance_14 (by decide) ?_
    refine pr_bipush (v := 50) C dX9_isDisturbance_15 (by decide) ?_
    obtain ⟨r5, hc4, h⟩ := pr_b1_some h
    refine k_X9_in C pr_w504  hc4 (Nat.le_of_ble_eq_true rfl) (Nat.le_of_ble_eq_true rfl) (Nat.le_of_ble_eq_true rfl) dX9_isDisturbance_17 ?_
    refine pr_if_eq (tgt := 27) C dX9_isDisturbance_20 (by decide) (fun c6 => ?_) (fun c6 => ?_)
    · have h := pr_ifT h c6
      refine pr_iconst (v := 0) C dX9_isDisturbance_27 (by decide) ?_
      obtain rfl := pr_in1 h
      exact pr_zret C (by decide) Z dX9_isDisturbance_28
    · have h := pr_ifF h c6
      refine pr_iconst (v := 1) C dX9_isDisturbance_23 (by decide) ?_
      refine pr_goto (tgt := 28) C dX9_isDisturbance_24 (by decide) ?_
      obtain rfl := pr_in1 h
      exact pr_zret C (by decide) Z dX9_isDisturbance_28
theorem k_X9_isDisturbance {l : Launch} {e : pr_E0} {Y : pr_Y} {Rm : Room} {cc : ByteArray} {own : String} {nL : Nat} {c0 : Cond} {pc idx : Nat} {lv : List (Nat × Value)} {st : List Value} {p1 : Int32} {p2 : Int32} {f : pr_M} {r : Int32} (C : pr_C (pr_EM l e) Y Rm cc own nL c0) (w1 : Cond.methodLink own idx yX9_isDisturbance ∈ pr_AL)  (h : F_X9_isDisturbance p1 p2 f = some r) (hr1 : 2 ≤ Rm.frames) (hr2 : 43 ≤ Rm.locals) (hcat : (st.map fun v => v.category).sum ≤ 8) (hdg : decode cc pc = .ok (.invokestatic idx, 3)) (k : pr_W (pr_EM l e) Y Rm nL f (pc + 3) lv (.int r :: st)) : pr_W (pr_EM l e) Y Rm nL f pc lv (.int p2 :: .int p1 :: st) :=
  pr_callS (As := [.int p1, .int p2]) (n := 2) C (m_X9_isDisturbance  h) w1 pr_w528 pr_w479 pr_w526 rfl rfl ⟨by decide +kernel, by decide +kernel, by decide +kernel⟩ rfl ⟨hr1, hr2⟩ rfl hcat hdg k

def F_X9_disturb (c : Nat) (p1 : Int32) (p2 : Int32) (p3 : Int32) (f : pr_M) : Option (Int32 × pr_M) :=
  pr_b1 (F_X9_isUnit c p1 f) fun r2 =>
  if r2 = 0 then (
    some ((-1000000001), f)
  ) else (
    pr_b1 (F_X9_isDisturbance p2 p3 f) fun r5 =>
    if r5 = 0 then (
      some ((-1000000002), f)
    ) else (
      pr_bd (F_X9_giveDisturbance c p1 p2 p3 f) fun u8 f9 =>
      some ((f9 (c + 1) (Int32.toNatClampNeg 1765)), f9)
    )
  )
set_option maxHeartbeats 4000000 in
set_option maxRecDepth 100000 in
theorem m_X9_disturb {l : Launch} {e : pr_E0} {c : Nat} {p1 : Int32} {p2 : Int32} {p3 : Int32} {f : pr_M} {r : Int32} {g : pr_M} (hk0 : pr_LM[c]? = some (9, 0)) (h : F_X9_disturb c p1 p2 p3 f = some (r, g)) : pr_Met (pr_EM l e) yX9_disturb cX9_disturb 4 (some .int) { frames := 3, cells := 0, slots := 0, locals := 67 } [.ref (pr_ad (pr_EM l e) c), .int p1, .int p2, .int p3] f (some (.int r)) g := by
  rw [F_X9_disturb] at h
  refine pr_enter (by decide +kernel) (Nat.le_of_ble_eq_true rfl) (fun Y C Z => ?_)
  replace C : pr_C (pr_EM l e) Y { frames := 3, cells := 0, slots := 0, locals := 67 } cX9_disturb RX9 4 _ := C
  show pr_W (pr_EM l e) Y _ 4 f 0 [(0, .ref (pr_ad (pr_EM l e) c)), (1, .int p1), (2, .int p2), (3, .int p3)] []
  refine pr_aload_n C dX9_disturb_0 rfl 0 rfl ?_
  refine pr_iload_n C dX9_disturb_1 rfl 1 rfl ?_
  obtain ⟨r2, hc1, h⟩ := pr_b1_some h
  refine k_X9_isUnit C pr_w515 hk0 hc1 (Nat.le_of_ble_eq_true rfl) (Nat.le_of_ble_eq_true rfl) (Nat.le_of_ble_eq_true rfl) dX9_disturb_2 ?_
  refine pr_if_ne (tgt := 11) C dX9_disturb_5 (by decide) (fun c3 => ?_) (fun c3 => ?_)
  · have h := pr_ifF h c3
    refine pr_iload_n C dX9_disturb_11 rfl 2 rfl ?_
    refine pr_iload_n C dX9_disturb_12 rfl 3 rfl ?_
    obtain ⟨r5, hc4, h⟩ := pr_b1_some h
    refine k_X9_isDisturbance C pr_w527  hc4 (Nat.le_of_ble_eq_true rfl) (Nat.le_of_ble_eq_true rfl) (Nat.le_of_ble_eq_true rfl) dX9_disturb_13 ?_
    refine pr_if_ne (tgt := 22) C dX9_disturb_16 (by decide) (fun c6 => ?_) (fun c6 => ?_)
    · have h := pr_ifF h c6
      refine pr_aload_n C dX9_disturb_22 rfl 0 rfl ?_
      refine pr_iload_n C dX9_disturb_23 rfl 1 rfl ?_
      refine pr_iload_n C dX9_disturb_24 rfl 2 rfl ?_
      refine pr_iload_n C dX9_disturb_25 rfl 3 rfl ?_
      obtain ⟨u8, f9, hc7, h⟩ := pr_bd_some h
      refine k_X9_giveDisturbance C pr_w529 hk0 hc7 (Nat.le_of_ble_eq_true rfl) (Nat.le_of_ble_eq_true rfl) (Nat.le_of_ble_eq_true rfl) dX9_disturb_26 ?_
      refine pr_aload_n C dX9_disturb_29 rfl 0 rfl ?_
      refine pr_g_9_0 C hk0 pr_w476 dX9_disturb_30 ?_
      have hk10 := pr_kM_9_0 hk0
      refine pr_sipush (v := 1765) C dX9_disturb_33 (by decide) ?_
      refine pr_iaload C hk10 (pr_inlit (by decide +kernel)) dX9_disturb_36 ?_
      obtain ⟨rfl, rfl⟩ := pr_inj h
      exact pr_iret C Z dX9_disturb_37
    · have h := pr_ifT h c6
      refine pr_ldc (v := (-1000000002)) C dX9_disturb_19 pr_w511 ?_
      obtain ⟨rfl, rfl⟩ := pr_inj h
      exact pr_iret C Z dX9_disturb_21
  · have h := pr_ifT h c3
    refine pr_ldc (v := (-1000000001)) C dX9_disturb_8 pr_w513 ?_
    obtain ⟨rfl, rfl⟩ := pr_inj h
    exact pr_iret C Z dX9_disturb_10

def F_X9_hide (c : Nat) (p1 : Int32) (p2 : Int32) (f : pr_M) : Option (Int32 × pr_M) :=
  pr_b1 (F_X9_isUnit c p1 f) fun r2 =>
  if r2 = 0 then (
    some ((-1000000001), f)
  ) else (
    pr_b1 (F_X9_in p2 0 50 f) fun r5 =>
    if r5 = 0 then (
      some ((-1000000002), f)
    ) else (
      pr_b1 (F_X9_of c p1 24 f) fun r8 =>
      pr_bd (F_X9_lay c p1 24 p2 f) fun u10 f11 =>
      some (r8, f11)
    )
  )
set_option maxHeartbeats 4000000 in
set_option maxRecDepth 100000 in
theorem m_X9_hide {l : Launch} {e : pr_E0} {c : Nat} {p1 : Int32} {p2 : Int32} {f : pr_M} {r : Int32} {g : pr_M} (hk0 : pr_LM[c]? = some (9, 0)) (h : F_X9_hide c p1 p2 f = some (r, g)) : pr_Met (pr_EM l e) yX9_hide cX9_hide 4 (some .int) { frames := 2, cells := 0, slots := 0, locals := 44 } [.ref (pr_ad (pr_EM l e) c), .int p1, .int p2] f (some (.int r)) g := by
  rw [F_X9_hide] at h
  refine pr_enter (by decide +kernel) (Nat.le_of_ble_eq_true rfl) (fun Y C Z => ?_)
  replace C : pr_C (pr_EM l e) Y { frames := 2, cells := 0, slots := 0, locals := 44 } cX9_hide RX9 4 _ := C
  show pr_W (pr_EM l e) Y _ 4 f 0 [(0, .ref (pr_ad (pr_EM l e) c)), (1, .int p1), (2, .int p2)] []
  refine pr_aload_n C dX9_hide_0 rfl 0 rfl ?_
  refine pr_iload_n C dX9_hide_1 rfl 1 rfl ?_
  obtain ⟨r2, hc1, h⟩ := pr_b1_some h
  refine k_X9_isUnit C pr_w515 hk0 hc1 (Nat.le_of_ble_eq_true rfl) (Nat.le_of_ble_eq_true rfl) (Nat.le_of_ble_eq_true rfl) dX9_hide_2 ?_
  refine pr_if_ne (tgt := 11) C dX9_hide_5 (by decide) (fun c3 => ?_) (fun c3 => ?_)
  · have h := pr_ifF h c3
    refine pr_iload_n C dX9_hide_11 rfl 2 rfl ?_
    refine pr_iconst (v := 0) C dX9_hide_12 (by decide) ?_
    refine pr_bipush (v := 50) C dX9_hide_13 (by decide) ?_
    obtain ⟨r5, hc4, h⟩ := pr_b1_some h
    refine k_X9_in C pr_w504  hc4 (Nat.le_of_ble_eq_true rfl) (Nat.le_of_ble_eq_true rfl) (Nat.le_of_ble_eq_true rfl) dX9_hide_15 ?_
    refine pr_if_ne (tgt := 24) C dX9_hide_18 (by decide) (fun c6 => ?_) (fun c6 => ?_)
    · have h := pr_ifF h c6
      refine pr_aload_n C dX9_hide_24 rfl 0 rfl ?_
      refine pr_iload_n C dX9_hide_25 rfl 1 rfl ?_
      refine pr_bipush (v := 24) C dX9_hide_26 (by decide) ?_
      obtain ⟨r8, hc7, h⟩ := pr_b1_some h
      refine k_X9_of C pr_w507 hk0 hc7 (Nat.le_of_ble_eq_true rfl) (Nat.le_of_ble_eq_true rfl) (Nat.le_of_ble_eq_true rfl) dX9_hide_28 ?_
      refine pr_istore_n (lv' := [(3, .int r8), (0, .ref (pr_ad (pr_EM l e) c)), (1, .int p1), (2, .int p2)]) C dX9_hide_31 rfl (by decide) rfl ?_
      refine pr_aload_n C dX9_hide_32 rfl 1 rfl ?_
      refine pr_iload_n C dX9_hide_33 rfl 2 rfl ?_
      refine pr_bipush (v := 24) C dX9_hide_34 (by decide) ?_
      refine pr_iload_n C dX9_hide_36 rfl 3 rfl ?_
      obtain ⟨u10, f11, hc9, h⟩ := pr_bd_some h
      refine k_X9_lay C pr_w483 hk0 hc9 (Nat.le_of_ble_eq_true rfl) (Nat.le_of_ble_eq_true rfl) (Nat.le_of_ble_eq_true rfl) dX9_hide_37 ?_
      refine pr_iload_n C dX9_hide_40 rfl 0 rfl ?_
      obtain ⟨rfl, rfl⟩ := pr_inj h
      exact pr_iret C Z dX9_hide_41
    · have h := pr_ifT h c6
      refine pr_ldc (v := (-1000000002)) C dX9_hide_21 pr_w511 ?_
      obtain ⟨rfl, rfl⟩ := pr_inj h
      exact pr_iret C Z dX9_hide_23
  · have h := pr_ifT h c3
    refine pr_ldc (v := (-1000000001)) C dX9_hide_8 pr_w513 ?_
    obtain ⟨rfl, rfl⟩ := pr_inj h
    exact pr_iret C Z dX9_hide_10

def F_X9_falseMark (c : Nat) (p1 : Int32) (p2 : Int32) (p3 : Int32) (f : pr_M) : Option (Int32 × pr_M) :=
  pr_b1 (F_X9_isUnit c p1 f) fun r2 =>
  if r2 = 0 then (
    some ((-1000000001), f)
  ) else (
    pr_b1 (F_X9_in p2 (-3000) 3000 f) fun r5 =>
    if r5 = 0 then (
      some ((-1000000002), f)
    ) else (
      pr_b1 (F_X9_in p3 0 50 f) fun r8 =>
      if r8 = 0 then (
        some ((-1000000002), f)
      ) else (
        pr_b1 (F_X9_of c p1 26 f) fun r11 =>
        pr_bd (F_X9_lay c p1 25 p2 f) fun u13 f14 =>
        pr_bd (F_X9_lay c p1 26 p3 f14) fun u16 f17 =>
        some (r11, f17)
      )
    )
  )
set_option maxHeartbeats 4000000 in
set_option maxRecDepth 100000 in
theorem m_X9_falseMark {l : Launch} {e : pr_E0} {c : Nat} {p1 : Int32} {p2 : Int32} {p3 : Int32} {f : pr_M} {r : Int32} {g : pr_M} (hk0 : pr_LM[c]? = some (9, 0)) (h : F_X9_falseMark c p1 p2 p3 f = some (r, g)) : pr_Met (pr_EM l e) yX9_falseMark cX9_falseMark 5 (some .int) { frames := 2, cells := 0, slots := 0, locals := 44 } [.ref (pr_ad (pr_EM l e) c), .int p1, .int p2, .int p3] f (some (.int r)) g := by
  rw [F_X9_falseMark] at h
  refine pr_enter (by decide +kernel) (Nat.le_of_ble_eq_true rfl) (fun Y C Z => ?_)
  replace C : pr_C (pr_EM l e) Y { frames := 2, cells := 0, slots := 0, locals := 44 } cX9_falseMark RX9 5 _ := C
  show pr_W (pr_EM l e) Y _ 5 f 0 [(0, .ref (pr_ad (pr_EM l e) c)), (1, .int p1), (2, .int p2), (3, .int p3)] []
  refine pr_aload_n C dX9_falseMark_0 rfl 0 rfl ?_
  refine pr_iload_n C dX9_falseMark_1 rfl 1 rfl ?_
  obtain ⟨r2, hc1, h⟩ := pr_b1_some h
  refine k_X9_isUnit C pr_w515 hk0 hc1 (Nat.le_of_ble_eq_true rfl) (Nat.le_of_ble_eq_true rfl) (Nat.le_of_ble_eq_true rfl) dX9_falseMark_2 ?_
  refine pr_if_ne (tgt := 11) C dX9_falseMark_5 (by decide) (fun c3 => ?_) (fun c3 => ?_)
  · have h := pr_ifF h c3
    refine pr_iload_n C dX9_falseMark_11 rfl 2 rfl ?_
    refine pr_sipush (v := (-3000)) C dX9_falseMark_12 (by decide) ?_
    refine pr_sipush (v := 3000) C dX9_falseMark_15 (by decide) ?_
    obtain ⟨r5, hc4, h⟩ := pr_b1_some h
    refine k_X9_in C pr_w504  hc4 (Nat.le_of_ble_eq_true rfl) (Nat.le_of_ble_eq_true rfl) (Nat.le_of_ble_eq_true rfl) dX9_falseMark_18 ?_
    refine pr_if_eq (tgt := 34) C dX9_falseMark_21 (by decide) (fun c6 => ?_) (fun c6 => ?_)
    · have h := pr_ifT h c6
      refine pr_ldc (v := (-1000000002)) C dX9_falseMark_34 pr_w511 ?_
      obtain ⟨rfl, rfl⟩ := pr_inj h
      exact pr_iret C Z dX9_falseMark_36
    · have h := pr_ifF h c6
      refine pr_iload_n C dX9_falseMark_24 rfl 3 rfl ?_
      refine pr_iconst (v := 0) C dX9_falseMark_25 (by decide) ?_
      refine pr_bipush (v := 50) C dX9_falseMark_26 (by decide) ?_
      obtain ⟨r8, hc7, h⟩ := pr_b1_some h
      refine k_X9_in C pr_w504  hc7 (Nat.le_of_ble_eq_true rfl) (Nat.le_of_ble_eq_true rfl) (Nat.le_of_ble_eq_true rfl) dX9_falseMark_28 ?_
      refine pr_if_ne (tgt := 37) C dX9_falseMark_31 (by decide) (fun c9 => ?_) (fun c9 => ?_)
      · have h := pr_ifF h c9
        refine pr_aload_n C dX9_falseMark_37 rfl 0 rfl ?_
        refine pr_iload_n C dX9_falseMark_38 rfl 1 rfl ?_
        refine pr_bipush (v := 26) C dX9_falseMark_39 (by decide) ?_
        obtain ⟨r11, hc10, h⟩ := pr_b1_some h
        refine k_X9_of C pr_w507 hk0 hc10 (Nat.le_of_ble_eq_true rfl) (Nat.le_of_ble_eq_true rfl) (Nat.le_of_ble_eq_true rfl) dX9_falseMark_41 ?_
        refine pr_istore (lv' := [(4, .int r11), (0, .ref (pr_ad (pr_EM l e) c)), (1, .int p1), (2, .int p2), (3, .int p3)]) C dX9_falseMark_44 (by decide) rfl ?_
        refine pr_aload_n C dX9_falseMark_46 rfl 1 rfl ?_
        refine pr_iload_n C dX9_falseMark_47 rfl 2 rfl ?_
        refine pr_bipush (v := 25) C dX9_falseMark_48 (by decide) ?_
        refine pr_iload_n C dX9_falseMark_50 rfl 3 rfl ?_
        obtain ⟨u13, f14, hc12, h⟩ := pr_bd_some h
        refine k_X9_lay C pr_w483 hk0 hc12 (Nat.le_of_ble_eq_true rfl) (Nat.le_of_ble_eq_true rfl) (Nat.le_of_ble_eq_true rfl) dX9_falseMark_51 ?_
        refine pr_aload_n C dX9_falseMark_54 rfl 1 rfl ?_
        refine pr_iload_n C dX9_falseMark_55 rfl 2 rfl ?_
        refine pr_bipush (v := 26) C dX9_falseMark_56 (by decide) ?_
        refine pr_iload_n C dX9_falseMark_58 rfl 4 rfl ?_
        obtain ⟨u16, f17, hc15, h⟩ := pr_bd_some h
        refine k_X9_lay C pr_w483 hk0 hc15 (Nat.le_of_ble_eq_true rfl) (Nat.le_of_ble_eq_true rfl) (Nat.le_of_ble_eq_true rfl) dX9_falseMark_59 ?_
        refine pr_iload C dX9_falseMark_62 0 rfl ?_
        obtain ⟨rfl, rfl⟩ := pr_inj h
        exact pr_iret C Z dX9_falseMark_64
      · have h := pr_ifT h c9
        refine pr_ldc (v := (-1000000002)) C dX9_falseMark_34 pr_w511 ?_
        obtain ⟨rfl, rfl⟩ := pr_inj h
        exact pr_iret C Z dX9_falseMark_36
  · have h := pr_ifT h c3
    refine pr_ldc (v := (-1000000001)) C dX9_falseMark_8 pr_w513 ?_
    obtain ⟨rfl, rfl⟩ := pr_inj h
    exact pr_iret C Z dX9_falseMark_10

def F_X9_startSplice (c : Nat) (p1 : Int32) (p2 : Int32) (f : pr_M) : Option (Int32 × pr_M) :=
  pr_lt (pr_up f (c + 1) (Int32.toNatClampNeg 1769) p1) fun f2 =>
  pr_lt (pr_up f2 (c + 1) (Int32.toNatClampNeg 1770) p2) fun f4 =>
  pr_lt (pr_up f4 (c + 1) (Int32.toNatClampNeg 1771) 1) fun f6 =>
  pr_b1 (F_X9_way c ((f6 (c + 1) (Int32.toNatClampNeg 1766)) - 1) f6) fun r9 =>
  some ((r9 + 1), f6)
set_option maxHeartbeats 4000000 in
set_option maxRecDepth 100000 in
theorem m_X9_startSplice {l : Launch} {e : pr_E0} {c : Nat} {p1 : Int32} {p2 : Int32} {f : pr_M} {r : Int32} {g : pr_M} (hk0 : pr_LM[c]? = some (9, 0)) (h : F_X9_startSplice c p1 p2 f = some (r, g)) : pr_Met (pr_EM l e) yX9_startSplice cX9_startSplice 3 (some .int) { frames := 3, cells := 0, slots := 0, locals := 66 } [.ref (pr_ad (pr_EM l e) c), .int p1, .int p2] f (some (.int r)) g := by
  rw [F_X9_startSplice] at h
  refine pr_enter (by decide +kernel) (Nat.le_of_ble_eq_true rfl) (fun Y C Z => ?_)
  replace C : pr_C (pr_EM l e) Y { frames := 3, cells := 0, slots := 0, locals := 66 } cX9_startSplice RX9 3 _ := C
  show pr_W (pr_EM l e) Y _ 3 f 0 [(0, .ref (pr_ad (pr_EM l e) c)), (1, .int p1), (2, .int p2)] []
  refine pr_aload_n C dX9_startSplice_0 rfl 0 rfl ?_
  refine pr_g_9_0 C hk0 pr_w476 dX9_startSplice_1 ?_
  have hk1 := pr_kM_9_0 hk0
  refine pr_sipush (v := 1769) C dX9_startSplice_4 (by decide) ?_
  refine pr_iload_n C dX9_startSplice_7 rfl 1 rfl ?_
  refine pr_iastore C hk1 (pr_inlit (by decide +kernel)) dX9_startSplice_8 (fun f2 e3 => ?_)
  have h := pr_lt_at h e3
  refine pr_aload_n C dX9_startSplice_9 rfl 0 rfl ?_
  refine pr_g_9_0 C hk0 pr_w476 dX9_startSplice_10 ?_
  refine pr_sipush (v := 1770) C dX9_startSplice_13 (by decide) ?_
  refine pr_iload_n C dX9_startSplice_16 rfl 2 rfl ?_
  refine pr_iastore C hk1 (pr_inlit (by decide +kernel)) dX9_startSplice_17 (fun f4 e5 => ?_)
  have h := pr_lt_at h e5
  refine pr_aload_n C dX9_startSplice_18 rfl 0 rfl ?_
  refine pr_g_9_0 C hk0 pr_w476 dX9_startSplice_19 ?_
  refine pr_sipush (v := 1771) C dX9_startSplice_22 (by decide) ?_
  refine pr_iconst (v := 1) C dX9_startSplice_25 (by decide) ?_
  refine pr_iastore C hk1 (pr_inlit (by decide +kernel)) dX9_startSplice_26 (fun f6 e7 => ?_)
  have h := pr_lt_at h e7
  refine pr_aload_n C dX9_startSplice_27 rfl 0 rfl ?_
  refine pr_aload_n C dX9_startSplice_28 rfl 0 rfl ?_
  refine pr_g_9_0 C hk0 pr_w476 dX9_startSplice_29 ?_
  refine pr_sipush (v := 1766) C dX9_startSplice_32 (by decide) ?_
  refine pr_iaload C hk1 (pr_inlit (by decide +kernel)) dX9_startSplice_35 ?_
  refine pr_iconst (v := 1) C dX9_startSplice_36 (by decide) ?_
  refine pr_isub C dX9_startSplice_37 ?_
  obtain ⟨r9, hc8, h⟩ := pr_b1_some h
  refine k_X9_way C pr_w536 hk0 hc8 (Nat.le_of_ble_eq_true rfl) (Nat.le_of_ble_eq_true rfl) (Nat.le_of_ble_eq_true rfl) dX9_startSplice_38 ?_
  refine pr_iconst (v := 1) C dX9_startSplice_41 (by decide) ?_
  refine pr_iadd C dX9_startSplice_42 ?_
  obtain ⟨rfl, rfl⟩ := pr_inj h
  exact pr_iret C Z dX9_startSplice_43
theorem k_X9_startSplice {l : Launch} {e : pr_E0} {Y : pr_Y} {Rm : Room} {cc : ByteArray} {own : String} {nL : Nat} {c0 : Cond} {pc idx : Nat} {lv : List (Nat × Value)} {st : List Value} {c : Nat} {p1 : Int32} {p2 : Int32} {f : pr_M} {r : Int32} {g : pr_M} (C : pr_C (pr_EM l e) Y Rm cc own nL c0) (w1 : Cond.methodLink own idx yX9_startSplice ∈ pr_AL) (hk0 : pr_LM[c]? = some (9, 0)) (h : F_X9_startSplice c p1 p2 f = some (r, g)) (hr1 : 4 ≤ Rm.frames) (hr2 : 88 ≤ Rm.locals) (hcat : (st.map fun v => v.category).sum ≤ 8) (hdg : decode cc pc = .ok (.invokevirtual idx, 3)) (k : pr_W (pr_EM l e) Y Rm nL g (pc + 3) lv (.int r :: st)) : pr_W (pr_EM l e) Y Rm nL f pc lv (.int p2 :: .int p1 :: .ref (pr_ad (pr_EM l e) c) :: st) :=
  pr_callV (As := [.int p1, .int p2]) (n := 2) C (m_X9_startSplice hk0 h) hk0 (by decide) rfl w1 pr_w541 pr_w542 pr_w479 pr_w535 rfl rfl ⟨rfl, by decide +kernel, by decide +kernel, by decide +kernel⟩ rfl ⟨hr1, hr2⟩ rfl hcat hdg k

def F_X9_splice (c : Nat) (p1 : Int32) (p2 : Int32) (f : pr_M) : Option (Int32 × pr_M) :=
  pr_b1 (F_X9_isDisturbance p1 p2 f) fun r2 =>
  if r2 = 0 then (
    some ((-1000000002), f)
  ) else (
    pr_bd (F_X9_startSplice c p1 p2 f) fun r5 f6 =>
    some (r5, f6)
  )
set_option maxHeartbeats 4000000 in
set_option maxRecDepth 100000 in
theorem m_X9_splice {l : Launch} {e : pr_E0} {c : Nat} {p1 : Int32} {p2 : Int32} {f : pr_M} {r : Int32} {g : pr_M} (hk0 : pr_LM[c]? = some (9, 0)) (h : F_X9_splice c p1 p2 f = some (r, g)) : pr_Met (pr_EM l e) yX9_splice cX9_splice 3 (some .int) { frames := 4, cells := 0, slots := 0, locals := 88 } [.ref (pr_ad (pr_EM l e) c), .int p1, .int p2] f (some (.int r)) g := by
  rw [F_X9_splice] at h
  refine pr_enter (by decide +kernel) (Nat.le_of_ble_eq_true rfl) (fun Y C Z => ?_)
  replace C : pr_C (pr_EM l e) Y { frames := 4, cells := 0, slots := 0, locals := 88 } cX9_splice RX9 3 _ := C
  show pr_W (pr_EM l e) Y _ 3 f 0 [(0, .ref (pr_ad (pr_EM l e) c)), (1, .int p1), (2, .int p2)] []
  refine pr_iload_n C dX9_splice_0 rfl 1 rfl ?_
  refine pr_iload_n C dX9_splice_1 rfl 2 rfl ?_
  obtain ⟨r2, hc1, h⟩ := pr_b1_some h
  refine k_X9_isDisturbance C pr_w527  hc1 (Nat.le_of_ble_eq_true rfl) (Nat.le_of_ble_eq_true rfl) (Nat.le_of_ble_eq_true rfl) dX9_splice_2 ?_
  refine pr_if_eq (tgt := 17) C dX9_splice_5 (by decide) (fun c3 => ?_) (fun c3 => ?_)
  · have h := pr_ifT h c3
    refine pr_ldc (v := (-1000000002)) C dX9_splice_17 pr_w511 ?_
    obtain ⟨rfl, rfl⟩ := pr_inj h
    exact pr_iret C Z dX9_splice_19
  · have h := pr_ifF h c3
    refine pr_aload_n C dX9_splice_8 rfl 0 rfl ?_
    refine pr_iload_n C dX9_splice_9 rfl 1 rfl ?_
    refine pr_iload_n C dX9_splice_10 rfl 2 rfl ?_
    obtain ⟨r5, f6, hc4, h⟩ := pr_bd_some h
    refine k_X9_startSplice C pr_w540 hk0 hc4 (Nat.le_of_ble_eq_true rfl) (Nat.le_of_ble_eq_true rfl) (Nat.le_of_ble_eq_true rfl) dX9_splice_11 ?_
    refine pr_goto (tgt := 19) C dX9_splice_14 (by decide) ?_
    obtain ⟨rfl, rfl⟩ := pr_inj h
    exact pr_iret C Z dX9_splice_19

def F_X9_tally (c : Nat) (p1 : Int32) (p2 : Int32) (f : pr_M) : Option (Unit × pr_M) :=
  pr_gd (¬ ((1772 + p1) < 0 ∨ 1906 ≤ Int32.toNatClampNeg (1772 + p1))) <|
  pr_b1 (α := Int32) (
    if p2 = 0 then (
      some 0
    ) else (
      some 1
    )
  ) fun v3 =>
  pr_lt (pr_up f (c + 1) (Int32.toNatClampNeg (1772 + p1)) ((f (c + 1) (Int32.toNatClampNeg (1772 + p1))) + v3)) fun f5 =>
  some ((), f5)
set_option maxHeartbeats 4000000 in
set_option maxRecDepth 100000 in
theorem m_X9_tally {l : Launch} {e : pr_E0} {c : Nat} {p1 : Int32} {p2 : Int32} {f : pr_M} {r : Unit} {g : pr_M} (hk0 : pr_LM[c]? = some (9, 0)) (h : F_X9_tally c p1 p2 f = some (r, g)) : pr_Met (pr_EM l e) yX9_tally cX9_tally 3 none { frames := 0, cells := 0, slots := 0, locals := 0 } [.ref (pr_ad (pr_EM l e) c), .int p1, .int p2] f none g := by
  rw [F_X9_tally] at h
  refine pr_enter (by decide +kernel) (Nat.le_of_ble_eq_true rfl) (fun Y C Z => ?_)
  replace C : pr_C (pr_EM l e) Y { frames := 0, cells := 0, slots := 0, locals := 0 } cX9_tally RX9 3 _ := C
  show pr_W (pr_EM l e) Y _ 3 f 0 [(0, .ref (pr_ad (pr_EM l e) c)), (1, .int p1), (2, .int p2)] []
  refine pr_aload_n C dX9_tally_0 rfl 0 rfl ?_
  refine pr_g_9_0 C hk0 pr_w476 dX9_tally_1 ?_
  have hk1 := pr_kM_9_0 hk0
  refine pr_sipush (v := 1772) C dX9_tally_4 (by decide) ?_
  refine pr_iload_n C dX9_tally_7 rfl 1 rfl ?_
  refine pr_iadd C dX9_tally_8 ?_
  refine pr_dup2 C dX9_tally_9 rfl rfl ?_
  obtain ⟨hg2, h⟩ := pr_gd_some h
  refine pr_iaload C hk1 hg2 dX9_tally_10 ?_
  refine pr_iload_n C dX9_tally_11 rfl 2 rfl ?_
  obtain ⟨v3, hv, h⟩ := pr_b1_some h
  have K : pr_W (pr_EM l e) Y { frames := 0, cells := 0, slots := 0, locals := 0 } 3 f 20 [] [.int v3, .int (f (c + 1) (Int32.toNatClampNeg (1772 + p1))), .int (1772 + p1), .ref (pr_ad (pr_EM l e) (c + 1))] := by
    refine pr_iadd C dX9_tally_20 ?_
    refine pr_iastore C hk1 hg2 dX9_tally_21 (fun f5 e6 => ?_)
    have h := pr_lt_at h e6
    obtain ⟨rfl, rfl⟩ := pr_inj h
    exact pr_vret C Z dX9_tally_22
  clear h
  have h := hv
  clear hv
  refine pr_if_eq (tgt := 19) C dX9_tally_12 (by decide) (fun c4 => ?_) (fun c4 => ?_)
  · have h := pr_ifT h c4
    refine pr_iconst (v := 0) C dX9_tally_19 (by decide) ?_
    obtain rfl := pr_in1 h
    exact pr_pick [] rfl K
  · have h := pr_ifF h c4
    refine pr_iconst (v := 1) C dX9_tally_15 (by decide) ?_
    refine pr_goto (tgt := 20) C dX9_tally_16 (by decide) ?_
    obtain rfl := pr_in1 h
    exact pr_pick [] rfl K
theorem k_X9_tally {l : Launch} {e : pr_E0} {Y : pr_Y} {Rm : Room} {cc : ByteArray} {own : String} {nL : Nat} {c0 : Cond} {pc idx : Nat} {lv : List (Nat × Value)} {st : List Value} {c : Nat} {p1 : Int32} {p2 : Int32} {f : pr_M} {r : Unit} {g : pr_M} (C : pr_C (pr_EM l e) Y Rm cc own nL c0) (w1 : Cond.methodLink own idx yX9_tally ∈ pr_AL) (hk0 : pr_LM[c]? = some (9, 0)) (h : F_X9_tally c p1 p2 f = some (r, g)) (hr1 : 1 ≤ Rm.frames) (hr2 : 22 ≤ Rm.locals) (hcat : (st.map fun v => v.category).sum ≤ 8) (hdg : decode cc pc = .ok (.invokevirtual idx, 3)) (k : pr_W (pr_EM l e) Y Rm nL g (pc + 3) lv (st)) : pr_W (pr_EM l e) Y Rm nL f pc lv (.int p2 :: .int p1 :: .ref (pr_ad (pr_EM l e) c) :: st) :=
  pr_callV (As := [.int p1, .int p2]) (n := 2) C (m_X9_tally hk0 h) hk0 (by decide) rfl w1 pr_w561 pr_w562 pr_w479 pr_w543 rfl rfl ⟨rfl, by decide +kernel, by decide +kernel, by decide +kernel⟩ rfl ⟨hr1, hr2⟩ rfl hcat hdg k

def L_X9_goOnSplice_25 (q0 : Nat) (x1 : Int32) : Nat → Int32 → pr_M → Option ((Unit) × pr_M)
  | 0, _, _ => none
  | n + 1, x2, f =>
    if (f (q0 + 1) (Int32.toNatClampNeg 1766)) ≤ x2 then (
      some ((), f)
    ) else (
      pr_b1 (F_X9_way q0 x2 f) fun r26004 =>
      if r26004 = x1 then (
        pr_bd (F_X9_giveDisturbance q0 x2 (f (q0 + 1) (Int32.toNatClampNeg 1769)) (f (q0 + 1) (Int32.toNatClampNeg 1770)) f) fun u26007 f26008 =>
        pr_bd (F_X9_lay q0 x2 15 0 f26008) fun u26010 f26011 =>
        pr_b1 (F_X9_of q0 x2 1 f26011) fun r26013 =>
        pr_b1 (F_X9_of q0 x2 9 f26011) fun r26015 =>
        pr_bd (F_X9_lay q0 x2 18 (r26013 + r26015) f26011) fun u26017 f26018 =>
        L_X9_goOnSplice_25 q0 x1 n (x2 + 1) f26018
      ) else (
        L_X9_goOnSplice_25 q0 x1 n (x2 + 1) f
      )
    )
set_option maxHeartbeats 4000000 in
set_option maxRecDepth 100000 in
theorem l_X9_goOnSplice_25 {l : Launch} {e : pr_E0} {Y : pr_Y} {c0 : Cond} {q0 : Nat} {x1 : Int32} {z : Unit} {g : pr_M} (C : pr_C (pr_EM l e) Y { frames := 3, cells := 0, slots := 0, locals := 67 } cX9_goOnSplice RX9 3 c0) (hq0 : pr_LM[q0]? = some (9, 0)) : ∀ (n : Nat) (x2 : Int32) (f : pr_M), L_X9_goOnSplice_25 q0 x1 n x2 f = some (z, g) → pr_W (pr_EM l e) Y { frames := 3, cells := 0, slots := 0, locals := 67 } 3 g 102 [(0, .ref (pr_ad (pr_EM l e) q0)), (1, .int x1)] [] → pr_W (pr_EM l e) Y { frames := 3, cells := 0, slots := 0, locals := 67 } 3 f 25 [(0, .ref (pr_ad (pr_EM l e) q0)), (1, .int x1), (2, .int x2)] [] := by
  intro n
  induction n with
  | zero =>
    intro x2 f h
    exact absurd h (by simp [L_X9_goOnSplice_25])
  | succ n ih =>
    intro x2 f h K
    rw [L_X9_goOnSplice_25] at h
    refine pr_iload_n C dX9_goOnSplice_25 rfl 2 rfl ?_
    refine pr_aload_n C dX9_goOnSplice_26 rfl 0 rfl ?_
    refine pr_g_9_0 C hq0 pr_w476 dX9_goOnSplice_27 ?_
    have hk26001 := pr_kM_9_0 hq0
    refine pr_sipush (v := 1766) C dX9_goOnSplice_30 (by decide) ?_
    refine pr_iaload C hk26001 (pr_inlit (by decide +kernel)) dX9_goOnSplice_33 ?_
    refine pr_icmp_ge (tgt := 102) C dX9_goOnSplice_34 (by decide) (fun c26002 => ?_) (fun c26002 => ?_)
    · have h := pr_ifT h c26002
      obtain ⟨rfl, rfl⟩ := pr_inj h
      exact pr_pick [0, 1] rfl K
    · have h := pr_ifF h c26002
      refine pr_aload_n C dX9_goOnSplice_37 rfl 0 rfl ?_
      refine pr_iload_n C dX9_goOnSplice_38 rfl 2 rfl ?_
      obtain ⟨r26004, hc26003, h⟩ := pr_b1_some h
      refine k_X9_way C pr_w536 hq0 hc26003 (Nat.le_of_ble_eq_true rfl) (Nat.le_of_ble_eq_true rfl) (Nat.le_of_ble_eq_true rfl) dX9_goOnSplice_39 ?_
      refine pr_iload_n C dX9_goOnSplice_42 rfl 1 rfl ?_
      refine pr_icmp_ne (tgt := 96) C dX9_goOnSplice_43 (by decide) (fun c26005 => ?_) (fun c26005 => ?_)
      · have h := pr_ifF h c26005
        refine pr_iinc (v := (x2 + 1)) (lv' := [(2, .int (x2 + 1)), (0, .ref (pr_ad (pr_EM l e) q0)), (1, .int x1)]) C dX9_goOnSplice_96 2 rfl rfl (by decide) rfl ?_
        refine pr_goto (tgt := 25) C dX9_goOnSplice_99 (by decide) ?_
        exact pr_pick [1, 2, 0] rfl (ih _ _ h K)
      · have h := pr_ifT h c26005
        refine pr_aload_n C dX9_goOnSplice_46 rfl 0 rfl ?_
        refine pr_iload_n C dX9_goOnSplice_47 rfl 2 rfl ?_
        refine pr_aload_n C dX9_goOnSplice_48 rfl 0 rfl ?_
        refine pr_g_9_0 C hq0 pr_w476 dX9_goOnSplice_49 ?_
        refine pr_sipush (v := 1769) C dX9_goOnSplice_52 (by decide) ?_
        refine pr_iaload C hk26001 (pr_inlit (by decide +kernel)) dX9_goOnSplice_55 ?_
        refine pr_aload_n C dX9_goOnSplice_56 rfl 0 rfl ?_
        refine pr_g_9_0 C hq0 pr_w476 dX9_goOnSplice_57 ?_
        refine pr_sipush (v := 1770) C dX9_goOnSplice_60 (by decide) ?_
        refine pr_iaload C hk26001 (pr_inlit (by decide +kernel)) dX9_goOnSplice_63 ?_
        obtain ⟨u26007, f26008, hc26006, h⟩ := pr_bd_some h
        refine k_X9_giveDisturbance C pr_w529 hq0 hc26006 (Nat.le_of_ble_eq_true rfl) (Nat.le_of_ble_eq_true rfl) (Nat.le_of_ble_eq_true rfl) dX9_goOnSplice_64 ?_
        refine pr_aload_n C dX9_goOnSplice_67 rfl 0 rfl ?_
        refine pr_iload_n C dX9_goOnSplice_68 rfl 2 rfl ?_
        refine pr_bipush (v := 15) C dX9_goOnSplice_69 (by decide) ?_
        refine pr_iconst (v := 0) C dX9_goOnSplice_71 (by decide) ?_
        obtain ⟨u26010, f26011, hc26009, h⟩ := pr_bd_some h
        refine k_X9_lay C pr_w483 hq0 hc26009 (Nat.le_of_ble_eq_true rfl) (Nat.le_of_ble_eq_true rfl) (Nat.le_of_ble_eq_true rfl) dX9_goOnSplice_72 ?_
        refine pr_aload_n C dX9_goOnSplice_75 rfl 0 rfl ?_
        refine pr_iload_n C dX9_goOnSplice_76 rfl 2 rfl ?_
        refine pr_bipush (v := 18) C dX9_goOnSplice_77 (by decide) ?_
        refine pr_aload_n C dX9_goOnSplice_79 rfl 0 rfl ?_
        refine pr_iload_n C dX9_goOnSplice_80 rfl 2 rfl ?_
        refine pr_iconst (v := 1) C dX9_goOnSplice_81 (by decide) ?_
        obtain ⟨r26013, hc26012, h⟩ := pr_b1_some h
        refine k_X9_of C pr_w507 hq0 hc26012 (Nat.le_of_ble_eq_true rfl) (Nat.le_of_ble_eq_true rfl) (Nat.le_of_ble_eq_true rfl) dX9_goOnSplice_82 ?_
        refine pr_aload_n C dX9_goOnSplice_85 rfl 0 rfl ?_
        refine pr_iload_n C dX9_goOnSplice_86 rfl 2 rfl ?_
        refine pr_bipush (v := 9) C dX9_goOnSplice_87 (by decide) ?_
        obtain ⟨r26015, hc26014, h⟩ := pr_b1_some h
        refine k_X9_of C pr_w507 hq0 hc26014 (Nat.le_of_ble_eq_true rfl) (Nat.le_of_ble_eq_true rfl) (Nat.le_of_ble_eq_true rfl) dX9_goOnSplice_89 ?_
        refine pr_iadd C dX9_goOnSplice_92 ?_
        obtain ⟨u26017, f26018, hc26016, h⟩ := pr_bd_some h
        refine k_X9_lay C pr_w483 hq0 hc26016 (Nat.le_of_ble_eq_true rfl) (Nat.le_of_ble_eq_true rfl) (Nat.le_of_ble_eq_true rfl) dX9_goOnSplice_93 ?_
        refine pr_iinc (v := (x2 + 1)) (lv' := [(2, .int (x2 + 1)), (0, .ref (pr_ad (pr_EM l e) q0)), (1, .int x1)]) C dX9_goOnSplice_96 2 rfl rfl (by decide) rfl ?_
        refine pr_goto (tgt := 25) C dX9_goOnSplice_99 (by decide) ?_
        exact pr_pick [1, 2, 0] rfl (ih _ _ h K)
def F_X9_goOnSplice (c : Nat) (f : pr_M) : Option (Unit × pr_M) :=
  if (f (c + 1) (Int32.toNatClampNeg 1771)) = 0 then (
    some ((), f)
  ) else (
    pr_bd (L_X9_goOnSplice_25 c ((f (c + 1) (Int32.toNatClampNeg 1771)) - 1) pr_fuel 0 f) fun v3 f4 =>
    pr_b1 (F_X9_way c ((f4 (c + 1) (Int32.toNatClampNeg 1766)) - 1) f4) fun r6 =>
    pr_b1 (α := Int32) (
      if ((f (c + 1) (Int32.toNatClampNeg 1771)) - 1) < r6 then (
        some ((f4 (c + 1) (Int32.toNatClampNeg 1771)) + 1)
      ) else (
        some 0
      )
    ) fun v7 =>
    pr_lt (pr_up f4 (c + 1) (Int32.toNatClampNeg 1771) v7) fun f9 =>
    some ((), f9)
  )
set_option maxHeartbeats 4000000 in
set_option maxRecDepth 100000 in
theorem m_X9_goOnSplice {l : Launch} {e : pr_E0} {c : Nat} {f : pr_M} {r : Unit} {g : pr_M} (hk0 : pr_LM[c]? = some (9, 0)) (h : F_X9_goOnSplice c f = some (r, g)) : pr_Met (pr_EM l e) yX9_goOnSplice cX9_goOnSplice 3 none { frames := 3, cells := 0, slots := 0, locals := 67 } [.ref (pr_ad (pr_EM l e) c)] f none g := by
  rw [F_X9_goOnSplice] at h
  refine pr_enter (by decide +kernel) (Nat.le_of_ble_eq_true rfl) (fun Y C Z => ?_)
  replace C : pr_C (pr_EM l e) Y { frames := 3, cells := 0, slots := 0, locals := 67 } cX9_goOnSplice RX9 3 _ := C
  show pr_W (pr_EM l e) Y _ 3 f 0 [(0, .ref (pr_ad (pr_EM l e) c))] []
  refine pr_aload_n C dX9_goOnSplice_0 rfl 0 rfl ?_
  refine pr_g_9_0 C hk0 pr_w476 dX9_goOnSplice_1 ?_
  have hk1 := pr_kM_9_0 hk0
  refine pr_sipush (v := 1771) C dX9_goOnSplice_4 (by decide) ?_
  refine pr_iaload C hk1 (pr_inlit (by decide +kernel)) dX9_goOnSplice_7 ?_
  refine pr_if_ne (tgt := 12) C dX9_goOnSplice_8 (by decide) (fun c2 => ?_) (fun c2 => ?_)
  · have h := pr_ifF h c2
    refine pr_aload_n C dX9_goOnSplice_12 rfl 0 rfl ?_
    refine pr_g_9_0 C hk0 pr_w476 dX9_goOnSplice_13 ?_
    refine pr_sipush (v := 1771) C dX9_goOnSplice_16 (by decide) ?_
    refine pr_iaload C hk1 (pr_inlit (by decide +kernel)) dX9_goOnSplice_19 ?_
    refine pr_iconst (v := 1) C dX9_goOnSplice_20 (by decide) ?_
    refine pr_isub C dX9_goOnSplice_21 ?_
    refine pr_istore_n (lv' := [(1, .int ((f (c + 1) (Int32.toNatClampNeg 1771)) - 1)), (0, .ref (pr_ad (pr_EM l e) c))]) C dX9_goOnSplice_22 rfl (by decide) rfl ?_
    refine pr_iconst (v := 0) C dX9_goOnSplice_23 (by decide) ?_
    refine pr_istore_n (lv' := [(2, .int 0), (1, .int ((f (c + 1) (Int32.toNatClampNeg 1771)) - 1)), (0, .ref (pr_ad (pr_EM l e) c))]) C dX9_goOnSplice_24 rfl (by decide) rfl ?_
    obtain ⟨v3, f4, hv, h⟩ := pr_bd_some h
    refine pr_pick [2, 1, 0] rfl (l_X9_goOnSplice_25 C hk0 pr_fuel _ _ hv ?_)
    clear hv
    refine pr_aload_n C dX9_goOnSplice_102 rfl 0 rfl ?_
    refine pr_g_9_0 C hk0 pr_w476 dX9_goOnSplice_103 ?_
    refine pr_sipush (v := 1771) C dX9_goOnSplice_106 (by decide) ?_
    refine pr_iload_n C dX9_goOnSplice_109 rfl 1 rfl ?_
    refine pr_aload_n C dX9_goOnSplice_110 rfl 0 rfl ?_
    refine pr_aload_n C dX9_goOnSplice_111 rfl 0 rfl ?_
    refine pr_g_9_0 C hk0 pr_w476 dX9_goOnSplice_112 ?_
    refine pr_sipush (v := 1766) C dX9_goOnSplice_115 (by decide) ?_
    refine pr_iaload C hk1 (pr_inlit (by decide +kernel)) dX9_goOnSplice_118 ?_
    refine pr_iconst (v := 1) C dX9_goOnSplice_119 (by decide) ?_
    refine pr_isub C dX9_goOnSplice_120 ?_
    obtain ⟨r6, hc5, h⟩ := pr_b1_some h
    refine k_X9_way C pr_w536 hk0 hc5 (Nat.le_of_ble_eq_true rfl) (Nat.le_of_ble_eq_true rfl) (Nat.le_of_ble_eq_true rfl) dX9_goOnSplice_121 ?_
    obtain ⟨v7, hv, h⟩ := pr_b1_some h
    have K : pr_W (pr_EM l e) Y { frames := 3, cells := 0, slots := 0, locals := 67 } 3 f4 141 [] [.int v7, .int 1771, .ref (pr_ad (pr_EM l e) (c + 1))] := by
      refine pr_iastore C hk1 (pr_inlit (by decide +kernel)) dX9_goOnSplice_141 (fun f9 e10 => ?_)
      have h := pr_lt_at h e10
      obtain ⟨rfl, rfl⟩ := pr_inj h
      exact pr_vret C Z dX9_goOnSplice_142
    clear h
    have h := hv
    clear hv
    refine pr_icmp_lt (tgt := 131) C dX9_goOnSplice_124 (by decide) (fun c8 => ?_) (fun c8 => ?_)
    · have h := pr_ifT h c8
      refine pr_aload_n C dX9_goOnSplice_131 rfl 0 rfl ?_
      refine pr_g_9_0 C hk0 pr_w476 dX9_goOnSplice_132 ?_
      refine pr_sipush (v := 1771) C dX9_goOnSplice_135 (by decide) ?_
      refine pr_iaload C hk1 (pr_inlit (by decide +kernel)) dX9_goOnSplice_138 ?_
      refine pr_iconst (v := 1) C dX9_goOnSplice_139 (by decide) ?_
      refine pr_iadd C dX9_goOnSplice_140 ?_
      obtain rfl := pr_in1 h
      exact pr_pick [] rfl K
    · have h := pr_ifF h c8
      refine pr_iconst (v := 0) C dX9_goOnSplice_127 (by decide) ?_
      refine pr_goto (tgt := 141) C dX9_goOnSplice_128 (by decide) ?_
      obtain rfl := pr_in1 h
      exact pr_pick [] rfl K
  · have h := pr_ifT h c2
    obtain ⟨rfl, rfl⟩ := pr_inj h
    exact pr_vret C Z dX9_goOnSplice_11
theorem k_X9_goOnSplice {l : Launch} {e : pr_E0} {Y : pr_Y} {Rm : Room} {cc : ByteArray} {own : String} {nL : Nat} {c0 : Cond} {pc idx : Nat} {lv : List (Nat × Value)} {st : List Value} {c : Nat} {f : pr_M} {r : Unit} {g : pr_M} (C : pr_C (pr_EM l e) Y Rm cc own nL c0) (w1 : Cond.methodLink own idx yX9_goOnSplice ∈ pr_AL) (hk0 : pr_LM[c]? = some (9, 0)) (h : F_X9_goOnSplice c f = some (r, g)) (hr1 : 4 ≤ Rm.frames) (hr2 : 89 ≤ Rm.locals) (hcat : (st.map fun v => v.category).sum ≤ 8) (hdg : decode cc pc = .ok (.invokevirtual idx, 3)) (k : pr_W (pr_EM l e) Y Rm nL g (pc + 3) lv (st)) : pr_W (pr_EM l e) Y Rm nL f pc lv (.ref (pr_ad (pr_EM l e) c) :: st) :=
  pr_callV (As := []) (n := 0) C (m_X9_goOnSplice hk0 h) hk0 (by decide) rfl w1 pr_w578 pr_w579 pr_w479 pr_w544 rfl rfl ⟨rfl, by decide +kernel, by decide +kernel, by decide +kernel⟩ rfl ⟨hr1, hr2⟩ rfl hcat hdg k
