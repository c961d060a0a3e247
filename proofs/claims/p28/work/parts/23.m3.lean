def F_X5_sight (c : Nat) (p1 : Int32) (f : pr_M) : Option (Int32) :=
  if p1 = 2 then (
    some (f c 5)
  ) else (
    if p1 = 3 then (
      some (f c 6)
    ) else (
      if p1 = 4 then (
        some (f c 7)
      ) else (
        if p1 = 5 then (
          some (f c 8)
        ) else (
          some (f c 9)
          )
          )
          )
          )
set_option maxHeartbeats 4000000 in
set_option maxRecDepth 100000 in
theorem m_X5_sight {l : Launch} {e : pr_E0} {c : Nat} {p1 : Int32} {f : pr_M} {r : Int32} (hk0 : (pr_LE e)[c]? = some (5, 0)) (h : F_X5_sight c p1 f = some r) : pr_Met (pr_EC l e) yX5_sight cX5_sight 2 (some .int) { frames := 0, cells := 0, slots := 0, locals := 0 } [.ref (pr_ad (pr_EC l e) c), .int p1] f (some (.int r)) f := by
  rw [F_X5_sight] at h
  refine pr_enter (by decide +kernel) (Nat.le_of_ble_eq_true rfl) (fun Y C Z => ?_)
  replace C : pr_C (pr_EC l e) Y { frames := 0, cells := 0, slots := 0, locals := 0 } cX5_sight RX5 2 _ := C
  show pr_W (pr_EC l e) Y _ 2 f 0 [(0, .ref (pr_ad (pr_EC l e) c)), (1, .int p1)] []
  refine pr_iload_n C dX5_sight_0 rfl 1 rfl ?_
  by_cases c1 : p1 = 2
  · have h := pr_ifT h c1
    refine pr_tableIn (tgt := 32) (off := 31) C dX5_sight_1 c1 (by decide) (by decide) (by decide) (by decide) ?_
    refine pr_aload_n C dX5_sight_32 rfl 0 rfl ?_
    refine pr_g_5_5 C hk0 pr_w101 dX5_sight_33 ?_
    obtain rfl := pr_in1 h
    exact pr_iret C Z dX5_sight_36
  · have h := pr_ifF h c1
    by_cases c2 : p1 = 3
    · have h := pr_ifT h c2
      refine pr_tableIn (tgt := 37) (off := 36) C dX5_sight_1 c2 (by decide) (by decide) (by decide) (by decide) ?_
      refine pr_aload_n C dX5_sight_37 rfl 0 rfl ?_
      refine pr_g_5_6 C hk0 pr_w102 dX5_sight_38 ?_
      obtain rfl := pr_in1 h
      exact pr_iret C Z dX5_sight_41
    · have h := pr_ifF h c2
      by_cases c3 : p1 = 4
      · have h := pr_ifT h c3
        refine pr_tableIn (tgt := 42) (off := 41) C dX5_sight_1 c3 (by decide) (by decide) (by decide) (by decide) ?_
        refine pr_aload_n C dX5_sight_42 rfl 0 rfl ?_
        refine pr_g_5_7 C hk0 pr_w96 dX5_sight_43 ?_
        obtain rfl := pr_in1 h
        exact pr_iret C Z dX5_sight_46
      · have h := pr_ifF h c3
        by_cases c4 : p1 = 5
        · have h := pr_ifT h c4
          refine pr_tableIn (tgt := 47) (off := 46) C dX5_sight_1 c4 (by decide) (by decide) (by decide) (by decide) ?_
          refine pr_aload_n C dX5_sight_47 rfl 0 rfl ?_
          refine pr_g_5_8 C hk0 pr_w103 dX5_sight_48 ?_
          obtain rfl := pr_in1 h
          exact pr_iret C Z dX5_sight_51
        · have h := pr_ifF h c4
          refine pr_tableOut (tgt := 52) C dX5_sight_1 (by have n0 := lv_neT (a := 2) c1 (by decide); have n1 := lv_neT (a := 3) c2 (by decide); have n2 := lv_neT (a := 4) c3 (by decide); have n3 := lv_neT (a := 5) c4 (by decide); omega) (by decide) ?_
          refine pr_aload_n C dX5_sight_52 rfl 0 rfl ?_
          refine pr_g_5_9 C hk0 pr_w104 dX5_sight_53 ?_
          obtain rfl := pr_in1 h
          exact pr_iret C Z dX5_sight_56
theorem k_X5_sight {l : Launch} {e : pr_E0} {Y : pr_Y} {Rm : Room} {cc : ByteArray} {own : String} {nL : Nat} {c0 : Cond} {pc idx : Nat} {lv : List (Nat × Value)} {st : List Value} {c : Nat} {p1 : Int32} {f : pr_M} {r : Int32} (C : pr_C (pr_EC l e) Y Rm cc own nL c0) (w1 : Cond.methodLink own idx yX5_sight ∈ pr_AL) (hk0 : (pr_LE e)[c]? = some (5, 0)) (h : F_X5_sight c p1 f = some r) (hr1 : 1 ≤ Rm.frames) (hr2 : 21 ≤ Rm.locals) (hcat : (st.map fun v => v.category).sum ≤ 8) (hdg : decode cc pc = .ok (.invokevirtual idx, 3)) (k : pr_W (pr_EC l e) Y Rm nL f (pc + 3) lv (.int r :: st)) : pr_W (pr_EC l e) Y Rm nL f pc lv (.int p1 :: .ref (pr_ad (pr_EC l e) c) :: st) :=
  pr_callV (As := [.int p1]) (n := 1) C (m_X5_sight hk0 h) hk0 (by decide) rfl w1 pr_w327 pr_w328 pr_w72 pr_w244 rfl rfl ⟨rfl, by decide +kernel, by decide +kernel, by decide +kernel⟩ rfl ⟨hr1, hr2⟩ rfl hcat hdg k

def F_X8_seen (c : Nat) (p1 : Int32) (p2 : Int32) (f : pr_M) : Option (Int32) :=
  pr_b1 (F_X3_unitAt (c + 1) p1 f) fun o3 =>
  pr_op o3 (
    some (-1000000001)
  ) fun q4 =>
  pr_gd (pr_LC[q4]? = some (7, 0)) <|
  pr_b1 (F_X8_isOutside p2 0 6 f) fun r7 =>
  if r7 = 0 then (
    if (f (c + 1) 4) = 0 then (
      some (-1000000005)
    ) else (
      if p2 = 0 then (
        pr_b1 (F_X4_offsetAt (q4 + 2) ((f (c + 1) 4) - 1) f) fun r24 =>
        some r24
      ) else (
        if p2 = 1 then (
          pr_b1 (F_X4_skewAt (q4 + 2) ((f (c + 1) 4) - 1) f) fun r21 =>
          some r21
        ) else (
          pr_b1 (α := Int32) (
            if 4 < p2 then (
              if (f (q4 + 6) 7) = 0 then (
                some 0
              ) else (
                some 1
              )
            ) else (
              some (f (q4 + 6) 4)
            )
          ) fun v13 =>
          if v13 = 0 then (
            some (-1000000006)
          ) else (
            pr_b1 (F_X5_sight (q4 + 6) p2 f) fun r18 =>
            some r18
          )
        )
      )
    )
  ) else (
    some (-1000000002)
  )
set_option maxHeartbeats 4000000 in
set_option maxRecDepth 100000 in
theorem m_X8_seen {l : Launch} {e : pr_E0} {c : Nat} {p1 : Int32} {p2 : Int32} {f : pr_M} {r : Int32} (hk0 : (pr_LE e)[c]? = some (8, 0)) (h : F_X8_seen c p1 p2 f = some r) : pr_Met (pr_EC l e) yX8_seen cX8_seen 6 (some .int) { frames := 1, cells := 0, slots := 0, locals := 22 } [.ref (pr_ad (pr_EC l e) c), .int p1, .int p2] f (some (.int r)) f := by
  rw [F_X8_seen] at h
  refine pr_enter (by decide +kernel) (Nat.le_of_ble_eq_true rfl) (fun Y C Z => ?_)
  replace C : pr_C (pr_EC l e) Y { frames := 1, cells := 0, slots := 0, locals := 22 } cX8_seen RX8 6 _ := C
  show pr_W (pr_EC l e) Y _ 6 f 0 [(0, .ref (pr_ad (pr_EC l e) c)), (1, .int p1), (2, .int p2)] []
  refine pr_aload_n C dX8_seen_0 rfl 0 rfl ?_
  refine pr_g_8_0 C hk0 pr_w255 dX8_seen_1 ?_
  have hk1 := pr_kC_8_0 hk0
  refine pr_iload_n C dX8_seen_4 rfl 1 rfl ?_
  obtain ⟨o3, hc2, h⟩ := pr_b1_some h
  refine k_X3_unitAt C pr_w284 hk1 hc2 (Nat.le_of_ble_eq_true rfl) (Nat.le_of_ble_eq_true rfl) (Nat.le_of_ble_eq_true rfl) dX8_seen_5 ?_
  cases o3 with
  | none =>
    have h := pr_op_n h
    refine pr_astore_nN (lv' := [(3, .null), (0, .ref (pr_ad (pr_EC l e) c)), (1, .int p1), (2, .int p2)]) C dX8_seen_8 rfl (by decide) rfl ?_
    refine pr_aload_nN C dX8_seen_9 rfl 0 rfl ?_
    refine pr_ifnonnullN C dX8_seen_10 ?_
    refine pr_ldc (v := (-1000000001)) C dX8_seen_13 pr_w282 ?_
    obtain rfl := pr_in1 h
    exact pr_iret C Z dX8_seen_15
  | some q4 =>
    have h := pr_op_s h
    obtain ⟨hk5, h⟩ := pr_gd_some h
    replace hk5 := px_lx (X := pr_eX e) hk5
    refine pr_astore_n (lv' := [(3, .ref (pr_ad (pr_EC l e) q4)), (0, .ref (pr_ad (pr_EC l e) c)), (1, .int p1), (2, .int p2)]) C dX8_seen_8 rfl (by decide) rfl ?_
    refine pr_aload_n C dX8_seen_9 rfl 0 rfl ?_
    refine pr_ifnonnull (tgt := 16) C dX8_seen_10 (by decide) ?_
    refine pr_iload_n C dX8_seen_16 rfl 3 rfl ?_
    refine pr_iconst (v := 0) C dX8_seen_17 (by decide) ?_
    refine pr_bipush (v := 6) C dX8_seen_18 (by decide) ?_
    obtain ⟨r7, hc6, h⟩ := pr_b1_some h
    refine k_X8_isOutside C pr_w275  hc6 (Nat.le_of_ble_eq_true rfl) (Nat.le_of_ble_eq_true rfl) (Nat.le_of_ble_eq_true rfl) dX8_seen_20 ?_
    refine pr_if_eq (tgt := 29) C dX8_seen_23 (by decide) (fun c8 => ?_) (fun c8 => ?_)
    · have h := pr_ifT h c8
      refine pr_aload_n C dX8_seen_29 rfl 1 rfl ?_
      refine pr_g_8_0 C hk0 pr_w255 dX8_seen_30 ?_
      refine pr_gN_3_4 C hk1 pr_nf42 dX8_seen_33 ?_
      refine pr_if_ne (tgt := 42) C dX8_seen_36 (by decide) (fun c9 => ?_) (fun c9 => ?_)
      · have h := pr_ifF h c9
        refine pr_iload_n C dX8_seen_42 rfl 3 rfl ?_
        refine pr_if_ne (tgt := 63) C dX8_seen_43 (by decide) (fun c10 => ?_) (fun c10 => ?_)
        · have h := pr_ifF h c10
          refine pr_iload_n C dX8_seen_63 rfl 3 rfl ?_
          refine pr_iconst (v := 1) C dX8_seen_64 (by decide) ?_
          refine pr_icmp_ne (tgt := 85) C dX8_seen_65 (by decide) (fun c11 => ?_) (fun c11 => ?_)
          · have h := pr_ifF h c11
            refine pr_aload_n C dX8_seen_85 rfl 0 rfl ?_
            refine pr_gN_7_3 C hk5 pr_nf38 dX8_seen_86 ?_
            have hk12 := pr_kC_7_3 hk5
            refine pr_astore (lv' := [(4, .ref (pr_ad (pr_EC l e) (q4 + 6))), (3, .ref (pr_ad (pr_EC l e) q4)), (0, .ref (pr_ad (pr_EC l e) c)), (1, .int p1), (2, .int p2)]) C dX8_seen_89 (by decide) rfl ?_
            refine pr_iload_n C dX8_seen_91 rfl 4 rfl ?_
            refine pr_iconst (v := 4) C dX8_seen_92 (by decide) ?_
            obtain ⟨v13, hv, h⟩ := pr_b1_some h
            have K : pr_W (pr_EC l e) Y { frames := 1, cells := 0, slots := 0, locals := 22 } 6 f 117 [(2, .int p2), (4, .ref (pr_ad (pr_EC l e) (q4 + 6)))] [.int v13] := by
              refine pr_istore (lv' := [(5, .int v13), (2, .int p2), (4, .ref (pr_ad (pr_EC l e) (q4 + 6)))]) C dX8_seen_117 (by decide) rfl ?_
              refine pr_iload C dX8_seen_119 0 rfl ?_
              refine pr_if_eq (tgt := 133) C dX8_seen_121 (by decide) (fun c16 => ?_) (fun c16 => ?_)
              · have h := pr_ifT h c16
                refine pr_ldc (v := (-1000000006)) C dX8_seen_133 pr_w323 ?_
                obtain rfl := pr_in1 h
                exact pr_iret C Z dX8_seen_135
              · have h := pr_ifF h c16
                refine pr_aload C dX8_seen_124 2 rfl ?_
                refine pr_iload_n C dX8_seen_126 rfl 1 rfl ?_
                obtain ⟨r18, hc17, h⟩ := pr_b1_some h
                refine k_X5_sight C pr_w326 hk12 hc17 (Nat.le_of_ble_eq_true rfl) (Nat.le_of_ble_eq_true rfl) (Nat.le_of_ble_eq_true rfl) dX8_seen_127 ?_
                refine pr_goto (tgt := 135) C dX8_seen_130 (by decide) ?_
                obtain rfl := pr_in1 h
                exact pr_iret C Z dX8_seen_135
            clear h
            have h := hv
            clear hv
            refine pr_icmp_gt (tgt := 104) C dX8_seen_93 (by decide) (fun c14 => ?_) (fun c14 => ?_)
            · have h := pr_ifT h c14
              refine pr_aload C dX8_seen_104 0 rfl ?_
              refine pr_gN_5_7 C hk12 pr_nf29 dX8_seen_106 ?_
              refine pr_if_eq (tgt := 116) C dX8_seen_109 (by decide) (fun c15 => ?_) (fun c15 => ?_)
              · have h := pr_ifT h c15
                refine pr_iconst (v := 0) C dX8_seen_116 (by decide) ?_
                obtain rfl := pr_in1 h
                exact pr_pick [4, 0] rfl K
              · have h := pr_ifF h c15
                refine pr_iconst (v := 1) C dX8_seen_112 (by decide) ?_
                refine pr_goto (tgt := 117) C dX8_seen_113 (by decide) ?_
                obtain rfl := pr_in1 h
                exact pr_pick [4, 0] rfl K
            · have h := pr_ifF h c14
              refine pr_aload C dX8_seen_96 0 rfl ?_
              refine pr_gN_5_4 C hk12 pr_nf26 dX8_seen_98 ?_
              refine pr_goto (tgt := 117) C dX8_seen_101 (by decide) ?_
              obtain rfl := pr_in1 h
              exact pr_pick [4, 0] rfl K
          · have h := pr_ifT h c11
            refine pr_aload_n C dX8_seen_68 rfl 0 rfl ?_
            refine pr_gN_7_1 C hk5 pr_nf34 dX8_seen_69 ?_
            have hk19 := pr_kC_7_1 hk5
            refine pr_aload_n C dX8_seen_72 rfl 1 rfl ?_
            refine pr_g_8_0 C hk0 pr_w255 dX8_seen_73 ?_
            refine pr_gN_3_4 C hk1 pr_nf42 dX8_seen_76 ?_
            refine pr_iconst (v := 1) C dX8_seen_79 (by decide) ?_
            refine pr_isub C dX8_seen_80 ?_
            obtain ⟨r21, hc20, h⟩ := pr_b1_some h
            refine k_X4_skewAt C pr_w325 hk19 hc20 (Nat.le_of_ble_eq_true rfl) (Nat.le_of_ble_eq_true rfl) (Nat.le_of_ble_eq_true rfl) dX8_seen_81 ?_
            obtain rfl := pr_in1 h
            exact pr_iret C Z dX8_seen_84
        · have h := pr_ifT h c10
          refine pr_aload_n C dX8_seen_46 rfl 0 rfl ?_
          refine pr_gN_7_1 C hk5 pr_nf34 dX8_seen_47 ?_
          have hk22 := pr_kC_7_1 hk5
          refine pr_aload_n C dX8_seen_50 rfl 1 rfl ?_
          refine pr_g_8_0 C hk0 pr_w255 dX8_seen_51 ?_
          refine pr_gN_3_4 C hk1 pr_nf42 dX8_seen_54 ?_
          refine pr_iconst (v := 1) C dX8_seen_57 (by decide) ?_
          refine pr_isub C dX8_seen_58 ?_
          obtain ⟨r24, hc23, h⟩ := pr_b1_some h
          refine k_X4_offsetAt C pr_w324 hk22 hc23 (Nat.le_of_ble_eq_true rfl) (Nat.le_of_ble_eq_true rfl) (Nat.le_of_ble_eq_true rfl) dX8_seen_59 ?_
          obtain rfl := pr_in1 h
          exact pr_iret C Z dX8_seen_62
      · have h := pr_ifT h c9
        refine pr_ldc (v := (-1000000005)) C dX8_seen_39 pr_w283 ?_
        obtain rfl := pr_in1 h
        exact pr_iret C Z dX8_seen_41
    · have h := pr_ifF h c8
      refine pr_ldc (v := (-1000000002)) C dX8_seen_26 pr_w274 ?_
      obtain rfl := pr_in1 h
      exact pr_iret C Z dX8_seen_28
theorem k_X8_seen {l : Launch} {e : pr_E0} {Y : pr_Y} {Rm : Room} {cc : ByteArray} {own : String} {nL : Nat} {c0 : Cond} {pc idx : Nat} {lv : List (Nat × Value)} {st : List Value} {c : Nat} {p1 : Int32} {p2 : Int32} {f : pr_M} {r : Int32} (C : pr_C (pr_EC l e) Y Rm cc own nL c0) (w1 : Cond.methodLink own idx yX8_seen ∈ pr_AL) (hk0 : (pr_LE e)[c]? = some (8, 0)) (h : F_X8_seen c p1 p2 f = some r) (hr1 : 2 ≤ Rm.frames) (hr2 : 47 ≤ Rm.locals) (hcat : (st.map fun v => v.category).sum ≤ 8) (hdg : decode cc pc = .ok (.invokevirtual idx, 3)) (k : pr_W (pr_EC l e) Y Rm nL f (pc + 3) lv (.int r :: st)) : pr_W (pr_EC l e) Y Rm nL f pc lv (.int p2 :: .int p1 :: .ref (pr_ad (pr_EC l e) c) :: st) :=
  pr_callV (As := [.int p1, .int p2]) (n := 2) C (m_X8_seen hk0 h) hk0 (by decide) rfl w1 pr_w367 pr_w368 pr_w17 pr_w329 rfl rfl ⟨rfl, by decide +kernel, by decide +kernel, by decide +kernel⟩ rfl ⟨hr1, hr2⟩ rfl hcat hdg k

def F_X8_state (c : Nat) (p1 : Int32) (p2 : Int32) (f : pr_M) : Option (Int32) :=
  pr_b1 (F_X3_unitAt (c + 1) p1 f) fun o3 =>
  pr_op o3 (
    some (-1000000001)
  ) fun q4 =>
  pr_gd (pr_LC[q4]? = some (7, 0)) <|
  if p2 = 0 then (
    pr_b1 (F_X4_byHand (q4 + 2) p2 f) fun r9 =>
    some r9
  ) else (
    if p2 = 1 then (
      pr_b1 (F_X4_byHand (q4 + 2) p2 f) fun r13 =>
      some r13
    ) else (
      if p2 = 2 then (
        pr_b1 (F_X4_byHand (q4 + 2) p2 f) fun r17 =>
        some r17
      ) else (
        if p2 = 3 then (
          some (f (q4 + 5) 0)
        ) else (
          if p2 = 4 then (
            some (f (q4 + 5) 1)
          ) else (
            if p2 = 5 then (
              some (f (q4 + 5) 2)
            ) else (
              if p2 = 6 then (
                some (f (q4 + 5) 3)
              ) else (
                if p2 = 7 then (
                  some (f (q4 + 5) 4)
                ) else (
                  if p2 = 8 then (
                    some (f (q4 + 5) 5)
                  ) else (
                    if p2 = 9 then (
                      some (f (q4 + 5) 6)
                    ) else (
                      if p2 = 10 then (
                        some (f (q4 + 2) 7)
                      ) else (
                        if p2 = 11 then (
                          some (f (q4 + 6) 1)
                        ) else (
                          if p2 = 12 then (
                            some (f (q4 + 6) 3)
                          ) else (
                            if p2 = 13 then (
                              pr_b1 (F_X3_wayOf (c + 1) p1 f) fun r40 =>
                              some r40
                            ) else (
                              some (-1000000002)
                              )
                              )
                              )
                              )
                              )
                              )
                              )
                              )
                              )
                              )
                              )
                              )
                              )
                              )
set_option maxHeartbeats 4000000 in
set_option maxRecDepth 100000 in
theorem m_X8_state {l : Launch} {e : pr_E0} {c : Nat} {p1 : Int32} {p2 : Int32} {f : pr_M} {r : Int32} (hk0 : (pr_LE e)[c]? = some (8, 0)) (h : F_X8_state c p1 p2 f = some r) : pr_Met (pr_EC l e) yX8_state cX8_state 4 (some .int) { frames := 2, cells := 0, slots := 0, locals := 44 } [.ref (pr_ad (pr_EC l e) c), .int p1, .int p2] f (some (.int r)) f := by
  rw [F_X8_state] at h
  refine pr_enter (by decide +kernel) (Nat.le_of_ble_eq_true rfl) (fun Y C Z => ?_)
  replace C : pr_C (pr_EC l e) Y { frames := 2, cells := 0, slots := 0, locals := 44 } cX8_state RX8 4 _ := C
  show pr_W (pr_EC l e) Y _ 4 f 0 [(0, .ref (pr_ad (pr_EC l e) c)), (1, .int p1), (2, .int p2)] []
  refine pr_aload_n C dX8_state_0 rfl 0 rfl ?_
  refine pr_g_8_0 C hk0 pr_w255 dX8_state_1 ?_
  have hk1 := pr_kC_8_0 hk0
  refine pr_iload_n C dX8_state_4 rfl 1 rfl ?_
  obtain ⟨o3, hc2, h⟩ := pr_b1_some h
  refine k_X3_unitAt C pr_w284 hk1 hc2 (Nat.le_of_ble_eq_true rfl) (Nat.le_of_ble_eq_true rfl) (Nat.le_of_ble_eq_true rfl) dX8_state_5 ?_
  cases o3 with
  | none =>
    have h := pr_op_n h
    refine pr_astore_nN (lv' := [(3, .null), (0, .ref (pr_ad (pr_EC l e) c)), (1, .int p1), (2, .int p2)]) C dX8_state_8 rfl (by decide) rfl ?_
    refine pr_aload_nN C dX8_state_9 rfl 0 rfl ?_
    refine pr_ifnonnullN C dX8_state_10 ?_
    refine pr_ldc (v := (-1000000001)) C dX8_state_13 pr_w282 ?_
    obtain rfl := pr_in1 h
    exact pr_iret C Z dX8_state_15
  | some q4 =>
    have h := pr_op_s h
    obtain ⟨hk5, h⟩ := pr_gd_some h
    replace hk5 := px_lx (X := pr_eX e) hk5
    refine pr_astore_n (lv' := [(3, .ref (pr_ad (pr_EC l e) q4)), (0, .ref (pr_ad (pr_EC l e) c)), (1, .int p1), (2, .int p2)]) C dX8_state_8 rfl (by decide) rfl ?_
    refine pr_aload_n C dX8_state_9 rfl 0 rfl ?_
    refine pr_ifnonnull (tgt := 16) C dX8_state_10 (by decide) ?_
    refine pr_iload_n C dX8_state_16 rfl 3 rfl ?_
    by_cases c6 : p2 = 0
    · have h := pr_ifT h c6
      refine pr_tableIn (tgt := 88) (off := 71) C dX8_state_17 c6 (by decide) (by decide) (by decide) (by decide) ?_
      refine pr_aload_n C dX8_state_88 rfl 0 rfl ?_
      refine pr_gN_7_1 C hk5 pr_nf34 dX8_state_89 ?_
      have hk7 := pr_kC_7_1 hk5
      refine pr_iload_n C dX8_state_92 rfl 3 rfl ?_
      obtain ⟨r9, hc8, h⟩ := pr_b1_some h
      refine k_X4_byHand C pr_w296 hk7 hc8 (Nat.le_of_ble_eq_true rfl) (Nat.le_of_ble_eq_true rfl) (Nat.le_of_ble_eq_true rfl) dX8_state_93 ?_
      obtain rfl := pr_in1 h
      exact pr_iret C Z dX8_state_96
    · have h := pr_ifF h c6
      by_cases c10 : p2 = 1
      · have h := pr_ifT h c10
        refine pr_tableIn (tgt := 88) (off := 71) C dX8_state_17 c10 (by decide) (by decide) (by decide) (by decide) ?_
        refine pr_aload_n C dX8_state_88 rfl 0 rfl ?_
        refine pr_gN_7_1 C hk5 pr_nf34 dX8_state_89 ?_
        have hk11 := pr_kC_7_1 hk5
        refine pr_iload_n C dX8_state_92 rfl 3 rfl ?_
        obtain ⟨r13, hc12, h⟩ := pr_b1_some h
        refine k_X4_byHand C pr_w296 hk11 hc12 (Nat.le_of_ble_eq_true rfl) (Nat.le_of_ble_eq_true rfl) (Nat.le_of_ble_eq_true rfl) dX8_state_93 ?_
        obtain rfl := pr_in1 h
        exact pr_iret C Z dX8_state_96
      · have h := pr_ifF h c10
        by_cases c14 : p2 = 2
        · have h := pr_ifT h c14
          refine pr_tableIn (tgt := 88) (off := 71) C dX8_state_17 c14 (by decide) (by decide) (by decide) (by decide) ?_
          refine pr_aload_n C dX8_state_88 rfl 0 rfl ?_
          refine pr_gN_7_1 C hk5 pr_nf34 dX8_state_89 ?_
          have hk15 := pr_kC_7_1 hk5
          refine pr_iload_n C dX8_state_92 rfl 3 rfl ?_
          obtain ⟨r17, hc16, h⟩ := pr_b1_some h
          refine k_X4_byHand C pr_w296 hk15 hc16 (Nat.le_of_ble_eq_true rfl) (Nat.le_of_ble_eq_true rfl) (Nat.le_of_ble_eq_true rfl) dX8_state_93 ?_
          obtain rfl := pr_in1 h
          exact pr_iret C Z dX8_state_96
        · have h := pr_ifF h c14
          by_cases c18 : p2 = 3
          · have h := pr_ifT h c18
            refine pr_tableIn (tgt := 97) (off := 80) C dX8_state_17 c18 (by decide) (by decide) (by decide) (by decide) ?_
            refine pr_aload_n C dX8_state_97 rfl 0 rfl ?_
            refine pr_gN_7_2 C hk5 pr_nf37 dX8_state_98 ?_
            have hk19 := pr_kC_7_2 hk5
            refine pr_gN_0_0 C hk19 pr_nf5 dX8_state_101 ?_
            obtain rfl := pr_in1 h
            exact pr_iret C Z dX8_state_104
          · have h := pr_ifF h c18
            by_cases c20 : p2 = 4
            · have h := pr_ifT h c20
              refine pr_tableIn (tgt := 105) (off := 88) C dX8_state_17 c20 (by decide) (by decide) (by decide) (by decide) ?_
              refine pr_aload_n C dX8_state_105 rfl 0 rfl ?_
              refine pr_gN_7_2 C hk5 pr_nf37 dX8_state_106 ?_
              have hk21 := pr_kC_7_2 hk5
              refine pr_gN_0_1 C hk21 pr_nf7 dX8_state_109 ?_
              obtain rfl := pr_in1 h
              exact pr_iret C Z dX8_state_112
            · have h := pr_ifF h c20
              by_cases c22 : p2 = 5
              · have h := pr_ifT h c22
                refine pr_tableIn (tgt := 113) (off := 96) C dX8_state_17 c22 (by decide) (by decide) (by decide) (by decide) ?_
                refine pr_aload_n C dX8_state_113 rfl 0 rfl ?_
                refine pr_gN_7_2 C hk5 pr_nf37 dX8_state_114 ?_
                have hk23 := pr_kC_7_2 hk5
                refine pr_gN_0_2 C hk23 pr_nf9 dX8_state_117 ?_
                obtain rfl := pr_in1 h
                exact pr_iret C Z dX8_state_120
              · have h := pr_ifF h c22
                by_cases c24 : p2 = 6
                · have h := pr_ifT h c24
                  refine pr_tableIn (tgt := 121) (off := 104) C dX8_state_17 c24 (by decide) (by decide) (by decide) (by decide) ?_
                  refine pr_aload_n C dX8_state_121 rfl 0 rfl ?_
                  refine pr_gN_7_2 C hk5 pr_nf37 dX8_state_122 ?_
                  have hk25 := pr_kC_7_2 hk5
                  refine pr_gN_0_3 C hk25 pr_nf11 dX8_state_125 ?_
                  obtain rfl := pr_in1 h
                  exact pr_iret C Z dX8_state_128
                · have h := pr_ifF h c24
                  by_cases c26 : p2 = 7
                  · have h := pr_ifT h c26
                    refine pr_tableIn (tgt := 129) (off := 112) C dX8_state_17 c26 (by decide) (by decide) (by decide) (by decide) ?_
                    refine pr_aload_n C dX8_state_129 rfl 0 rfl ?_
                    refine pr_gN_7_2 C hk5 pr_nf37 dX8_state_130 ?_
                    have hk27 := pr_kC_7_2 hk5
                    refine pr_gN_0_4 C hk27 pr_nf13 dX8_state_133 ?_
                    obtain rfl := pr_in1 h
                    exact pr_iret C Z dX8_state_136
                  · have h := pr_ifF h c26
                    by_cases c28 : p2 = 8
                    · have h := pr_ifT h c28
                      refine pr_tableIn (tgt := 137) (off := 120) C dX8_state_17 c28 (by decide) (by decide) (by decide) (by decide) ?_
                      refine pr_aload_n C dX8_state_137 rfl 0 rfl ?_
                      refine pr_gN_7_2 C hk5 pr_nf37 dX8_state_138 ?_
                      have hk29 := pr_kC_7_2 hk5
                      refine pr_gN_0_5 C hk29 pr_nf15 dX8_state_141 ?_
                      obtain rfl := pr_in1 h
                      exact pr_iret C Z dX8_state_144
                    · have h := pr_ifF h c28
                      by_cases c30 : p2 = 9
                      · have h := pr_ifT h c30
                        refine pr_tableIn (tgt := 145) (off := 128) C dX8_state_17 c30 (by decide) (by decide) (by decide) (by decide) ?_
                        refine pr_aload_n C dX8_state_145 rfl 0 rfl ?_
                        refine pr_gN_7_2 C hk5 pr_nf37 dX8_state_146 ?_
                        have hk31 := pr_kC_7_2 hk5
                        refine pr_gN_0_6 C hk31 pr_nf17 dX8_state_149 ?_
                        obtain rfl := pr_in1 h
                        exact pr_iret C Z dX8_state_152
                      · have h := pr_ifF h c30
                        by_cases c32 : p2 = 10
                        · have h := pr_ifT h c32
                          refine pr_tableIn (tgt := 153) (off := 136) C dX8_state_17 c32 (by decide) (by decide) (by decide) (by decide) ?_
                          refine pr_aload_n C dX8_state_153 rfl 0 rfl ?_
                          refine pr_gN_7_1 C hk5 pr_nf34 dX8_state_154 ?_
                          have hk33 := pr_kC_7_1 hk5
                          refine pr_gN_4_7 C hk33 pr_nf2 dX8_state_157 ?_
                          obtain rfl := pr_in1 h
                          exact pr_iret C Z dX8_state_160
                        · have h := pr_ifF h c32
                          by_cases c34 : p2 = 11
                          · have h := pr_ifT h c34
                            refine pr_tableIn (tgt := 161) (off := 144) C dX8_state_17 c34 (by decide) (by decide) (by decide) (by decide) ?_
                            refine pr_aload_n C dX8_state_161 rfl 0 rfl ?_
                            refine pr_gN_7_3 C hk5 pr_nf38 dX8_state_162 ?_
                            have hk35 := pr_kC_7_3 hk5
                            refine pr_gN_5_1 C hk35 pr_nf21 dX8_state_165 ?_
                            obtain rfl := pr_in1 h
                            exact pr_iret C Z dX8_state_168
                          · have h := pr_ifF h c34
                            by_cases c36 : p2 = 12
                            · have h := pr_ifT h c36
                              refine pr_tableIn (tgt := 169) (off := 152) C dX8_state_17 c36 (by decide) (by decide) (by decide) (by decide) ?_
                              refine pr_aload_n C dX8_state_169 rfl 0 rfl ?_
                              refine pr_gN_7_3 C hk5 pr_nf38 dX8_state_170 ?_
                              have hk37 := pr_kC_7_3 hk5
                              refine pr_gN_5_3 C hk37 pr_nf24 dX8_state_173 ?_
                              obtain rfl := pr_in1 h
                              exact pr_iret C Z dX8_state_176
                            · have h := pr_ifF h c36
                              by_cases c38 : p2 = 13
                              · have h := pr_ifT h c38
                                refine pr_tableIn (tgt := 177) (off := 160) C dX8_state_17 c38 (by decide) (by decide) (by decide) (by decide) ?_
                                refine pr_aload_n C dX8_state_177 rfl 1 rfl ?_
                                refine pr_g_8_0 C hk0 pr_w255 dX8_state_178 ?_
                                refine pr_iload_n C dX8_state_181 rfl 2 rfl ?_
                                obtain ⟨r40, hc39, h⟩ := pr_b1_some h
                                refine k_X3_wayOf C pr_w330 hk1 hc39 (Nat.le_of_ble_eq_true rfl) (Nat.le_of_ble_eq_true rfl) (Nat.le_of_ble_eq_true rfl) dX8_state_182 ?_
                                obtain rfl := pr_in1 h
                                exact pr_iret C Z dX8_state_185
                              · have h := pr_ifF h c38
                                refine pr_tableOut (tgt := 186) C dX8_state_17 (by have n0 := lv_neT (a := 0) c6 (by decide); have n1 := lv_neT (a := 1) c10 (by decide); have n2 := lv_neT (a := 2) c14 (by decide); have n3 := lv_neT (a := 3) c18 (by decide); have n4 := lv_neT (a := 4) c20 (by decide); have n5 := lv_neT (a := 5) c22 (by decide); have n6 := lv_neT (a := 6) c24 (by decide); have n7 := lv_neT (a := 7) c26 (by decide); have n8 := lv_neT (a := 8) c28 (by decide); have n9 := lv_neT (a := 9) c30 (by decide); have n10 := lv_neT (a := 10) c32 (by decide); have n11 := lv_neT (a := 11) c34 (by decide); have n12 := lv_neT (a := 12) c36 (by decide); have n13 := lv_neT (a := 13) c38 (by decide); omega) (by decide) ?_
                                refine pr_ldc (v := (-1000000002)) C dX8_state_186 pr_w274 ?_
                                obtain rfl := pr_in1 h
                                exact pr_iret C Z dX8_state_188
theorem k_X8_state {l : Launch} {e : pr_E0} {Y : pr_Y} {Rm : Room} {cc : ByteArray} {own : String} {nL : Nat} {c0 : Cond} {pc idx : Nat} {lv : List (Nat × Value)} {st : List Value} {c : Nat} {p1 : Int32} {p2 : Int32} {f : pr_M} {r : Int32} (C : pr_C (pr_EC l e) Y Rm cc own nL c0) (w1 : Cond.methodLink own idx yX8_state ∈ pr_AL) (hk0 : (pr_LE e)[c]? = some (8, 0)) (h : F_X8_state c p1 p2 f = some r) (hr1 : 3 ≤ Rm.frames) (hr2 : 67 ≤ Rm.locals) (hcat : (st.map fun v => v.category).sum ≤ 8) (hdg : decode cc pc = .ok (.invokevirtual idx, 3)) (k : pr_W (pr_EC l e) Y Rm nL f (pc + 3) lv (.int r :: st)) : pr_W (pr_EC l e) Y Rm nL f pc lv (.int p2 :: .int p1 :: .ref (pr_ad (pr_EC l e) c) :: st) :=
  pr_callV (As := [.int p1, .int p2]) (n := 2) C (m_X8_state hk0 h) hk0 (by decide) rfl w1 pr_w356 pr_w357 pr_w17 pr_w331 rfl rfl ⟨rfl, by decide +kernel, by decide +kernel, by decide +kernel⟩ rfl ⟨hr1, hr2⟩ rfl hcat hdg k

def F_X3_controlledUnitAt (c : Nat) (p1 : Int32) (f : pr_M) : Option (Option Nat) :=
  if p1 = 0 then (
    some none
  ) else (
    pr_b1 (F_X3_unitAt c p1 f) fun o3 =>
    pr_op o3 (
      some none
    ) fun q4 =>
    pr_gd (pr_LC[q4]? = some (7, 0)) <|
    some (some q4)
  )
set_option maxHeartbeats 4000000 in
set_option maxRecDepth 100000 in
theorem m_X3_controlledUnitAt {l : Launch} {e : pr_E0} {c : Nat} {p1 : Int32} {f : pr_M} {r : Option Nat} (hk0 : (pr_LE e)[c]? = some (3, 0)) (h : F_X3_controlledUnitAt c p1 f = some r) : pr_Met (pr_EC l e) yX3_controlledUnitAt cX3_controlledUnitAt 2 (some (.object "PrintRegister$Unit")) { frames := 1, cells := 0, slots := 0, locals := 21 } [.ref (pr_ad (pr_EC l e) c), .int p1] f (some (pr_rv (pr_EC l e) r)) f := by
  rw [F_X3_controlledUnitAt] at h
  refine pr_enter (by decide +kernel) (Nat.le_of_ble_eq_true rfl) (fun Y C Z => ?_)
  replace C : pr_C (pr_EC l e) Y { frames := 1, cells := 0, slots := 0, locals := 21 } cX3_controlledUnitAt RX3 2 _ := C
  show pr_W (pr_EC l e) Y _ 2 f 0 [(0, .ref (pr_ad (pr_EC l e) c)), (1, .int p1)] []
  refine pr_iload_n C dX3_controlledUnitAt_0 rfl 1 rfl ?_
  refine pr_if_ne (tgt := 8) C dX3_controlledUnitAt_1 (by decide) (fun c1 => ?_) (fun c1 => ?_)
  · have h := pr_ifF h c1
    refine pr_aload_n C dX3_controlledUnitAt_8 rfl 0 rfl ?_
    refine pr_iload_n C dX3_controlledUnitAt_9 rfl 1 rfl ?_
    obtain ⟨o3, hc2, h⟩ := pr_b1_some h
    refine k_X3_unitAt C pr_w134 hk0 hc2 (Nat.le_of_ble_eq_true rfl) (Nat.le_of_ble_eq_true rfl) (Nat.le_of_ble_eq_true rfl) dX3_controlledUnitAt_10 ?_
    cases o3 with
    | none =>
      have h := pr_op_n h
      obtain rfl := pr_in1 h
      exact pr_aret C (Or.inl rfl) Z dX3_controlledUnitAt_13
    | some q4 =>
      have h := pr_op_s h
      obtain ⟨hk5, h⟩ := pr_gd_some h
      replace hk5 := px_lx (X := pr_eX e) hk5
      obtain rfl := pr_in1 h
      exact pr_aret C (Or.inr ⟨_, rfl⟩) Z dX3_controlledUnitAt_13
  · have h := pr_ifT h c1
    refine pr_null C dX3_controlledUnitAt_4 ?_
    refine pr_goto (tgt := 13) C dX3_controlledUnitAt_5 (by decide) ?_
    obtain rfl := pr_in1 h
    exact pr_aret C (Or.inl rfl) Z dX3_controlledUnitAt_13
theorem k_X3_controlledUnitAt {l : Launch} {e : pr_E0} {Y : pr_Y} {Rm : Room} {cc : ByteArray} {own : String} {nL : Nat} {c0 : Cond} {pc idx : Nat} {lv : List (Nat × Value)} {st : List Value} {c : Nat} {p1 : Int32} {f : pr_M} {r : Option Nat} (C : pr_C (pr_EC l e) Y Rm cc own nL c0) (w1 : Cond.methodLink own idx yX3_controlledUnitAt ∈ pr_AL) (hk0 : (pr_LE e)[c]? = some (3, 0)) (h : F_X3_controlledUnitAt c p1 f = some r) (hr1 : 2 ≤ Rm.frames) (hr2 : 42 ≤ Rm.locals) (hcat : (st.map fun v => v.category).sum ≤ 8) (hdg : decode cc pc = .ok (.invokevirtual idx, 3)) (k : pr_W (pr_EC l e) Y Rm nL f (pc + 3) lv (pr_rv (pr_EC l e) r :: st)) : pr_W (pr_EC l e) Y Rm nL f pc lv (.int p1 :: .ref (pr_ad (pr_EC l e) c) :: st) :=
  pr_callV (As := [.int p1]) (n := 1) C (m_X3_controlledUnitAt hk0 h) hk0 (by decide) rfl w1 pr_w333 pr_w334 pr_w137 pr_w133 rfl rfl ⟨rfl, by decide +kernel, by decide +kernel, by decide +kernel⟩ rfl ⟨hr1, hr2⟩ rfl hcat hdg k

def F_X1_kept (c : Nat) (p1 : Int32) (f : pr_M) : Option (Int32) :=
  some (if (f c 1) < (if 60 < p1 then 60 else p1) then (f c 1) else (if 60 < p1 then 60 else p1))
set_option maxHeartbeats 4000000 in
set_option maxRecDepth 100000 in
theorem m_X1_kept {l : Launch} {e : pr_E0} {c : Nat} {p1 : Int32} {f : pr_M} {r : Int32} (hk0 : (pr_LE e)[c]? = some (1, 0)) (h : F_X1_kept c p1 f = some r) : pr_Met (pr_EC l e) yX1_kept cX1_kept 2 (some .int) { frames := 1, cells := 0, slots := 0, locals := 21 } [.ref (pr_ad (pr_EC l e) c), .int p1] f (some (.int r)) f := by
  rw [F_X1_kept] at h
  refine pr_enter (by decide +kernel) (Nat.le_of_ble_eq_true rfl) (fun Y C Z => ?_)
  replace C : pr_C (pr_EC l e) Y { frames := 1, cells := 0, slots := 0, locals := 21 } cX1_kept RX1 2 _ := C
  show pr_W (pr_EC l e) Y _ 2 f 0 [(0, .ref (pr_ad (pr_EC l e) c)), (1, .int p1)] []
  refine pr_iload_n C dX1_kept_0 rfl 1 rfl ?_
  refine pr_bipush (v := 60) C dX1_kept_1 (by decide) ?_
  refine pr_mmin C pr_w26 pr_w27 pr_w28 pr_w29 (Nat.le_of_ble_eq_true rfl) (Nat.le_of_ble_eq_true rfl) dX1_kept_3 ?_
  refine pr_aload_n C dX1_kept_6 rfl 0 rfl ?_
  refine pr_g_1_1 C hk0 pr_w23 dX1_kept_7 ?_
  refine pr_mmin C pr_w26 pr_w27 pr_w28 pr_w29 (Nat.le_of_ble_eq_true rfl) (Nat.le_of_ble_eq_true rfl) dX1_kept_10 ?_
  obtain rfl := pr_in1 h
  exact pr_iret C Z dX1_kept_13
theorem k_X1_kept {l : Launch} {e : pr_E0} {Y : pr_Y} {Rm : Room} {cc : ByteArray} {own : String} {nL : Nat} {c0 : Cond} {pc idx : Nat} {lv : List (Nat × Value)} {st : List Value} {c : Nat} {p1 : Int32} {f : pr_M} {r : Int32} (C : pr_C (pr_EC l e) Y Rm cc own nL c0) (w1 : Cond.methodLink own idx yX1_kept ∈ pr_AL) (hk0 : (pr_LE e)[c]? = some (1, 0)) (h : F_X1_kept c p1 f = some r) (hr1 : 2 ≤ Rm.frames) (hr2 : 42 ≤ Rm.locals) (hcat : (st.map fun v => v.category).sum ≤ 8) (hdg : decode cc pc = .ok (.invokevirtual idx, 3)) (k : pr_W (pr_EC l e) Y Rm nL f (pc + 3) lv (.int r :: st)) : pr_W (pr_EC l e) Y Rm nL f pc lv (.int p1 :: .ref (pr_ad (pr_EC l e) c) :: st) :=
  pr_callV (As := [.int p1]) (n := 1) C (m_X1_kept hk0 h) hk0 (by decide) rfl w1 pr_w39 pr_w40 pr_w41 pr_w25 rfl rfl ⟨rfl, by decide +kernel, by decide +kernel, by decide +kernel⟩ rfl ⟨hr1, hr2⟩ rfl hcat hdg k

def F_X1_sizeOf (c : Nat) (p1 : Int32) (f : pr_M) : Option (Int32) :=
  pr_gd (¬ ((((f c 1) - p1) &&& 63) < 0 ∨ 64 ≤ Int32.toNatClampNeg (((f c 1) - p1) &&& 63))) <|
  some (if 0 ≤ (f (c + 1) (Int32.toNatClampNeg (((f c 1) - p1) &&& 63))) then (f (c + 1) (Int32.toNatClampNeg (((f c 1) - p1) &&& 63))) else 0 - (f (c + 1) (Int32.toNatClampNeg (((f c 1) - p1) &&& 63))))
set_option maxHeartbeats 4000000 in
set_option maxRecDepth 100000 in
theorem m_X1_sizeOf {l : Launch} {e : pr_E0} {c : Nat} {p1 : Int32} {f : pr_M} {r : Int32} (hk0 : (pr_LE e)[c]? = some (1, 0)) (h : F_X1_sizeOf c p1 f = some r) : pr_Met (pr_EC l e) yX1_sizeOf cX1_sizeOf 2 (some .int) { frames := 1, cells := 0, slots := 0, locals := 21 } [.ref (pr_ad (pr_EC l e) c), .int p1] f (some (.int r)) f := by
  rw [F_X1_sizeOf] at h
  refine pr_enter (by decide +kernel) (Nat.le_of_ble_eq_true rfl) (fun Y C Z => ?_)
  replace C : pr_C (pr_EC l e) Y { frames := 1, cells := 0, slots := 0, locals := 21 } cX1_sizeOf RX1 2 _ := C
  show pr_W (pr_EC l e) Y _ 2 f 0 [(0, .ref (pr_ad (pr_EC l e) c)), (1, .int p1)] []
  refine pr_aload_n C dX1_sizeOf_0 rfl 0 rfl ?_
  refine pr_g_1_0 C hk0 pr_w21 dX1_sizeOf_1 ?_
  have hk1 := pr_kC_1_0 hk0
  refine pr_aload_n C dX1_sizeOf_4 rfl 0 rfl ?_
  refine pr_g_1_1 C hk0 pr_w23 dX1_sizeOf_5 ?_
  refine pr_iload_n C dX1_sizeOf_8 rfl 1 rfl ?_
  refine pr_isub C dX1_sizeOf_9 ?_
  refine pr_bipush (v := 63) C dX1_sizeOf_10 (by decide) ?_
  refine pr_iand C dX1_sizeOf_12 ?_
  obtain ⟨hg2, h⟩ := pr_gd_some h
  refine pr_iaload C hk1 hg2 dX1_sizeOf_13 ?_
  refine pr_mabs C pr_w31 pr_w32 pr_w28 pr_w33 (Nat.le_of_ble_eq_true rfl) (Nat.le_of_ble_eq_true rfl) dX1_sizeOf_14 ?_
  obtain rfl := pr_in1 h
  exact pr_iret C Z dX1_sizeOf_17
theorem k_X1_sizeOf {l : Launch} {e : pr_E0} {Y : pr_Y} {Rm : Room} {cc : ByteArray} {own : String} {nL : Nat} {c0 : Cond} {pc idx : Nat} {lv : List (Nat × Value)} {st : List Value} {c : Nat} {p1 : Int32} {f : pr_M} {r : Int32} (C : pr_C (pr_EC l e) Y Rm cc own nL c0) (w1 : Cond.methodLink own idx yX1_sizeOf ∈ pr_AL) (hk0 : (pr_LE e)[c]? = some (1, 0)) (h : F_X1_sizeOf c p1 f = some r) (hr1 : 2 ≤ Rm.frames) (hr2 : 42 ≤ Rm.locals) (hcat : (st.map fun v => v.category).sum ≤ 8) (hdg : decode cc pc = .ok (.invokevirtual idx, 3)) (k : pr_W (pr_EC l e) Y Rm nL f (pc + 3) lv (.int r :: st)) : pr_W (pr_EC l e) Y Rm nL f pc lv (.int p1 :: .ref (pr_ad (pr_EC l e) c) :: st) :=
  pr_callV (As := [.int p1]) (n := 1) C (m_X1_sizeOf hk0 h) hk0 (by decide) rfl w1 pr_w43 pr_w44 pr_w41 pr_w30 rfl rfl ⟨rfl, by decide +kernel, by decide +kernel, by decide +kernel⟩ rfl ⟨hr1, hr2⟩ rfl hcat hdg k

def L_X1_greatest_4 (q0 : Nat) (x1 : Int32) : Nat → Int32 → Int32 → pr_M → Option (Int32)
  | 0, _, _, _ => none
  | n + 1, x2, x3, f =>
    pr_b1 (F_X1_kept q0 x1 f) fun r5002 =>
    if r5002 < x3 then (
      some x2
    ) else (
      pr_b1 (F_X1_sizeOf q0 x3 f) fun r5005 =>
      L_X1_greatest_4 q0 x1 n (if x2 < r5005 then r5005 else x2) (x3 + 1) f
    )
set_option maxHeartbeats 4000000 in
set_option maxRecDepth 100000 in
theorem l_X1_greatest_4 {l : Launch} {e : pr_E0} {Y : pr_Y} {c0 : Cond} {q0 : Nat} {x1 : Int32} {z : Int32} (C : pr_C (pr_EC l e) Y { frames := 2, cells := 0, slots := 0, locals := 42 } cX1_greatest RX1 4 c0) (hq0 : (pr_LE e)[q0]? = some (1, 0)) : ∀ (n : Nat) (x2 : Int32) (x3 : Int32) (f : pr_M), L_X1_greatest_4 q0 x1 n x2 x3 f = some z → pr_W (pr_EC l e) Y { frames := 2, cells := 0, slots := 0, locals := 42 } 4 f 29 [(2, .int z)] [] → pr_W (pr_EC l e) Y { frames := 2, cells := 0, slots := 0, locals := 42 } 4 f 4 [(0, .ref (pr_ad (pr_EC l e) q0)), (1, .int x1), (2, .int x2), (3, .int x3)] [] := by
  intro n
  induction n with
  | zero =>
    intro x2 x3 f h
    exact absurd h (by simp [L_X1_greatest_4])
  | succ n ih =>
    intro x2 x3 f h K
    rw [L_X1_greatest_4] at h
    refine pr_iload_n C dX1_greatest_4 rfl 3 rfl ?_
    refine pr_aload_n C dX1_greatest_5 rfl 0 rfl ?_
    refine pr_iload_n C dX1_greatest_6 rfl 1 rfl ?_
    obtain ⟨r5002, hc5001, h⟩ := pr_b1_some h
    refine k_X1_kept C pr_w38 hq0 hc5001 (Nat.le_of_ble_eq_true rfl) (Nat.le_of_ble_eq_true rfl) (Nat.le_of_ble_eq_true rfl) dX1_greatest_7 ?_
    refine pr_icmp_gt (tgt := 29) C dX1_greatest_10 (by decide) (fun c5003 => ?_) (fun c5003 => ?_)
    · have h := pr_ifT h c5003
      obtain rfl := pr_in1 h
      exact pr_pick [2] rfl K
    · have h := pr_ifF h c5003
      refine pr_iload_n C dX1_greatest_13 rfl 2 rfl ?_
      refine pr_aload_n C dX1_greatest_14 rfl 0 rfl ?_
      refine pr_iload_n C dX1_greatest_15 rfl 3 rfl ?_
      obtain ⟨r5005, hc5004, h⟩ := pr_b1_some h
      refine k_X1_sizeOf C pr_w42 hq0 hc5004 (Nat.le_of_ble_eq_true rfl) (Nat.le_of_ble_eq_true rfl) (Nat.le_of_ble_eq_true rfl) dX1_greatest_16 ?_
      refine pr_mmax C pr_w35 pr_w36 pr_w28 pr_w37 (Nat.le_of_ble_eq_true rfl) (Nat.le_of_ble_eq_true rfl) dX1_greatest_19 ?_
      refine pr_istore_n (lv' := [(2, .int (if x2 < r5005 then r5005 else x2)), (0, .ref (pr_ad (pr_EC l e) q0)), (1, .int x1), (3, .int x3)]) C dX1_greatest_22 rfl (by decide) rfl ?_
      refine pr_iinc (v := (x3 + 1)) (lv' := [(3, .int (x3 + 1)), (2, .int (if x2 < r5005 then r5005 else x2)), (0, .ref (pr_ad (pr_EC l e) q0)), (1, .int x1)]) C dX1_greatest_23 3 rfl rfl (by decide) rfl ?_
      refine pr_goto (tgt := 4) C dX1_greatest_26 (by decide) ?_
      exact pr_pick [2, 3, 1, 0] rfl (ih _ _ _ h K)
def F_X1_greatest (c : Nat) (p1 : Int32) (f : pr_M) : Option (Int32) :=
  pr_b1 (L_X1_greatest_4 c p1 pr_fuel 0 1 f) fun v1 =>
  some v1
set_option maxHeartbeats 4000000 in
set_option maxRecDepth 100000 in
theorem m_X1_greatest {l : Launch} {e : pr_E0} {c : Nat} {p1 : Int32} {f : pr_M} {r : Int32} (hk0 : (pr_LE e)[c]? = some (1, 0)) (h : F_X1_greatest c p1 f = some r) : pr_Met (pr_EC l e) yX1_greatest cX1_greatest 4 (some .int) { frames := 2, cells := 0, slots := 0, locals := 42 } [.ref (pr_ad (pr_EC l e) c), .int p1] f (some (.int r)) f := by
  rw [F_X1_greatest] at h
  refine pr_enter (by decide +kernel) (Nat.le_of_ble_eq_true rfl) (fun Y C Z => ?_)
  replace C : pr_C (pr_EC l e) Y { frames := 2, cells := 0, slots := 0, locals := 42 } cX1_greatest RX1 4 _ := C
  show pr_W (pr_EC l e) Y _ 4 f 0 [(0, .ref (pr_ad (pr_EC l e) c)), (1, .int p1)] []
  refine pr_iconst (v := 0) C dX1_greatest_0 (by decide) ?_
  refine pr_istore_n (lv' := [(2, .int 0), (0, .ref (pr_ad (pr_EC l e) c)), (1, .int p1)]) C dX1_greatest_1 rfl (by decide) rfl ?_
  refine pr_iconst (v := 1) C dX1_greatest_2 (by decide) ?_
  refine pr_istore_n (lv' := [(3, .int 1), (2, .int 0), (0, .ref (pr_ad (pr_EC l e) c)), (1, .int p1)]) C dX1_greatest_3 rfl (by decide) rfl ?_
  obtain ⟨v1, hv, h⟩ := pr_b1_some h
  refine pr_pick [2, 3, 1, 0] rfl (l_X1_greatest_4 C hk0 pr_fuel _ _ _ hv ?_)
  clear hv
  refine pr_iload_n C dX1_greatest_29 rfl 0 rfl ?_
  obtain rfl := pr_in1 h
  exact pr_iret C Z dX1_greatest_30
theorem k_X1_greatest {l : Launch} {e : pr_E0} {Y : pr_Y} {Rm : Room} {cc : ByteArray} {own : String} {nL : Nat} {c0 : Cond} {pc idx : Nat} {lv : List (Nat × Value)} {st : List Value} {c : Nat} {p1 : Int32} {f : pr_M} {r : Int32} (C : pr_C (pr_EC l e) Y Rm cc own nL c0) (w1 : Cond.methodLink own idx yX1_greatest ∈ pr_AL) (hk0 : (pr_LE e)[c]? = some (1, 0)) (h : F_X1_greatest c p1 f = some r) (hr1 : 3 ≤ Rm.frames) (hr2 : 65 ≤ Rm.locals) (hcat : (st.map fun v => v.category).sum ≤ 8) (hdg : decode cc pc = .ok (.invokevirtual idx, 3)) (k : pr_W (pr_EC l e) Y Rm nL f (pc + 3) lv (.int r :: st)) : pr_W (pr_EC l e) Y Rm nL f pc lv (.int p1 :: .ref (pr_ad (pr_EC l e) c) :: st) :=
  pr_callV (As := [.int p1]) (n := 1) C (m_X1_greatest hk0 h) hk0 (by decide) rfl w1 pr_w336 pr_w337 pr_w41 pr_w34 rfl rfl ⟨rfl, by decide +kernel, by decide +kernel, by decide +kernel⟩ rfl ⟨hr1, hr2⟩ rfl hcat hdg k

def L_X1_sumOf_4 (q0 : Nat) (x1 : Int32) : Nat → Int32 → Int32 → pr_M → Option (Int32)
  | 0, _, _, _ => none
  | n + 1, x2, x3, f =>
    pr_b1 (F_X1_kept q0 x1 f) fun r5002 =>
    if r5002 < x3 then (
      some x2
    ) else (
      pr_b1 (F_X1_sizeOf q0 x3 f) fun r5005 =>
      L_X1_sumOf_4 q0 x1 n (x2 + r5005) (x3 + 1) f
    )
set_option maxHeartbeats 4000000 in
set_option maxRecDepth 100000 in
theorem l_X1_sumOf_4 {l : Launch} {e : pr_E0} {Y : pr_Y} {c0 : Cond} {q0 : Nat} {x1 : Int32} {z : Int32} (C : pr_C (pr_EC l e) Y { frames := 2, cells := 0, slots := 0, locals := 42 } cX1_sumOf RX1 4 c0) (hq0 : (pr_LE e)[q0]? = some (1, 0)) : ∀ (n : Nat) (x2 : Int32) (x3 : Int32) (f : pr_M), L_X1_sumOf_4 q0 x1 n x2 x3 f = some z → pr_W (pr_EC l e) Y { frames := 2, cells := 0, slots := 0, locals := 42 } 4 f 27 [(2, .int z)] [] → pr_W (pr_EC l e) Y { frames := 2, cells := 0, slots := 0, locals := 42 } 4 f 4 [(0, .ref (pr_ad (pr_EC l e) q0)), (1, .int x1), (2, .int x2), (3, .int x3)] [] := by
  intro n
  induction n with
  | zero =>
    intro x2 x3 f h
    exact absurd h (by simp [L_X1_sumOf_4])
  | succ n ih =>
    intro x2 x3 f h K
    rw [L_X1_sumOf_4] at h
    refine pr_iload_n C dX1_sumOf_4 rfl 3 rfl ?_
    refine pr_aload_n C dX1_sumOf_5 rfl 0 rfl ?_
    refine pr_iload_n C dX1_sumOf_6 rfl 1 rfl ?_
    obtain ⟨r5002, hc5001, h⟩ := pr_b1_some h
    refine k_X1_kept C pr_w38 hq0 hc5001 (Nat.le_of_ble_eq_true rfl) (Nat.le_of_ble_eq_true rfl) (Nat.le_of_ble_eq_true rfl) dX1_sumOf_7 ?_
    refine pr_icmp_gt (tgt := 27) C dX1_sumOf_10 (by decide) (fun c5003 => ?_) (fun c5003 => ?_)
    · have h := pr_ifT h c5003
      obtain rfl := pr_in1 h
      exact pr_pick [2] rfl K
    · have h := pr_ifF h c5003
      refine pr_iload_n C dX1_sumOf_13 rfl 2 rfl ?_
      refine pr_aload_n C dX1_sumOf_14 rfl 0 rfl ?_
      refine pr_iload_n C dX1_sumOf_15 rfl 3 rfl ?_
      obtain ⟨r5005, hc5004, h⟩ := pr_b1_some h
      refine k_X1_sizeOf C pr_w42 hq0 hc5004 (Nat.le_of_ble_eq_true rfl) (Nat.le_of_ble_eq_true rfl) (Nat.le_of_ble_eq_true rfl) dX1_sumOf_16 ?_
      refine pr_iadd C dX1_sumOf_19 ?_
      refine pr_istore_n (lv' := [(2, .int (x2 + r5005)), (0, .ref (pr_ad (pr_EC l e) q0)), (1, .int x1), (3, .int x3)]) C dX1_sumOf_20 rfl (by decide) rfl ?_
      refine pr_iinc (v := (x3 + 1)) (lv' := [(3, .int (x3 + 1)), (2, .int (x2 + r5005)), (0, .ref (pr_ad (pr_EC l e) q0)), (1, .int x1)]) C dX1_sumOf_21 3 rfl rfl (by decide) rfl ?_
      refine pr_goto (tgt := 4) C dX1_sumOf_24 (by decide) ?_
      exact pr_pick [2, 3, 1, 0] rfl (ih _ _ _ h K)
def F_X1_sumOf (c : Nat) (p1 : Int32) (f : pr_M) : Option (Int32) :=
  pr_b1 (L_X1_sumOf_4 c p1 pr_fuel 0 1 f) fun v1 =>
  some v1
set_option maxHeartbeats 4000000 in
set_option maxRecDepth 100000 in
theorem m_X1_sumOf {l : Launch} {e : pr_E0} {c : Nat} {p1 : Int32} {f : pr_M} {r : Int32} (hk0 : (pr_LE e)[c]? = some (1, 0)) (h : F_X1_sumOf c p1 f = some r) : pr_Met (pr_EC l e) yX1_sumOf cX1_sumOf 4 (some .int) { frames := 2, cells := 0, slots := 0, locals := 42 } [.ref (pr_ad (pr_EC l e) c), .int p1] f (some (.int r)) f := by
  rw [F_X1_sumOf] at h
  refine pr_enter (by decide +kernel) (Nat.le_of_ble_eq_true rfl) (fun Y C Z => ?_)
  replace C : pr_C (pr_EC l e) Y { frames := 2, cells := 0, slots := 0, locals := 42 } cX1_sumOf RX1 4 _ := C
  show pr_W (pr_EC l e) Y _ 4 f 0 [(0, .ref (pr_ad (pr_EC l e) c)), (1, .int p1)] []
  refine pr_iconst (v := 0) C dX1_sumOf_0 (by decide) ?_
  refine pr_istore_n (lv' := [(2, .int 0), (0, .ref (pr_ad (pr_EC l e) c)), (1, .int p1)]) C dX1_sumOf_1 rfl (by decide) rfl ?_
  refine pr_iconst (v := 1) C dX1_sumOf_2 (by decide) ?_
  refine pr_istore_n (lv' := [(3, .int 1), (2, .int 0), (0, .ref (pr_ad (pr_EC l e) c)), (1, .int p1)]) C dX1_sumOf_3 rfl (by decide) rfl ?_
  obtain ⟨v1, hv, h⟩ := pr_b1_some h
  refine pr_pick [2, 3, 1, 0] rfl (l_X1_sumOf_4 C hk0 pr_fuel _ _ _ hv ?_)
  clear hv
  refine pr_iload_n C dX1_sumOf_27 rfl 0 rfl ?_
  obtain rfl := pr_in1 h
  exact pr_iret C Z dX1_sumOf_28
theorem k_X1_sumOf {l : Launch} {e : pr_E0} {Y : pr_Y} {Rm : Room} {cc : ByteArray} {own : String} {nL : Nat} {c0 : Cond} {pc idx : Nat} {lv : List (Nat × Value)} {st : List Value} {c : Nat} {p1 : Int32} {f : pr_M} {r : Int32} (C : pr_C (pr_EC l e) Y Rm cc own nL c0) (w1 : Cond.methodLink own idx yX1_sumOf ∈ pr_AL) (hk0 : (pr_LE e)[c]? = some (1, 0)) (h : F_X1_sumOf c p1 f = some r) (hr1 : 3 ≤ Rm.frames) (hr2 : 65 ≤ Rm.locals) (hcat : (st.map fun v => v.category).sum ≤ 8) (hdg : decode cc pc = .ok (.invokevirtual idx, 3)) (k : pr_W (pr_EC l e) Y Rm nL f (pc + 3) lv (.int r :: st)) : pr_W (pr_EC l e) Y Rm nL f pc lv (.int p1 :: .ref (pr_ad (pr_EC l e) c) :: st) :=
  pr_callV (As := [.int p1]) (n := 1) C (m_X1_sumOf hk0 h) hk0 (by decide) rfl w1 pr_w339 pr_w340 pr_w41 pr_w45 rfl rfl ⟨rfl, by decide +kernel, by decide +kernel, by decide +kernel⟩ rfl ⟨hr1, hr2⟩ rfl hcat hdg k

def L_X1_greaterThan_5 (q0 : Nat) (x1 : Int32) (x2 : Int32) : Nat → Int32 → Int32 → pr_M → Option (Int32)
  | 0, _, _, _ => none
  | n + 1, x3, x4, f =>
    pr_b1 (F_X1_kept q0 x1 f) fun r6002 =>
    if r6002 < x4 then (
      some x3
    ) else (
      pr_b1 (F_X1_sizeOf q0 x4 f) fun r6005 =>
      if r6005 ≤ x2 then (
        L_X1_greaterThan_5 q0 x1 x2 n x3 (x4 + 1) f
      ) else (
        L_X1_greaterThan_5 q0 x1 x2 n (x3 + 1) (x4 + 1) f
      )
    )
set_option maxHeartbeats 4000000 in
set_option maxRecDepth 100000 in
theorem l_X1_greaterThan_5 {l : Launch} {e : pr_E0} {Y : pr_Y} {c0 : Cond} {q0 : Nat} {x1 : Int32} {x2 : Int32} {z : Int32} (C : pr_C (pr_EC l e) Y { frames := 2, cells := 0, slots := 0, locals := 42 } cX1_greaterThan RX1 5 c0) (hq0 : (pr_LE e)[q0]? = some (1, 0)) : ∀ (n : Nat) (x3 : Int32) (x4 : Int32) (f : pr_M), L_X1_greaterThan_5 q0 x1 x2 n x3 x4 f = some z → pr_W (pr_EC l e) Y { frames := 2, cells := 0, slots := 0, locals := 42 } 5 f 34 [(3, .int z)] [] → pr_W (pr_EC l e) Y { frames := 2, cells := 0, slots := 0, locals := 42 } 5 f 5 [(0, .ref (pr_ad (pr_EC l e) q0)), (1, .int x1), (2, .int x2), (3, .int x3), (4, .int x4)] [] := by
  intro n
  induction n with
  | zero =>
    intro x3 x4 f h
    exact absurd h (by simp [L_X1_greaterThan_5])
  | succ n ih =>
    intro x3 x4 f h K
    rw [L_X1_greaterThan_5] at h
    refine pr_iload C dX1_greaterThan_5 4 rfl ?_
    refine pr_aload_n C dX1_greaterThan_7 rfl 0 rfl ?_
    refine pr_iload_n C dX1_greaterThan_8 rfl 1 rfl ?_
    obtain ⟨r6002, hc6001, h⟩ := pr_b1_some h
    refine k_X1_kept C pr_w38 hq0 hc6001 (Nat.le_of_ble_eq_true rfl) (Nat.le_of_ble_eq_true rfl) (Nat.le_of_ble_eq_true rfl) dX1_greaterThan_9 ?_
    refine pr_icmp_gt (tgt := 34) C dX1_greaterThan_12 (by decide) (fun c6003 => ?_) (fun c6003 => ?_)
    · have h := pr_ifT h c6003
      obtain rfl := pr_in1 h
      exact pr_pick [3] rfl K
    · have h := pr_ifF h c6003
      refine pr_aload_n C dX1_greaterThan_15 rfl 0 rfl ?_
      refine pr_iload C dX1_greaterThan_16 4 rfl ?_
      obtain ⟨r6005, hc6004, h⟩ := pr_b1_some h
      refine k_X1_sizeOf C pr_w42 hq0 hc6004 (Nat.le_of_ble_eq_true rfl) (Nat.le_of_ble_eq_true rfl) (Nat.le_of_ble_eq_true rfl) dX1_greaterThan_18 ?_
      refine pr_iload_n C dX1_greaterThan_21 rfl 2 rfl ?_
      refine pr_icmp_le (tgt := 28) C dX1_greaterThan_22 (by decide) (fun c6006 => ?_) (fun c6006 => ?_)
      · have h := pr_ifT h c6006
        refine pr_iinc (v := (x4 + 1)) (lv' := [(4, .int (x4 + 1)), (0, .ref (pr_ad (pr_EC l e) q0)), (1, .int x1), (2, .int x2), (3, .int x3)]) C dX1_greaterThan_28 4 rfl rfl (by decide) rfl ?_
        refine pr_goto (tgt := 5) C dX1_greaterThan_31 (by decide) ?_
        exact pr_pick [1, 2, 3, 4, 0] rfl (ih _ _ _ h K)
      · have h := pr_ifF h c6006
        refine pr_iinc (v := (x3 + 1)) (lv' := [(3, .int (x3 + 1)), (0, .ref (pr_ad (pr_EC l e) q0)), (1, .int x1), (2, .int x2), (4, .int x4)]) C dX1_greaterThan_25 3 rfl rfl (by decide) rfl ?_
        refine pr_iinc (v := (x4 + 1)) (lv' := [(4, .int (x4 + 1)), (3, .int (x3 + 1)), (0, .ref (pr_ad (pr_EC l e) q0)), (1, .int x1), (2, .int x2)]) C dX1_greaterThan_28 4 rfl rfl (by decide) rfl ?_
        refine pr_goto (tgt := 5) C dX1_greaterThan_31 (by decide) ?_
        exact pr_pick [2, 3, 4, 1, 0] rfl (ih _ _ _ h K)
def F_X1_greaterThan (c : Nat) (p1 : Int32) (p2 : Int32) (f : pr_M) : Option (Int32) :=
  pr_b1 (L_X1_greaterThan_5 c p1 p2 pr_fuel 0 1 f) fun v1 =>
  some v1
set_option maxHeartbeats 4000000 in
set_option maxRecDepth 100000 in
theorem m_X1_greaterThan {l : Launch} {e : pr_E0} {c : Nat} {p1 : Int32} {p2 : Int32} {f : pr_M} {r : Int32} (hk0 : (pr_LE e)[c]? = some (1, 0)) (h : F_X1_greaterThan c p1 p2 f = some r) : pr_Met (pr_EC l e) yX1_greaterThan cX1_greaterThan 5 (some .int) { frames := 2, cells := 0, slots := 0, locals := 42 } [.ref (pr_ad (pr_EC l e) c), .int p1, .int p2] f (some (.int r)) f := by
  rw [F_X1_greaterThan] at h
  refine pr_enter (by decide +kernel) (Nat.le_of_ble_eq_true rfl) (fun Y C Z => ?_)
  replace C : pr_C (pr_EC l e) Y { frames := 2, cells := 0, slots := 0, locals := 42 } cX1_greaterThan RX1 5 _ := C
  show pr_W (pr_EC l e) Y _ 5 f 0 [(0, .ref (pr_ad (pr_EC l e) c)), (1, .int p1), (2, .int p2)] []
  refine pr_iconst (v := 0) C dX1_greaterThan_0 (by decide) ?_
  refine pr_istore_n (lv' := [(3, .int 0), (0, .ref (pr_ad (pr_EC l e) c)), (1, .int p1), (2, .int p2)]) C dX1_greaterThan_1 rfl (by decide) rfl ?_
  refine pr_iconst (v := 1) C dX1_greaterThan_2 (by decide) ?_
  refine pr_istore (lv' := [(4, .int 1), (3, .int 0), (0, .ref (pr_ad (pr_EC l e) c)), (1, .int p1), (2, .int p2)]) C dX1_greaterThan_3 (by decide) rfl ?_
  obtain ⟨v1, hv, h⟩ := pr_b1_some h
  refine pr_pick [2, 3, 4, 1, 0] rfl (l_X1_greaterThan_5 C hk0 pr_fuel _ _ _ hv ?_)
  clear hv
  refine pr_iload_n C dX1_greaterThan_34 rfl 0 rfl ?_
  obtain rfl := pr_in1 h
  exact pr_iret C Z dX1_greaterThan_35
theorem k_X1_greaterThan {l : Launch} {e : pr_E0} {Y : pr_Y} {Rm : Room} {cc : ByteArray} {own : String} {nL : Nat} {c0 : Cond} {pc idx : Nat} {lv : List (Nat × Value)} {st : List Value} {c : Nat} {p1 : Int32} {p2 : Int32} {f : pr_M} {r : Int32} (C : pr_C (pr_EC l e) Y Rm cc own nL c0) (w1 : Cond.methodLink own idx yX1_greaterThan ∈ pr_AL) (hk0 : (pr_LE e)[c]? = some (1, 0)) (h : F_X1_greaterThan c p1 p2 f = some r) (hr1 : 3 ≤ Rm.frames) (hr2 : 66 ≤ Rm.locals) (hcat : (st.map fun v => v.category).sum ≤ 8) (hdg : decode cc pc = .ok (.invokevirtual idx, 3)) (k : pr_W (pr_EC l e) Y Rm nL f (pc + 3) lv (.int r :: st)) : pr_W (pr_EC l e) Y Rm nL f pc lv (.int p2 :: .int p1 :: .ref (pr_ad (pr_EC l e) c) :: st) :=
  pr_callV (As := [.int p1, .int p2]) (n := 2) C (m_X1_greaterThan hk0 h) hk0 (by decide) rfl w1 pr_w343 pr_w344 pr_w41 pr_w46 rfl rfl ⟨rfl, by decide +kernel, by decide +kernel, by decide +kernel⟩ rfl ⟨hr1, hr2⟩ rfl hcat hdg k

def F_X8_errors (c : Nat) (p1 : Int32) (p2 : Int32) (p3 : Int32) (f : pr_M) : Option (Int32) :=
  pr_b1 (F_X3_controlledUnitAt (c + 1) p1 f) fun o3 =>
  pr_op o3 (
    some (-1000000001)
  ) fun q4 =>
  pr_gd (pr_LC[q4]? = some (7, 0)) <|
  pr_b1 (F_X8_isOutside p2 1 60 f) fun r7 =>
  if r7 = 0 then (
    if p3 = 0 then (
      pr_b1 (F_X1_greatest ((q4 + 6) + 1) p2 f) fun r13 =>
      some r13
    ) else (
      if p3 = 1 then (
        pr_b1 (F_X1_sumOf ((q4 + 6) + 1) p2 f) fun r16 =>
        some r16
      ) else (
        if p3 = 2 then (
          pr_b1 (F_X1_kept ((q4 + 6) + 1) p2 f) fun r19 =>
          some r19
        ) else (
          if p3 = 3 then (
            pr_b1 (F_X7_setting q4 6 f) fun r22 =>
            pr_b1 (F_X1_greaterThan ((q4 + 6) + 1) p2 r22 f) fun r24 =>
            some r24
          ) else (
            some (-1000000002)
            )
            )
            )
            )
  ) else (
    some (-1000000002)
  )
set_option maxHeartbeats 4000000 in
set_option maxRecDepth 100000 in
theorem m_X8_errors {l : Launch} {e : pr_E0} {c : Nat} {p1 : Int32} {p2 : Int32} {p3 : Int32} {f : pr_M} {r : Int32} (hk0 : (pr_LE e)[c]? = some (8, 0)) (h : F_X8_errors c p1 p2 p3 f = some r) : pr_Met (pr_EC l e) yX8_errors cX8_errors 6 (some .int) { frames := 3, cells := 0, slots := 0, locals := 66 } [.ref (pr_ad (pr_EC l e) c), .int p1, .int p2, .int p3] f (some (.int r)) f := by
  rw [F_X8_errors] at h
  refine pr_enter (by decide +kernel) (Nat.le_of_ble_eq_true rfl) (fun Y C Z => ?_)
  replace C : pr_C (pr_EC l e) Y { frames := 3, cells := 0, slots := 0, locals := 66 } cX8_errors RX8 6 _ := C
  show pr_W (pr_EC l e) Y _ 6 f 0 [(0, .ref (pr_ad (pr_EC l e) c)), (1, .int p1), (2, .int p2), (3, .int p3)] []
  refine pr_aload_n C dX8_errors_0 rfl 0 rfl ?_
  refine pr_g_8_0 C hk0 pr_w255 dX8_errors_1 ?_
  have hk1 := pr_kC_8_0 hk0
  refine pr_iload_n C dX8_errors_4 rfl 1 rfl ?_
  obtain ⟨o3, hc2, h⟩ := pr_b1_some h
  refine k_X3_controlledUnitAt C pr_w332 hk1 hc2 (Nat.le_of_ble_eq_true rfl) (Nat.le_of_ble_eq_true rfl) (Nat.le_of_ble_eq_true rfl) dX8_errors_5 ?_
  cases o3 with
  | none =>
    have h := pr_op_n h
    refine pr_astoreN (lv' := [(4, .null), (0, .ref (pr_ad (pr_EC l e) c)), (1, .int p1), (2, .int p2), (3, .int p3)]) C dX8_errors_8 (by decide) rfl ?_
    refine pr_aloadN C dX8_errors_10 0 rfl ?_
    refine pr_ifnonnullN C dX8_errors_12 ?_
    refine pr_ldc (v := (-1000000001)) C dX8_errors_15 pr_w282 ?_
    obtain rfl := pr_in1 h
    exact pr_iret C Z dX8_errors_17
  | some q4 =>
    have h := pr_op_s h
    obtain ⟨hk5, h⟩ := pr_gd_some h
    replace hk5 := px_lx (X := pr_eX e) hk5
    refine pr_astore (lv' := [(4, .ref (pr_ad (pr_EC l e) q4)), (0, .ref (pr_ad (pr_EC l e) c)), (1, .int p1), (2, .int p2), (3, .int p3)]) C dX8_errors_8 (by decide) rfl ?_
    refine pr_aload C dX8_errors_10 0 rfl ?_
    refine pr_ifnonnull (tgt := 18) C dX8_errors_12 (by decide) ?_
    refine pr_iload_n C dX8_errors_18 rfl 3 rfl ?_
    refine pr_iconst (v := 1) C dX8_errors_19 (by decide) ?_
    refine pr_bipush (v := 60) C dX8_errors_20 (by decide) ?_
    obtain ⟨r7, hc6, h⟩ := pr_b1_some h
    refine k_X8_isOutside C pr_w275  hc6 (Nat.le_of_ble_eq_true rfl) (Nat.le_of_ble_eq_true rfl) (Nat.le_of_ble_eq_true rfl) dX8_errors_22 ?_
    refine pr_if_eq (tgt := 31) C dX8_errors_25 (by decide) (fun c8 => ?_) (fun c8 => ?_)
    · have h := pr_ifT h c8
      refine pr_aload C dX8_errors_31 0 rfl ?_
      refine pr_gN_7_3 C hk5 pr_nf38 dX8_errors_33 ?_
      have hk9 := pr_kC_7_3 hk5
      refine pr_gN_5_0 C hk9 pr_nf20 dX8_errors_36 ?_
      have hk10 := pr_kC_5_0 hk9
      refine pr_astore (lv' := [(5, .ref (pr_ad (pr_EC l e) ((q4 + 6) + 1))), (4, .ref (pr_ad (pr_EC l e) q4)), (0, .ref (pr_ad (pr_EC l e) c)), (1, .int p1), (2, .int p2), (3, .int p3)]) C dX8_errors_39 (by decide) rfl ?_
      refine pr_iload_n C dX8_errors_41 rfl 5 rfl ?_
      by_cases c11 : p3 = 0
      · have h := pr_ifT h c11
        refine pr_tableIn (tgt := 72) (off := 30) C dX8_errors_42 c11 (by decide) (by decide) (by decide) (by decide) ?_
        refine pr_aload C dX8_errors_72 0 rfl ?_
        refine pr_iload_n C dX8_errors_74 rfl 4 rfl ?_
        obtain ⟨r13, hc12, h⟩ := pr_b1_some h
        refine k_X1_greatest C pr_w335 hk10 hc12 (Nat.le_of_ble_eq_true rfl) (Nat.le_of_ble_eq_true rfl) (Nat.le_of_ble_eq_true rfl) dX8_errors_75 ?_
        obtain rfl := pr_in1 h
        exact pr_iret C Z dX8_errors_78
      · have h := pr_ifF h c11
        by_cases c14 : p3 = 1
        · have h := pr_ifT h c14
          refine pr_tableIn (tgt := 79) (off := 37) C dX8_errors_42 c14 (by decide) (by decide) (by decide) (by decide) ?_
          refine pr_aload C dX8_errors_79 0 rfl ?_
          refine pr_iload_n C dX8_errors_81 rfl 4 rfl ?_
          obtain ⟨r16, hc15, h⟩ := pr_b1_some h
          refine k_X1_sumOf C pr_w338 hk10 hc15 (Nat.le_of_ble_eq_true rfl) (Nat.le_of_ble_eq_true rfl) (Nat.le_of_ble_eq_true rfl) dX8_errors_82 ?_
          obtain rfl := pr_in1 h
          exact pr_iret C Z dX8_errors_85
        · have h := pr_ifF h c14
          by_cases c17 : p3 = 2
          · have h := pr_ifT h c17
            refine pr_tableIn (tgt := 86) (off := 44) C dX8_errors_42 c17 (by decide) (by decide) (by decide) (by decide) ?_
            refine pr_aload C dX8_errors_86 0 rfl ?_
            refine pr_iload_n C dX8_errors_88 rfl 4 rfl ?_
            obtain ⟨r19, hc18, h⟩ := pr_b1_some h
            refine k_X1_kept C pr_w341 hk10 hc18 (Nat.le_of_ble_eq_true rfl) (Nat.le_of_ble_eq_true rfl) (Nat.le_of_ble_eq_true rfl) dX8_errors_89 ?_
            obtain rfl := pr_in1 h
            exact pr_iret C Z dX8_errors_92
          · have h := pr_ifF h c17
            by_cases c20 : p3 = 3
            · have h := pr_ifT h c20
              refine pr_tableIn (tgt := 93) (off := 51) C dX8_errors_42 c20 (by decide) (by decide) (by decide) (by decide) ?_
              refine pr_aload C dX8_errors_93 0 rfl ?_
              refine pr_iload_n C dX8_errors_95 rfl 4 rfl ?_
              refine pr_aload C dX8_errors_96 1 rfl ?_
              refine pr_bipush (v := 6) C dX8_errors_98 (by decide) ?_
              obtain ⟨r22, hc21, h⟩ := pr_b1_some h
              refine k_X7_setting C pr_w289 hk5 hc21 (Nat.le_of_ble_eq_true rfl) (Nat.le_of_ble_eq_true rfl) (Nat.le_of_ble_eq_true rfl) dX8_errors_100 ?_
              obtain ⟨r24, hc23, h⟩ := pr_b1_some h
              refine k_X1_greaterThan C pr_w342 hk10 hc23 (Nat.le_of_ble_eq_true rfl) (Nat.le_of_ble_eq_true rfl) (Nat.le_of_ble_eq_true rfl) dX8_errors_103 ?_
              obtain rfl := pr_in1 h
              exact pr_iret C Z dX8_errors_106
            · have h := pr_ifF h c20
              refine pr_tableOut (tgt := 107) C dX8_errors_42 (by have n0 := lv_neT (a := 0) c11 (by decide); have n1 := lv_neT (a := 1) c14 (by decide); have n2 := lv_neT (a := 2) c17 (by decide); have n3 := lv_neT (a := 3) c20 (by decide); omega) (by decide) ?_
              refine pr_ldc (v := (-1000000002)) C dX8_errors_107 pr_w274 ?_
              obtain rfl := pr_in1 h
              exact pr_iret C Z dX8_errors_109
    · have h := pr_ifF h c8
      refine pr_ldc (v := (-1000000002)) C dX8_errors_28 pr_w274 ?_
      obtain rfl := pr_in1 h
      exact pr_iret C Z dX8_errors_30
theorem k_X8_errors {l : Launch} {e : pr_E0} {Y : pr_Y} {Rm : Room} {cc : ByteArray} {own : String} {nL : Nat} {c0 : Cond} {pc idx : Nat} {lv : List (Nat × Value)} {st : List Value} {c : Nat} {p1 : Int32} {p2 : Int32} {p3 : Int32} {f : pr_M} {r : Int32} (C : pr_C (pr_EC l e) Y Rm cc own nL c0) (w1 : Cond.methodLink own idx yX8_errors ∈ pr_AL) (hk0 : (pr_LE e)[c]? = some (8, 0)) (h : F_X8_errors c p1 p2 p3 f = some r) (hr1 : 4 ≤ Rm.frames) (hr2 : 91 ≤ Rm.locals) (hcat : (st.map fun v => v.category).sum ≤ 8) (hdg : decode cc pc = .ok (.invokevirtual idx, 3)) (k : pr_W (pr_EC l e) Y Rm nL f (pc + 3) lv (.int r :: st)) : pr_W (pr_EC l e) Y Rm nL f pc lv (.int p3 :: .int p2 :: .int p1 :: .ref (pr_ad (pr_EC l e) c) :: st) :=
  pr_callV (As := [.int p1, .int p2, .int p3]) (n := 3) C (m_X8_errors hk0 h) hk0 (by decide) rfl w1 pr_w429 pr_w430 pr_w17 pr_w345 rfl rfl ⟨rfl, by decide +kernel, by decide +kernel, by decide +kernel⟩ rfl ⟨hr1, hr2⟩ rfl hcat hdg k

def F_X8_total (c : Nat) (p1 : Int32) (f : pr_M) : Option (Int32) :=
  pr_b1 (F_X8_isOutside p1 0 5 f) fun r2 =>
  if r2 = 0 then (
    pr_gd (¬ (p1 < 0 ∨ 6 ≤ Int32.toNatClampNeg p1)) <|
    some (f ((c + 1) + 3) (Int32.toNatClampNeg p1))
  ) else (
    some (-1000000002)
  )
set_option maxHeartbeats 4000000 in
set_option maxRecDepth 100000 in
theorem m_X8_total {l : Launch} {e : pr_E0} {c : Nat} {p1 : Int32} {f : pr_M} {r : Int32} (hk0 : (pr_LE e)[c]? = some (8, 0)) (h : F_X8_total c p1 f = some r) : pr_Met (pr_EC l e) yX8_total cX8_total 2 (some .int) { frames := 1, cells := 0, slots := 0, locals := 22 } [.ref (pr_ad (pr_EC l e) c), .int p1] f (some (.int r)) f := by
  rw [F_X8_total] at h
  refine pr_enter (by decide +kernel) (Nat.le_of_ble_eq_true rfl) (fun Y C Z => ?_)
  replace C : pr_C (pr_EC l e) Y { frames := 1, cells := 0, slots := 0, locals := 22 } cX8_total RX8 2 _ := C
  show pr_W (pr_EC l e) Y _ 2 f 0 [(0, .ref (pr_ad (pr_EC l e) c)), (1, .int p1)] []
  refine pr_iload_n C dX8_total_0 rfl 1 rfl ?_
  refine pr_iconst (v := 0) C dX8_total_1 (by decide) ?_
  refine pr_iconst (v := 5) C dX8_total_2 (by decide) ?_
  obtain ⟨r2, hc1, h⟩ := pr_b1_some h
  refine k_X8_isOutside C pr_w275  hc1 (Nat.le_of_ble_eq_true rfl) (Nat.le_of_ble_eq_true rfl) (Nat.le_of_ble_eq_true rfl) dX8_total_3 ?_
  refine pr_if_eq (tgt := 12) C dX8_total_6 (by decide) (fun c3 => ?_) (fun c3 => ?_)
  · have h := pr_ifT h c3
    refine pr_aload_n C dX8_total_12 rfl 0 rfl ?_
    refine pr_g_8_0 C hk0 pr_w255 dX8_total_13 ?_
    have hk4 := pr_kC_8_0 hk0
    refine pr_gN_3_2 C hk4 pr_nf40 dX8_total_16 ?_
    have hk5 := pr_kC_3_2 hk4
    refine pr_iload_n C dX8_total_19 rfl 1 rfl ?_
    obtain ⟨hg6, h⟩ := pr_gd_some h
    refine pr_iaload C hk5 hg6 dX8_total_20 ?_
    obtain rfl := pr_in1 h
    exact pr_iret C Z dX8_total_21
  · have h := pr_ifF h c3
    refine pr_ldc (v := (-1000000002)) C dX8_total_9 pr_w274 ?_
    obtain rfl := pr_in1 h
    exact pr_iret C Z dX8_total_11
theorem k_X8_total {l : Launch} {e : pr_E0} {Y : pr_Y} {Rm : Room} {cc : ByteArray} {own : String} {nL : Nat} {c0 : Cond} {pc idx : Nat} {lv : List (Nat × Value)} {st : List Value} {c : Nat} {p1 : Int32} {f : pr_M} {r : Int32} (C : pr_C (pr_EC l e) Y Rm cc own nL c0) (w1 : Cond.methodLink own idx yX8_total ∈ pr_AL) (hk0 : (pr_LE e)[c]? = some (8, 0)) (h : F_X8_total c p1 f = some r) (hr1 : 2 ≤ Rm.frames) (hr2 : 43 ≤ Rm.locals) (hcat : (st.map fun v => v.category).sum ≤ 8) (hdg : decode cc pc = .ok (.invokevirtual idx, 3)) (k : pr_W (pr_EC l e) Y Rm nL f (pc + 3) lv (.int r :: st)) : pr_W (pr_EC l e) Y Rm nL f pc lv (.int p1 :: .ref (pr_ad (pr_EC l e) c) :: st) :=
  pr_callV (As := [.int p1]) (n := 1) C (m_X8_total hk0 h) hk0 (by decide) rfl w1 pr_w432 pr_w433 pr_w17 pr_w346 rfl rfl ⟨rfl, by decide +kernel, by decide +kernel, by decide +kernel⟩ rfl ⟨hr1, hr2⟩ rfl hcat hdg k

def F_X8_count (c : Nat) (p1 : Int32) (f : pr_M) : Option (Int32) :=
  if p1 = 0 then (
    some (f (c + 1) 4)
  ) else (
    if p1 = 1 then (
      some (f (c + 1) 3)
    ) else (
      if p1 = 2 then (
        some (f (c + 1) 5)
      ) else (
        if p1 = 3 then (
          pr_b1 (F_X3_repeatsToLastUnit (c + 1) f) fun r10 =>
          some r10
        ) else (
          if p1 = 4 then (
            some (f (c + 199) 1)
          ) else (
            some (-1000000002)
            )
            )
            )
            )
            )
set_option maxHeartbeats 4000000 in
set_option maxRecDepth 100000 in
theorem m_X8_count {l : Launch} {e : pr_E0} {c : Nat} {p1 : Int32} {f : pr_M} {r : Int32} (hk0 : (pr_LE e)[c]? = some (8, 0)) (h : F_X8_count c p1 f = some r) : pr_Met (pr_EC l e) yX8_count cX8_count 2 (some .int) { frames := 3, cells := 0, slots := 0, locals := 64 } [.ref (pr_ad (pr_EC l e) c), .int p1] f (some (.int r)) f := by
  rw [F_X8_count] at h
  refine pr_enter (by decide +kernel) (Nat.le_of_ble_eq_true rfl) (fun Y C Z => ?_)
  replace C : pr_C (pr_EC l e) Y { frames := 3, cells := 0, slots := 0, locals := 64 } cX8_count RX8 2 _ := C
  show pr_W (pr_EC l e) Y _ 2 f 0 [(0, .ref (pr_ad (pr_EC l e) c)), (1, .int p1)] []
  refine pr_iload_n C dX8_count_0 rfl 1 rfl ?_
  by_cases c1 : p1 = 0
  · have h := pr_ifT h c1
    refine pr_tableIn (tgt := 36) (off := 35) C dX8_count_1 c1 (by decide) (by decide) (by decide) (by decide) ?_
    refine pr_aload_n C dX8_count_36 rfl 0 rfl ?_
    refine pr_g_8_0 C hk0 pr_w255 dX8_count_37 ?_
    have hk2 := pr_kC_8_0 hk0
    refine pr_gN_3_4 C hk2 pr_nf42 dX8_count_40 ?_
    obtain rfl := pr_in1 h
    exact pr_iret C Z dX8_count_43
  · have h := pr_ifF h c1
    by_cases c3 : p1 = 1
    · have h := pr_ifT h c3
      refine pr_tableIn (tgt := 44) (off := 43) C dX8_count_1 c3 (by decide) (by decide) (by decide) (by decide) ?_
      refine pr_aload_n C dX8_count_44 rfl 0 rfl ?_
      refine pr_g_8_0 C hk0 pr_w255 dX8_count_45 ?_
      have hk4 := pr_kC_8_0 hk0
      refine pr_gN_3_3 C hk4 pr_nf41 dX8_count_48 ?_
      obtain rfl := pr_in1 h
      exact pr_iret C Z dX8_count_51
    · have h := pr_ifF h c3
      by_cases c5 : p1 = 2
      · have h := pr_ifT h c5
        refine pr_tableIn (tgt := 52) (off := 51) C dX8_count_1 c5 (by decide) (by decide) (by decide) (by decide) ?_
        refine pr_aload_n C dX8_count_52 rfl 0 rfl ?_
        refine pr_g_8_0 C hk0 pr_w255 dX8_count_53 ?_
        have hk6 := pr_kC_8_0 hk0
        refine pr_gN_3_5 C hk6 pr_nf43 dX8_count_56 ?_
        obtain rfl := pr_in1 h
        exact pr_iret C Z dX8_count_59
      · have h := pr_ifF h c5
        by_cases c7 : p1 = 3
        · have h := pr_ifT h c7
          refine pr_tableIn (tgt := 60) (off := 59) C dX8_count_1 c7 (by decide) (by decide) (by decide) (by decide) ?_
          refine pr_aload_n C dX8_count_60 rfl 0 rfl ?_
          refine pr_g_8_0 C hk0 pr_w255 dX8_count_61 ?_
          have hk8 := pr_kC_8_0 hk0
          obtain ⟨r10, hc9, h⟩ := pr_b1_some h
          refine k_X3_repeatsToLastUnit C pr_w314 hk8 hc9 (Nat.le_of_ble_eq_true rfl) (Nat.le_of_ble_eq_true rfl) (Nat.le_of_ble_eq_true rfl) dX8_count_64 ?_
          obtain rfl := pr_in1 h
          exact pr_iret C Z dX8_count_67
        · have h := pr_ifF h c7
          by_cases c11 : p1 = 4
          · have h := pr_ifT h c11
            refine pr_tableIn (tgt := 68) (off := 67) C dX8_count_1 c11 (by decide) (by decide) (by decide) (by decide) ?_
            refine pr_aload_n C dX8_count_68 rfl 0 rfl ?_
            refine pr_g_8_4 C hk0 pr_w265 dX8_count_69 ?_
            have hk12 := pr_kC_8_4 hk0
            refine pr_gN_2_1 C hk12 pr_nf44 dX8_count_72 ?_
            obtain rfl := pr_in1 h
            exact pr_iret C Z dX8_count_75
          · have h := pr_ifF h c11
            refine pr_tableOut (tgt := 76) C dX8_count_1 (by have n0 := lv_neT (a := 0) c1 (by decide); have n1 := lv_neT (a := 1) c3 (by decide); have n2 := lv_neT (a := 2) c5 (by decide); have n3 := lv_neT (a := 3) c7 (by decide); have n4 := lv_neT (a := 4) c11 (by decide); omega) (by decide) ?_
            refine pr_ldc (v := (-1000000002)) C dX8_count_76 pr_w274 ?_
            obtain rfl := pr_in1 h
            exact pr_iret C Z dX8_count_78
theorem k_X8_count {l : Launch} {e : pr_E0} {Y : pr_Y} {Rm : Room} {cc : ByteArray} {own : String} {nL : Nat} {c0 : Cond} {pc idx : Nat} {lv : List (Nat × Value)} {st : List Value} {c : Nat} {p1 : Int32} {f : pr_M} {r : Int32} (C : pr_C (pr_EC l e) Y Rm cc own nL c0) (w1 : Cond.methodLink own idx yX8_count ∈ pr_AL) (hk0 : (pr_LE e)[c]? = some (8, 0)) (h : F_X8_count c p1 f = some r) (hr1 : 4 ≤ Rm.frames) (hr2 : 85 ≤ Rm.locals) (hcat : (st.map fun v => v.category).sum ≤ 8) (hdg : decode cc pc = .ok (.invokevirtual idx, 3)) (k : pr_W (pr_EC l e) Y Rm nL f (pc + 3) lv (.int r :: st)) : pr_W (pr_EC l e) Y Rm nL f pc lv (.int p1 :: .ref (pr_ad (pr_EC l e) c) :: st) :=
  pr_callV (As := [.int p1]) (n := 1) C (m_X8_count hk0 h) hk0 (by decide) rfl w1 pr_w415 pr_w416 pr_w17 pr_w347 rfl rfl ⟨rfl, by decide +kernel, by decide +kernel, by decide +kernel⟩ rfl ⟨hr1, hr2⟩ rfl hcat hdg k

def F_L_cell (sL : Nat) (sx : Nat → Int32) (p2 : Int32) (p3 : Int32) (f : pr_M) : Option (Int32) :=
  pr_b1 (α := Int32) (
    if (nI sL) = 0 then (
      some ((p2 * 37) + 5)
    ) else (
      pr_gd (¬ ((p2 - p2 / (nI sL) * (nI sL)) < 0 ∨ sL ≤ Int32.toNatClampNeg (p2 - p2 / (nI sL) * (nI sL)))) <|
      some (((sx (Int32.toNatClampNeg (p2 - p2 / (nI sL) * (nI sL)))) >>> ((p2 - p2 / 7 * 7) &&& 31)) &&& 4194303)
    )
  ) fun v1 =>
  pr_gd (¬ p3 = 0) <|
  some (v1 - v1 / p3 * p3)
set_option maxHeartbeats 4000000 in
set_option maxRecDepth 100000 in
theorem m_L_cell {l : Launch} {e : pr_E0} {sb : Nat} {sL : Nat} {sx : Nat → Int32} {p2 : Int32} {p3 : Int32} {f : pr_M} {r : Int32} (hsc : pr_sc (pr_EC l e) = (sb, sL, sx)) (h : F_L_cell sL sx p2 p3 f = some r) : pr_Met (pr_EC l e) yL_cell cL_cell 3 (some .int) { frames := 0, cells := 0, slots := 0, locals := 0 } [.ref sb, .int p2, .int p3] f (some (.int r)) f := by
  rw [F_L_cell] at h
  refine pr_enter (by decide +kernel) (Nat.le_of_ble_eq_true rfl) (fun Y C Z => ?_)
  replace C : pr_C (pr_EC l e) Y { frames := 0, cells := 0, slots := 0, locals := 0 } cL_cell RL 3 _ := C
  show pr_W (pr_EC l e) Y _ 3 f 0 [(0, .ref sb), (1, .int p2), (2, .int p3)] []
  refine pr_aload_n C dL_cell_0 rfl 0 rfl ?_
  refine pr_sclen C hsc dL_cell_1 ?_
  obtain ⟨v1, hv, h⟩ := pr_b1_some h
  have K : pr_W (pr_EC l e) Y { frames := 0, cells := 0, slots := 0, locals := 0 } 3 f 28 [(2, .int p3)] [.int v1] := by
    refine pr_iload_n C dL_cell_28 rfl 0 rfl ?_
    obtain ⟨hg4, h⟩ := pr_gd_some h
    refine pr_irem C dL_cell_29 hg4 ?_
    obtain rfl := pr_in1 h
    exact pr_iret C Z dL_cell_30
  clear h
  have h := hv
  clear hv
  refine pr_if_ne (tgt := 14) C dL_cell_2 (by decide) (fun c2 => ?_) (fun c2 => ?_)
  · have h := pr_ifF h c2
    refine pr_aload_n C dL_cell_14 rfl 0 rfl ?_
    refine pr_iload_n C dL_cell_15 rfl 1 rfl ?_
    refine pr_aload_n C dL_cell_16 rfl 0 rfl ?_
    refine pr_sclen C hsc dL_cell_17 ?_
    refine pr_irem C dL_cell_18 c2 ?_
    obtain ⟨hg3, h⟩ := pr_gd_some h
    refine pr_scld C hsc hg3 dL_cell_19 ?_
    refine pr_iload_n C dL_cell_20 rfl 1 rfl ?_
    refine pr_bipush (v := 7) C dL_cell_21 (by decide) ?_
    refine pr_irem C dL_cell_23 (by decide) ?_
    refine pr_ishr C dL_cell_24 ?_
    refine pr_ldc (v := 4194303) C dL_cell_25 pr_w352 ?_
    refine pr_iand C dL_cell_27 ?_
    obtain rfl := pr_in1 h
    exact pr_pick [2] rfl K
  · have h := pr_ifT h c2
    refine pr_iload_n C dL_cell_5 rfl 1 rfl ?_
    refine pr_bipush (v := 37) C dL_cell_6 (by decide) ?_
    refine pr_imul C dL_cell_8 ?_
    refine pr_iconst (v := 5) C dL_cell_9 (by decide) ?_
    refine pr_iadd C dL_cell_10 ?_
    refine pr_goto (tgt := 28) C dL_cell_11 (by decide) ?_
    obtain rfl := pr_in1 h
    exact pr_pick [2] rfl K
theorem k_L_cell {l : Launch} {e : pr_E0} {Y : pr_Y} {Rm : Room} {cc : ByteArray} {own : String} {nL : Nat} {c0 : Cond} {pc idx : Nat} {lv : List (Nat × Value)} {st : List Value} {sb : Nat} {sL : Nat} {sx : Nat → Int32} {p2 : Int32} {p3 : Int32} {f : pr_M} {r : Int32} (C : pr_C (pr_EC l e) Y Rm cc own nL c0) (w1 : Cond.methodLink own idx yL_cell ∈ pr_AL) (hsc : pr_sc (pr_EC l e) = (sb, sL, sx)) (h : F_L_cell sL sx p2 p3 f = some r) (hr1 : 1 ≤ Rm.frames) (hr2 : 22 ≤ Rm.locals) (hcat : (st.map fun v => v.category).sum ≤ 8) (hdg : decode cc pc = .ok (.invokestatic idx, 3)) (k : pr_W (pr_EC l e) Y Rm nL f (pc + 3) lv (.int r :: st)) : pr_W (pr_EC l e) Y Rm nL f pc lv (.int p3 :: .int p2 :: .ref sb :: st) :=
  pr_callS (As := [.ref sb, .int p2, .int p3]) (n := 3) C (m_L_cell hsc h) w1 pr_w378 pr_w362 pr_w351 rfl rfl ⟨by decide +kernel, by decide +kernel, by decide +kernel⟩ rfl ⟨hr1, hr2⟩ rfl hcat hdg k

def F_L_limited (p1 : Int32) (p2 : Int32) (f : pr_M) : Option (Int32) :=
  if p1 ≤ p2 then (
    if (-p2) ≤ p1 then (
      some p1
    ) else (
      some (-p2)
    )
  ) else (
    some p2
  )
set_option maxHeartbeats 4000000 in
set_option maxRecDepth 100000 in
theorem m_L_limited {l : Launch} {e : pr_E0} {p1 : Int32} {p2 : Int32} {f : pr_M} {r : Int32}  (h : F_L_limited p1 p2 f = some r) : pr_Met (pr_EC l e) yL_limited cL_limited 2 (some .int) { frames := 0, cells := 0, slots := 0, locals := 0 } [.int p1, .int p2] f (some (.int r)) f := by
  rw [F_L_limited] at h
  refine pr_enter (by decide +kernel) (Nat.le_of_ble_eq_true rfl) (fun Y C Z => ?_)
  replace C : pr_C (pr_EC l e) Y { frames := 0, cells := 0, slots := 0, locals := 0 } cL_limited RL 2 _ := C
  show pr_W (pr_EC l e) Y _ 2 f 0 [(0, .int p1), (1, .int p2)] []
  refine pr_iload_n C dL_limited_0 rfl 0 rfl ?_
  refine pr_iload_n C dL_limited_1 rfl 1 rfl ?_
  refine pr_icmp_le (tgt := 9) C dL_limited_2 (by decide) (fun c1 => ?_) (fun c1 => ?_)
  · have h := pr_ifT h c1
    refine pr_iload_n C dL_limited_9 rfl 0 rfl ?_
    refine pr_iload_n C dL_limited_10 rfl 1 rfl ?_
    refine pr_ineg C dL_limited_11 ?_
    refine pr_icmp_ge (tgt := 20) C dL_limited_12 (by decide) (fun c2 => ?_) (fun c2 => ?_)
    · have h := pr_ifT h c2
      refine pr_iload_n C dL_limited_20 rfl 0 rfl ?_
      obtain rfl := pr_in1 h
      exact pr_iret C Z dL_limited_21
    · have h := pr_ifF h c2
      refine pr_iload_n C dL_limited_15 rfl 1 rfl ?_
      refine pr_ineg C dL_limited_16 ?_
      refine pr_goto (tgt := 21) C dL_limited_17 (by decide) ?_
      obtain rfl := pr_in1 h
      exact pr_iret C Z dL_limited_21
  · have h := pr_ifF h c1
    refine pr_iload_n C dL_limited_5 rfl 1 rfl ?_
    refine pr_goto (tgt := 21) C dL_limited_6 (by decide) ?_
    obtain rfl := pr_in1 h
    exact pr_iret C Z dL_limited_21
theorem k_L_limited {l : Launch} {e : pr_E0} {Y : pr_Y} {Rm : Room} {cc : ByteArray} {own : String} {nL : Nat} {c0 : Cond} {pc idx : Nat} {lv : List (Nat × Value)} {st : List Value} {p1 : Int32} {p2 : Int32} {f : pr_M} {r : Int32} (C : pr_C (pr_EC l e) Y Rm cc own nL c0) (w1 : Cond.methodLink own idx yL_limited ∈ pr_AL)  (h : F_L_limited p1 p2 f = some r) (hr1 : 1 ≤ Rm.frames) (hr2 : 21 ≤ Rm.locals) (hcat : (st.map fun v => v.category).sum ≤ 8) (hdg : decode cc pc = .ok (.invokestatic idx, 3)) (k : pr_W (pr_EC l e) Y Rm nL f (pc + 3) lv (.int r :: st)) : pr_W (pr_EC l e) Y Rm nL f pc lv (.int p2 :: .int p1 :: st) :=
  pr_callS (As := [.int p1, .int p2]) (n := 2) C (m_L_limited  h) w1 pr_w374 pr_w362 pr_w353 rfl rfl ⟨by decide +kernel, by decide +kernel, by decide +kernel⟩ rfl ⟨hr1, hr2⟩ rfl hcat hdg k

def F_L_size (p1 : Int32) (f : pr_M) : Option (Int32) :=
  if 0 ≤ p1 then (
    some p1
  ) else (
    some (-p1)
  )
set_option maxHeartbeats 4000000 in
set_option maxRecDepth 100000 in
theorem m_L_size {l : Launch} {e : pr_E0} {p1 : Int32} {f : pr_M} {r : Int32}  (h : F_L_size p1 f = some r) : pr_Met (pr_EC l e) yL_size cL_size 1 (some .int) { frames := 0, cells := 0, slots := 0, locals := 0 } [.int p1] f (some (.int r)) f := by
  rw [F_L_size] at h
  refine pr_enter (by decide +kernel) (Nat.le_of_ble_eq_true rfl) (fun Y C Z => ?_)
  replace C : pr_C (pr_EC l e) Y { frames := 0, cells := 0, slots := 0, locals := 0 } cL_size RL 1 _ := C
  show pr_W (pr_EC l e) Y _ 1 f 0 [(0, .int p1)] []
  refine pr_iload_n C dL_size_0 rfl 0 rfl ?_
  refine pr_if_ge (tgt := 9) C dL_size_1 (by decide) (fun c1 => ?_) (fun c1 => ?_)
  · have h := pr_ifT h c1
    refine pr_iload_n C dL_size_9 rfl 0 rfl ?_
    obtain rfl := pr_in1 h
    exact pr_iret C Z dL_size_10
  · have h := pr_ifF h c1
    refine pr_iload_n C dL_size_4 rfl 0 rfl ?_
    refine pr_ineg C dL_size_5 ?_
    refine pr_goto (tgt := 10) C dL_size_6 (by decide) ?_
    obtain rfl := pr_in1 h
    exact pr_iret C Z dL_size_10
theorem k_L_size {l : Launch} {e : pr_E0} {Y : pr_Y} {Rm : Room} {cc : ByteArray} {own : String} {nL : Nat} {c0 : Cond} {pc idx : Nat} {lv : List (Nat × Value)} {st : List Value} {p1 : Int32} {f : pr_M} {r : Int32} (C : pr_C (pr_EC l e) Y Rm cc own nL c0) (w1 : Cond.methodLink own idx yL_size ∈ pr_AL)  (h : F_L_size p1 f = some r) (hr1 : 1 ≤ Rm.frames) (hr2 : 20 ≤ Rm.locals) (hcat : (st.map fun v => v.category).sum ≤ 8) (hdg : decode cc pc = .ok (.invokestatic idx, 3)) (k : pr_W (pr_EC l e) Y Rm nL f (pc + 3) lv (.int r :: st)) : pr_W (pr_EC l e) Y Rm nL f pc lv (.int p1 :: st) :=
  pr_callS (As := [.int p1]) (n := 1) C (m_L_size  h) w1 pr_w372 pr_w362 pr_w354 rfl rfl ⟨by decide +kernel, by decide +kernel, by decide +kernel⟩ rfl ⟨hr1, hr2⟩ rfl hcat hdg k

def L_L_lay_2 (q0 : Nat) (x1 : Int32) (q2 : Nat) : Nat → Int32 → pr_M → Option ((Unit) × pr_M)
  | 0, _, _ => none
  | n + 1, x3, f =>
    if 14 ≤ x3 then (
      some ((), f)
    ) else (
      pr_b1 (F_X8_state q0 x1 x3 f) fun r3003 =>
      pr_gd (¬ (x3 < 0 ∨ 14 ≤ Int32.toNatClampNeg x3)) <|
      pr_lt (pr_up f q2 (Int32.toNatClampNeg x3) r3003) fun f3005 =>
      L_L_lay_2 q0 x1 q2 n (x3 + 1) f3005
    )
set_option maxHeartbeats 4000000 in
set_option maxRecDepth 100000 in
theorem l_L_lay_2 {l : Launch} {e : pr_E0} {Y : pr_Y} {c0 : Cond} {q0 : Nat} {x1 : Int32} {q2 : Nat} {z : Unit} {g : pr_M} (C : pr_C (pr_EC l e) Y { frames := 3, cells := 0, slots := 0, locals := 67 } cL_lay RL 4 c0) (hq0 : (pr_LE e)[q0]? = some (8, 0)) (hq2 : (pr_LE e)[q2]? = some (10, 14)) : ∀ (n : Nat) (x3 : Int32) (f : pr_M), L_L_lay_2 q0 x1 q2 n x3 f = some (z, g) → pr_W (pr_EC l e) Y { frames := 3, cells := 0, slots := 0, locals := 67 } 4 g 23 [] [] → pr_W (pr_EC l e) Y { frames := 3, cells := 0, slots := 0, locals := 67 } 4 f 2 [(0, .ref (pr_ad (pr_EC l e) q0)), (1, .int x1), (2, .ref (pr_ad (pr_EC l e) q2)), (3, .int x3)] [] := by
  intro n
  induction n with
  | zero =>
    intro x3 f h
    exact absurd h (by simp [L_L_lay_2])
  | succ n ih =>
    intro x3 f h K
    rw [L_L_lay_2] at h
    refine pr_iload_n C dL_lay_2 rfl 3 rfl ?_
    refine pr_bipush (v := 14) C dL_lay_3 (by decide) ?_
    refine pr_icmp_ge (tgt := 23) C dL_lay_5 (by decide) (fun c3001 => ?_) (fun c3001 => ?_)
    · have h := pr_ifT h c3001
      obtain ⟨rfl, rfl⟩ := pr_inj h
      exact pr_pick [] rfl K
    · have h := pr_ifF h c3001
      refine pr_aload_n C dL_lay_8 rfl 2 rfl ?_
      refine pr_iload_n C dL_lay_9 rfl 3 rfl ?_
      refine pr_aload_n C dL_lay_10 rfl 0 rfl ?_
      refine pr_iload_n C dL_lay_11 rfl 1 rfl ?_
      refine pr_iload_n C dL_lay_12 rfl 3 rfl ?_
      obtain ⟨r3003, hc3002, h⟩ := pr_b1_some h
      refine k_X8_state C pr_w355 hq0 hc3002 (Nat.le_of_ble_eq_true rfl) (Nat.le_of_ble_eq_true rfl) (Nat.le_of_ble_eq_true rfl) dL_lay_13 ?_
      obtain ⟨hg3004, h⟩ := pr_gd_some h
      refine pr_iastore C hq2 hg3004 dL_lay_16 (fun f3005 e3006 => ?_)
      have h := pr_lt_at h e3006
      refine pr_iinc (v := (x3 + 1)) (lv' := [(3, .int (x3 + 1)), (0, .ref (pr_ad (pr_EC l e) q0)), (1, .int x1), (2, .ref (pr_ad (pr_EC l e) q2))]) C dL_lay_17 3 rfl rfl (by decide) rfl ?_
      refine pr_goto (tgt := 2) C dL_lay_20 (by decide) ?_
      exact pr_pick [1, 2, 3, 0] rfl (ih _ _ h K)
def F_L_lay (p1 : Nat) (p2 : Int32) (p3 : Nat) (f : pr_M) : Option (Unit × pr_M) :=
  pr_bd (L_L_lay_2 p1 p2 p3 pr_fuel 0 f) fun v1 f2 =>
  some ((), f2)
set_option maxHeartbeats 4000000 in
set_option maxRecDepth 100000 in
theorem m_L_lay {l : Launch} {e : pr_E0} {p1 : Nat} {p2 : Int32} {p3 : Nat} {f : pr_M} {r : Unit} {g : pr_M} (hk01 : (pr_LE e)[p1]? = some (8, 0)) (hk03 : (pr_LE e)[p3]? = some (10, 14)) (h : F_L_lay p1 p2 p3 f = some (r, g)) : pr_Met (pr_EC l e) yL_lay cL_lay 4 none { frames := 3, cells := 0, slots := 0, locals := 67 } [.ref (pr_ad (pr_EC l e) p1), .int p2, .ref (pr_ad (pr_EC l e) p3)] f none g := by
  rw [F_L_lay] at h
  refine pr_enter (by decide +kernel) (Nat.le_of_ble_eq_true rfl) (fun Y C Z => ?_)
  replace C : pr_C (pr_EC l e) Y { frames := 3, cells := 0, slots := 0, locals := 67 } cL_lay RL 4 _ := C
  show pr_W (pr_EC l e) Y _ 4 f 0 [(0, .ref (pr_ad (pr_EC l e) p1)), (1, .int p2), (2, .ref (pr_ad (pr_EC l e) p3))] []
  refine pr_iconst (v := 0) C dL_lay_0 (by decide) ?_
  refine pr_istore_n (lv' := [(3, .int 0), (0, .ref (pr_ad (pr_EC l e) p1)), (1, .int p2), (2, .ref (pr_ad (pr_EC l e) p3))]) C dL_lay_1 rfl (by decide) rfl ?_
  obtain ⟨v1, f2, hv, h⟩ := pr_bd_some h
  refine pr_pick [1, 2, 3, 0] rfl (l_L_lay_2 C hk01 hk03 pr_fuel _ _ hv ?_)
  clear hv
  obtain ⟨rfl, rfl⟩ := pr_inj h
  exact pr_vret C Z dL_lay_23
theorem k_L_lay {l : Launch} {e : pr_E0} {Y : pr_Y} {Rm : Room} {cc : ByteArray} {own : String} {nL : Nat} {c0 : Cond} {pc idx : Nat} {lv : List (Nat × Value)} {st : List Value} {p1 : Nat} {p2 : Int32} {p3 : Nat} {f : pr_M} {r : Unit} {g : pr_M} (C : pr_C (pr_EC l e) Y Rm cc own nL c0) (w1 : Cond.methodLink own idx yL_lay ∈ pr_AL) (hk01 : (pr_LE e)[p1]? = some (8, 0)) (hk03 : (pr_LE e)[p3]? = some (10, 14)) (h : F_L_lay p1 p2 p3 f = some (r, g)) (hr1 : 4 ≤ Rm.frames) (hr2 : 90 ≤ Rm.locals) (hcat : (st.map fun v => v.category).sum ≤ 8) (hdg : decode cc pc = .ok (.invokestatic idx, 3)) (k : pr_W (pr_EC l e) Y Rm nL g (pc + 3) lv (st)) : pr_W (pr_EC l e) Y Rm nL f pc lv (.ref (pr_ad (pr_EC l e) p3) :: .int p2 :: .ref (pr_ad (pr_EC l e) p1) :: st) :=
  pr_callS (As := [.ref (pr_ad (pr_EC l e) p1), .int p2, .ref (pr_ad (pr_EC l e) p3)]) (n := 3) C (m_L_lay hk01 hk03 h) w1 pr_w413 pr_w362 pr_w358 rfl rfl ⟨by decide +kernel, by decide +kernel, by decide +kernel⟩ rfl ⟨hr1, hr2⟩ rfl hcat hdg k

def F_L_value (p1 : Nat) (p2 : Nat) (f : pr_M) : Option (Int32) :=
  if (f p1 (Int32.toNatClampNeg 10)) = 0 then (
    some 0
  ) else (
    pr_gd (¬ (f p2 (Int32.toNatClampNeg 1)) = 0) <|
    some (((f p2 (Int32.toNatClampNeg 0)) * (f p1 (Int32.toNatClampNeg 10))) / (f p2 (Int32.toNatClampNeg 1)))
  )
set_option maxHeartbeats 4000000 in
set_option maxRecDepth 100000 in
theorem m_L_value {l : Launch} {e : pr_E0} {p1 : Nat} {p2 : Nat} {f : pr_M} {r : Int32} (hk01 : (pr_LE e)[p1]? = some (10, 14)) (hk02 : (pr_LE e)[p2]? = some (10, 5)) (h : F_L_value p1 p2 f = some r) : pr_Met (pr_EC l e) yL_value cL_value 2 (some .int) { frames := 0, cells := 0, slots := 0, locals := 0 } [.ref (pr_ad (pr_EC l e) p1), .ref (pr_ad (pr_EC l e) p2)] f (some (.int r)) f := by
  rw [F_L_value] at h
  refine pr_enter (by decide +kernel) (Nat.le_of_ble_eq_true rfl) (fun Y C Z => ?_)
  replace C : pr_C (pr_EC l e) Y { frames := 0, cells := 0, slots := 0, locals := 0 } cL_value RL 2 _ := C
  show pr_W (pr_EC l e) Y _ 2 f 0 [(0, .ref (pr_ad (pr_EC l e) p1)), (1, .ref (pr_ad (pr_EC l e) p2))] []
  refine pr_aload_n C dL_value_0 rfl 0 rfl ?_
  refine pr_bipush (v := 10) C dL_value_1 (by decide) ?_
  refine pr_iaload C hk01 (pr_inlit (by decide +kernel)) dL_value_3 ?_
  refine pr_if_ne (tgt := 11) C dL_value_4 (by decide) (fun c1 => ?_) (fun c1 => ?_)
  · have h := pr_ifF h c1
    refine pr_aload_n C dL_value_11 rfl 1 rfl ?_
    refine pr_iconst (v := 0) C dL_value_12 (by decide) ?_
    refine pr_iaload C hk02 (pr_inlit (by decide +kernel)) dL_value_13 ?_
    refine pr_aload_n C dL_value_14 rfl 0 rfl ?_
    refine pr_bipush (v := 10) C dL_value_15 (by decide) ?_
    refine pr_iaload C hk01 (pr_inlit (by decide +kernel)) dL_value_17 ?_
    refine pr_imul C dL_value_18 ?_
    refine pr_aload_n C dL_value_19 rfl 1 rfl ?_
    refine pr_iconst (v := 1) C dL_value_20 (by decide) ?_
    refine pr_iaload C hk02 (pr_inlit (by decide +kernel)) dL_value_21 ?_
    obtain ⟨hg2, h⟩ := pr_gd_some h
    refine pr_idiv C dL_value_22 hg2 ?_
    obtain rfl := pr_in1 h
    exact pr_iret C Z dL_value_23
  · have h := pr_ifT h c1
    refine pr_iconst (v := 0) C dL_value_7 (by decide) ?_
    refine pr_goto (tgt := 23) C dL_value_8 (by decide) ?_
    obtain rfl := pr_in1 h
    exact pr_iret C Z dL_value_23
theorem k_L_value {l : Launch} {e : pr_E0} {Y : pr_Y} {Rm : Room} {cc : ByteArray} {own : String} {nL : Nat} {c0 : Cond} {pc idx : Nat} {lv : List (Nat × Value)} {st : List Value} {p1 : Nat} {p2 : Nat} {f : pr_M} {r : Int32} (C : pr_C (pr_EC l e) Y Rm cc own nL c0) (w1 : Cond.methodLink own idx yL_value ∈ pr_AL) (hk01 : (pr_LE e)[p1]? = some (10, 14)) (hk02 : (pr_LE e)[p2]? = some (10, 5)) (h : F_L_value p1 p2 f = some r) (hr1 : 1 ≤ Rm.frames) (hr2 : 21 ≤ Rm.locals) (hcat : (st.map fun v => v.category).sum ≤ 8) (hdg : decode cc pc = .ok (.invokestatic idx, 3)) (k : pr_W (pr_EC l e) Y Rm nL f (pc + 3) lv (.int r :: st)) : pr_W (pr_EC l e) Y Rm nL f pc lv (.ref (pr_ad (pr_EC l e) p2) :: .ref (pr_ad (pr_EC l e) p1) :: st) :=
  pr_callS (As := [.ref (pr_ad (pr_EC l e) p1), .ref (pr_ad (pr_EC l e) p2)]) (n := 2) C (m_L_value hk01 hk02 h) w1 pr_w361 pr_w362 pr_w359 rfl rfl ⟨by decide +kernel, by decide +kernel, by decide +kernel⟩ rfl ⟨hr1, hr2⟩ rfl hcat hdg k
