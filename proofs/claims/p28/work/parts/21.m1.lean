def F_X8_hide (c : Nat) (p1 : Int32) (p2 : Int32) (f : pr_M) : Option (Int32 × pr_M) :=
  pr_b1 (F_X3_unitAt (c + 1) p1 f) fun o3 =>
  pr_op o3 (
    some ((-1000000001), f)
  ) fun q4 =>
  pr_gd (pr_LC[q4]? = some (7, 0)) <|
  pr_b1 (F_X8_isOutside p2 0 50 f) fun r7 =>
  if r7 = 0 then (
    pr_lt (pr_up f (q4 + 6) 1 p2) fun f10 =>
    some ((f (q4 + 6) 1), f10)
  ) else (
    some ((-1000000002), f)
  )
set_option maxHeartbeats 4000000 in
set_option maxRecDepth 100000 in
theorem m_X8_hide {l : Launch} {e : pr_E0} {c : Nat} {p1 : Int32} {p2 : Int32} {f : pr_M} {r : Int32} {g : pr_M} (hk0 : (pr_LE e)[c]? = some (8, 0)) (h : F_X8_hide c p1 p2 f = some (r, g)) : pr_Met (pr_EC l e) yX8_hide cX8_hide 5 (some .int) { frames := 1, cells := 0, slots := 0, locals := 22 } [.ref (pr_ad (pr_EC l e) c), .int p1, .int p2] f (some (.int r)) g := by
  rw [F_X8_hide] at h
  refine pr_enter (by decide +kernel) (Nat.le_of_ble_eq_true rfl) (fun Y C Z => ?_)
  replace C : pr_C (pr_EC l e) Y { frames := 1, cells := 0, slots := 0, locals := 22 } cX8_hide RX8 5 _ := C
  show pr_W (pr_EC l e) Y _ 5 f 0 [(0, .ref (pr_ad (pr_EC l e) c)), (1, .int p1), (2, .int p2)] []
  refine pr_aload_n C dX8_hide_0 rfl 0 rfl ?_
  refine pr_g_8_0 C hk0 pr_w255 dX8_hide_1 ?_
  have hk1 := pr_kC_8_0 hk0
  refine pr_iload_n C dX8_hide_4 rfl 1 rfl ?_
  obtain ⟨o3, hc2, h⟩ := pr_b1_some h
  refine k_X3_unitAt C pr_w284 hk1 hc2 (Nat.le_of_ble_eq_true rfl) (Nat.le_of_ble_eq_true rfl) (Nat.le_of_ble_eq_true rfl) dX8_hide_5 ?_
  cases o3 with
  | none =>
    have h := pr_op_n h
    refine pr_astore_nN (lv' := [(3, .null), (0, .ref (pr_ad (pr_EC l e) c)), (1, .int p1), (2, .int p2)]) C dX8_hide_8 rfl (by decide) rfl ?_
    refine pr_aload_nN C dX8_hide_9 rfl 0 rfl ?_
    refine pr_ifnonnullN C dX8_hide_10 ?_
    refine pr_ldc (v := (-1000000001)) C dX8_hide_13 pr_w282 ?_
    obtain ⟨rfl, rfl⟩ := pr_inj h
    exact pr_iret C Z dX8_hide_15
  | some q4 =>
    have h := pr_op_s h
    obtain ⟨hk5, h⟩ := pr_gd_some h
    replace hk5 := px_lx (X := pr_eX e) hk5
    refine pr_astore_n (lv' := [(3, .ref (pr_ad (pr_EC l e) q4)), (0, .ref (pr_ad (pr_EC l e) c)), (1, .int p1), (2, .int p2)]) C dX8_hide_8 rfl (by decide) rfl ?_
    refine pr_aload_n C dX8_hide_9 rfl 0 rfl ?_
    refine pr_ifnonnull (tgt := 16) C dX8_hide_10 (by decide) ?_
    refine pr_iload_n C dX8_hide_16 rfl 3 rfl ?_
    refine pr_iconst (v := 0) C dX8_hide_17 (by decide) ?_
    refine pr_bipush (v := 50) C dX8_hide_18 (by decide) ?_
    obtain ⟨r7, hc6, h⟩ := pr_b1_some h
    refine k_X8_isOutside C pr_w275  hc6 (Nat.le_of_ble_eq_true rfl) (Nat.le_of_ble_eq_true rfl) (Nat.le_of_ble_eq_true rfl) dX8_hide_20 ?_
    refine pr_if_eq (tgt := 29) C dX8_hide_23 (by decide) (fun c8 => ?_) (fun c8 => ?_)
    · have h := pr_ifT h c8
      refine pr_aload_n C dX8_hide_29 rfl 0 rfl ?_
      refine pr_gN_7_3 C hk5 pr_nf38 dX8_hide_30 ?_
      have hk9 := pr_kC_7_3 hk5
      refine pr_gN_5_1 C hk9 pr_nf21 dX8_hide_33 ?_
      refine pr_istore (lv' := [(4, .int (f (q4 + 6) 1)), (3, .ref (pr_ad (pr_EC l e) q4)), (0, .ref (pr_ad (pr_EC l e) c)), (1, .int p1), (2, .int p2)]) C dX8_hide_36 (by decide) rfl ?_
      refine pr_aload_n C dX8_hide_38 rfl 1 rfl ?_
      refine pr_gN_7_3 C hk5 pr_nf38 dX8_hide_39 ?_
      refine pr_iload_n C dX8_hide_42 rfl 4 rfl ?_
      refine pr_pN_5_1 C hk9 pr_nf21 dX8_hide_43 (fun f10 e11 => ?_)
      have h := pr_lt_at h e11
      refine pr_iload C dX8_hide_46 0 rfl ?_
      obtain ⟨rfl, rfl⟩ := pr_inj h
      exact pr_iret C Z dX8_hide_48
    · have h := pr_ifF h c8
      refine pr_ldc (v := (-1000000002)) C dX8_hide_26 pr_w274 ?_
      obtain ⟨rfl, rfl⟩ := pr_inj h
      exact pr_iret C Z dX8_hide_28
theorem k_X8_hide {l : Launch} {e : pr_E0} {Y : pr_Y} {Rm : Room} {cc : ByteArray} {own : String} {nL : Nat} {c0 : Cond} {pc idx : Nat} {lv : List (Nat × Value)} {st : List Value} {c : Nat} {p1 : Int32} {p2 : Int32} {f : pr_M} {r : Int32} {g : pr_M} (C : pr_C (pr_EC l e) Y Rm cc own nL c0) (w1 : Cond.methodLink own idx yX8_hide ∈ pr_AL) (hk0 : (pr_LE e)[c]? = some (8, 0)) (h : F_X8_hide c p1 p2 f = some (r, g)) (hr1 : 2 ≤ Rm.frames) (hr2 : 46 ≤ Rm.locals) (hcat : (st.map fun v => v.category).sum ≤ 8) (hdg : decode cc pc = .ok (.invokevirtual idx, 3)) (k : pr_W (pr_EC l e) Y Rm nL g (pc + 3) lv (.int r :: st)) : pr_W (pr_EC l e) Y Rm nL f pc lv (.int p2 :: .int p1 :: .ref (pr_ad (pr_EC l e) c) :: st) :=
  pr_callV (As := [.int p1, .int p2]) (n := 2) C (m_X8_hide hk0 h) hk0 (by decide) rfl w1 pr_w404 pr_w405 pr_w17 pr_w309 rfl rfl ⟨rfl, by decide +kernel, by decide +kernel, by decide +kernel⟩ rfl ⟨hr1, hr2⟩ rfl hcat hdg k

def F_X8_falseMark (c : Nat) (p1 : Int32) (p2 : Int32) (p3 : Int32) (f : pr_M) : Option (Int32 × pr_M) :=
  pr_b1 (F_X3_unitAt (c + 1) p1 f) fun o3 =>
  pr_op o3 (
    some ((-1000000001), f)
  ) fun q4 =>
  pr_gd (pr_LC[q4]? = some (7, 0)) <|
  pr_b1 (F_X8_isOutside p2 (-3000) 3000 f) fun r7 =>
  if r7 = 0 then (
    pr_b1 (F_X8_isOutside p3 0 50 f) fun r10 =>
    if r10 = 0 then (
      pr_lt (pr_up f (q4 + 6) 2 p2) fun f13 =>
      pr_lt (pr_up f13 (q4 + 6) 3 p3) fun f15 =>
      some ((f (q4 + 6) 3), f15)
    ) else (
      some ((-1000000002), f)
    )
  ) else (
    some ((-1000000002), f)
  )
set_option maxHeartbeats 4000000 in
set_option maxRecDepth 100000 in
theorem m_X8_falseMark {l : Launch} {e : pr_E0} {c : Nat} {p1 : Int32} {p2 : Int32} {p3 : Int32} {f : pr_M} {r : Int32} {g : pr_M} (hk0 : (pr_LE e)[c]? = some (8, 0)) (h : F_X8_falseMark c p1 p2 p3 f = some (r, g)) : pr_Met (pr_EC l e) yX8_falseMark cX8_falseMark 6 (some .int) { frames := 1, cells := 0, slots := 0, locals := 22 } [.ref (pr_ad (pr_EC l e) c), .int p1, .int p2, .int p3] f (some (.int r)) g := by
  rw [F_X8_falseMark] at h
  refine pr_enter (by decide +kernel) (Nat.le_of_ble_eq_true rfl) (fun Y C Z => ?_)
  replace C : pr_C (pr_EC l e) Y { frames := 1, cells := 0, slots := 0, locals := 22 } cX8_falseMark RX8 6 _ := C
  show pr_W (pr_EC l e) Y _ 6 f 0 [(0, .ref (pr_ad (pr_EC l e) c)), (1, .int p1), (2, .int p2), (3, .int p3)] []
  refine pr_aload_n C dX8_falseMark_0 rfl 0 rfl ?_
  refine pr_g_8_0 C hk0 pr_w255 dX8_falseMark_1 ?_
  have hk1 := pr_kC_8_0 hk0
  refine pr_iload_n C dX8_falseMark_4 rfl 1 rfl ?_
  obtain ⟨o3, hc2, h⟩ := pr_b1_some h
  refine k_X3_unitAt C pr_w284 hk1 hc2 (Nat.le_of_ble_eq_true rfl) (Nat.le_of_ble_eq_true rfl) (Nat.le_of_ble_eq_true rfl) dX8_falseMark_5 ?_
  cases o3 with
  | none =>
    have h := pr_op_n h
    refine pr_astoreN (lv' := [(4, .null), (0, .ref (pr_ad (pr_EC l e) c)), (1, .int p1), (2, .int p2), (3, .int p3)]) C dX8_falseMark_8 (by decide) rfl ?_
    refine pr_aloadN C dX8_falseMark_10 0 rfl ?_
    refine pr_ifnonnullN C dX8_falseMark_12 ?_
    refine pr_ldc (v := (-1000000001)) C dX8_falseMark_15 pr_w282 ?_
    obtain ⟨rfl, rfl⟩ := pr_inj h
    exact pr_iret C Z dX8_falseMark_17
  | some q4 =>
    have h := pr_op_s h
    obtain ⟨hk5, h⟩ := pr_gd_some h
    replace hk5 := px_lx (X := pr_eX e) hk5
    refine pr_astore (lv' := [(4, .ref (pr_ad (pr_EC l e) q4)), (0, .ref (pr_ad (pr_EC l e) c)), (1, .int p1), (2, .int p2), (3, .int p3)]) C dX8_falseMark_8 (by decide) rfl ?_
    refine pr_aload C dX8_falseMark_10 0 rfl ?_
    refine pr_ifnonnull (tgt := 18) C dX8_falseMark_12 (by decide) ?_
    refine pr_iload_n C dX8_falseMark_18 rfl 3 rfl ?_
    refine pr_sipush (v := (-3000)) C dX8_falseMark_19 (by decide) ?_
    refine pr_sipush (v := 3000) C dX8_falseMark_22 (by decide) ?_
    obtain ⟨r7, hc6, h⟩ := pr_b1_some h
    refine k_X8_isOutside C pr_w275  hc6 (Nat.le_of_ble_eq_true rfl) (Nat.le_of_ble_eq_true rfl) (Nat.le_of_ble_eq_true rfl) dX8_falseMark_25 ?_
    refine pr_if_eq (tgt := 34) C dX8_falseMark_28 (by decide) (fun c8 => ?_) (fun c8 => ?_)
    · have h := pr_ifT h c8
      refine pr_iload_n C dX8_falseMark_34 rfl 4 rfl ?_
      refine pr_iconst (v := 0) C dX8_falseMark_35 (by decide) ?_
      refine pr_bipush (v := 50) C dX8_falseMark_36 (by decide) ?_
      obtain ⟨r10, hc9, h⟩ := pr_b1_some h
      refine k_X8_isOutside C pr_w275  hc9 (Nat.le_of_ble_eq_true rfl) (Nat.le_of_ble_eq_true rfl) (Nat.le_of_ble_eq_true rfl) dX8_falseMark_38 ?_
      refine pr_if_eq (tgt := 47) C dX8_falseMark_41 (by decide) (fun c11 => ?_) (fun c11 => ?_)
      · have h := pr_ifT h c11
        refine pr_aload C dX8_falseMark_47 0 rfl ?_
        refine pr_gN_7_3 C hk5 pr_nf38 dX8_falseMark_49 ?_
        have hk12 := pr_kC_7_3 hk5
        refine pr_gN_5_3 C hk12 pr_nf24 dX8_falseMark_52 ?_
        refine pr_istore (lv' := [(5, .int (f (q4 + 6) 3)), (4, .ref (pr_ad (pr_EC l e) q4)), (0, .ref (pr_ad (pr_EC l e) c)), (1, .int p1), (2, .int p2), (3, .int p3)]) C dX8_falseMark_55 (by decide) rfl ?_
        refine pr_aload C dX8_falseMark_57 1 rfl ?_
        refine pr_gN_7_3 C hk5 pr_nf38 dX8_falseMark_59 ?_
        refine pr_iload_n C dX8_falseMark_62 rfl 4 rfl ?_
        refine pr_pN_5_2 C hk12 pr_nf23 dX8_falseMark_63 (fun f13 e14 => ?_)
        have h := pr_lt_at h e14
        refine pr_aload C dX8_falseMark_66 1 rfl ?_
        refine pr_gN_7_3 C hk5 pr_nf38 dX8_falseMark_68 ?_
        refine pr_iload_n C dX8_falseMark_71 rfl 5 rfl ?_
        refine pr_pN_5_3 C hk12 pr_nf24 dX8_falseMark_72 (fun f15 e16 => ?_)
        have h := pr_lt_at h e16
        refine pr_iload C dX8_falseMark_75 0 rfl ?_
        obtain ⟨rfl, rfl⟩ := pr_inj h
        exact pr_iret C Z dX8_falseMark_77
      · have h := pr_ifF h c11
        refine pr_ldc (v := (-1000000002)) C dX8_falseMark_44 pr_w274 ?_
        obtain ⟨rfl, rfl⟩ := pr_inj h
        exact pr_iret C Z dX8_falseMark_46
    · have h := pr_ifF h c8
      refine pr_ldc (v := (-1000000002)) C dX8_falseMark_31 pr_w274 ?_
      obtain ⟨rfl, rfl⟩ := pr_inj h
      exact pr_iret C Z dX8_falseMark_33
theorem k_X8_falseMark {l : Launch} {e : pr_E0} {Y : pr_Y} {Rm : Room} {cc : ByteArray} {own : String} {nL : Nat} {c0 : Cond} {pc idx : Nat} {lv : List (Nat × Value)} {st : List Value} {c : Nat} {p1 : Int32} {p2 : Int32} {p3 : Int32} {f : pr_M} {r : Int32} {g : pr_M} (C : pr_C (pr_EC l e) Y Rm cc own nL c0) (w1 : Cond.methodLink own idx yX8_falseMark ∈ pr_AL) (hk0 : (pr_LE e)[c]? = some (8, 0)) (h : F_X8_falseMark c p1 p2 p3 f = some (r, g)) (hr1 : 2 ≤ Rm.frames) (hr2 : 47 ≤ Rm.locals) (hcat : (st.map fun v => v.category).sum ≤ 8) (hdg : decode cc pc = .ok (.invokevirtual idx, 3)) (k : pr_W (pr_EC l e) Y Rm nL g (pc + 3) lv (.int r :: st)) : pr_W (pr_EC l e) Y Rm nL f pc lv (.int p3 :: .int p2 :: .int p1 :: .ref (pr_ad (pr_EC l e) c) :: st) :=
  pr_callV (As := [.int p1, .int p2, .int p3]) (n := 3) C (m_X8_falseMark hk0 h) hk0 (by decide) rfl w1 pr_w407 pr_w408 pr_w17 pr_w310 rfl rfl ⟨rfl, by decide +kernel, by decide +kernel, by decide +kernel⟩ rfl ⟨hr1, hr2⟩ rfl hcat hdg k

def F_X3_startSplice (c : Nat) (p1 : Int32) (p2 : Int32) (f : pr_M) : Option (Unit × pr_M) :=
  pr_lt (pr_up f c 7 (f c 4)) fun f1 =>
  pr_lt (pr_up f1 c 8 p1) fun f3 =>
  pr_lt (pr_up f3 c 9 p2) fun f5 =>
  some ((), f5)
set_option maxHeartbeats 4000000 in
set_option maxRecDepth 100000 in
theorem m_X3_startSplice {l : Launch} {e : pr_E0} {c : Nat} {p1 : Int32} {p2 : Int32} {f : pr_M} {r : Unit} {g : pr_M} (hk0 : (pr_LE e)[c]? = some (3, 0)) (h : F_X3_startSplice c p1 p2 f = some (r, g)) : pr_Met (pr_EC l e) yX3_startSplice cX3_startSplice 3 none { frames := 0, cells := 0, slots := 0, locals := 0 } [.ref (pr_ad (pr_EC l e) c), .int p1, .int p2] f none g := by
  rw [F_X3_startSplice] at h
  refine pr_enter (by decide +kernel) (Nat.le_of_ble_eq_true rfl) (fun Y C Z => ?_)
  replace C : pr_C (pr_EC l e) Y { frames := 0, cells := 0, slots := 0, locals := 0 } cX3_startSplice RX3 3 _ := C
  show pr_W (pr_EC l e) Y _ 3 f 0 [(0, .ref (pr_ad (pr_EC l e) c)), (1, .int p1), (2, .int p2)] []
  refine pr_aload_n C dX3_startSplice_0 rfl 0 rfl ?_
  refine pr_aload_n C dX3_startSplice_1 rfl 0 rfl ?_
  refine pr_g_3_4 C hk0 pr_w122 dX3_startSplice_2 ?_
  refine pr_p_3_7 C hk0 pr_w125 dX3_startSplice_5 (fun f1 e2 => ?_)
  have h := pr_lt_at h e2
  refine pr_aload_n C dX3_startSplice_8 rfl 0 rfl ?_
  refine pr_iload_n C dX3_startSplice_9 rfl 1 rfl ?_
  refine pr_p_3_8 C hk0 pr_w126 dX3_startSplice_10 (fun f3 e4 => ?_)
  have h := pr_lt_at h e4
  refine pr_aload_n C dX3_startSplice_13 rfl 0 rfl ?_
  refine pr_iload_n C dX3_startSplice_14 rfl 2 rfl ?_
  refine pr_p_3_9 C hk0 pr_w127 dX3_startSplice_15 (fun f5 e6 => ?_)
  have h := pr_lt_at h e6
  obtain ⟨rfl, rfl⟩ := pr_inj h
  exact pr_vret C Z dX3_startSplice_18
theorem k_X3_startSplice {l : Launch} {e : pr_E0} {Y : pr_Y} {Rm : Room} {cc : ByteArray} {own : String} {nL : Nat} {c0 : Cond} {pc idx : Nat} {lv : List (Nat × Value)} {st : List Value} {c : Nat} {p1 : Int32} {p2 : Int32} {f : pr_M} {r : Unit} {g : pr_M} (C : pr_C (pr_EC l e) Y Rm cc own nL c0) (w1 : Cond.methodLink own idx yX3_startSplice ∈ pr_AL) (hk0 : (pr_LE e)[c]? = some (3, 0)) (h : F_X3_startSplice c p1 p2 f = some (r, g)) (hr1 : 1 ≤ Rm.frames) (hr2 : 22 ≤ Rm.locals) (hcat : (st.map fun v => v.category).sum ≤ 8) (hdg : decode cc pc = .ok (.invokevirtual idx, 3)) (k : pr_W (pr_EC l e) Y Rm nL g (pc + 3) lv (st)) : pr_W (pr_EC l e) Y Rm nL f pc lv (.int p2 :: .int p1 :: .ref (pr_ad (pr_EC l e) c) :: st) :=
  pr_callV (As := [.int p1, .int p2]) (n := 2) C (m_X3_startSplice hk0 h) hk0 (by decide) rfl w1 pr_w312 pr_w313 pr_w137 pr_w143 rfl rfl ⟨rfl, by decide +kernel, by decide +kernel, by decide +kernel⟩ rfl ⟨hr1, hr2⟩ rfl hcat hdg k

def L_X3_wayOf_4 (q0 : Nat) (x1 : Int32) : Nat → Int32 → Int32 → pr_M → Option (Int32)
  | 0, _, _, _ => none
  | n + 1, x2, x3, f =>
    if x1 < x3 then (
      some x2
    ) else (
      if (f q0 3) ≤ x3 then (
        some x2
      ) else (
        pr_gd (¬ (x3 < 0 ∨ 5 ≤ Int32.toNatClampNeg x3)) <|
        pr_b1 (F_X7_setting ((q0 + 1) + 3 + 9 * Int32.toNatClampNeg x3) 0 f) fun r5007 =>
        L_X3_wayOf_4 q0 x1 n (x2 + r5007) (x3 + 1) f
      )
    )
set_option maxHeartbeats 4000000 in
set_option maxRecDepth 100000 in
theorem l_X3_wayOf_4 {l : Launch} {e : pr_E0} {Y : pr_Y} {c0 : Cond} {q0 : Nat} {x1 : Int32} {z : Int32} (C : pr_C (pr_EC l e) Y { frames := 1, cells := 0, slots := 0, locals := 21 } cX3_wayOf RX3 4 c0) (hq0 : (pr_LE e)[q0]? = some (3, 0)) : ∀ (n : Nat) (x2 : Int32) (x3 : Int32) (f : pr_M), L_X3_wayOf_4 q0 x1 n x2 x3 f = some z → pr_W (pr_EC l e) Y { frames := 1, cells := 0, slots := 0, locals := 21 } 4 f 36 [(2, .int z)] [] → pr_W (pr_EC l e) Y { frames := 1, cells := 0, slots := 0, locals := 21 } 4 f 4 [(0, .ref (pr_ad (pr_EC l e) q0)), (1, .int x1), (2, .int x2), (3, .int x3)] [] := by
  intro n
  induction n with
  | zero =>
    intro x2 x3 f h
    exact absurd h (by simp [L_X3_wayOf_4])
  | succ n ih =>
    intro x2 x3 f h K
    rw [L_X3_wayOf_4] at h
    refine pr_iload_n C dX3_wayOf_4 rfl 3 rfl ?_
    refine pr_iload_n C dX3_wayOf_5 rfl 1 rfl ?_
    refine pr_icmp_gt (tgt := 36) C dX3_wayOf_6 (by decide) (fun c5001 => ?_) (fun c5001 => ?_)
    · have h := pr_ifT h c5001
      obtain rfl := pr_in1 h
      exact pr_pick [2] rfl K
    · have h := pr_ifF h c5001
      refine pr_iload_n C dX3_wayOf_9 rfl 3 rfl ?_
      refine pr_aload_n C dX3_wayOf_10 rfl 0 rfl ?_
      refine pr_g_3_3 C hq0 pr_w121 dX3_wayOf_11 ?_
      refine pr_icmp_ge (tgt := 36) C dX3_wayOf_14 (by decide) (fun c5002 => ?_) (fun c5002 => ?_)
      · have h := pr_ifT h c5002
        obtain rfl := pr_in1 h
        exact pr_pick [2] rfl K
      · have h := pr_ifF h c5002
        refine pr_iload_n C dX3_wayOf_17 rfl 2 rfl ?_
        refine pr_aload_n C dX3_wayOf_18 rfl 0 rfl ?_
        refine pr_g_3_0 C hq0 pr_w80 dX3_wayOf_19 ?_
        have hk5003 := pr_kC_3_0 hq0
        refine pr_iload_n C dX3_wayOf_22 rfl 3 rfl ?_
        obtain ⟨hg5004, h⟩ := pr_gd_some h
        refine pr_aaload C hk5003 hg5004 dX3_wayOf_23 ?_
        have hk5005 := pr_kC_u (i := x3) hk5003 hg5004
        refine pr_iconst (v := 0) C dX3_wayOf_24 (by decide) ?_
        obtain ⟨r5007, hc5006, h⟩ := pr_b1_some h
        refine k_X7_setting C pr_w140 hk5005 hc5006 (Nat.le_of_ble_eq_true rfl) (Nat.le_of_ble_eq_true rfl) (Nat.le_of_ble_eq_true rfl) dX3_wayOf_25 ?_
        refine pr_iadd C dX3_wayOf_28 ?_
        refine pr_istore_n (lv' := [(2, .int (x2 + r5007)), (0, .ref (pr_ad (pr_EC l e) q0)), (1, .int x1), (3, .int x3)]) C dX3_wayOf_29 rfl (by decide) rfl ?_
        refine pr_iinc (v := (x3 + 1)) (lv' := [(3, .int (x3 + 1)), (2, .int (x2 + r5007)), (0, .ref (pr_ad (pr_EC l e) q0)), (1, .int x1)]) C dX3_wayOf_30 3 rfl rfl (by decide) rfl ?_
        refine pr_goto (tgt := 4) C dX3_wayOf_33 (by decide) ?_
        exact pr_pick [2, 3, 1, 0] rfl (ih _ _ _ h K)
def F_X3_wayOf (c : Nat) (p1 : Int32) (f : pr_M) : Option (Int32) :=
  pr_b1 (L_X3_wayOf_4 c p1 pr_fuel 0 1 f) fun v1 =>
  some v1
set_option maxHeartbeats 4000000 in
set_option maxRecDepth 100000 in
theorem m_X3_wayOf {l : Launch} {e : pr_E0} {c : Nat} {p1 : Int32} {f : pr_M} {r : Int32} (hk0 : (pr_LE e)[c]? = some (3, 0)) (h : F_X3_wayOf c p1 f = some r) : pr_Met (pr_EC l e) yX3_wayOf cX3_wayOf 4 (some .int) { frames := 1, cells := 0, slots := 0, locals := 21 } [.ref (pr_ad (pr_EC l e) c), .int p1] f (some (.int r)) f := by
  rw [F_X3_wayOf] at h
  refine pr_enter (by decide +kernel) (Nat.le_of_ble_eq_true rfl) (fun Y C Z => ?_)
  replace C : pr_C (pr_EC l e) Y { frames := 1, cells := 0, slots := 0, locals := 21 } cX3_wayOf RX3 4 _ := C
  show pr_W (pr_EC l e) Y _ 4 f 0 [(0, .ref (pr_ad (pr_EC l e) c)), (1, .int p1)] []
  refine pr_iconst (v := 0) C dX3_wayOf_0 (by decide) ?_
  refine pr_istore_n (lv' := [(2, .int 0), (0, .ref (pr_ad (pr_EC l e) c)), (1, .int p1)]) C dX3_wayOf_1 rfl (by decide) rfl ?_
  refine pr_iconst (v := 1) C dX3_wayOf_2 (by decide) ?_
  refine pr_istore_n (lv' := [(3, .int 1), (2, .int 0), (0, .ref (pr_ad (pr_EC l e) c)), (1, .int p1)]) C dX3_wayOf_3 rfl (by decide) rfl ?_
  obtain ⟨v1, hv, h⟩ := pr_b1_some h
  refine pr_pick [2, 3, 1, 0] rfl (l_X3_wayOf_4 C hk0 pr_fuel _ _ _ hv ?_)
  clear hv
  refine pr_iload_n C dX3_wayOf_36 rfl 0 rfl ?_
  obtain rfl := pr_in1 h
  exact pr_iret C Z dX3_wayOf_37
theorem k_X3_wayOf {l : Launch} {e : pr_E0} {Y : pr_Y} {Rm : Room} {cc : ByteArray} {own : String} {nL : Nat} {c0 : Cond} {pc idx : Nat} {lv : List (Nat × Value)} {st : List Value} {c : Nat} {p1 : Int32} {f : pr_M} {r : Int32} (C : pr_C (pr_EC l e) Y Rm cc own nL c0) (w1 : Cond.methodLink own idx yX3_wayOf ∈ pr_AL) (hk0 : (pr_LE e)[c]? = some (3, 0)) (h : F_X3_wayOf c p1 f = some r) (hr1 : 2 ≤ Rm.frames) (hr2 : 44 ≤ Rm.locals) (hcat : (st.map fun v => v.category).sum ≤ 8) (hdg : decode cc pc = .ok (.invokevirtual idx, 3)) (k : pr_W (pr_EC l e) Y Rm nL f (pc + 3) lv (.int r :: st)) : pr_W (pr_EC l e) Y Rm nL f pc lv (.int p1 :: .ref (pr_ad (pr_EC l e) c) :: st) :=
  pr_callV (As := [.int p1]) (n := 1) C (m_X3_wayOf hk0 h) hk0 (by decide) rfl w1 pr_w147 pr_w148 pr_w137 pr_w139 rfl rfl ⟨rfl, by decide +kernel, by decide +kernel, by decide +kernel⟩ rfl ⟨hr1, hr2⟩ rfl hcat hdg k

def F_X3_repeatsToLastUnit (c : Nat) (f : pr_M) : Option (Int32) :=
  if (f c 9) = 0 then (
    some 0
  ) else (
    pr_b1 (F_X3_wayOf c ((f c 3) - 1) f) fun r3 =>
    some (if 0 < ((((f c 7) + r3) + 1) - (f c 4)) then ((((f c 7) + r3) + 1) - (f c 4)) else 0)
  )
set_option maxHeartbeats 4000000 in
set_option maxRecDepth 100000 in
theorem m_X3_repeatsToLastUnit {l : Launch} {e : pr_E0} {c : Nat} {f : pr_M} {r : Int32} (hk0 : (pr_LE e)[c]? = some (3, 0)) (h : F_X3_repeatsToLastUnit c f = some r) : pr_Met (pr_EC l e) yX3_repeatsToLastUnit cX3_repeatsToLastUnit 1 (some .int) { frames := 2, cells := 0, slots := 0, locals := 44 } [.ref (pr_ad (pr_EC l e) c)] f (some (.int r)) f := by
  rw [F_X3_repeatsToLastUnit] at h
  refine pr_enter (by decide +kernel) (Nat.le_of_ble_eq_true rfl) (fun Y C Z => ?_)
  replace C : pr_C (pr_EC l e) Y { frames := 2, cells := 0, slots := 0, locals := 44 } cX3_repeatsToLastUnit RX3 1 _ := C
  show pr_W (pr_EC l e) Y _ 1 f 0 [(0, .ref (pr_ad (pr_EC l e) c))] []
  refine pr_aload_n C dX3_repeatsToLastUnit_0 rfl 0 rfl ?_
  refine pr_g_3_9 C hk0 pr_w127 dX3_repeatsToLastUnit_1 ?_
  refine pr_if_ne (tgt := 9) C dX3_repeatsToLastUnit_4 (by decide) (fun c1 => ?_) (fun c1 => ?_)
  · have h := pr_ifF h c1
    refine pr_iconst (v := 0) C dX3_repeatsToLastUnit_9 (by decide) ?_
    refine pr_aload_n C dX3_repeatsToLastUnit_10 rfl 0 rfl ?_
    refine pr_g_3_7 C hk0 pr_w125 dX3_repeatsToLastUnit_11 ?_
    refine pr_aload_n C dX3_repeatsToLastUnit_14 rfl 0 rfl ?_
    refine pr_aload_n C dX3_repeatsToLastUnit_15 rfl 0 rfl ?_
    refine pr_g_3_3 C hk0 pr_w121 dX3_repeatsToLastUnit_16 ?_
    refine pr_iconst (v := 1) C dX3_repeatsToLastUnit_19 (by decide) ?_
    refine pr_isub C dX3_repeatsToLastUnit_20 ?_
    obtain ⟨r3, hc2, h⟩ := pr_b1_some h
    refine k_X3_wayOf C pr_w146 hk0 hc2 (Nat.le_of_ble_eq_true rfl) (Nat.le_of_ble_eq_true rfl) (Nat.le_of_ble_eq_true rfl) dX3_repeatsToLastUnit_21 ?_
    refine pr_iadd C dX3_repeatsToLastUnit_24 ?_
    refine pr_iconst (v := 1) C dX3_repeatsToLastUnit_25 (by decide) ?_
    refine pr_iadd C dX3_repeatsToLastUnit_26 ?_
    refine pr_aload_n C dX3_repeatsToLastUnit_27 rfl 0 rfl ?_
    refine pr_g_3_4 C hk0 pr_w122 dX3_repeatsToLastUnit_28 ?_
    refine pr_isub C dX3_repeatsToLastUnit_31 ?_
    refine pr_mmax C pr_w145 pr_w36 pr_w28 pr_w37 (Nat.le_of_ble_eq_true rfl) (Nat.le_of_ble_eq_true rfl) dX3_repeatsToLastUnit_32 ?_
    obtain rfl := pr_in1 h
    exact pr_iret C Z dX3_repeatsToLastUnit_35
  · have h := pr_ifT h c1
    refine pr_iconst (v := 0) C dX3_repeatsToLastUnit_7 (by decide) ?_
    obtain rfl := pr_in1 h
    exact pr_iret C Z dX3_repeatsToLastUnit_8
theorem k_X3_repeatsToLastUnit {l : Launch} {e : pr_E0} {Y : pr_Y} {Rm : Room} {cc : ByteArray} {own : String} {nL : Nat} {c0 : Cond} {pc idx : Nat} {lv : List (Nat × Value)} {st : List Value} {c : Nat} {f : pr_M} {r : Int32} (C : pr_C (pr_EC l e) Y Rm cc own nL c0) (w1 : Cond.methodLink own idx yX3_repeatsToLastUnit ∈ pr_AL) (hk0 : (pr_LE e)[c]? = some (3, 0)) (h : F_X3_repeatsToLastUnit c f = some r) (hr1 : 3 ≤ Rm.frames) (hr2 : 64 ≤ Rm.locals) (hcat : (st.map fun v => v.category).sum ≤ 8) (hdg : decode cc pc = .ok (.invokevirtual idx, 3)) (k : pr_W (pr_EC l e) Y Rm nL f (pc + 3) lv (.int r :: st)) : pr_W (pr_EC l e) Y Rm nL f pc lv (.ref (pr_ad (pr_EC l e) c) :: st) :=
  pr_callV (As := []) (n := 0) C (m_X3_repeatsToLastUnit hk0 h) hk0 (by decide) rfl w1 pr_w315 pr_w316 pr_w137 pr_w144 rfl rfl ⟨rfl, by decide +kernel, by decide +kernel, by decide +kernel⟩ rfl ⟨hr1, hr2⟩ rfl hcat hdg k

def F_X8_splice (c : Nat) (p1 : Int32) (p2 : Int32) (f : pr_M) : Option (Int32 × pr_M) :=
  pr_b1 (F_X8_isDisturbance p1 p2 f) fun r2 =>
  if r2 = 0 then (
    some ((-1000000002), f)
  ) else (
    pr_bd (F_X3_startSplice (c + 1) p1 p2 f) fun u6 f7 =>
    pr_b1 (F_X3_repeatsToLastUnit (c + 1) f7) fun r9 =>
    some (r9, f7)
  )
set_option maxHeartbeats 4000000 in
set_option maxRecDepth 100000 in
theorem m_X8_splice {l : Launch} {e : pr_E0} {c : Nat} {p1 : Int32} {p2 : Int32} {f : pr_M} {r : Int32} {g : pr_M} (hk0 : (pr_LE e)[c]? = some (8, 0)) (h : F_X8_splice c p1 p2 f = some (r, g)) : pr_Met (pr_EC l e) yX8_splice cX8_splice 3 (some .int) { frames := 3, cells := 0, slots := 0, locals := 64 } [.ref (pr_ad (pr_EC l e) c), .int p1, .int p2] f (some (.int r)) g := by
  rw [F_X8_splice] at h
  refine pr_enter (by decide +kernel) (Nat.le_of_ble_eq_true rfl) (fun Y C Z => ?_)
  replace C : pr_C (pr_EC l e) Y { frames := 3, cells := 0, slots := 0, locals := 64 } cX8_splice RX8 3 _ := C
  show pr_W (pr_EC l e) Y _ 3 f 0 [(0, .ref (pr_ad (pr_EC l e) c)), (1, .int p1), (2, .int p2)] []
  refine pr_iload_n C dX8_splice_0 rfl 1 rfl ?_
  refine pr_iload_n C dX8_splice_1 rfl 2 rfl ?_
  obtain ⟨r2, hc1, h⟩ := pr_b1_some h
  refine k_X8_isDisturbance C pr_w305  hc1 (Nat.le_of_ble_eq_true rfl) (Nat.le_of_ble_eq_true rfl) (Nat.le_of_ble_eq_true rfl) dX8_splice_2 ?_
  refine pr_if_ne (tgt := 11) C dX8_splice_5 (by decide) (fun c3 => ?_) (fun c3 => ?_)
  · have h := pr_ifF h c3
    refine pr_aload_n C dX8_splice_11 rfl 0 rfl ?_
    refine pr_g_8_0 C hk0 pr_w255 dX8_splice_12 ?_
    have hk4 := pr_kC_8_0 hk0
    refine pr_iload_n C dX8_splice_15 rfl 1 rfl ?_
    refine pr_iload_n C dX8_splice_16 rfl 2 rfl ?_
    obtain ⟨u6, f7, hc5, h⟩ := pr_bd_some h
    refine k_X3_startSplice C pr_w311 hk4 hc5 (Nat.le_of_ble_eq_true rfl) (Nat.le_of_ble_eq_true rfl) (Nat.le_of_ble_eq_true rfl) dX8_splice_17 ?_
    refine pr_aload_n C dX8_splice_20 rfl 0 rfl ?_
    refine pr_g_8_0 C hk0 pr_w255 dX8_splice_21 ?_
    obtain ⟨r9, hc8, h⟩ := pr_b1_some h
    refine k_X3_repeatsToLastUnit C pr_w314 hk4 hc8 (Nat.le_of_ble_eq_true rfl) (Nat.le_of_ble_eq_true rfl) (Nat.le_of_ble_eq_true rfl) dX8_splice_24 ?_
    obtain ⟨rfl, rfl⟩ := pr_inj h
    exact pr_iret C Z dX8_splice_27
  · have h := pr_ifT h c3
    refine pr_ldc (v := (-1000000002)) C dX8_splice_8 pr_w274 ?_
    obtain ⟨rfl, rfl⟩ := pr_inj h
    exact pr_iret C Z dX8_splice_10
theorem k_X8_splice {l : Launch} {e : pr_E0} {Y : pr_Y} {Rm : Room} {cc : ByteArray} {own : String} {nL : Nat} {c0 : Cond} {pc idx : Nat} {lv : List (Nat × Value)} {st : List Value} {c : Nat} {p1 : Int32} {p2 : Int32} {f : pr_M} {r : Int32} {g : pr_M} (C : pr_C (pr_EC l e) Y Rm cc own nL c0) (w1 : Cond.methodLink own idx yX8_splice ∈ pr_AL) (hk0 : (pr_LE e)[c]? = some (8, 0)) (h : F_X8_splice c p1 p2 f = some (r, g)) (hr1 : 4 ≤ Rm.frames) (hr2 : 86 ≤ Rm.locals) (hcat : (st.map fun v => v.category).sum ≤ 8) (hdg : decode cc pc = .ok (.invokevirtual idx, 3)) (k : pr_W (pr_EC l e) Y Rm nL g (pc + 3) lv (.int r :: st)) : pr_W (pr_EC l e) Y Rm nL f pc lv (.int p2 :: .int p1 :: .ref (pr_ad (pr_EC l e) c) :: st) :=
  pr_callV (As := [.int p1, .int p2]) (n := 2) C (m_X8_splice hk0 h) hk0 (by decide) rfl w1 pr_w410 pr_w411 pr_w17 pr_w317 rfl rfl ⟨rfl, by decide +kernel, by decide +kernel, by decide +kernel⟩ rfl ⟨hr1, hr2⟩ rfl hcat hdg k

def F_X7_beSpliced (c : Nat) (p1 : Int32) (p2 : Int32) (f : pr_M) : Option (Unit × pr_M) :=
  pr_bd (F_X4_beDisturbed (c + 2) p1 p2 f) fun u3 f4 =>
  pr_lt (pr_up f4 (c + 5) 1 0) fun f6 =>
  pr_b1 (F_X7_setting c 1 f6) fun r9 =>
  pr_b1 (F_X7_setting c 9 f6) fun r11 =>
  pr_lt (pr_up f6 (c + 5) 4 (r9 + r11)) fun f12 =>
  some ((), f12)
set_option maxHeartbeats 4000000 in
set_option maxRecDepth 100000 in
theorem m_X7_beSpliced {l : Launch} {e : pr_E0} {c : Nat} {p1 : Int32} {p2 : Int32} {f : pr_M} {r : Unit} {g : pr_M} (hk0 : (pr_LE e)[c]? = some (7, 0)) (h : F_X7_beSpliced c p1 p2 f = some (r, g)) : pr_Met (pr_EC l e) yX7_beSpliced cX7_beSpliced 3 none { frames := 1, cells := 0, slots := 0, locals := 22 } [.ref (pr_ad (pr_EC l e) c), .int p1, .int p2] f none g := by
  rw [F_X7_beSpliced] at h
  refine pr_enter (by decide +kernel) (Nat.le_of_ble_eq_true rfl) (fun Y C Z => ?_)
  replace C : pr_C (pr_EC l e) Y { frames := 1, cells := 0, slots := 0, locals := 22 } cX7_beSpliced RX7 3 _ := C
  show pr_W (pr_EC l e) Y _ 3 f 0 [(0, .ref (pr_ad (pr_EC l e) c)), (1, .int p1), (2, .int p2)] []
  refine pr_aload_n C dX7_beSpliced_0 rfl 0 rfl ?_
  refine pr_g_7_1 C hk0 pr_w65 dX7_beSpliced_1 ?_
  have hk1 := pr_kC_7_1 hk0
  refine pr_iload_n C dX7_beSpliced_4 rfl 1 rfl ?_
  refine pr_iload_n C dX7_beSpliced_5 rfl 2 rfl ?_
  obtain ⟨u3, f4, hc2, h⟩ := pr_bd_some h
  refine k_X4_beDisturbed C pr_w151 hk1 hc2 (Nat.le_of_ble_eq_true rfl) (Nat.le_of_ble_eq_true rfl) (Nat.le_of_ble_eq_true rfl) dX7_beSpliced_6 ?_
  refine pr_aload_n C dX7_beSpliced_9 rfl 0 rfl ?_
  refine pr_g_7_2 C hk0 pr_w69 dX7_beSpliced_10 ?_
  have hk5 := pr_kC_7_2 hk0
  refine pr_iconst (v := 0) C dX7_beSpliced_13 (by decide) ?_
  refine pr_pN_0_1 C hk5 pr_nf6 dX7_beSpliced_14 (fun f6 e7 => ?_)
  have h := pr_lt_at h e7
  refine pr_aload_n C dX7_beSpliced_17 rfl 0 rfl ?_
  refine pr_g_7_2 C hk0 pr_w69 dX7_beSpliced_18 ?_
  refine pr_aload_n C dX7_beSpliced_21 rfl 0 rfl ?_
  refine pr_iconst (v := 1) C dX7_beSpliced_22 (by decide) ?_
  obtain ⟨r9, hc8, h⟩ := pr_b1_some h
  refine k_X7_setting C pr_w154 hk0 hc8 (Nat.le_of_ble_eq_true rfl) (Nat.le_of_ble_eq_true rfl) (Nat.le_of_ble_eq_true rfl) dX7_beSpliced_23 ?_
  refine pr_aload_n C dX7_beSpliced_26 rfl 0 rfl ?_
  refine pr_bipush (v := 9) C dX7_beSpliced_27 (by decide) ?_
  obtain ⟨r11, hc10, h⟩ := pr_b1_some h
  refine k_X7_setting C pr_w154 hk0 hc10 (Nat.le_of_ble_eq_true rfl) (Nat.le_of_ble_eq_true rfl) (Nat.le_of_ble_eq_true rfl) dX7_beSpliced_29 ?_
  refine pr_iadd C dX7_beSpliced_32 ?_
  refine pr_pN_0_4 C hk5 pr_nf12 dX7_beSpliced_33 (fun f12 e13 => ?_)
  have h := pr_lt_at h e13
  obtain ⟨rfl, rfl⟩ := pr_inj h
  exact pr_vret C Z dX7_beSpliced_36
theorem k_X7_beSpliced {l : Launch} {e : pr_E0} {Y : pr_Y} {Rm : Room} {cc : ByteArray} {own : String} {nL : Nat} {c0 : Cond} {pc idx : Nat} {lv : List (Nat × Value)} {st : List Value} {c : Nat} {p1 : Int32} {p2 : Int32} {f : pr_M} {r : Unit} {g : pr_M} (C : pr_C (pr_EC l e) Y Rm cc own nL c0) (w1 : Cond.methodLink own idx yX7_beSpliced ∈ pr_AL) (hk0 : (pr_LE e)[c]? = some (7, 0)) (h : F_X7_beSpliced c p1 p2 f = some (r, g)) (hr1 : 2 ≤ Rm.frames) (hr2 : 44 ≤ Rm.locals) (hcat : (st.map fun v => v.category).sum ≤ 8) (hdg : decode cc pc = .ok (.invokevirtual idx, 3)) (k : pr_W (pr_EC l e) Y Rm nL g (pc + 3) lv (st)) : pr_W (pr_EC l e) Y Rm nL f pc lv (.int p2 :: .int p1 :: .ref (pr_ad (pr_EC l e) c) :: st) :=
  pr_callV (As := [.int p1, .int p2]) (n := 2) C (m_X7_beSpliced hk0 h) hk0 (by decide) rfl w1 pr_w156 pr_w157 pr_w84 pr_w150 rfl rfl ⟨rfl, by decide +kernel, by decide +kernel, by decide +kernel⟩ rfl ⟨hr1, hr2⟩ rfl hcat hdg k

def L_X3_bringSplice_12 (q0 : Nat) : Nat → Int32 → Int32 → pr_M → Option ((Unit) × pr_M)
  | 0, _, _, _ => none
  | n + 1, x1, x2, f =>
    if (f q0 3) ≤ x2 then (
      some ((), f)
    ) else (
      if x2 ≤ 0 then (
        if (f q0 4) = ((f q0 7) + x1) then (
          pr_gd (¬ (x2 < 0 ∨ 5 ≤ Int32.toNatClampNeg x2)) <|
          pr_bd (F_X7_beSpliced ((q0 + 1) + 3 + 9 * Int32.toNatClampNeg x2) (f q0 8) (f q0 9) f) fun u13008 f13009 =>
          L_X3_bringSplice_12 q0 n x1 (x2 + 1) f13009
        ) else (
          L_X3_bringSplice_12 q0 n x1 (x2 + 1) f
        )
      ) else (
        pr_gd (¬ (x2 < 0 ∨ 5 ≤ Int32.toNatClampNeg x2)) <|
        pr_b1 (F_X7_setting ((q0 + 1) + 3 + 9 * Int32.toNatClampNeg x2) 0 f) fun r13014 =>
        if (f q0 4) = ((f q0 7) + (x1 + r13014)) then (
          pr_bd (F_X7_beSpliced ((q0 + 1) + 3 + 9 * Int32.toNatClampNeg x2) (f q0 8) (f q0 9) f) fun u13017 f13018 =>
          L_X3_bringSplice_12 q0 n (x1 + r13014) (x2 + 1) f13018
        ) else (
          L_X3_bringSplice_12 q0 n (x1 + r13014) (x2 + 1) f
        )
      )
    )
set_option maxHeartbeats 4000000 in
set_option maxRecDepth 100000 in
theorem l_X3_bringSplice_12 {l : Launch} {e : pr_E0} {Y : pr_Y} {c0 : Cond} {q0 : Nat} {z : Unit} {g : pr_M} (C : pr_C (pr_EC l e) Y { frames := 2, cells := 0, slots := 0, locals := 44 } cX3_bringSplice RX3 3 c0) (hq0 : (pr_LE e)[q0]? = some (3, 0)) : ∀ (n : Nat) (x1 : Int32) (x2 : Int32) (f : pr_M), L_X3_bringSplice_12 q0 n x1 x2 f = some (z, g) → pr_W (pr_EC l e) Y { frames := 2, cells := 0, slots := 0, locals := 44 } 3 g 73 [] [] → pr_W (pr_EC l e) Y { frames := 2, cells := 0, slots := 0, locals := 44 } 3 f 12 [(0, .ref (pr_ad (pr_EC l e) q0)), (1, .int x1), (2, .int x2)] [] := by
  intro n
  induction n with
  | zero =>
    intro x1 x2 f h
    exact absurd h (by simp [L_X3_bringSplice_12])
  | succ n ih =>
    intro x1 x2 f h K
    rw [L_X3_bringSplice_12] at h
    refine pr_iload_n C dX3_bringSplice_12 rfl 2 rfl ?_
    refine pr_aload_n C dX3_bringSplice_13 rfl 0 rfl ?_
    refine pr_g_3_3 C hq0 pr_w121 dX3_bringSplice_14 ?_
    refine pr_icmp_ge (tgt := 73) C dX3_bringSplice_17 (by decide) (fun c13001 => ?_) (fun c13001 => ?_)
    · have h := pr_ifT h c13001
      obtain ⟨rfl, rfl⟩ := pr_inj h
      exact pr_pick [] rfl K
    · have h := pr_ifF h c13001
      refine pr_iload_n C dX3_bringSplice_20 rfl 2 rfl ?_
      refine pr_if_le (tgt := 37) C dX3_bringSplice_21 (by decide) (fun c13002 => ?_) (fun c13002 => ?_)
      · have h := pr_ifT h c13002
        refine pr_aload_n C dX3_bringSplice_37 rfl 0 rfl ?_
        refine pr_g_3_4 C hq0 pr_w122 dX3_bringSplice_38 ?_
        refine pr_aload_n C dX3_bringSplice_41 rfl 0 rfl ?_
        refine pr_g_3_7 C hq0 pr_w125 dX3_bringSplice_42 ?_
        refine pr_iload_n C dX3_bringSplice_45 rfl 1 rfl ?_
        refine pr_iadd C dX3_bringSplice_46 ?_
        refine pr_icmp_ne (tgt := 67) C dX3_bringSplice_47 (by decide) (fun c13003 => ?_) (fun c13003 => ?_)
        · have h := pr_ifF h c13003
          refine pr_iinc (v := (x2 + 1)) (lv' := [(2, .int (x2 + 1)), (0, .ref (pr_ad (pr_EC l e) q0)), (1, .int x1)]) C dX3_bringSplice_67 2 rfl rfl (by decide) rfl ?_
          refine pr_goto (tgt := 12) C dX3_bringSplice_70 (by decide) ?_
          exact pr_pick [1, 2, 0] rfl (ih _ _ _ h K)
        · have h := pr_ifT h c13003
          refine pr_aload_n C dX3_bringSplice_50 rfl 0 rfl ?_
          refine pr_g_3_0 C hq0 pr_w80 dX3_bringSplice_51 ?_
          have hk13004 := pr_kC_3_0 hq0
          refine pr_iload_n C dX3_bringSplice_54 rfl 2 rfl ?_
          obtain ⟨hg13005, h⟩ := pr_gd_some h
          refine pr_aaload C hk13004 hg13005 dX3_bringSplice_55 ?_
          have hk13006 := pr_kC_u (i := x2) hk13004 hg13005
          refine pr_aload_n C dX3_bringSplice_56 rfl 0 rfl ?_
          refine pr_g_3_8 C hq0 pr_w126 dX3_bringSplice_57 ?_
          refine pr_aload_n C dX3_bringSplice_60 rfl 0 rfl ?_
          refine pr_g_3_9 C hq0 pr_w127 dX3_bringSplice_61 ?_
          obtain ⟨u13008, f13009, hc13007, h⟩ := pr_bd_some h
          refine k_X7_beSpliced C pr_w155 hk13006 hc13007 (Nat.le_of_ble_eq_true rfl) (Nat.le_of_ble_eq_true rfl) (Nat.le_of_ble_eq_true rfl) dX3_bringSplice_64 ?_
          refine pr_iinc (v := (x2 + 1)) (lv' := [(2, .int (x2 + 1)), (0, .ref (pr_ad (pr_EC l e) q0)), (1, .int x1)]) C dX3_bringSplice_67 2 rfl rfl (by decide) rfl ?_
          refine pr_goto (tgt := 12) C dX3_bringSplice_70 (by decide) ?_
          exact pr_pick [1, 2, 0] rfl (ih _ _ _ h K)
      · have h := pr_ifF h c13002
        refine pr_iload_n C dX3_bringSplice_24 rfl 1 rfl ?_
        refine pr_aload_n C dX3_bringSplice_25 rfl 0 rfl ?_
        refine pr_g_3_0 C hq0 pr_w80 dX3_bringSplice_26 ?_
        have hk13010 := pr_kC_3_0 hq0
        refine pr_iload_n C dX3_bringSplice_29 rfl 2 rfl ?_
        obtain ⟨hg13011, h⟩ := pr_gd_some h
        refine pr_aaload C hk13010 hg13011 dX3_bringSplice_30 ?_
        have hk13012 := pr_kC_u (i := x2) hk13010 hg13011
        refine pr_iconst (v := 0) C dX3_bringSplice_31 (by decide) ?_
        obtain ⟨r13014, hc13013, h⟩ := pr_b1_some h
        refine k_X7_setting C pr_w140 hk13012 hc13013 (Nat.le_of_ble_eq_true rfl) (Nat.le_of_ble_eq_true rfl) (Nat.le_of_ble_eq_true rfl) dX3_bringSplice_32 ?_
        refine pr_iadd C dX3_bringSplice_35 ?_
        refine pr_istore_n (lv' := [(1, .int (x1 + r13014)), (0, .ref (pr_ad (pr_EC l e) q0)), (2, .int x2)]) C dX3_bringSplice_36 rfl (by decide) rfl ?_
        refine pr_aload_n C dX3_bringSplice_37 rfl 1 rfl ?_
        refine pr_g_3_4 C hq0 pr_w122 dX3_bringSplice_38 ?_
        refine pr_aload_n C dX3_bringSplice_41 rfl 1 rfl ?_
        refine pr_g_3_7 C hq0 pr_w125 dX3_bringSplice_42 ?_
        refine pr_iload_n C dX3_bringSplice_45 rfl 0 rfl ?_
        refine pr_iadd C dX3_bringSplice_46 ?_
        refine pr_icmp_ne (tgt := 67) C dX3_bringSplice_47 (by decide) (fun c13015 => ?_) (fun c13015 => ?_)
        · have h := pr_ifF h c13015
          refine pr_iinc (v := (x2 + 1)) (lv' := [(2, .int (x2 + 1)), (1, .int (x1 + r13014)), (0, .ref (pr_ad (pr_EC l e) q0))]) C dX3_bringSplice_67 2 rfl rfl (by decide) rfl ?_
          refine pr_goto (tgt := 12) C dX3_bringSplice_70 (by decide) ?_
          exact pr_pick [2, 1, 0] rfl (ih _ _ _ h K)
        · have h := pr_ifT h c13015
          refine pr_aload_n C dX3_bringSplice_50 rfl 1 rfl ?_
          refine pr_g_3_0 C hq0 pr_w80 dX3_bringSplice_51 ?_
          refine pr_iload_n C dX3_bringSplice_54 rfl 2 rfl ?_
          refine pr_aaload C hk13010 hg13011 dX3_bringSplice_55 ?_
          refine pr_aload_n C dX3_bringSplice_56 rfl 1 rfl ?_
          refine pr_g_3_8 C hq0 pr_w126 dX3_bringSplice_57 ?_
          refine pr_aload_n C dX3_bringSplice_60 rfl 1 rfl ?_
          refine pr_g_3_9 C hq0 pr_w127 dX3_bringSplice_61 ?_
          obtain ⟨u13017, f13018, hc13016, h⟩ := pr_bd_some h
          refine k_X7_beSpliced C pr_w155 hk13012 hc13016 (Nat.le_of_ble_eq_true rfl) (Nat.le_of_ble_eq_true rfl) (Nat.le_of_ble_eq_true rfl) dX3_bringSplice_64 ?_
          refine pr_iinc (v := (x2 + 1)) (lv' := [(2, .int (x2 + 1)), (1, .int (x1 + r13014)), (0, .ref (pr_ad (pr_EC l e) q0))]) C dX3_bringSplice_67 2 rfl rfl (by decide) rfl ?_
          refine pr_goto (tgt := 12) C dX3_bringSplice_70 (by decide) ?_
          exact pr_pick [2, 1, 0] rfl (ih _ _ _ h K)
def F_X3_bringSplice (c : Nat) (f : pr_M) : Option (Unit × pr_M) :=
  if (f c 9) = 0 then (
    some ((), f)
  ) else (
    pr_bd (L_X3_bringSplice_12 c pr_fuel 0 0 f) fun v2 f3 =>
    some ((), f3)
  )
set_option maxHeartbeats 4000000 in
set_option maxRecDepth 100000 in
theorem m_X3_bringSplice {l : Launch} {e : pr_E0} {c : Nat} {f : pr_M} {r : Unit} {g : pr_M} (hk0 : (pr_LE e)[c]? = some (3, 0)) (h : F_X3_bringSplice c f = some (r, g)) : pr_Met (pr_EC l e) yX3_bringSplice cX3_bringSplice 3 none { frames := 2, cells := 0, slots := 0, locals := 44 } [.ref (pr_ad (pr_EC l e) c)] f none g := by
  rw [F_X3_bringSplice] at h
  refine pr_enter (by decide +kernel) (Nat.le_of_ble_eq_true rfl) (fun Y C Z => ?_)
  replace C : pr_C (pr_EC l e) Y { frames := 2, cells := 0, slots := 0, locals := 44 } cX3_bringSplice RX3 3 _ := C
  show pr_W (pr_EC l e) Y _ 3 f 0 [(0, .ref (pr_ad (pr_EC l e) c))] []
  refine pr_aload_n C dX3_bringSplice_0 rfl 0 rfl ?_
  refine pr_g_3_9 C hk0 pr_w127 dX3_bringSplice_1 ?_
  refine pr_if_ne (tgt := 8) C dX3_bringSplice_4 (by decide) (fun c1 => ?_) (fun c1 => ?_)
  · have h := pr_ifF h c1
    refine pr_iconst (v := 0) C dX3_bringSplice_8 (by decide) ?_
    refine pr_istore_n (lv' := [(1, .int 0), (0, .ref (pr_ad (pr_EC l e) c))]) C dX3_bringSplice_9 rfl (by decide) rfl ?_
    refine pr_iconst (v := 0) C dX3_bringSplice_10 (by decide) ?_
    refine pr_istore_n (lv' := [(2, .int 0), (1, .int 0), (0, .ref (pr_ad (pr_EC l e) c))]) C dX3_bringSplice_11 rfl (by decide) rfl ?_
    obtain ⟨v2, f3, hv, h⟩ := pr_bd_some h
    refine pr_pick [2, 1, 0] rfl (l_X3_bringSplice_12 C hk0 pr_fuel _ _ _ hv ?_)
    clear hv
    obtain ⟨rfl, rfl⟩ := pr_inj h
    exact pr_vret C Z dX3_bringSplice_73
  · have h := pr_ifT h c1
    obtain ⟨rfl, rfl⟩ := pr_inj h
    exact pr_vret C Z dX3_bringSplice_7
theorem k_X3_bringSplice {l : Launch} {e : pr_E0} {Y : pr_Y} {Rm : Room} {cc : ByteArray} {own : String} {nL : Nat} {c0 : Cond} {pc idx : Nat} {lv : List (Nat × Value)} {st : List Value} {c : Nat} {f : pr_M} {r : Unit} {g : pr_M} (C : pr_C (pr_EC l e) Y Rm cc own nL c0) (w1 : Cond.methodLink own idx yX3_bringSplice ∈ pr_AL) (hk0 : (pr_LE e)[c]? = some (3, 0)) (h : F_X3_bringSplice c f = some (r, g)) (hr1 : 3 ≤ Rm.frames) (hr2 : 66 ≤ Rm.locals) (hcat : (st.map fun v => v.category).sum ≤ 8) (hdg : decode cc pc = .ok (.invokevirtual idx, 3)) (k : pr_W (pr_EC l e) Y Rm nL g (pc + 3) lv (st)) : pr_W (pr_EC l e) Y Rm nL f pc lv (.ref (pr_ad (pr_EC l e) c) :: st) :=
  pr_callV (As := []) (n := 0) C (m_X3_bringSplice hk0 h) hk0 (by decide) rfl w1 pr_w230 pr_w231 pr_w137 pr_w158 rfl rfl ⟨rfl, by decide +kernel, by decide +kernel, by decide +kernel⟩ rfl ⟨hr1, hr2⟩ rfl hcat hdg k

def F_X4_disturbance (c : Nat) (f : pr_M) : Option (Int32) :=
  if (f c 7) ≤ 0 then (
    some 0
  ) else (
    if 0 < (f c 6) then (
      pr_gd (¬ (f c 6) = 0) <|
      some (((f c 5) * (f c 7)) / (f c 6))
    ) else (
      some 0
    )
  )
set_option maxHeartbeats 4000000 in
set_option maxRecDepth 100000 in
theorem m_X4_disturbance {l : Launch} {e : pr_E0} {c : Nat} {f : pr_M} {r : Int32} (hk0 : (pr_LE e)[c]? = some (4, 0)) (h : F_X4_disturbance c f = some r) : pr_Met (pr_EC l e) yX4_disturbance cX4_disturbance 1 (some .int) { frames := 0, cells := 0, slots := 0, locals := 0 } [.ref (pr_ad (pr_EC l e) c)] f (some (.int r)) f := by
  rw [F_X4_disturbance] at h
  refine pr_enter (by decide +kernel) (Nat.le_of_ble_eq_true rfl) (fun Y C Z => ?_)
  replace C : pr_C (pr_EC l e) Y { frames := 0, cells := 0, slots := 0, locals := 0 } cX4_disturbance RX4 1 _ := C
  show pr_W (pr_EC l e) Y _ 1 f 0 [(0, .ref (pr_ad (pr_EC l e) c))] []
  refine pr_aload_n C dX4_disturbance_0 rfl 0 rfl ?_
  refine pr_g_4_7 C hk0 pr_w93 dX4_disturbance_1 ?_
  refine pr_if_le (tgt := 14) C dX4_disturbance_4 (by decide) (fun c1 => ?_) (fun c1 => ?_)
  · have h := pr_ifT h c1
    refine pr_iconst (v := 0) C dX4_disturbance_14 (by decide) ?_
    obtain rfl := pr_in1 h
    exact pr_iret C Z dX4_disturbance_15
  · have h := pr_ifF h c1
    refine pr_aload_n C dX4_disturbance_7 rfl 0 rfl ?_
    refine pr_g_4_6 C hk0 pr_w92 dX4_disturbance_8 ?_
    refine pr_if_gt (tgt := 16) C dX4_disturbance_11 (by decide) (fun c2 => ?_) (fun c2 => ?_)
    · have h := pr_ifT h c2
      refine pr_aload_n C dX4_disturbance_16 rfl 0 rfl ?_
      refine pr_g_4_5 C hk0 pr_w91 dX4_disturbance_17 ?_
      refine pr_aload_n C dX4_disturbance_20 rfl 0 rfl ?_
      refine pr_g_4_7 C hk0 pr_w93 dX4_disturbance_21 ?_
      refine pr_imul C dX4_disturbance_24 ?_
      refine pr_aload_n C dX4_disturbance_25 rfl 0 rfl ?_
      refine pr_g_4_6 C hk0 pr_w92 dX4_disturbance_26 ?_
      obtain ⟨hg3, h⟩ := pr_gd_some h
      refine pr_idiv C dX4_disturbance_29 hg3 ?_
      obtain rfl := pr_in1 h
      exact pr_iret C Z dX4_disturbance_30
    · have h := pr_ifF h c2
      refine pr_iconst (v := 0) C dX4_disturbance_14 (by decide) ?_
      obtain rfl := pr_in1 h
      exact pr_iret C Z dX4_disturbance_15
theorem k_X4_disturbance {l : Launch} {e : pr_E0} {Y : pr_Y} {Rm : Room} {cc : ByteArray} {own : String} {nL : Nat} {c0 : Cond} {pc idx : Nat} {lv : List (Nat × Value)} {st : List Value} {c : Nat} {f : pr_M} {r : Int32} (C : pr_C (pr_EC l e) Y Rm cc own nL c0) (w1 : Cond.methodLink own idx yX4_disturbance ∈ pr_AL) (hk0 : (pr_LE e)[c]? = some (4, 0)) (h : F_X4_disturbance c f = some r) (hr1 : 1 ≤ Rm.frames) (hr2 : 20 ≤ Rm.locals) (hcat : (st.map fun v => v.category).sum ≤ 8) (hdg : decode cc pc = .ok (.invokevirtual idx, 3)) (k : pr_W (pr_EC l e) Y Rm nL f (pc + 3) lv (.int r :: st)) : pr_W (pr_EC l e) Y Rm nL f pc lv (.ref (pr_ad (pr_EC l e) c) :: st) :=
  pr_callV (As := []) (n := 0) C (m_X4_disturbance hk0 h) hk0 (by decide) rfl w1 pr_w162 pr_w163 pr_w64 pr_w159 rfl rfl ⟨rfl, by decide +kernel, by decide +kernel, by decide +kernel⟩ rfl ⟨hr1, hr2⟩ rfl hcat hdg k

def F_X4_printPiece (c : Nat) (p1 : Int32) (p2 : Int32) (f : pr_M) : Option (Unit × pr_M) :=
  pr_b1 (F_X4_disturbance c f) fun r3 =>
  pr_gd (¬ ((p1 &&& 127) < 0 ∨ 128 ≤ Int32.toNatClampNeg (p1 &&& 127))) <|
  pr_lt (pr_up f (c + 1) (Int32.toNatClampNeg (p1 &&& 127)) (((f c 2) + r3) + p2)) fun f5 =>
  pr_lt (pr_up f5 (c + 2) (Int32.toNatClampNeg (p1 &&& 127)) ((f5 c 4) + (f5 c 3))) fun f8 =>
  some ((), f8)
set_option maxHeartbeats 4000000 in
set_option maxRecDepth 100000 in
theorem m_X4_printPiece {l : Launch} {e : pr_E0} {c : Nat} {p1 : Int32} {p2 : Int32} {f : pr_M} {r : Unit} {g : pr_M} (hk0 : (pr_LE e)[c]? = some (4, 0)) (h : F_X4_printPiece c p1 p2 f = some (r, g)) : pr_Met (pr_EC l e) yX4_printPiece cX4_printPiece 3 none { frames := 1, cells := 0, slots := 0, locals := 20 } [.ref (pr_ad (pr_EC l e) c), .int p1, .int p2] f none g := by
  rw [F_X4_printPiece] at h
  refine pr_enter (by decide +kernel) (Nat.le_of_ble_eq_true rfl) (fun Y C Z => ?_)
  replace C : pr_C (pr_EC l e) Y { frames := 1, cells := 0, slots := 0, locals := 20 } cX4_printPiece RX4 3 _ := C
  show pr_W (pr_EC l e) Y _ 3 f 0 [(0, .ref (pr_ad (pr_EC l e) c)), (1, .int p1), (2, .int p2)] []
  refine pr_aload_n C dX4_printPiece_0 rfl 0 rfl ?_
  refine pr_g_4_0 C hk0 pr_w52 dX4_printPiece_1 ?_
  have hk1 := pr_kC_4_0 hk0
  refine pr_iload_n C dX4_printPiece_4 rfl 1 rfl ?_
  refine pr_bipush (v := 127) C dX4_printPiece_5 (by decide) ?_
  refine pr_iand C dX4_printPiece_7 ?_
  refine pr_aload_n C dX4_printPiece_8 rfl 0 rfl ?_
  refine pr_g_4_2 C hk0 pr_w88 dX4_printPiece_9 ?_
  refine pr_aload_n C dX4_printPiece_12 rfl 0 rfl ?_
  obtain ⟨r3, hc2, h⟩ := pr_b1_some h
  refine k_X4_disturbance C pr_w161 hk0 hc2 (Nat.le_of_ble_eq_true rfl) (Nat.le_of_ble_eq_true rfl) (Nat.le_of_ble_eq_true rfl) dX4_printPiece_13 ?_
  refine pr_iadd C dX4_printPiece_16 ?_
  refine pr_iload_n C dX4_printPiece_17 rfl 2 rfl ?_
  refine pr_iadd C dX4_printPiece_18 ?_
  obtain ⟨hg4, h⟩ := pr_gd_some h
  refine pr_iastore C hk1 hg4 dX4_printPiece_19 (fun f5 e6 => ?_)
  have h := pr_lt_at h e6
  refine pr_aload_n C dX4_printPiece_20 rfl 0 rfl ?_
  refine pr_g_4_1 C hk0 pr_w53 dX4_printPiece_21 ?_
  have hk7 := pr_kC_4_1 hk0
  refine pr_iload_n C dX4_printPiece_24 rfl 1 rfl ?_
  refine pr_bipush (v := 127) C dX4_printPiece_25 (by decide) ?_
  refine pr_iand C dX4_printPiece_27 ?_
  refine pr_aload_n C dX4_printPiece_28 rfl 0 rfl ?_
  refine pr_g_4_4 C hk0 pr_w90 dX4_printPiece_29 ?_
  refine pr_aload_n C dX4_printPiece_32 rfl 0 rfl ?_
  refine pr_g_4_3 C hk0 pr_w89 dX4_printPiece_33 ?_
  refine pr_iadd C dX4_printPiece_36 ?_
  refine pr_iastore C hk7 hg4 dX4_printPiece_37 (fun f8 e9 => ?_)
  have h := pr_lt_at h e9
  obtain ⟨rfl, rfl⟩ := pr_inj h
  exact pr_vret C Z dX4_printPiece_38
theorem k_X4_printPiece {l : Launch} {e : pr_E0} {Y : pr_Y} {Rm : Room} {cc : ByteArray} {own : String} {nL : Nat} {c0 : Cond} {pc idx : Nat} {lv : List (Nat × Value)} {st : List Value} {c : Nat} {p1 : Int32} {p2 : Int32} {f : pr_M} {r : Unit} {g : pr_M} (C : pr_C (pr_EC l e) Y Rm cc own nL c0) (w1 : Cond.methodLink own idx yX4_printPiece ∈ pr_AL) (hk0 : (pr_LE e)[c]? = some (4, 0)) (h : F_X4_printPiece c p1 p2 f = some (r, g)) (hr1 : 2 ≤ Rm.frames) (hr2 : 42 ≤ Rm.locals) (hcat : (st.map fun v => v.category).sum ≤ 8) (hdg : decode cc pc = .ok (.invokevirtual idx, 3)) (k : pr_W (pr_EC l e) Y Rm nL g (pc + 3) lv (st)) : pr_W (pr_EC l e) Y Rm nL f pc lv (.int p2 :: .int p1 :: .ref (pr_ad (pr_EC l e) c) :: st) :=
  pr_callV (As := [.int p1, .int p2]) (n := 2) C (m_X4_printPiece hk0 h) hk0 (by decide) rfl w1 pr_w165 pr_w166 pr_w64 pr_w160 rfl rfl ⟨rfl, by decide +kernel, by decide +kernel, by decide +kernel⟩ rfl ⟨hr1, hr2⟩ rfl hcat hdg k

def F_X7_printPiece (c : Nat) (p1 : Int32) (p2 : Int32) (f : pr_M) : Option (Unit × pr_M) :=
  pr_b1 (F_X7_setting c 10 f) fun r3 =>
  pr_bd (F_X4_printPiece (c + 2) p1 (((r3 - (f (c + 5) 0)) * p2) / 100) f) fun u6 f7 =>
  some ((), f7)
set_option maxHeartbeats 4000000 in
set_option maxRecDepth 100000 in
theorem m_X7_printPiece {l : Launch} {e : pr_E0} {c : Nat} {p1 : Int32} {p2 : Int32} {f : pr_M} {r : Unit} {g : pr_M} (hk0 : (pr_LE e)[c]? = some (7, 0)) (h : F_X7_printPiece c p1 p2 f = some (r, g)) : pr_Met (pr_EC l e) yX7_printPiece cX7_printPiece 3 none { frames := 2, cells := 0, slots := 0, locals := 42 } [.ref (pr_ad (pr_EC l e) c), .int p1, .int p2] f none g := by
  rw [F_X7_printPiece] at h
  refine pr_enter (by decide +kernel) (Nat.le_of_ble_eq_true rfl) (fun Y C Z => ?_)
  replace C : pr_C (pr_EC l e) Y { frames := 2, cells := 0, slots := 0, locals := 42 } cX7_printPiece RX7 3 _ := C
  show pr_W (pr_EC l e) Y _ 3 f 0 [(0, .ref (pr_ad (pr_EC l e) c)), (1, .int p1), (2, .int p2)] []
  refine pr_aload_n C dX7_printPiece_0 rfl 0 rfl ?_
  refine pr_g_7_1 C hk0 pr_w65 dX7_printPiece_1 ?_
  have hk1 := pr_kC_7_1 hk0
  refine pr_iload_n C dX7_printPiece_4 rfl 1 rfl ?_
  refine pr_aload_n C dX7_printPiece_5 rfl 0 rfl ?_
  refine pr_bipush (v := 10) C dX7_printPiece_6 (by decide) ?_
  obtain ⟨r3, hc2, h⟩ := pr_b1_some h
  refine k_X7_setting C pr_w154 hk0 hc2 (Nat.le_of_ble_eq_true rfl) (Nat.le_of_ble_eq_true rfl) (Nat.le_of_ble_eq_true rfl) dX7_printPiece_8 ?_
  refine pr_aload_n C dX7_printPiece_11 rfl 0 rfl ?_
  refine pr_g_7_2 C hk0 pr_w69 dX7_printPiece_12 ?_
  have hk4 := pr_kC_7_2 hk0
  refine pr_gN_0_0 C hk4 pr_nf4 dX7_printPiece_15 ?_
  refine pr_isub C dX7_printPiece_18 ?_
  refine pr_iload_n C dX7_printPiece_19 rfl 2 rfl ?_
  refine pr_imul C dX7_printPiece_20 ?_
  refine pr_bipush (v := 100) C dX7_printPiece_21 (by decide) ?_
  refine pr_idiv C dX7_printPiece_23 (by decide) ?_
  obtain ⟨u6, f7, hc5, h⟩ := pr_bd_some h
  refine k_X4_printPiece C pr_w164 hk1 hc5 (Nat.le_of_ble_eq_true rfl) (Nat.le_of_ble_eq_true rfl) (Nat.le_of_ble_eq_true rfl) dX7_printPiece_24 ?_
  obtain ⟨rfl, rfl⟩ := pr_inj h
  exact pr_vret C Z dX7_printPiece_27
theorem k_X7_printPiece {l : Launch} {e : pr_E0} {Y : pr_Y} {Rm : Room} {cc : ByteArray} {own : String} {nL : Nat} {c0 : Cond} {pc idx : Nat} {lv : List (Nat × Value)} {st : List Value} {c : Nat} {p1 : Int32} {p2 : Int32} {f : pr_M} {r : Unit} {g : pr_M} (C : pr_C (pr_EC l e) Y Rm cc own nL c0) (w1 : Cond.methodLink own idx yX7_printPiece ∈ pr_AL) (hk0 : (pr_LE e)[c]? = some (7, 0)) (h : F_X7_printPiece c p1 p2 f = some (r, g)) (hr1 : 3 ≤ Rm.frames) (hr2 : 64 ≤ Rm.locals) (hcat : (st.map fun v => v.category).sum ≤ 8) (hdg : decode cc pc = .ok (.invokevirtual idx, 3)) (k : pr_W (pr_EC l e) Y Rm nL g (pc + 3) lv (st)) : pr_W (pr_EC l e) Y Rm nL f pc lv (.int p2 :: .int p1 :: .ref (pr_ad (pr_EC l e) c) :: st) :=
  pr_callV (As := [.int p1, .int p2]) (n := 2) C (m_X7_printPiece hk0 h) hk0 (by decide) rfl w1 pr_w233 pr_w234 pr_w84 pr_w167 rfl rfl ⟨rfl, by decide +kernel, by decide +kernel, by decide +kernel⟩ rfl ⟨hr1, hr2⟩ rfl hcat hdg k

def F_X4_offsetAt (c : Nat) (p1 : Int32) (f : pr_M) : Option (Int32) :=
  pr_gd (¬ ((p1 &&& 127) < 0 ∨ 128 ≤ Int32.toNatClampNeg (p1 &&& 127))) <|
  some (f (c + 1) (Int32.toNatClampNeg (p1 &&& 127)))
set_option maxHeartbeats 4000000 in
set_option maxRecDepth 100000 in
theorem m_X4_offsetAt {l : Launch} {e : pr_E0} {c : Nat} {p1 : Int32} {f : pr_M} {r : Int32} (hk0 : (pr_LE e)[c]? = some (4, 0)) (h : F_X4_offsetAt c p1 f = some r) : pr_Met (pr_EC l e) yX4_offsetAt cX4_offsetAt 2 (some .int) { frames := 0, cells := 0, slots := 0, locals := 0 } [.ref (pr_ad (pr_EC l e) c), .int p1] f (some (.int r)) f := by
  rw [F_X4_offsetAt] at h
  refine pr_enter (by decide +kernel) (Nat.le_of_ble_eq_true rfl) (fun Y C Z => ?_)
  replace C : pr_C (pr_EC l e) Y { frames := 0, cells := 0, slots := 0, locals := 0 } cX4_offsetAt RX4 2 _ := C
  show pr_W (pr_EC l e) Y _ 2 f 0 [(0, .ref (pr_ad (pr_EC l e) c)), (1, .int p1)] []
  refine pr_aload_n C dX4_offsetAt_0 rfl 0 rfl ?_
  refine pr_g_4_0 C hk0 pr_w52 dX4_offsetAt_1 ?_
  have hk1 := pr_kC_4_0 hk0
  refine pr_iload_n C dX4_offsetAt_4 rfl 1 rfl ?_
  refine pr_bipush (v := 127) C dX4_offsetAt_5 (by decide) ?_
  refine pr_iand C dX4_offsetAt_7 ?_
  obtain ⟨hg2, h⟩ := pr_gd_some h
  refine pr_iaload C hk1 hg2 dX4_offsetAt_8 ?_
  obtain rfl := pr_in1 h
  exact pr_iret C Z dX4_offsetAt_9
theorem k_X4_offsetAt {l : Launch} {e : pr_E0} {Y : pr_Y} {Rm : Room} {cc : ByteArray} {own : String} {nL : Nat} {c0 : Cond} {pc idx : Nat} {lv : List (Nat × Value)} {st : List Value} {c : Nat} {p1 : Int32} {f : pr_M} {r : Int32} (C : pr_C (pr_EC l e) Y Rm cc own nL c0) (w1 : Cond.methodLink own idx yX4_offsetAt ∈ pr_AL) (hk0 : (pr_LE e)[c]? = some (4, 0)) (h : F_X4_offsetAt c p1 f = some r) (hr1 : 1 ≤ Rm.frames) (hr2 : 21 ≤ Rm.locals) (hcat : (st.map fun v => v.category).sum ≤ 8) (hdg : decode cc pc = .ok (.invokevirtual idx, 3)) (k : pr_W (pr_EC l e) Y Rm nL f (pc + 3) lv (.int r :: st)) : pr_W (pr_EC l e) Y Rm nL f pc lv (.int p1 :: .ref (pr_ad (pr_EC l e) c) :: st) :=
  pr_callV (As := [.int p1]) (n := 1) C (m_X4_offsetAt hk0 h) hk0 (by decide) rfl w1 pr_w210 pr_w211 pr_w64 pr_w168 rfl rfl ⟨rfl, by decide +kernel, by decide +kernel, by decide +kernel⟩ rfl ⟨hr1, hr2⟩ rfl hcat hdg k

def F_X4_skewAt (c : Nat) (p1 : Int32) (f : pr_M) : Option (Int32) :=
  pr_gd (¬ ((p1 &&& 127) < 0 ∨ 128 ≤ Int32.toNatClampNeg (p1 &&& 127))) <|
  some (f (c + 2) (Int32.toNatClampNeg (p1 &&& 127)))
set_option maxHeartbeats 4000000 in
set_option maxRecDepth 100000 in
theorem m_X4_skewAt {l : Launch} {e : pr_E0} {c : Nat} {p1 : Int32} {f : pr_M} {r : Int32} (hk0 : (pr_LE e)[c]? = some (4, 0)) (h : F_X4_skewAt c p1 f = some r) : pr_Met (pr_EC l e) yX4_skewAt cX4_skewAt 2 (some .int) { frames := 0, cells := 0, slots := 0, locals := 0 } [.ref (pr_ad (pr_EC l e) c), .int p1] f (some (.int r)) f := by
  rw [F_X4_skewAt] at h
  refine pr_enter (by decide +kernel) (Nat.le_of_ble_eq_true rfl) (fun Y C Z => ?_)
  replace C : pr_C (pr_EC l e) Y { frames := 0, cells := 0, slots := 0, locals := 0 } cX4_skewAt RX4 2 _ := C
  show pr_W (pr_EC l e) Y _ 2 f 0 [(0, .ref (pr_ad (pr_EC l e) c)), (1, .int p1)] []
  refine pr_aload_n C dX4_skewAt_0 rfl 0 rfl ?_
  refine pr_g_4_1 C hk0 pr_w53 dX4_skewAt_1 ?_
  have hk1 := pr_kC_4_1 hk0
  refine pr_iload_n C dX4_skewAt_4 rfl 1 rfl ?_
  refine pr_bipush (v := 127) C dX4_skewAt_5 (by decide) ?_
  refine pr_iand C dX4_skewAt_7 ?_
  obtain ⟨hg2, h⟩ := pr_gd_some h
  refine pr_iaload C hk1 hg2 dX4_skewAt_8 ?_
  obtain rfl := pr_in1 h
  exact pr_iret C Z dX4_skewAt_9
theorem k_X4_skewAt {l : Launch} {e : pr_E0} {Y : pr_Y} {Rm : Room} {cc : ByteArray} {own : String} {nL : Nat} {c0 : Cond} {pc idx : Nat} {lv : List (Nat × Value)} {st : List Value} {c : Nat} {p1 : Int32} {f : pr_M} {r : Int32} (C : pr_C (pr_EC l e) Y Rm cc own nL c0) (w1 : Cond.methodLink own idx yX4_skewAt ∈ pr_AL) (hk0 : (pr_LE e)[c]? = some (4, 0)) (h : F_X4_skewAt c p1 f = some r) (hr1 : 1 ≤ Rm.frames) (hr2 : 21 ≤ Rm.locals) (hcat : (st.map fun v => v.category).sum ≤ 8) (hdg : decode cc pc = .ok (.invokevirtual idx, 3)) (k : pr_W (pr_EC l e) Y Rm nL f (pc + 3) lv (.int r :: st)) : pr_W (pr_EC l e) Y Rm nL f pc lv (.int p1 :: .ref (pr_ad (pr_EC l e) c) :: st) :=
  pr_callV (As := [.int p1]) (n := 1) C (m_X4_skewAt hk0 h) hk0 (by decide) rfl w1 pr_w213 pr_w214 pr_w64 pr_w169 rfl rfl ⟨rfl, by decide +kernel, by decide +kernel, by decide +kernel⟩ rfl ⟨hr1, hr2⟩ rfl hcat hdg k

def F_X1_add (c : Nat) (p1 : Int32) (f : pr_M) : Option (Unit × pr_M) :=
  pr_gd (¬ (((f c 1) &&& 63) < 0 ∨ 64 ≤ Int32.toNatClampNeg ((f c 1) &&& 63))) <|
  pr_lt (pr_up f (c + 1) (Int32.toNatClampNeg ((f c 1) &&& 63)) p1) fun f3 =>
  pr_lt (pr_up f3 c 1 ((f3 c 1) + 1)) fun f5 =>
  some ((), f5)
set_option maxHeartbeats 4000000 in
set_option maxRecDepth 100000 in
theorem m_X1_add {l : Launch} {e : pr_E0} {c : Nat} {p1 : Int32} {f : pr_M} {r : Unit} {g : pr_M} (hk0 : (pr_LE e)[c]? = some (1, 0)) (h : F_X1_add c p1 f = some (r, g)) : pr_Met (pr_EC l e) yX1_add cX1_add 2 none { frames := 0, cells := 0, slots := 0, locals := 0 } [.ref (pr_ad (pr_EC l e) c), .int p1] f none g := by
  rw [F_X1_add] at h
  refine pr_enter (by decide +kernel) (Nat.le_of_ble_eq_true rfl) (fun Y C Z => ?_)
  replace C : pr_C (pr_EC l e) Y { frames := 0, cells := 0, slots := 0, locals := 0 } cX1_add RX1 2 _ := C
  show pr_W (pr_EC l e) Y _ 2 f 0 [(0, .ref (pr_ad (pr_EC l e) c)), (1, .int p1)] []
  refine pr_aload_n C dX1_add_0 rfl 0 rfl ?_
  refine pr_g_1_0 C hk0 pr_w21 dX1_add_1 ?_
  have hk1 := pr_kC_1_0 hk0
  refine pr_aload_n C dX1_add_4 rfl 0 rfl ?_
  refine pr_g_1_1 C hk0 pr_w23 dX1_add_5 ?_
  refine pr_bipush (v := 63) C dX1_add_8 (by decide) ?_
  refine pr_iand C dX1_add_10 ?_
  refine pr_iload_n C dX1_add_11 rfl 1 rfl ?_
  obtain ⟨hg2, h⟩ := pr_gd_some h
  refine pr_iastore C hk1 hg2 dX1_add_12 (fun f3 e4 => ?_)
  have h := pr_lt_at h e4
  refine pr_aload_n C dX1_add_13 rfl 0 rfl ?_
  refine pr_dup C dX1_add_14 rfl ?_
  refine pr_g_1_1 C hk0 pr_w23 dX1_add_15 ?_
  refine pr_iconst (v := 1) C dX1_add_18 (by decide) ?_
  refine pr_iadd C dX1_add_19 ?_
  refine pr_p_1_1 C hk0 pr_w23 dX1_add_20 (fun f5 e6 => ?_)
  have h := pr_lt_at h e6
  obtain ⟨rfl, rfl⟩ := pr_inj h
  exact pr_vret C Z dX1_add_23
theorem k_X1_add {l : Launch} {e : pr_E0} {Y : pr_Y} {Rm : Room} {cc : ByteArray} {own : String} {nL : Nat} {c0 : Cond} {pc idx : Nat} {lv : List (Nat × Value)} {st : List Value} {c : Nat} {p1 : Int32} {f : pr_M} {r : Unit} {g : pr_M} (C : pr_C (pr_EC l e) Y Rm cc own nL c0) (w1 : Cond.methodLink own idx yX1_add ∈ pr_AL) (hk0 : (pr_LE e)[c]? = some (1, 0)) (h : F_X1_add c p1 f = some (r, g)) (hr1 : 1 ≤ Rm.frames) (hr2 : 21 ≤ Rm.locals) (hcat : (st.map fun v => v.category).sum ≤ 8) (hdg : decode cc pc = .ok (.invokevirtual idx, 3)) (k : pr_W (pr_EC l e) Y Rm nL g (pc + 3) lv (st)) : pr_W (pr_EC l e) Y Rm nL f pc lv (.int p1 :: .ref (pr_ad (pr_EC l e) c) :: st) :=
  pr_callV (As := [.int p1]) (n := 1) C (m_X1_add hk0 h) hk0 (by decide) rfl w1 pr_w172 pr_w173 pr_w41 pr_w24 rfl rfl ⟨rfl, by decide +kernel, by decide +kernel, by decide +kernel⟩ rfl ⟨hr1, hr2⟩ rfl hcat hdg k

def F_X5_seePiece (c : Nat) (p1 : Int32) (p2 : Int32) (f : pr_M) : Option (Unit × pr_M) :=
  pr_lt (pr_up f c 4 1) fun f1 =>
  pr_lt (pr_up f1 c 7 0) fun f3 =>
  pr_lt (pr_up f3 c 5 p1) fun f5 =>
  pr_lt (pr_up f5 c 6 p2) fun f7 =>
  pr_bd (F_X1_add (c + 1) p1 f7) fun u11 f12 =>
  some ((), f12)
set_option maxHeartbeats 4000000 in
set_option maxRecDepth 100000 in
theorem m_X5_seePiece {l : Launch} {e : pr_E0} {c : Nat} {p1 : Int32} {p2 : Int32} {f : pr_M} {r : Unit} {g : pr_M} (hk0 : (pr_LE e)[c]? = some (5, 0)) (h : F_X5_seePiece c p1 p2 f = some (r, g)) : pr_Met (pr_EC l e) yX5_seePiece cX5_seePiece 3 none { frames := 1, cells := 0, slots := 0, locals := 21 } [.ref (pr_ad (pr_EC l e) c), .int p1, .int p2] f none g := by
  rw [F_X5_seePiece] at h
  refine pr_enter (by decide +kernel) (Nat.le_of_ble_eq_true rfl) (fun Y C Z => ?_)
  replace C : pr_C (pr_EC l e) Y { frames := 1, cells := 0, slots := 0, locals := 21 } cX5_seePiece RX5 3 _ := C
  show pr_W (pr_EC l e) Y _ 3 f 0 [(0, .ref (pr_ad (pr_EC l e) c)), (1, .int p1), (2, .int p2)] []
  refine pr_aload_n C dX5_seePiece_0 rfl 0 rfl ?_
  refine pr_iconst (v := 1) C dX5_seePiece_1 (by decide) ?_
  refine pr_p_5_4 C hk0 pr_w95 (by decide) dX5_seePiece_2 (fun f1 e2 => ?_)
  have h := pr_lt_at h e2
  refine pr_aload_n C dX5_seePiece_5 rfl 0 rfl ?_
  refine pr_iconst (v := 0) C dX5_seePiece_6 (by decide) ?_
  refine pr_p_5_7 C hk0 pr_w96 dX5_seePiece_7 (fun f3 e4 => ?_)
  have h := pr_lt_at h e4
  refine pr_aload_n C dX5_seePiece_10 rfl 0 rfl ?_
  refine pr_iload_n C dX5_seePiece_11 rfl 1 rfl ?_
  refine pr_p_5_5 C hk0 pr_w101 dX5_seePiece_12 (fun f5 e6 => ?_)
  have h := pr_lt_at h e6
  refine pr_aload_n C dX5_seePiece_15 rfl 0 rfl ?_
  refine pr_iload_n C dX5_seePiece_16 rfl 2 rfl ?_
  refine pr_p_5_6 C hk0 pr_w102 dX5_seePiece_17 (fun f7 e8 => ?_)
  have h := pr_lt_at h e8
  refine pr_aload_n C dX5_seePiece_20 rfl 0 rfl ?_
  refine pr_g_5_0 C hk0 pr_w58 dX5_seePiece_21 ?_
  have hk9 := pr_kC_5_0 hk0
  refine pr_iload_n C dX5_seePiece_24 rfl 1 rfl ?_
  obtain ⟨u11, f12, hc10, h⟩ := pr_bd_some h
  refine k_X1_add C pr_w171 hk9 hc10 (Nat.le_of_ble_eq_true rfl) (Nat.le_of_ble_eq_true rfl) (Nat.le_of_ble_eq_true rfl) dX5_seePiece_25 ?_
  obtain ⟨rfl, rfl⟩ := pr_inj h
  exact pr_vret C Z dX5_seePiece_28
theorem k_X5_seePiece {l : Launch} {e : pr_E0} {Y : pr_Y} {Rm : Room} {cc : ByteArray} {own : String} {nL : Nat} {c0 : Cond} {pc idx : Nat} {lv : List (Nat × Value)} {st : List Value} {c : Nat} {p1 : Int32} {p2 : Int32} {f : pr_M} {r : Unit} {g : pr_M} (C : pr_C (pr_EC l e) Y Rm cc own nL c0) (w1 : Cond.methodLink own idx yX5_seePiece ∈ pr_AL) (hk0 : (pr_LE e)[c]? = some (5, 0)) (h : F_X5_seePiece c p1 p2 f = some (r, g)) (hr1 : 2 ≤ Rm.frames) (hr2 : 43 ≤ Rm.locals) (hcat : (st.map fun v => v.category).sum ≤ 8) (hdg : decode cc pc = .ok (.invokevirtual idx, 3)) (k : pr_W (pr_EC l e) Y Rm nL g (pc + 3) lv (st)) : pr_W (pr_EC l e) Y Rm nL f pc lv (.int p2 :: .int p1 :: .ref (pr_ad (pr_EC l e) c) :: st) :=
  pr_callV (As := [.int p1, .int p2]) (n := 2) C (m_X5_seePiece hk0 h) hk0 (by decide) rfl w1 pr_w216 pr_w217 pr_w72 pr_w170 rfl rfl ⟨rfl, by decide +kernel, by decide +kernel, by decide +kernel⟩ rfl ⟨hr1, hr2⟩ rfl hcat hdg k

def F_X7_window (c : Nat) (f : pr_M) : Option (Int32) :=
  pr_b1 (F_X7_setting c 3 f) fun r3 =>
  pr_b1 (α := Int32) (
    if r3 ≤ (f (c + 5) 3) then (
      some 1
    ) else (
      if (f (c + 5) 4) ≤ 0 then (
        some 0
      ) else (
        some 1
      )
    )
  ) fun v4 =>
  if v4 = 0 then (
    pr_b1 (F_X7_setting c 2 f) fun r9 =>
    some r9
  ) else (
    pr_b1 (F_X7_setting c 2 f) fun r11 =>
    some (4 * r11)
  )
set_option maxHeartbeats 4000000 in
set_option maxRecDepth 100000 in
theorem m_X7_window {l : Launch} {e : pr_E0} {c : Nat} {f : pr_M} {r : Int32} (hk0 : (pr_LE e)[c]? = some (7, 0)) (h : F_X7_window c f = some r) : pr_Met (pr_EC l e) yX7_window cX7_window 2 (some .int) { frames := 1, cells := 0, slots := 0, locals := 21 } [.ref (pr_ad (pr_EC l e) c)] f (some (.int r)) f := by
  rw [F_X7_window] at h
  refine pr_enter (by decide +kernel) (Nat.le_of_ble_eq_true rfl) (fun Y C Z => ?_)
  replace C : pr_C (pr_EC l e) Y { frames := 1, cells := 0, slots := 0, locals := 21 } cX7_window RX7 2 _ := C
  show pr_W (pr_EC l e) Y _ 2 f 0 [(0, .ref (pr_ad (pr_EC l e) c))] []
  refine pr_aload_n C dX7_window_0 rfl 0 rfl ?_
  refine pr_g_7_2 C hk0 pr_w69 dX7_window_1 ?_
  have hk1 := pr_kC_7_2 hk0
  refine pr_gN_0_3 C hk1 pr_nf10 dX7_window_4 ?_
  refine pr_aload_n C dX7_window_7 rfl 0 rfl ?_
  refine pr_iconst (v := 3) C dX7_window_8 (by decide) ?_
  obtain ⟨r3, hc2, h⟩ := pr_b1_some h
  refine k_X7_setting C pr_w154 hk0 hc2 (Nat.le_of_ble_eq_true rfl) (Nat.le_of_ble_eq_true rfl) (Nat.le_of_ble_eq_true rfl) dX7_window_9 ?_
  obtain ⟨v4, hv, h⟩ := pr_b1_some h
  have K : pr_W (pr_EC l e) Y { frames := 1, cells := 0, slots := 0, locals := 21 } 2 f 30 [(0, .ref (pr_ad (pr_EC l e) c))] [.int v4] := by
    refine pr_istore_n (lv' := [(1, .int v4), (0, .ref (pr_ad (pr_EC l e) c))]) C dX7_window_30 rfl (by decide) rfl ?_
    refine pr_iload_n C dX7_window_31 rfl 0 rfl ?_
    refine pr_if_eq (tgt := 45) C dX7_window_32 (by decide) (fun c7 => ?_) (fun c7 => ?_)
    · have h := pr_ifT h c7
      refine pr_aload_n C dX7_window_45 rfl 1 rfl ?_
      refine pr_iconst (v := 2) C dX7_window_46 (by decide) ?_
      obtain ⟨r9, hc8, h⟩ := pr_b1_some h
      refine k_X7_setting C pr_w154 hk0 hc8 (Nat.le_of_ble_eq_true rfl) (Nat.le_of_ble_eq_true rfl) (Nat.le_of_ble_eq_true rfl) dX7_window_47 ?_
      obtain rfl := pr_in1 h
      exact pr_iret C Z dX7_window_50
    · have h := pr_ifF h c7
      refine pr_iconst (v := 4) C dX7_window_35 (by decide) ?_
      refine pr_aload_n C dX7_window_36 rfl 1 rfl ?_
      refine pr_iconst (v := 2) C dX7_window_37 (by decide) ?_
      obtain ⟨r11, hc10, h⟩ := pr_b1_some h
      refine k_X7_setting C pr_w154 hk0 hc10 (Nat.le_of_ble_eq_true rfl) (Nat.le_of_ble_eq_true rfl) (Nat.le_of_ble_eq_true rfl) dX7_window_38 ?_
      refine pr_imul C dX7_window_41 ?_
      refine pr_goto (tgt := 50) C dX7_window_42 (by decide) ?_
      obtain rfl := pr_in1 h
      exact pr_iret C Z dX7_window_50
  clear h
  have h := hv
  clear hv
  refine pr_icmp_ge (tgt := 25) C dX7_window_12 (by decide) (fun c5 => ?_) (fun c5 => ?_)
  · have h := pr_ifT h c5
    refine pr_iconst (v := 1) C dX7_window_25 (by decide) ?_
    refine pr_goto (tgt := 30) C dX7_window_26 (by decide) ?_
    obtain rfl := pr_in1 h
    exact pr_pick [0] rfl K
  · have h := pr_ifF h c5
    refine pr_aload_n C dX7_window_15 rfl 0 rfl ?_
    refine pr_g_7_2 C hk0 pr_w69 dX7_window_16 ?_
    refine pr_gN_0_4 C hk1 pr_nf12 dX7_window_19 ?_
    refine pr_if_le (tgt := 29) C dX7_window_22 (by decide) (fun c6 => ?_) (fun c6 => ?_)
    · have h := pr_ifT h c6
      refine pr_iconst (v := 0) C dX7_window_29 (by decide) ?_
      obtain rfl := pr_in1 h
      exact pr_pick [0] rfl K
    · have h := pr_ifF h c6
      refine pr_iconst (v := 1) C dX7_window_25 (by decide) ?_
      refine pr_goto (tgt := 30) C dX7_window_26 (by decide) ?_
      obtain rfl := pr_in1 h
      exact pr_pick [0] rfl K
theorem k_X7_window {l : Launch} {e : pr_E0} {Y : pr_Y} {Rm : Room} {cc : ByteArray} {own : String} {nL : Nat} {c0 : Cond} {pc idx : Nat} {lv : List (Nat × Value)} {st : List Value} {c : Nat} {f : pr_M} {r : Int32} (C : pr_C (pr_EC l e) Y Rm cc own nL c0) (w1 : Cond.methodLink own idx yX7_window ∈ pr_AL) (hk0 : (pr_LE e)[c]? = some (7, 0)) (h : F_X7_window c f = some r) (hr1 : 2 ≤ Rm.frames) (hr2 : 42 ≤ Rm.locals) (hcat : (st.map fun v => v.category).sum ≤ 8) (hdg : decode cc pc = .ok (.invokevirtual idx, 3)) (k : pr_W (pr_EC l e) Y Rm nL f (pc + 3) lv (.int r :: st)) : pr_W (pr_EC l e) Y Rm nL f pc lv (.ref (pr_ad (pr_EC l e) c) :: st) :=
  pr_callV (As := []) (n := 0) C (m_X7_window hk0 h) hk0 (by decide) rfl w1 pr_w178 pr_w179 pr_w84 pr_w174 rfl rfl ⟨rfl, by decide +kernel, by decide +kernel, by decide +kernel⟩ rfl ⟨hr1, hr2⟩ rfl hcat hdg k

def F_X5_recognizeNear (c : Nat) (p1 : Int32) (p2 : Int32) (p3 : Int32) (f : pr_M) : Option (Unit × pr_M) :=
  pr_b1 (α := Int32) (
    if (f c 1) = 0 then (
      if p3 < (if 0 ≤ ((f c 5) - p1) then ((f c 5) - p1) else 0 - ((f c 5) - p1)) then (
        some 0
      ) else (
        some 1
      )
    ) else (
      some 0
    )
  ) fun v1 =>
  pr_b1 (α := Int32) (
    if (f c 3) ≤ 0 then (
      some 0
    ) else (
      if p3 < (if 0 ≤ ((f c 2) - p1) then ((f c 2) - p1) else 0 - ((f c 2) - p1)) then (
        some 0
      ) else (
        some 1
      )
    )
  ) fun v4 =>
  if v1 = 0 then (
    if v4 = 0 then (
      some ((), f)
    ) else (
      pr_lt (pr_up f c 7 2) fun f9 =>
      pr_lt (pr_up f9 c 8 (f9 c 2)) fun f11 =>
      pr_lt (pr_up f11 c 9 p2) fun f13 =>
      some ((), f13)
    )
  ) else (
    if v4 = 0 then (
      pr_lt (pr_up f c 7 1) fun f16 =>
      pr_lt (pr_up f16 c 8 (f16 c 5)) fun f18 =>
      pr_lt (pr_up f18 c 9 (f18 c 6)) fun f20 =>
      some ((), f20)
    ) else (
      if (if 0 ≤ ((f c 2) - p1) then ((f c 2) - p1) else 0 - ((f c 2) - p1)) < (if 0 ≤ ((f c 5) - p1) then ((f c 5) - p1) else 0 - ((f c 5) - p1)) then (
        pr_lt (pr_up f c 7 2) fun f24 =>
        pr_lt (pr_up f24 c 8 (f24 c 2)) fun f26 =>
        pr_lt (pr_up f26 c 9 p2) fun f28 =>
        some ((), f28)
      ) else (
        pr_lt (pr_up f c 7 1) fun f30 =>
        pr_lt (pr_up f30 c 8 (f30 c 5)) fun f32 =>
        pr_lt (pr_up f32 c 9 (f32 c 6)) fun f34 =>
        some ((), f34)
      )
    )
  )
set_option maxHeartbeats 4000000 in
set_option maxRecDepth 100000 in
theorem m_X5_recognizeNear {l : Launch} {e : pr_E0} {c : Nat} {p1 : Int32} {p2 : Int32} {p3 : Int32} {f : pr_M} {r : Unit} {g : pr_M} (hk0 : (pr_LE e)[c]? = some (5, 0)) (h : F_X5_recognizeNear c p1 p2 p3 f = some (r, g)) : pr_Met (pr_EC l e) yX5_recognizeNear cX5_recognizeNear 8 none { frames := 1, cells := 0, slots := 0, locals := 21 } [.ref (pr_ad (pr_EC l e) c), .int p1, .int p2, .int p3] f none g := by
  rw [F_X5_recognizeNear] at h
  refine pr_enter (by decide +kernel) (Nat.le_of_ble_eq_true rfl) (fun Y C Z => ?_)
  replace C : pr_C (pr_EC l e) Y { frames := 1, cells := 0, slots := 0, locals := 21 } cX5_recognizeNear RX5 8 _ := C
  show pr_W (pr_EC l e) Y _ 8 f 0 [(0, .ref (pr_ad (pr_EC l e) c)), (1, .int p1), (2, .int p2), (3, .int p3)] []
  refine pr_aload_n C dX5_recognizeNear_0 rfl 0 rfl ?_
  refine pr_g_5_5 C hk0 pr_w101 dX5_recognizeNear_1 ?_
  refine pr_iload_n C dX5_recognizeNear_4 rfl 1 rfl ?_
  refine pr_isub C dX5_recognizeNear_5 ?_
  refine pr_mabs C pr_w176 pr_w32 pr_w28 pr_w33 (Nat.le_of_ble_eq_true rfl) (Nat.le_of_ble_eq_true rfl) dX5_recognizeNear_6 ?_
  refine pr_istore (lv' := [(4, .int (if 0 ≤ ((f c 5) - p1) then ((f c 5) - p1) else 0 - ((f c 5) - p1))), (0, .ref (pr_ad (pr_EC l e) c)), (1, .int p1), (2, .int p2), (3, .int p3)]) C dX5_recognizeNear_9 (by decide) rfl ?_
  refine pr_aload_n C dX5_recognizeNear_11 rfl 1 rfl ?_
  refine pr_g_5_2 C hk0 pr_w99 dX5_recognizeNear_12 ?_
  refine pr_iload_n C dX5_recognizeNear_15 rfl 2 rfl ?_
  refine pr_isub C dX5_recognizeNear_16 ?_
  refine pr_mabs C pr_w176 pr_w32 pr_w28 pr_w33 (Nat.le_of_ble_eq_true rfl) (Nat.le_of_ble_eq_true rfl) dX5_recognizeNear_17 ?_
  refine pr_istore (lv' := [(5, .int (if 0 ≤ ((f c 2) - p1) then ((f c 2) - p1) else 0 - ((f c 2) - p1))), (4, .int (if 0 ≤ ((f c 5) - p1) then ((f c 5) - p1) else 0 - ((f c 5) - p1))), (0, .ref (pr_ad (pr_EC l e) c)), (1, .int p1), (2, .int p2), (3, .int p3)]) C dX5_recognizeNear_20 (by decide) rfl ?_
  refine pr_aload_n C dX5_recognizeNear_22 rfl 2 rfl ?_
  refine pr_g_5_1 C hk0 pr_w98 dX5_recognizeNear_23 ?_
  obtain ⟨v1, hv, h⟩ := pr_b1_some h
  have K : pr_W (pr_EC l e) Y { frames := 1, cells := 0, slots := 0, locals := 21 } 8 f 40 [(0, .ref (pr_ad (pr_EC l e) c)), (2, .int p2), (3, .int p3), (4, .int (if 0 ≤ ((f c 5) - p1) then ((f c 5) - p1) else 0 - ((f c 5) - p1))), (5, .int (if 0 ≤ ((f c 2) - p1) then ((f c 2) - p1) else 0 - ((f c 2) - p1)))] [.int v1] := by
    refine pr_istore (lv' := [(6, .int v1), (0, .ref (pr_ad (pr_EC l e) c)), (2, .int p2), (3, .int p3), (4, .int (if 0 ≤ ((f c 5) - p1) then ((f c 5) - p1) else 0 - ((f c 5) - p1))), (5, .int (if 0 ≤ ((f c 2) - p1) then ((f c 2) - p1) else 0 - ((f c 2) - p1)))]) C dX5_recognizeNear_40 (by decide) rfl ?_
    refine pr_aload_n C dX5_recognizeNear_42 rfl 1 rfl ?_
    refine pr_g_5_3 C hk0 pr_w100 dX5_recognizeNear_43 ?_
    obtain ⟨v4, hv, h⟩ := pr_b1_some h
    have K : pr_W (pr_EC l e) Y { frames := 1, cells := 0, slots := 0, locals := 21 } 8 f 60 [(0, .ref (pr_ad (pr_EC l e) c)), (2, .int p2), (4, .int (if 0 ≤ ((f c 5) - p1) then ((f c 5) - p1) else 0 - ((f c 5) - p1))), (5, .int (if 0 ≤ ((f c 2) - p1) then ((f c 2) - p1) else 0 - ((f c 2) - p1))), (6, .int v1)] [.int v4] := by
      refine pr_istore (lv' := [(7, .int v4), (0, .ref (pr_ad (pr_EC l e) c)), (2, .int p2), (4, .int (if 0 ≤ ((f c 5) - p1) then ((f c 5) - p1) else 0 - ((f c 5) - p1))), (5, .int (if 0 ≤ ((f c 2) - p1) then ((f c 2) - p1) else 0 - ((f c 2) - p1))), (6, .int v1)]) C dX5_recognizeNear_60 (by decide) rfl ?_
      refine pr_iload C dX5_recognizeNear_62 5 rfl ?_
      refine pr_if_eq (tgt := 103) C dX5_recognizeNear_64 (by decide) (fun c7 => ?_) (fun c7 => ?_)
      · have h := pr_ifT h c7
        refine pr_iload C dX5_recognizeNear_103 0 rfl ?_
        refine pr_if_eq (tgt := 126) C dX5_recognizeNear_105 (by decide) (fun c8 => ?_) (fun c8 => ?_)
        · have h := pr_ifT h c8
          obtain ⟨rfl, rfl⟩ := pr_inj h
          exact pr_vret C Z dX5_recognizeNear_126
        · have h := pr_ifF h c8
          refine pr_aload_n C dX5_recognizeNear_108 rfl 1 rfl ?_
          refine pr_iconst (v := 2) C dX5_recognizeNear_109 (by decide) ?_
          refine pr_p_5_7 C hk0 pr_w96 dX5_recognizeNear_110 (fun f9 e10 => ?_)
          have h := pr_lt_at h e10
          refine pr_aload_n C dX5_recognizeNear_113 rfl 1 rfl ?_
          refine pr_aload_n C dX5_recognizeNear_114 rfl 1 rfl ?_
          refine pr_g_5_2 C hk0 pr_w99 dX5_recognizeNear_115 ?_
          refine pr_p_5_8 C hk0 pr_w103 dX5_recognizeNear_118 (fun f11 e12 => ?_)
          have h := pr_lt_at h e12
          refine pr_aload_n C dX5_recognizeNear_121 rfl 1 rfl ?_
          refine pr_iload_n C dX5_recognizeNear_122 rfl 2 rfl ?_
          refine pr_p_5_9 C hk0 pr_w104 dX5_recognizeNear_123 (fun f13 e14 => ?_)
          have h := pr_lt_at h e14
          obtain ⟨rfl, rfl⟩ := pr_inj h
          exact pr_vret C Z dX5_recognizeNear_126
      · have h := pr_ifF h c7
        refine pr_iload C dX5_recognizeNear_67 0 rfl ?_
        refine pr_if_eq (tgt := 79) C dX5_recognizeNear_69 (by decide) (fun c15 => ?_) (fun c15 => ?_)
        · have h := pr_ifT h c15
          refine pr_aload_n C dX5_recognizeNear_79 rfl 1 rfl ?_
          refine pr_iconst (v := 1) C dX5_recognizeNear_80 (by decide) ?_
          refine pr_p_5_7 C hk0 pr_w96 dX5_recognizeNear_81 (fun f16 e17 => ?_)
          have h := pr_lt_at h e17
          refine pr_aload_n C dX5_recognizeNear_84 rfl 1 rfl ?_
          refine pr_aload_n C dX5_recognizeNear_85 rfl 1 rfl ?_
          refine pr_g_5_5 C hk0 pr_w101 dX5_recognizeNear_86 ?_
          refine pr_p_5_8 C hk0 pr_w103 dX5_recognizeNear_89 (fun f18 e19 => ?_)
          have h := pr_lt_at h e19
          refine pr_aload_n C dX5_recognizeNear_92 rfl 1 rfl ?_
          refine pr_aload_n C dX5_recognizeNear_93 rfl 1 rfl ?_
          refine pr_g_5_6 C hk0 pr_w102 dX5_recognizeNear_94 ?_
          refine pr_p_5_9 C hk0 pr_w104 dX5_recognizeNear_97 (fun f20 e21 => ?_)
          have h := pr_lt_at h e21
          refine pr_goto (tgt := 126) C dX5_recognizeNear_100 (by decide) ?_
          obtain ⟨rfl, rfl⟩ := pr_inj h
          exact pr_vret C Z dX5_recognizeNear_126
        · have h := pr_ifF h c15
          refine pr_iload C dX5_recognizeNear_72 3 rfl ?_
          refine pr_iload C dX5_recognizeNear_74 4 rfl ?_
          refine pr_icmp_gt (tgt := 103) C dX5_recognizeNear_76 (by decide) (fun c22 => ?_) (fun c22 => ?_)
          · have h := pr_ifT h c22
            refine pr_iload C dX5_recognizeNear_103 0 rfl ?_
            refine pr_if_eq (tgt := 126) C dX5_recognizeNear_105 (by decide) (fun c23 => absurd c23 c15) (fun _ => ?_)
            refine pr_aload_n C dX5_recognizeNear_108 rfl 1 rfl ?_
            refine pr_iconst (v := 2) C dX5_recognizeNear_109 (by decide) ?_
            refine pr_p_5_7 C hk0 pr_w96 dX5_recognizeNear_110 (fun f24 e25 => ?_)
            have h := pr_lt_at h e25
            refine pr_aload_n C dX5_recognizeNear_113 rfl 1 rfl ?_
            refine pr_aload_n C dX5_recognizeNear_114 rfl 1 rfl ?_
            refine pr_g_5_2 C hk0 pr_w99 dX5_recognizeNear_115 ?_
            refine pr_p_5_8 C hk0 pr_w103 dX5_recognizeNear_118 (fun f26 e27 => ?_)
            have h := pr_lt_at h e27
            refine pr_aload_n C dX5_recognizeNear_121 rfl 1 rfl ?_
            refine pr_iload_n C dX5_recognizeNear_122 rfl 2 rfl ?_
            refine pr_p_5_9 C hk0 pr_w104 dX5_recognizeNear_123 (fun f28 e29 => ?_)
            have h := pr_lt_at h e29
            obtain ⟨rfl, rfl⟩ := pr_inj h
            exact pr_vret C Z dX5_recognizeNear_126
          · have h := pr_ifF h c22
            refine pr_aload_n C dX5_recognizeNear_79 rfl 1 rfl ?_
            refine pr_iconst (v := 1) C dX5_recognizeNear_80 (by decide) ?_
            refine pr_p_5_7 C hk0 pr_w96 dX5_recognizeNear_81 (fun f30 e31 => ?_)
            have h := pr_lt_at h e31
            refine pr_aload_n C dX5_recognizeNear_84 rfl 1 rfl ?_
            refine pr_aload_n C dX5_recognizeNear_85 rfl 1 rfl ?_
            refine pr_g_5_5 C hk0 pr_w101 dX5_recognizeNear_86 ?_
            refine pr_p_5_8 C hk0 pr_w103 dX5_recognizeNear_89 (fun f32 e33 => ?_)
            have h := pr_lt_at h e33
            refine pr_aload_n C dX5_recognizeNear_92 rfl 1 rfl ?_
            refine pr_aload_n C dX5_recognizeNear_93 rfl 1 rfl ?_
            refine pr_g_5_6 C hk0 pr_w102 dX5_recognizeNear_94 ?_
            refine pr_p_5_9 C hk0 pr_w104 dX5_recognizeNear_97 (fun f34 e35 => ?_)
            have h := pr_lt_at h e35
            refine pr_goto (tgt := 126) C dX5_recognizeNear_100 (by decide) ?_
            obtain ⟨rfl, rfl⟩ := pr_inj h
            exact pr_vret C Z dX5_recognizeNear_126
    clear h
    have h := hv
    clear hv
    refine pr_if_le (tgt := 59) C dX5_recognizeNear_46 (by decide) (fun c5 => ?_) (fun c5 => ?_)
    · have h := pr_ifT h c5
      refine pr_iconst (v := 0) C dX5_recognizeNear_59 (by decide) ?_
      obtain rfl := pr_in1 h
      exact pr_pick [1, 2, 4, 5, 0] rfl K
    · have h := pr_ifF h c5
      refine pr_iload C dX5_recognizeNear_49 5 rfl ?_
      refine pr_iload_n C dX5_recognizeNear_51 rfl 3 rfl ?_
      refine pr_icmp_gt (tgt := 59) C dX5_recognizeNear_52 (by decide) (fun c6 => ?_) (fun c6 => ?_)
      · have h := pr_ifT h c6
        refine pr_iconst (v := 0) C dX5_recognizeNear_59 (by decide) ?_
        obtain rfl := pr_in1 h
        exact pr_pick [1, 2, 4, 5, 0] rfl K
      · have h := pr_ifF h c6
        refine pr_iconst (v := 1) C dX5_recognizeNear_55 (by decide) ?_
        refine pr_goto (tgt := 60) C dX5_recognizeNear_56 (by decide) ?_
        obtain rfl := pr_in1 h
        exact pr_pick [1, 2, 4, 5, 0] rfl K
  clear h
  have h := hv
  clear hv
  refine pr_if_ne (tgt := 39) C dX5_recognizeNear_26 (by decide) (fun c2 => ?_) (fun c2 => ?_)
  · have h := pr_ifF h c2
    refine pr_iconst (v := 0) C dX5_recognizeNear_39 (by decide) ?_
    obtain rfl := pr_in1 h
    exact pr_pick [2, 4, 5, 1, 0] rfl K
  · have h := pr_ifT h c2
    refine pr_iload C dX5_recognizeNear_29 1 rfl ?_
    refine pr_iload_n C dX5_recognizeNear_31 rfl 5 rfl ?_
    refine pr_icmp_gt (tgt := 39) C dX5_recognizeNear_32 (by decide) (fun c3 => ?_) (fun c3 => ?_)
    · have h := pr_ifT h c3
      refine pr_iconst (v := 0) C dX5_recognizeNear_39 (by decide) ?_
      obtain rfl := pr_in1 h
      exact pr_pick [2, 4, 5, 1, 0] rfl K
    · have h := pr_ifF h c3
      refine pr_iconst (v := 1) C dX5_recognizeNear_35 (by decide) ?_
      refine pr_goto (tgt := 40) C dX5_recognizeNear_36 (by decide) ?_
      obtain rfl := pr_in1 h
      exact pr_pick [2, 4, 5, 1, 0] rfl K
theorem k_X5_recognizeNear {l : Launch} {e : pr_E0} {Y : pr_Y} {Rm : Room} {cc : ByteArray} {own : String} {nL : Nat} {c0 : Cond} {pc idx : Nat} {lv : List (Nat × Value)} {st : List Value} {c : Nat} {p1 : Int32} {p2 : Int32} {p3 : Int32} {f : pr_M} {r : Unit} {g : pr_M} (C : pr_C (pr_EC l e) Y Rm cc own nL c0) (w1 : Cond.methodLink own idx yX5_recognizeNear ∈ pr_AL) (hk0 : (pr_LE e)[c]? = some (5, 0)) (h : F_X5_recognizeNear c p1 p2 p3 f = some (r, g)) (hr1 : 2 ≤ Rm.frames) (hr2 : 48 ≤ Rm.locals) (hcat : (st.map fun v => v.category).sum ≤ 8) (hdg : decode cc pc = .ok (.invokevirtual idx, 3)) (k : pr_W (pr_EC l e) Y Rm nL g (pc + 3) lv (st)) : pr_W (pr_EC l e) Y Rm nL f pc lv (.int p3 :: .int p2 :: .int p1 :: .ref (pr_ad (pr_EC l e) c) :: st) :=
  pr_callV (As := [.int p1, .int p2, .int p3]) (n := 3) C (m_X5_recognizeNear hk0 h) hk0 (by decide) rfl w1 pr_w181 pr_w182 pr_w72 pr_w175 rfl rfl ⟨rfl, by decide +kernel, by decide +kernel, by decide +kernel⟩ rfl ⟨hr1, hr2⟩ rfl hcat hdg k

def F_X7_recognizeMark (c : Nat) (f : pr_M) : Option (Int32 × pr_M) :=
  pr_b1 (F_X7_window c f) fun r4 =>
  pr_bd (F_X5_recognizeNear (c + 6) (f (c + 5) 5) (f (c + 5) 6) r4 f) fun u6 f7 =>
  pr_b1 (α := Int32) (
    if (f7 (c + 6) 7) = 0 then (
      some 0
    ) else (
      some 1
    )
  ) fun v8 =>
  pr_b1 (α := Int32) (
    if v8 = 0 then (
      some ((f7 (c + 5) 3) + 1)
    ) else (
      some 0
    )
  ) fun v10 =>
  pr_lt (pr_up f7 (c + 5) 3 v10) fun f12 =>
  pr_gd (v8 = 0 ∨ v8 = 1) <|
  some (v8, f12)
set_option maxHeartbeats 4000000 in
set_option maxRecDepth 100000 in
theorem m_X7_recognizeMark {l : Launch} {e : pr_E0} {c : Nat} {f : pr_M} {r : Int32} {g : pr_M} (hk0 : (pr_LE e)[c]? = some (7, 0)) (h : F_X7_recognizeMark c f = some (r, g)) : pr_Met (pr_EC l e) yX7_recognizeMark cX7_recognizeMark 2 (some .boolean) { frames := 2, cells := 0, slots := 0, locals := 48 } [.ref (pr_ad (pr_EC l e) c)] f (some (.int r)) g := by
  rw [F_X7_recognizeMark] at h
  refine pr_enter (by decide +kernel) (Nat.le_of_ble_eq_true rfl) (fun Y C Z => ?_)
  replace C : pr_C (pr_EC l e) Y { frames := 2, cells := 0, slots := 0, locals := 48 } cX7_recognizeMark RX7 2 _ := C
  show pr_W (pr_EC l e) Y _ 2 f 0 [(0, .ref (pr_ad (pr_EC l e) c))] []
  refine pr_aload_n C dX7_recognizeMark_0 rfl 0 rfl ?_
  refine pr_g_7_3 C hk0 pr_w73 dX7_recognizeMark_1 ?_
  have hk1 := pr_kC_7_3 hk0
  refine pr_aload_n C dX7_recognizeMark_4 rfl 0 rfl ?_
  refine pr_g_7_2 C hk0 pr_w69 dX7_recognizeMark_5 ?_
  have hk2 := pr_kC_7_2 hk0
  refine pr_gN_0_5 C hk2 pr_nf14 dX7_recognizeMark_8 ?_
  refine pr_aload_n C dX7_recognizeMark_11 rfl 0 rfl ?_
  refine pr_g_7_2 C hk0 pr_w69 dX7_recognizeMark_12 ?_
  refine pr_gN_0_6 C hk2 pr_nf16 dX7_recognizeMark_15 ?_
  refine pr_aload_n C dX7_recognizeMark_18 rfl 0 rfl ?_
  obtain ⟨r4, hc3, h⟩ := pr_b1_some h
  refine k_X7_window C pr_w177 hk0 hc3 (Nat.le_of_ble_eq_true rfl) (Nat.le_of_ble_eq_true rfl) (Nat.le_of_ble_eq_true rfl) dX7_recognizeMark_19 ?_
  obtain ⟨u6, f7, hc5, h⟩ := pr_bd_some h
  refine k_X5_recognizeNear C pr_w180 hk1 hc5 (Nat.le_of_ble_eq_true rfl) (Nat.le_of_ble_eq_true rfl) (Nat.le_of_ble_eq_true rfl) dX7_recognizeMark_22 ?_
  refine pr_aload_n C dX7_recognizeMark_25 rfl 0 rfl ?_
  refine pr_g_7_3 C hk0 pr_w73 dX7_recognizeMark_26 ?_
  refine pr_gN_5_7 C hk1 pr_nf27 dX7_recognizeMark_29 ?_
  obtain ⟨v8, hv, h⟩ := pr_b1_some h
  have K : pr_W (pr_EC l e) Y { frames := 2, cells := 0, slots := 0, locals := 48 } 2 f7 40 [(0, .ref (pr_ad (pr_EC l e) c))] [.int v8] := by
    refine pr_istore_n (lv' := [(1, .int v8), (0, .ref (pr_ad (pr_EC l e) c))]) C dX7_recognizeMark_40 rfl (by decide) rfl ?_
    refine pr_aload_n C dX7_recognizeMark_41 rfl 1 rfl ?_
    refine pr_g_7_2 C hk0 pr_w69 dX7_recognizeMark_42 ?_
    refine pr_iload_n C dX7_recognizeMark_45 rfl 0 rfl ?_
    obtain ⟨v10, hv, h⟩ := pr_b1_some h
    have K : pr_W (pr_EC l e) Y { frames := 2, cells := 0, slots := 0, locals := 48 } 2 f7 62 [(1, .int v8)] [.int v10, .ref (pr_ad (pr_EC l e) (c + 5))] := by
      refine pr_pN_0_3 C hk2 pr_nf10 dX7_recognizeMark_62 (fun f12 e13 => ?_)
      have h := pr_lt_at h e13
      refine pr_iload_n C dX7_recognizeMark_65 rfl 0 rfl ?_
      obtain ⟨hg14, h⟩ := pr_gd_some h
      obtain ⟨rfl, rfl⟩ := pr_inj h
      exact pr_zret C (pr_b01 hg14).1 Z dX7_recognizeMark_66
    clear h
    have h := hv
    clear hv
    refine pr_if_eq (tgt := 53) C dX7_recognizeMark_46 (by decide) (fun c11 => ?_) (fun c11 => ?_)
    · have h := pr_ifT h c11
      refine pr_aload_n C dX7_recognizeMark_53 rfl 1 rfl ?_
      refine pr_g_7_2 C hk0 pr_w69 dX7_recognizeMark_54 ?_
      refine pr_gN_0_3 C hk2 pr_nf10 dX7_recognizeMark_57 ?_
      refine pr_iconst (v := 1) C dX7_recognizeMark_60 (by decide) ?_
      refine pr_iadd C dX7_recognizeMark_61 ?_
      obtain rfl := pr_in1 h
      exact pr_pick [0] rfl K
    · have h := pr_ifF h c11
      refine pr_iconst (v := 0) C dX7_recognizeMark_49 (by decide) ?_
      refine pr_goto (tgt := 62) C dX7_recognizeMark_50 (by decide) ?_
      obtain rfl := pr_in1 h
      exact pr_pick [0] rfl K
  clear h
  have h := hv
  clear hv
  refine pr_if_eq (tgt := 39) C dX7_recognizeMark_32 (by decide) (fun c9 => ?_) (fun c9 => ?_)
  · have h := pr_ifT h c9
    refine pr_iconst (v := 0) C dX7_recognizeMark_39 (by decide) ?_
    obtain rfl := pr_in1 h
    exact pr_pick [0] rfl K
  · have h := pr_ifF h c9
    refine pr_iconst (v := 1) C dX7_recognizeMark_35 (by decide) ?_
    refine pr_goto (tgt := 40) C dX7_recognizeMark_36 (by decide) ?_
    obtain rfl := pr_in1 h
    exact pr_pick [0] rfl K
theorem k_X7_recognizeMark {l : Launch} {e : pr_E0} {Y : pr_Y} {Rm : Room} {cc : ByteArray} {own : String} {nL : Nat} {c0 : Cond} {pc idx : Nat} {lv : List (Nat × Value)} {st : List Value} {c : Nat} {f : pr_M} {r : Int32} {g : pr_M} (C : pr_C (pr_EC l e) Y Rm cc own nL c0) (w1 : Cond.methodLink own idx yX7_recognizeMark ∈ pr_AL) (hk0 : (pr_LE e)[c]? = some (7, 0)) (h : F_X7_recognizeMark c f = some (r, g)) (hr1 : 3 ≤ Rm.frames) (hr2 : 69 ≤ Rm.locals) (hcat : (st.map fun v => v.category).sum ≤ 8) (hdg : decode cc pc = .ok (.invokevirtual idx, 3)) (k : pr_W (pr_EC l e) Y Rm nL g (pc + 3) lv (.int r :: st)) : pr_W (pr_EC l e) Y Rm nL f pc lv (.ref (pr_ad (pr_EC l e) c) :: st) :=
  pr_callV (As := []) (n := 0) C (m_X7_recognizeMark hk0 h) hk0 (by decide) rfl w1 pr_w219 pr_w220 pr_w84 pr_w183 rfl rfl ⟨rfl, by decide +kernel, by decide +kernel, by decide +kernel⟩ rfl ⟨hr1, hr2⟩ rfl hcat hdg k

def F_X8_limited (p1 : Int32) (p2 : Int32) (f : pr_M) : Option (Int32) :=
  if p1 ≤ p2 then (
    if (-p2) ≤ p1 then (
      some p1
    ) else (
      some (-p2)
    )
  ) else (
    some p2
  )
set_option maxHeartbeats 4000000 in
set_option maxRecDepth 100000 in
theorem m_X8_limited {l : Launch} {e : pr_E0} {p1 : Int32} {p2 : Int32} {f : pr_M} {r : Int32}  (h : F_X8_limited p1 p2 f = some r) : pr_Met (pr_EC l e) yX8_limited cX8_limited 2 (some .int) { frames := 0, cells := 0, slots := 0, locals := 0 } [.int p1, .int p2] f (some (.int r)) f := by
  rw [F_X8_limited] at h
  refine pr_enter (by decide +kernel) (Nat.le_of_ble_eq_true rfl) (fun Y C Z => ?_)
  replace C : pr_C (pr_EC l e) Y { frames := 0, cells := 0, slots := 0, locals := 0 } cX8_limited RX8 2 _ := C
  show pr_W (pr_EC l e) Y _ 2 f 0 [(0, .int p1), (1, .int p2)] []
  refine pr_iload_n C dX8_limited_0 rfl 0 rfl ?_
  refine pr_iload_n C dX8_limited_1 rfl 1 rfl ?_
  refine pr_icmp_le (tgt := 7) C dX8_limited_2 (by decide) (fun c1 => ?_) (fun c1 => ?_)
  · have h := pr_ifT h c1
    refine pr_iload_n C dX8_limited_7 rfl 0 rfl ?_
    refine pr_iload_n C dX8_limited_8 rfl 1 rfl ?_
    refine pr_ineg C dX8_limited_9 ?_
    refine pr_icmp_ge (tgt := 18) C dX8_limited_10 (by decide) (fun c2 => ?_) (fun c2 => ?_)
    · have h := pr_ifT h c2
      refine pr_iload_n C dX8_limited_18 rfl 0 rfl ?_
      obtain rfl := pr_in1 h
      exact pr_iret C Z dX8_limited_19
    · have h := pr_ifF h c2
      refine pr_iload_n C dX8_limited_13 rfl 1 rfl ?_
      refine pr_ineg C dX8_limited_14 ?_
      refine pr_goto (tgt := 19) C dX8_limited_15 (by decide) ?_
      obtain rfl := pr_in1 h
      exact pr_iret C Z dX8_limited_19
  · have h := pr_ifF h c1
    refine pr_iload_n C dX8_limited_5 rfl 1 rfl ?_
    obtain rfl := pr_in1 h
    exact pr_iret C Z dX8_limited_6
theorem k_X8_limitedN {l : Launch} {e : pr_E0} {Y : pr_Y} {Rm : Room} {cc : ByteArray} {own : String} {nL : Nat} {c0 : Cond} {pc idx : Nat} {lv : List (Nat × Value)} {st : List Value} {p1 : Int32} {p2 : Int32} {f : pr_M} {r : Int32} (C : pr_C (pr_EC l e) Y Rm cc own nL c0) (w1 : Cond.methodLinkNest own idx yX8_limited "PrintRegister" ∈ pr_NW)  (h : F_X8_limited p1 p2 f = some r) (hr1 : 1 ≤ Rm.frames) (hr2 : 21 ≤ Rm.locals) (hcat : (st.map fun v => v.category).sum ≤ 8) (hdg : decode cc pc = .ok (.invokestatic idx, 3)) (k : pr_W (pr_EC l e) Y Rm nL f (pc + 3) lv (.int r :: st)) : pr_W (pr_EC l e) Y Rm nL f pc lv (.int p2 :: .int p1 :: st) :=
  pr_callSN (As := [.int p1, .int p2]) (n := 2) C (m_X8_limited  h) w1 pr_w187 pr_w17 pr_w184 rfl rfl ⟨by decide +kernel, by decide +kernel, by decide +kernel⟩ rfl ⟨hr1, hr2⟩ rfl hcat hdg k

def F_X7_learnFrom (c : Nat) (p1 : Int32) (f : pr_M) : Option (Int32 × pr_M) :=
  if (if 0 ≤ p1 then p1 else 0 - p1) < 10 then (
    some (0, f)
  ) else (
    if p1 = 0 then (
      some (0, f)
    ) else (
      pr_b1 (F_X7_setting c 8 f) fun r4 =>
      if 0 < r4 then (
        pr_b1 (F_X7_setting c 8 f) fun r9 =>
        pr_b1 (F_X8_limited ((f (c + 5) 0) + ((((((f (c + 6) 8) - (f (c + 5) 5)) * 100) / p1) * r9) / 256)) 500 f) fun r11 =>
        pr_lt (pr_up f (c + 5) 0 r11) fun f12 =>
        some (1, f12)
      ) else (
        some (0, f)
      )
    )
  )
set_option maxHeartbeats 4000000 in
set_option maxRecDepth 100000 in
theorem m_X7_learnFrom {l : Launch} {e : pr_E0} {c : Nat} {p1 : Int32} {f : pr_M} {r : Int32} {g : pr_M} (hk0 : (pr_LE e)[c]? = some (7, 0)) (h : F_X7_learnFrom c p1 f = some (r, g)) : pr_Met (pr_EC l e) yX7_learnFrom cX7_learnFrom 4 (some .boolean) { frames := 1, cells := 0, slots := 0, locals := 21 } [.ref (pr_ad (pr_EC l e) c), .int p1] f (some (.int r)) g := by
  rw [F_X7_learnFrom] at h
  refine pr_enter (by decide +kernel) (Nat.le_of_ble_eq_true rfl) (fun Y C Z => ?_)
  replace C : pr_C (pr_EC l e) Y { frames := 1, cells := 0, slots := 0, locals := 21 } cX7_learnFrom RX7 4 _ := C
  show pr_W (pr_EC l e) Y _ 4 f 0 [(0, .ref (pr_ad (pr_EC l e) c)), (1, .int p1)] []
  refine pr_iload_n C dX7_learnFrom_0 rfl 1 rfl ?_
  refine pr_mabs C pr_w186 pr_w32 pr_w28 pr_w33 (Nat.le_of_ble_eq_true rfl) (Nat.le_of_ble_eq_true rfl) dX7_learnFrom_1 ?_
  refine pr_bipush (v := 10) C dX7_learnFrom_4 (by decide) ?_
  refine pr_icmp_lt (tgt := 22) C dX7_learnFrom_6 (by decide) (fun c1 => ?_) (fun c1 => ?_)
  · have h := pr_ifT h c1
    refine pr_iconst (v := 0) C dX7_learnFrom_22 (by decide) ?_
    obtain ⟨rfl, rfl⟩ := pr_inj h
    exact pr_zret C (by decide) Z dX7_learnFrom_23
  · have h := pr_ifF h c1
    refine pr_iload_n C dX7_learnFrom_9 rfl 1 rfl ?_
    refine pr_if_eq (tgt := 22) C dX7_learnFrom_10 (by decide) (fun c2 => ?_) (fun c2 => ?_)
    · have h := pr_ifT h c2
      refine pr_iconst (v := 0) C dX7_learnFrom_22 (by decide) ?_
      obtain ⟨rfl, rfl⟩ := pr_inj h
      exact pr_zret C (by decide) Z dX7_learnFrom_23
    · have h := pr_ifF h c2
      refine pr_aload_n C dX7_learnFrom_13 rfl 0 rfl ?_
      refine pr_bipush (v := 8) C dX7_learnFrom_14 (by decide) ?_
      obtain ⟨r4, hc3, h⟩ := pr_b1_some h
      refine k_X7_setting C pr_w154 hk0 hc3 (Nat.le_of_ble_eq_true rfl) (Nat.le_of_ble_eq_true rfl) (Nat.le_of_ble_eq_true rfl) dX7_learnFrom_16 ?_
      refine pr_if_gt (tgt := 24) C dX7_learnFrom_19 (by decide) (fun c5 => ?_) (fun c5 => ?_)
      · have h := pr_ifT h c5
        refine pr_aload_n C dX7_learnFrom_24 rfl 0 rfl ?_
        refine pr_g_7_3 C hk0 pr_w73 dX7_learnFrom_25 ?_
        have hk6 := pr_kC_7_3 hk0
        refine pr_gN_5_8 C hk6 pr_nf30 dX7_learnFrom_28 ?_
        refine pr_aload_n C dX7_learnFrom_31 rfl 0 rfl ?_
        refine pr_g_7_2 C hk0 pr_w69 dX7_learnFrom_32 ?_
        have hk7 := pr_kC_7_2 hk0
        refine pr_gN_0_5 C hk7 pr_nf14 dX7_learnFrom_35 ?_
        refine pr_isub C dX7_learnFrom_38 ?_
        refine pr_istore_n (lv' := [(2, .int ((f (c + 6) 8) - (f (c + 5) 5))), (0, .ref (pr_ad (pr_EC l e) c)), (1, .int p1)]) C dX7_learnFrom_39 rfl (by decide) rfl ?_
        refine pr_aload_n C dX7_learnFrom_40 rfl 1 rfl ?_
        refine pr_g_7_2 C hk0 pr_w69 dX7_learnFrom_41 ?_
        refine pr_gN_0_0 C hk7 pr_nf4 dX7_learnFrom_44 ?_
        refine pr_iload_n C dX7_learnFrom_47 rfl 0 rfl ?_
        refine pr_bipush (v := 100) C dX7_learnFrom_48 (by decide) ?_
        refine pr_imul C dX7_learnFrom_50 ?_
        refine pr_iload_n C dX7_learnFrom_51 rfl 2 rfl ?_
        refine pr_idiv C dX7_learnFrom_52 c2 ?_
        refine pr_aload_n C dX7_learnFrom_53 rfl 1 rfl ?_
        refine pr_bipush (v := 8) C dX7_learnFrom_54 (by decide) ?_
        obtain ⟨r9, hc8, h⟩ := pr_b1_some h
        refine k_X7_setting C pr_w154 hk0 hc8 (Nat.le_of_ble_eq_true rfl) (Nat.le_of_ble_eq_true rfl) (Nat.le_of_ble_eq_true rfl) dX7_learnFrom_56 ?_
        refine pr_imul C dX7_learnFrom_59 ?_
        refine pr_sipush (v := 256) C dX7_learnFrom_60 (by decide) ?_
        refine pr_idiv C dX7_learnFrom_63 (by decide) ?_
        refine pr_iadd C dX7_learnFrom_64 ?_
        refine pr_istore_n (lv' := [(3, .int ((f (c + 5) 0) + ((((((f (c + 6) 8) - (f (c + 5) 5)) * 100) / p1) * r9) / 256))), (2, .int ((f (c + 6) 8) - (f (c + 5) 5))), (0, .ref (pr_ad (pr_EC l e) c)), (1, .int p1)]) C dX7_learnFrom_65 rfl (by decide) rfl ?_
        refine pr_aload_n C dX7_learnFrom_66 rfl 2 rfl ?_
        refine pr_g_7_2 C hk0 pr_w69 dX7_learnFrom_67 ?_
        refine pr_iload_n C dX7_learnFrom_70 rfl 0 rfl ?_
        refine pr_sipush (v := 500) C dX7_learnFrom_71 (by decide) ?_
        obtain ⟨r11, hc10, h⟩ := pr_b1_some h
        refine k_X8_limitedN C pr_nm7  hc10 (Nat.le_of_ble_eq_true rfl) (Nat.le_of_ble_eq_true rfl) (Nat.le_of_ble_eq_true rfl) dX7_learnFrom_74 ?_
        refine pr_pN_0_0 C hk7 pr_nf4 dX7_learnFrom_77 (fun f12 e13 => ?_)
        have h := pr_lt_at h e13
        refine pr_iconst (v := 1) C dX7_learnFrom_80 (by decide) ?_
        obtain ⟨rfl, rfl⟩ := pr_inj h
        exact pr_zret C (by decide) Z dX7_learnFrom_81
      · have h := pr_ifF h c5
        refine pr_iconst (v := 0) C dX7_learnFrom_22 (by decide) ?_
        obtain ⟨rfl, rfl⟩ := pr_inj h
        exact pr_zret C (by decide) Z dX7_learnFrom_23
theorem k_X7_learnFrom {l : Launch} {e : pr_E0} {Y : pr_Y} {Rm : Room} {cc : ByteArray} {own : String} {nL : Nat} {c0 : Cond} {pc idx : Nat} {lv : List (Nat × Value)} {st : List Value} {c : Nat} {p1 : Int32} {f : pr_M} {r : Int32} {g : pr_M} (C : pr_C (pr_EC l e) Y Rm cc own nL c0) (w1 : Cond.methodLink own idx yX7_learnFrom ∈ pr_AL) (hk0 : (pr_LE e)[c]? = some (7, 0)) (h : F_X7_learnFrom c p1 f = some (r, g)) (hr1 : 2 ≤ Rm.frames) (hr2 : 44 ≤ Rm.locals) (hcat : (st.map fun v => v.category).sum ≤ 8) (hdg : decode cc pc = .ok (.invokevirtual idx, 3)) (k : pr_W (pr_EC l e) Y Rm nL g (pc + 3) lv (.int r :: st)) : pr_W (pr_EC l e) Y Rm nL f pc lv (.int p1 :: .ref (pr_ad (pr_EC l e) c) :: st) :=
  pr_callV (As := [.int p1]) (n := 1) C (m_X7_learnFrom hk0 h) hk0 (by decide) rfl w1 pr_w193 pr_w194 pr_w84 pr_w185 rfl rfl ⟨rfl, by decide +kernel, by decide +kernel, by decide +kernel⟩ rfl ⟨hr1, hr2⟩ rfl hcat hdg k
