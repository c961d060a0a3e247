def F_X7_expectAsMeasured (c : Nat) (f : pr_M) : Option (Unit × pr_M) :=
  pr_lt (pr_up f (c + 5) 5 (f (c + 6) 8)) fun f3 =>
  pr_lt (pr_up f3 (c + 5) 6 (f3 (c + 6) 9)) fun f5 =>
  some ((), f5)
set_option maxHeartbeats 4000000 in
set_option maxRecDepth 100000 in
theorem m_X7_expectAsMeasured {l : Launch} {e : pr_E0} {c : Nat} {f : pr_M} {r : Unit} {g : pr_M} (hk0 : (pr_LE e)[c]? = some (7, 0)) (h : F_X7_expectAsMeasured c f = some (r, g)) : pr_Met (pr_EC l e) yX7_expectAsMeasured cX7_expectAsMeasured 1 none { frames := 0, cells := 0, slots := 0, locals := 0 } [.ref (pr_ad (pr_EC l e) c)] f none g := by
  rw [F_X7_expectAsMeasured] at h
  refine pr_enter (by decide +kernel) (Nat.le_of_ble_eq_true rfl) (fun Y C Z => ?_)
  replace C : pr_C (pr_EC l e) Y { frames := 0, cells := 0, slots := 0, locals := 0 } cX7_expectAsMeasured RX7 1 _ := C
  show pr_W (pr_EC l e) Y _ 1 f 0 [(0, .ref (pr_ad (pr_EC l e) c))] []
  refine pr_aload_n C dX7_expectAsMeasured_0 rfl 0 rfl ?_
  refine pr_g_7_2 C hk0 pr_w69 dX7_expectAsMeasured_1 ?_
  have hk1 := pr_kC_7_2 hk0
  refine pr_aload_n C dX7_expectAsMeasured_4 rfl 0 rfl ?_
  refine pr_g_7_3 C hk0 pr_w73 dX7_expectAsMeasured_5 ?_
  have hk2 := pr_kC_7_3 hk0
  refine pr_gN_5_8 C hk2 pr_nf30 dX7_expectAsMeasured_8 ?_
  refine pr_pN_0_5 C hk1 pr_nf14 dX7_expectAsMeasured_11 (fun f3 e4 => ?_)
  have h := pr_lt_at h e4
  refine pr_aload_n C dX7_expectAsMeasured_14 rfl 0 rfl ?_
  refine pr_g_7_2 C hk0 pr_w69 dX7_expectAsMeasured_15 ?_
  refine pr_aload_n C dX7_expectAsMeasured_18 rfl 0 rfl ?_
  refine pr_g_7_3 C hk0 pr_w73 dX7_expectAsMeasured_19 ?_
  refine pr_gN_5_9 C hk2 pr_nf32 dX7_expectAsMeasured_22 ?_
  refine pr_pN_0_6 C hk1 pr_nf16 dX7_expectAsMeasured_25 (fun f5 e6 => ?_)
  have h := pr_lt_at h e6
  obtain ⟨rfl, rfl⟩ := pr_inj h
  exact pr_vret C Z dX7_expectAsMeasured_28
theorem k_X7_expectAsMeasured {l : Launch} {e : pr_E0} {Y : pr_Y} {Rm : Room} {cc : ByteArray} {own : String} {nL : Nat} {c0 : Cond} {pc idx : Nat} {lv : List (Nat × Value)} {st : List Value} {c : Nat} {f : pr_M} {r : Unit} {g : pr_M} (C : pr_C (pr_EC l e) Y Rm cc own nL c0) (w1 : Cond.methodLink own idx yX7_expectAsMeasured ∈ pr_AL) (hk0 : (pr_LE e)[c]? = some (7, 0)) (h : F_X7_expectAsMeasured c f = some (r, g)) (hr1 : 1 ≤ Rm.frames) (hr2 : 20 ≤ Rm.locals) (hcat : (st.map fun v => v.category).sum ≤ 8) (hdg : decode cc pc = .ok (.invokevirtual idx, 3)) (k : pr_W (pr_EC l e) Y Rm nL g (pc + 3) lv (st)) : pr_W (pr_EC l e) Y Rm nL f pc lv (.ref (pr_ad (pr_EC l e) c) :: st) :=
  pr_callV (As := []) (n := 0) C (m_X7_expectAsMeasured hk0 h) hk0 (by decide) rfl w1 pr_w196 pr_w197 pr_w84 pr_w188 rfl rfl ⟨rfl, by decide +kernel, by decide +kernel, by decide +kernel⟩ rfl ⟨hr1, hr2⟩ rfl hcat hdg k

def F_X7_isOff (c : Nat) (p1 : Int32) (f : pr_M) : Option (Int32) :=
  pr_b1 (F_X7_setting c 6 f) fun r2 =>
  if (if 0 ≤ p1 then p1 else 0 - p1) ≤ r2 then (
    some 0
  ) else (
    some 1
  )
set_option maxHeartbeats 4000000 in
set_option maxRecDepth 100000 in
theorem m_X7_isOff {l : Launch} {e : pr_E0} {c : Nat} {p1 : Int32} {f : pr_M} {r : Int32} (hk0 : (pr_LE e)[c]? = some (7, 0)) (h : F_X7_isOff c p1 f = some r) : pr_Met (pr_EC l e) yX7_isOff cX7_isOff 2 (some .boolean) { frames := 1, cells := 0, slots := 0, locals := 21 } [.ref (pr_ad (pr_EC l e) c), .int p1] f (some (.int r)) f := by
  rw [F_X7_isOff] at h
  refine pr_enter (by decide +kernel) (Nat.le_of_ble_eq_true rfl) (fun Y C Z => ?_)
  replace C : pr_C (pr_EC l e) Y { frames := 1, cells := 0, slots := 0, locals := 21 } cX7_isOff RX7 2 _ := C
  show pr_W (pr_EC l e) Y _ 2 f 0 [(0, .ref (pr_ad (pr_EC l e) c)), (1, .int p1)] []
  refine pr_iload_n C dX7_isOff_0 rfl 1 rfl ?_
  refine pr_mabs C pr_w186 pr_w32 pr_w28 pr_w33 (Nat.le_of_ble_eq_true rfl) (Nat.le_of_ble_eq_true rfl) dX7_isOff_1 ?_
  refine pr_aload_n C dX7_isOff_4 rfl 0 rfl ?_
  refine pr_bipush (v := 6) C dX7_isOff_5 (by decide) ?_
  obtain ⟨r2, hc1, h⟩ := pr_b1_some h
  refine k_X7_setting C pr_w154 hk0 hc1 (Nat.le_of_ble_eq_true rfl) (Nat.le_of_ble_eq_true rfl) (Nat.le_of_ble_eq_true rfl) dX7_isOff_7 ?_
  refine pr_icmp_le (tgt := 17) C dX7_isOff_10 (by decide) (fun c3 => ?_) (fun c3 => ?_)
  · have h := pr_ifT h c3
    refine pr_iconst (v := 0) C dX7_isOff_17 (by decide) ?_
    obtain rfl := pr_in1 h
    exact pr_zret C (by decide) Z dX7_isOff_18
  · have h := pr_ifF h c3
    refine pr_iconst (v := 1) C dX7_isOff_13 (by decide) ?_
    refine pr_goto (tgt := 18) C dX7_isOff_14 (by decide) ?_
    obtain rfl := pr_in1 h
    exact pr_zret C (by decide) Z dX7_isOff_18
theorem k_X7_isOff {l : Launch} {e : pr_E0} {Y : pr_Y} {Rm : Room} {cc : ByteArray} {own : String} {nL : Nat} {c0 : Cond} {pc idx : Nat} {lv : List (Nat × Value)} {st : List Value} {c : Nat} {p1 : Int32} {f : pr_M} {r : Int32} (C : pr_C (pr_EC l e) Y Rm cc own nL c0) (w1 : Cond.methodLink own idx yX7_isOff ∈ pr_AL) (hk0 : (pr_LE e)[c]? = some (7, 0)) (h : F_X7_isOff c p1 f = some r) (hr1 : 2 ≤ Rm.frames) (hr2 : 42 ≤ Rm.locals) (hcat : (st.map fun v => v.category).sum ≤ 8) (hdg : decode cc pc = .ok (.invokevirtual idx, 3)) (k : pr_W (pr_EC l e) Y Rm nL f (pc + 3) lv (.int r :: st)) : pr_W (pr_EC l e) Y Rm nL f pc lv (.int p1 :: .ref (pr_ad (pr_EC l e) c) :: st) :=
  pr_callV (As := [.int p1]) (n := 1) C (m_X7_isOff hk0 h) hk0 (by decide) rfl w1 pr_w199 pr_w200 pr_w84 pr_w189 rfl rfl ⟨rfl, by decide +kernel, by decide +kernel, by decide +kernel⟩ rfl ⟨hr1, hr2⟩ rfl hcat hdg k

def F_X7_correctPhase (c : Nat) (f : pr_M) : Option (Int32 × pr_M) :=
  pr_b1 (F_X8_limited ((f (c + 5) 1) + (f (c + 6) 8)) 20000 f) fun r4 =>
  pr_lt (pr_up f (c + 5) 1 r4) fun f5 =>
  pr_b1 (F_X7_setting c 4 f5) fun r8 =>
  pr_b1 (F_X7_setting c 5 f5) fun r10 =>
  pr_b1 (F_X7_setting c 7 f5) fun r13 =>
  pr_b1 (F_X8_limited ((-((r8 * (f (c + 6) 8)) + (r10 * (f5 (c + 5) 1)))) / 256) r13 f5) fun r15 =>
  pr_b1 (F_X8_limited ((f5 (c + 2) 2) + r15) 5000 f5) fun r17 =>
  pr_lt (pr_up f5 (c + 2) 2 r17) fun f18 =>
  some (((f18 (c + 2) 2) - (f5 (c + 2) 2)), f18)
set_option maxHeartbeats 4000000 in
set_option maxRecDepth 100000 in
theorem m_X7_correctPhase {l : Launch} {e : pr_E0} {c : Nat} {f : pr_M} {r : Int32} {g : pr_M} (hk0 : (pr_LE e)[c]? = some (7, 0)) (h : F_X7_correctPhase c f = some (r, g)) : pr_Met (pr_EC l e) yX7_correctPhase cX7_correctPhase 4 (some .int) { frames := 1, cells := 0, slots := 0, locals := 21 } [.ref (pr_ad (pr_EC l e) c)] f (some (.int r)) g := by
  rw [F_X7_correctPhase] at h
  refine pr_enter (by decide +kernel) (Nat.le_of_ble_eq_true rfl) (fun Y C Z => ?_)
  replace C : pr_C (pr_EC l e) Y { frames := 1, cells := 0, slots := 0, locals := 21 } cX7_correctPhase RX7 4 _ := C
  show pr_W (pr_EC l e) Y _ 4 f 0 [(0, .ref (pr_ad (pr_EC l e) c))] []
  refine pr_aload_n C dX7_correctPhase_0 rfl 0 rfl ?_
  refine pr_g_7_3 C hk0 pr_w73 dX7_correctPhase_1 ?_
  have hk1 := pr_kC_7_3 hk0
  refine pr_gN_5_8 C hk1 pr_nf30 dX7_correctPhase_4 ?_
  refine pr_istore_n (lv' := [(1, .int (f (c + 6) 8)), (0, .ref (pr_ad (pr_EC l e) c))]) C dX7_correctPhase_7 rfl (by decide) rfl ?_
  refine pr_aload_n C dX7_correctPhase_8 rfl 1 rfl ?_
  refine pr_g_7_2 C hk0 pr_w69 dX7_correctPhase_9 ?_
  have hk2 := pr_kC_7_2 hk0
  refine pr_aload_n C dX7_correctPhase_12 rfl 1 rfl ?_
  refine pr_g_7_2 C hk0 pr_w69 dX7_correctPhase_13 ?_
  refine pr_gN_0_1 C hk2 pr_nf6 dX7_correctPhase_16 ?_
  refine pr_iload_n C dX7_correctPhase_19 rfl 0 rfl ?_
  refine pr_iadd C dX7_correctPhase_20 ?_
  refine pr_sipush (v := 20000) C dX7_correctPhase_21 (by decide) ?_
  obtain ⟨r4, hc3, h⟩ := pr_b1_some h
  refine k_X8_limitedN C pr_nm7  hc3 (Nat.le_of_ble_eq_true rfl) (Nat.le_of_ble_eq_true rfl) (Nat.le_of_ble_eq_true rfl) dX7_correctPhase_24 ?_
  refine pr_pN_0_1 C hk2 pr_nf6 dX7_correctPhase_27 (fun f5 e6 => ?_)
  have h := pr_lt_at h e6
  refine pr_aload_n C dX7_correctPhase_30 rfl 1 rfl ?_
  refine pr_iconst (v := 4) C dX7_correctPhase_31 (by decide) ?_
  obtain ⟨r8, hc7, h⟩ := pr_b1_some h
  refine k_X7_setting C pr_w154 hk0 hc7 (Nat.le_of_ble_eq_true rfl) (Nat.le_of_ble_eq_true rfl) (Nat.le_of_ble_eq_true rfl) dX7_correctPhase_32 ?_
  refine pr_iload_n C dX7_correctPhase_35 rfl 0 rfl ?_
  refine pr_imul C dX7_correctPhase_36 ?_
  refine pr_aload_n C dX7_correctPhase_37 rfl 1 rfl ?_
  refine pr_iconst (v := 5) C dX7_correctPhase_38 (by decide) ?_
  obtain ⟨r10, hc9, h⟩ := pr_b1_some h
  refine k_X7_setting C pr_w154 hk0 hc9 (Nat.le_of_ble_eq_true rfl) (Nat.le_of_ble_eq_true rfl) (Nat.le_of_ble_eq_true rfl) dX7_correctPhase_39 ?_
  refine pr_aload_n C dX7_correctPhase_42 rfl 1 rfl ?_
  refine pr_g_7_2 C hk0 pr_w69 dX7_correctPhase_43 ?_
  refine pr_gN_0_1 C hk2 pr_nf6 dX7_correctPhase_46 ?_
  refine pr_imul C dX7_correctPhase_49 ?_
  refine pr_iadd C dX7_correctPhase_50 ?_
  refine pr_ineg C dX7_correctPhase_51 ?_
  refine pr_sipush (v := 256) C dX7_correctPhase_52 (by decide) ?_
  refine pr_idiv C dX7_correctPhase_55 (by decide) ?_
  refine pr_istore_n (lv' := [(2, .int ((-((r8 * (f (c + 6) 8)) + (r10 * (f5 (c + 5) 1)))) / 256)), (1, .int (f (c + 6) 8)), (0, .ref (pr_ad (pr_EC l e) c))]) C dX7_correctPhase_56 rfl (by decide) rfl ?_
  refine pr_aload_n C dX7_correctPhase_57 rfl 2 rfl ?_
  refine pr_g_7_1 C hk0 pr_w65 dX7_correctPhase_58 ?_
  have hk11 := pr_kC_7_1 hk0
  refine pr_gN_4_2 C hk11 pr_nf0 dX7_correctPhase_61 ?_
  refine pr_istore_n (lv' := [(3, .int (f5 (c + 2) 2)), (2, .int ((-((r8 * (f (c + 6) 8)) + (r10 * (f5 (c + 5) 1)))) / 256)), (1, .int (f (c + 6) 8)), (0, .ref (pr_ad (pr_EC l e) c))]) C dX7_correctPhase_64 rfl (by decide) rfl ?_
  refine pr_aload_n C dX7_correctPhase_65 rfl 3 rfl ?_
  refine pr_g_7_1 C hk0 pr_w65 dX7_correctPhase_66 ?_
  refine pr_iload_n C dX7_correctPhase_69 rfl 0 rfl ?_
  refine pr_iload_n C dX7_correctPhase_70 rfl 1 rfl ?_
  refine pr_aload_n C dX7_correctPhase_71 rfl 3 rfl ?_
  refine pr_bipush (v := 7) C dX7_correctPhase_72 (by decide) ?_
  obtain ⟨r13, hc12, h⟩ := pr_b1_some h
  refine k_X7_setting C pr_w154 hk0 hc12 (Nat.le_of_ble_eq_true rfl) (Nat.le_of_ble_eq_true rfl) (Nat.le_of_ble_eq_true rfl) dX7_correctPhase_74 ?_
  obtain ⟨r15, hc14, h⟩ := pr_b1_some h
  refine k_X8_limitedN C pr_nm7  hc14 (Nat.le_of_ble_eq_true rfl) (Nat.le_of_ble_eq_true rfl) (Nat.le_of_ble_eq_true rfl) dX7_correctPhase_77 ?_
  refine pr_iadd C dX7_correctPhase_80 ?_
  refine pr_sipush (v := 5000) C dX7_correctPhase_81 (by decide) ?_
  obtain ⟨r17, hc16, h⟩ := pr_b1_some h
  refine k_X8_limitedN C pr_nm7  hc16 (Nat.le_of_ble_eq_true rfl) (Nat.le_of_ble_eq_true rfl) (Nat.le_of_ble_eq_true rfl) dX7_correctPhase_84 ?_
  refine pr_pN_4_2 C hk11 pr_nf0 dX7_correctPhase_87 (fun f18 e19 => ?_)
  have h := pr_lt_at h e19
  refine pr_aload_n C dX7_correctPhase_90 rfl 3 rfl ?_
  refine pr_g_7_1 C hk0 pr_w65 dX7_correctPhase_91 ?_
  refine pr_gN_4_2 C hk11 pr_nf0 dX7_correctPhase_94 ?_
  refine pr_iload_n C dX7_correctPhase_97 rfl 0 rfl ?_
  refine pr_isub C dX7_correctPhase_98 ?_
  obtain ⟨rfl, rfl⟩ := pr_inj h
  exact pr_iret C Z dX7_correctPhase_99
theorem k_X7_correctPhase {l : Launch} {e : pr_E0} {Y : pr_Y} {Rm : Room} {cc : ByteArray} {own : String} {nL : Nat} {c0 : Cond} {pc idx : Nat} {lv : List (Nat × Value)} {st : List Value} {c : Nat} {f : pr_M} {r : Int32} {g : pr_M} (C : pr_C (pr_EC l e) Y Rm cc own nL c0) (w1 : Cond.methodLink own idx yX7_correctPhase ∈ pr_AL) (hk0 : (pr_LE e)[c]? = some (7, 0)) (h : F_X7_correctPhase c f = some (r, g)) (hr1 : 2 ≤ Rm.frames) (hr2 : 44 ≤ Rm.locals) (hcat : (st.map fun v => v.category).sum ≤ 8) (hdg : decode cc pc = .ok (.invokevirtual idx, 3)) (k : pr_W (pr_EC l e) Y Rm nL g (pc + 3) lv (.int r :: st)) : pr_W (pr_EC l e) Y Rm nL f pc lv (.ref (pr_ad (pr_EC l e) c) :: st) :=
  pr_callV (As := []) (n := 0) C (m_X7_correctPhase hk0 h) hk0 (by decide) rfl w1 pr_w202 pr_w203 pr_w84 pr_w190 rfl rfl ⟨rfl, by decide +kernel, by decide +kernel, by decide +kernel⟩ rfl ⟨hr1, hr2⟩ rfl hcat hdg k

def F_X7_correctSkew (c : Nat) (f : pr_M) : Option (Int32 × pr_M) :=
  pr_b1 (F_X7_setting c 4 f) fun r2 =>
  pr_b1 (F_X7_setting c 7 f) fun r6 =>
  pr_b1 (F_X8_limited ((-(r2 * (f (c + 6) 9))) / 256) r6 f) fun r8 =>
  pr_b1 (F_X8_limited ((f (c + 2) 3) + r8) 3000 f) fun r10 =>
  pr_lt (pr_up f (c + 2) 3 r10) fun f11 =>
  some (((f11 (c + 2) 3) - (f (c + 2) 3)), f11)
set_option maxHeartbeats 4000000 in
set_option maxRecDepth 100000 in
theorem m_X7_correctSkew {l : Launch} {e : pr_E0} {c : Nat} {f : pr_M} {r : Int32} {g : pr_M} (hk0 : (pr_LE e)[c]? = some (7, 0)) (h : F_X7_correctSkew c f = some (r, g)) : pr_Met (pr_EC l e) yX7_correctSkew cX7_correctSkew 3 (some .int) { frames := 1, cells := 0, slots := 0, locals := 21 } [.ref (pr_ad (pr_EC l e) c)] f (some (.int r)) g := by
  rw [F_X7_correctSkew] at h
  refine pr_enter (by decide +kernel) (Nat.le_of_ble_eq_true rfl) (fun Y C Z => ?_)
  replace C : pr_C (pr_EC l e) Y { frames := 1, cells := 0, slots := 0, locals := 21 } cX7_correctSkew RX7 3 _ := C
  show pr_W (pr_EC l e) Y _ 3 f 0 [(0, .ref (pr_ad (pr_EC l e) c))] []
  refine pr_aload_n C dX7_correctSkew_0 rfl 0 rfl ?_
  refine pr_iconst (v := 4) C dX7_correctSkew_1 (by decide) ?_
  obtain ⟨r2, hc1, h⟩ := pr_b1_some h
  refine k_X7_setting C pr_w154 hk0 hc1 (Nat.le_of_ble_eq_true rfl) (Nat.le_of_ble_eq_true rfl) (Nat.le_of_ble_eq_true rfl) dX7_correctSkew_2 ?_
  refine pr_aload_n C dX7_correctSkew_5 rfl 0 rfl ?_
  refine pr_g_7_3 C hk0 pr_w73 dX7_correctSkew_6 ?_
  have hk3 := pr_kC_7_3 hk0
  refine pr_gN_5_9 C hk3 pr_nf32 dX7_correctSkew_9 ?_
  refine pr_imul C dX7_correctSkew_12 ?_
  refine pr_ineg C dX7_correctSkew_13 ?_
  refine pr_sipush (v := 256) C dX7_correctSkew_14 (by decide) ?_
  refine pr_idiv C dX7_correctSkew_17 (by decide) ?_
  refine pr_istore_n (lv' := [(1, .int ((-(r2 * (f (c + 6) 9))) / 256)), (0, .ref (pr_ad (pr_EC l e) c))]) C dX7_correctSkew_18 rfl (by decide) rfl ?_
  refine pr_aload_n C dX7_correctSkew_19 rfl 1 rfl ?_
  refine pr_g_7_1 C hk0 pr_w65 dX7_correctSkew_20 ?_
  have hk4 := pr_kC_7_1 hk0
  refine pr_gN_4_3 C hk4 pr_nf1 dX7_correctSkew_23 ?_
  refine pr_istore_n (lv' := [(2, .int (f (c + 2) 3)), (1, .int ((-(r2 * (f (c + 6) 9))) / 256)), (0, .ref (pr_ad (pr_EC l e) c))]) C dX7_correctSkew_26 rfl (by decide) rfl ?_
  refine pr_aload_n C dX7_correctSkew_27 rfl 2 rfl ?_
  refine pr_g_7_1 C hk0 pr_w65 dX7_correctSkew_28 ?_
  refine pr_iload_n C dX7_correctSkew_31 rfl 0 rfl ?_
  refine pr_iload_n C dX7_correctSkew_32 rfl 1 rfl ?_
  refine pr_aload_n C dX7_correctSkew_33 rfl 2 rfl ?_
  refine pr_bipush (v := 7) C dX7_correctSkew_34 (by decide) ?_
  obtain ⟨r6, hc5, h⟩ := pr_b1_some h
  refine k_X7_setting C pr_w154 hk0 hc5 (Nat.le_of_ble_eq_true rfl) (Nat.le_of_ble_eq_true rfl) (Nat.le_of_ble_eq_true rfl) dX7_correctSkew_36 ?_
  obtain ⟨r8, hc7, h⟩ := pr_b1_some h
  refine k_X8_limitedN C pr_nm7  hc7 (Nat.le_of_ble_eq_true rfl) (Nat.le_of_ble_eq_true rfl) (Nat.le_of_ble_eq_true rfl) dX7_correctSkew_39 ?_
  refine pr_iadd C dX7_correctSkew_42 ?_
  refine pr_sipush (v := 3000) C dX7_correctSkew_43 (by decide) ?_
  obtain ⟨r10, hc9, h⟩ := pr_b1_some h
  refine k_X8_limitedN C pr_nm7  hc9 (Nat.le_of_ble_eq_true rfl) (Nat.le_of_ble_eq_true rfl) (Nat.le_of_ble_eq_true rfl) dX7_correctSkew_46 ?_
  refine pr_pN_4_3 C hk4 pr_nf1 dX7_correctSkew_49 (fun f11 e12 => ?_)
  have h := pr_lt_at h e12
  refine pr_aload_n C dX7_correctSkew_52 rfl 2 rfl ?_
  refine pr_g_7_1 C hk0 pr_w65 dX7_correctSkew_53 ?_
  refine pr_gN_4_3 C hk4 pr_nf1 dX7_correctSkew_56 ?_
  refine pr_iload_n C dX7_correctSkew_59 rfl 0 rfl ?_
  refine pr_isub C dX7_correctSkew_60 ?_
  obtain ⟨rfl, rfl⟩ := pr_inj h
  exact pr_iret C Z dX7_correctSkew_61
theorem k_X7_correctSkew {l : Launch} {e : pr_E0} {Y : pr_Y} {Rm : Room} {cc : ByteArray} {own : String} {nL : Nat} {c0 : Cond} {pc idx : Nat} {lv : List (Nat × Value)} {st : List Value} {c : Nat} {f : pr_M} {r : Int32} {g : pr_M} (C : pr_C (pr_EC l e) Y Rm cc own nL c0) (w1 : Cond.methodLink own idx yX7_correctSkew ∈ pr_AL) (hk0 : (pr_LE e)[c]? = some (7, 0)) (h : F_X7_correctSkew c f = some (r, g)) (hr1 : 2 ≤ Rm.frames) (hr2 : 43 ≤ Rm.locals) (hcat : (st.map fun v => v.category).sum ≤ 8) (hdg : decode cc pc = .ok (.invokevirtual idx, 3)) (k : pr_W (pr_EC l e) Y Rm nL g (pc + 3) lv (.int r :: st)) : pr_W (pr_EC l e) Y Rm nL f pc lv (.ref (pr_ad (pr_EC l e) c) :: st) :=
  pr_callV (As := []) (n := 0) C (m_X7_correctSkew hk0 h) hk0 (by decide) rfl w1 pr_w205 pr_w206 pr_w84 pr_w191 rfl rfl ⟨rfl, by decide +kernel, by decide +kernel, by decide +kernel⟩ rfl ⟨hr1, hr2⟩ rfl hcat hdg k

def F_X3_control (c : Nat) (p1 : Nat) (p2 : Int32) (f : pr_M) : Option (Unit × pr_M) :=
  pr_bd (F_X7_learnFrom p1 p2 f) fun r2 f3 =>
  if r2 = 0 then (
    pr_bd (F_X7_expectAsMeasured p1 f3) fun u6 f7 =>
    if (f7 (p1 + 5) 2) = 0 then (
      pr_b1 (F_X7_isOff p1 (f7 (p1 + 6) 8) f7) fun r12 =>
      pr_b1 (F_X7_isOff p1 (f7 (p1 + 6) 9) f7) fun r14 =>
      if r12 = 0 then (
        if r14 = 0 then (
          some ((), f7)
        ) else (
          pr_lt (pr_up f7 (p1 + 5) 7 0) fun f43 =>
          pr_bd (F_X7_correctSkew p1 f43) fun r47 f48 =>
          pr_lt (pr_up f48 (p1 + 5) 8 r47) fun f49 =>
          pr_b1 (F_X7_setting p1 1 f49) fun r52 =>
          pr_lt (pr_up f49 (p1 + 5) 2 (r52 + 1)) fun f53 =>
          pr_lt (pr_up f53 (c + 3) (Int32.toNatClampNeg 4) ((f53 (c + 3) (Int32.toNatClampNeg 4)) + 1)) fun f58 =>
          some ((), f58)
        )
      ) else (
        pr_bd (F_X7_correctPhase p1 f7) fun r18 f19 =>
        pr_lt (pr_up f19 (p1 + 5) 7 r18) fun f20 =>
        pr_bd (α := Int32) (
          if r14 = 0 then (
            some (0, f20)
          ) else (
            pr_bd (F_X7_correctSkew p1 f20) fun r26 f27 =>
            some (r26, f27)
          )
        ) fun v22 f23 =>
        pr_lt (pr_up f23 (p1 + 5) 8 v22) fun f28 =>
        pr_b1 (F_X7_setting p1 1 f28) fun r31 =>
        pr_lt (pr_up f28 (p1 + 5) 2 (r31 + 1)) fun f32 =>
        pr_lt (pr_up f32 (c + 3) (Int32.toNatClampNeg 3) ((f32 (c + 3) (Int32.toNatClampNeg 3)) + 1)) fun f36 =>
        if r14 = 0 then (
          some ((), f36)
        ) else (
          pr_lt (pr_up f36 (c + 3) (Int32.toNatClampNeg 4) ((f36 (c + 3) (Int32.toNatClampNeg 4)) + 1)) fun f39 =>
          some ((), f39)
        )
      )
    ) else (
      some ((), f7)
    )
  ) else (
    pr_lt (pr_up f3 (c + 3) (Int32.toNatClampNeg 5) ((f3 (c + 3) (Int32.toNatClampNeg 5)) + 1)) fun f61 =>
    pr_bd (F_X7_expectAsMeasured p1 f61) fun u64 f65 =>
    if (f65 (p1 + 5) 2) = 0 then (
      pr_b1 (F_X7_isOff p1 (f65 (p1 + 6) 8) f65) fun r70 =>
      pr_b1 (F_X7_isOff p1 (f65 (p1 + 6) 9) f65) fun r72 =>
      if r70 = 0 then (
        if r72 = 0 then (
          some ((), f65)
        ) else (
          pr_lt (pr_up f65 (p1 + 5) 7 0) fun f100 =>
          pr_bd (F_X7_correctSkew p1 f100) fun r104 f105 =>
          pr_lt (pr_up f105 (p1 + 5) 8 r104) fun f106 =>
          pr_b1 (F_X7_setting p1 1 f106) fun r109 =>
          pr_lt (pr_up f106 (p1 + 5) 2 (r109 + 1)) fun f110 =>
          pr_lt (pr_up f110 (c + 3) (Int32.toNatClampNeg 4) ((f110 (c + 3) (Int32.toNatClampNeg 4)) + 1)) fun f114 =>
          some ((), f114)
        )
      ) else (
        pr_bd (F_X7_correctPhase p1 f65) fun r76 f77 =>
        pr_lt (pr_up f77 (p1 + 5) 7 r76) fun f78 =>
        pr_bd (α := Int32) (
          if r72 = 0 then (
            some (0, f78)
          ) else (
            pr_bd (F_X7_correctSkew p1 f78) fun r84 f85 =>
            some (r84, f85)
          )
        ) fun v80 f81 =>
        pr_lt (pr_up f81 (p1 + 5) 8 v80) fun f86 =>
        pr_b1 (F_X7_setting p1 1 f86) fun r89 =>
        pr_lt (pr_up f86 (p1 + 5) 2 (r89 + 1)) fun f90 =>
        pr_lt (pr_up f90 (c + 3) (Int32.toNatClampNeg 3) ((f90 (c + 3) (Int32.toNatClampNeg 3)) + 1)) fun f93 =>
        if r72 = 0 then (
          some ((), f93)
        ) else (
          pr_lt (pr_up f93 (c + 3) (Int32.toNatClampNeg 4) ((f93 (c + 3) (Int32.toNatClampNeg 4)) + 1)) fun f96 =>
          some ((), f96)
        )
      )
    ) else (
      some ((), f65)
    )
  )
set_option maxHeartbeats 4000000 in
set_option maxRecDepth 100000 in
theorem m_X3_control {l : Launch} {e : pr_E0} {c : Nat} {p1 : Nat} {p2 : Int32} {f : pr_M} {r : Unit} {g : pr_M} (hk0 : (pr_LE e)[c]? = some (3, 0)) (hk01 : (pr_LE e)[p1]? = some (7, 0)) (h : F_X3_control c p1 p2 f = some (r, g)) : pr_Met (pr_EC l e) yX3_control cX3_control 5 none { frames := 2, cells := 0, slots := 0, locals := 44 } [.ref (pr_ad (pr_EC l e) c), .ref (pr_ad (pr_EC l e) p1), .int p2] f none g := by
  rw [F_X3_control] at h
  refine pr_enter (by decide +kernel) (Nat.le_of_ble_eq_true rfl) (fun Y C Z => ?_)
  replace C : pr_C (pr_EC l e) Y { frames := 2, cells := 0, slots := 0, locals := 44 } cX3_control RX3 5 _ := C
  show pr_W (pr_EC l e) Y _ 5 f 0 [(0, .ref (pr_ad (pr_EC l e) c)), (1, .ref (pr_ad (pr_EC l e) p1)), (2, .int p2)] []
  refine pr_aload_n C dX3_control_0 rfl 1 rfl ?_
  refine pr_iload_n C dX3_control_1 rfl 2 rfl ?_
  obtain ⟨r2, f3, hc1, h⟩ := pr_bd_some h
  refine k_X7_learnFrom C pr_w192 hk01 hc1 (Nat.le_of_ble_eq_true rfl) (Nat.le_of_ble_eq_true rfl) (Nat.le_of_ble_eq_true rfl) dX3_control_2 ?_
  refine pr_if_eq (tgt := 18) C dX3_control_5 (by decide) (fun c4 => ?_) (fun c4 => ?_)
  · have h := pr_ifT h c4
    refine pr_aload_n C dX3_control_18 rfl 1 rfl ?_
    obtain ⟨u6, f7, hc5, h⟩ := pr_bd_some h
    refine k_X7_expectAsMeasured C pr_w195 hk01 hc5 (Nat.le_of_ble_eq_true rfl) (Nat.le_of_ble_eq_true rfl) (Nat.le_of_ble_eq_true rfl) dX3_control_19 ?_
    refine pr_aload_n C dX3_control_22 rfl 1 rfl ?_
    refine pr_gN_7_2 C hk01 pr_nf36 dX3_control_23 ?_
    have hk8 := pr_kC_7_2 hk01
    refine pr_gN_0_2 C hk8 pr_nf8 dX3_control_26 ?_
    refine pr_if_eq (tgt := 33) C dX3_control_29 (by decide) (fun c9 => ?_) (fun c9 => ?_)
    · have h := pr_ifT h c9
      refine pr_aload_n C dX3_control_33 rfl 1 rfl ?_
      refine pr_aload_n C dX3_control_34 rfl 1 rfl ?_
      refine pr_gN_7_3 C hk01 pr_nf39 dX3_control_35 ?_
      have hk10 := pr_kC_7_3 hk01
      refine pr_gN_5_8 C hk10 pr_nf31 dX3_control_38 ?_
      obtain ⟨r12, hc11, h⟩ := pr_b1_some h
      refine k_X7_isOff C pr_w198 hk01 hc11 (Nat.le_of_ble_eq_true rfl) (Nat.le_of_ble_eq_true rfl) (Nat.le_of_ble_eq_true rfl) dX3_control_41 ?_
      refine pr_istore_n (lv' := [(3, .int r12), (0, .ref (pr_ad (pr_EC l e) c)), (1, .ref (pr_ad (pr_EC l e) p1)), (2, .int p2)]) C dX3_control_44 rfl (by decide) rfl ?_
      refine pr_aload_n C dX3_control_45 rfl 2 rfl ?_
      refine pr_aload_n C dX3_control_46 rfl 2 rfl ?_
      refine pr_gN_7_3 C hk01 pr_nf39 dX3_control_47 ?_
      refine pr_gN_5_9 C hk10 pr_nf33 dX3_control_50 ?_
      obtain ⟨r14, hc13, h⟩ := pr_b1_some h
      refine k_X7_isOff C pr_w198 hk01 hc13 (Nat.le_of_ble_eq_true rfl) (Nat.le_of_ble_eq_true rfl) (Nat.le_of_ble_eq_true rfl) dX3_control_53 ?_
      refine pr_istore (lv' := [(4, .int r14), (3, .int r12), (0, .ref (pr_ad (pr_EC l e) c)), (1, .ref (pr_ad (pr_EC l e) p1)), (2, .int p2)]) C dX3_control_56 (by decide) rfl ?_
      refine pr_iload_n C dX3_control_58 rfl 1 rfl ?_
      refine pr_if_ne (tgt := 68) C dX3_control_59 (by decide) (fun c15 => ?_) (fun c15 => ?_)
      · have h := pr_ifF h c15
        refine pr_aload_n C dX3_control_68 rfl 3 rfl ?_
        refine pr_gN_7_2 C hk01 pr_nf36 dX3_control_69 ?_
        refine pr_iload_n C dX3_control_72 rfl 1 rfl ?_
        refine pr_if_eq (tgt := 83) C dX3_control_73 (by decide) (fun c16 => absurd c16 c15) (fun _ => ?_)
        refine pr_aload_n C dX3_control_76 rfl 3 rfl ?_
        obtain ⟨r18, f19, hc17, h⟩ := pr_bd_some h
        refine k_X7_correctPhase C pr_w201 hk01 hc17 (Nat.le_of_ble_eq_true rfl) (Nat.le_of_ble_eq_true rfl) (Nat.le_of_ble_eq_true rfl) dX3_control_77 ?_
        refine pr_goto (tgt := 84) C dX3_control_80 (by decide) ?_
        refine pr_pN_0_7 C hk8 pr_nf18 dX3_control_84 (fun f20 e21 => ?_)
        have h := pr_lt_at h e21
        refine pr_aload_n C dX3_control_87 rfl 3 rfl ?_
        refine pr_gN_7_2 C hk01 pr_nf36 dX3_control_88 ?_
        refine pr_iload C dX3_control_91 0 rfl ?_
        obtain ⟨v22, f23, hv, h⟩ := pr_bd_some h
        have K : pr_W (pr_EC l e) Y { frames := 2, cells := 0, slots := 0, locals := 44 } 5 f23 104 [(0, .ref (pr_ad (pr_EC l e) c)), (1, .ref (pr_ad (pr_EC l e) p1)), (3, .int r12), (4, .int r14)] [.int v22, .ref (pr_ad (pr_EC l e) (p1 + 5))] := by
          refine pr_pN_0_8 C hk8 pr_nf19 dX3_control_104 (fun f28 e29 => ?_)
          have h := pr_lt_at h e29
          refine pr_aload_n C dX3_control_107 rfl 1 rfl ?_
          refine pr_gN_7_2 C hk01 pr_nf36 dX3_control_108 ?_
          refine pr_aload_n C dX3_control_111 rfl 1 rfl ?_
          refine pr_iconst (v := 1) C dX3_control_112 (by decide) ?_
          obtain ⟨r31, hc30, h⟩ := pr_b1_some h
          refine k_X7_setting C pr_w140 hk01 hc30 (Nat.le_of_ble_eq_true rfl) (Nat.le_of_ble_eq_true rfl) (Nat.le_of_ble_eq_true rfl) dX3_control_113 ?_
          refine pr_iconst (v := 1) C dX3_control_116 (by decide) ?_
          refine pr_iadd C dX3_control_117 ?_
          refine pr_pN_0_2 C hk8 pr_nf8 dX3_control_118 (fun f32 e33 => ?_)
          have h := pr_lt_at h e33
          refine pr_iload_n C dX3_control_121 rfl 2 rfl ?_
          refine pr_if_eq (tgt := 135) C dX3_control_122 (by decide) (fun c34 => absurd c34 c15) (fun _ => ?_)
          refine pr_aload_n C dX3_control_125 rfl 0 rfl ?_
          refine pr_g_3_2 C hk0 pr_w82 dX3_control_126 ?_
          have hk35 := pr_kC_3_2 hk0
          refine pr_iconst (v := 3) C dX3_control_129 (by decide) ?_
          refine pr_dup2 C dX3_control_130 rfl rfl ?_
          refine pr_iaload C hk35 (pr_inlit (by decide +kernel)) dX3_control_131 ?_
          refine pr_iconst (v := 1) C dX3_control_132 (by decide) ?_
          refine pr_iadd C dX3_control_133 ?_
          refine pr_iastore C hk35 (pr_inlit (by decide +kernel)) dX3_control_134 (fun f36 e37 => ?_)
          have h := pr_lt_at h e37
          refine pr_iload C dX3_control_135 3 rfl ?_
          refine pr_if_eq (tgt := 150) C dX3_control_137 (by decide) (fun c38 => ?_) (fun c38 => ?_)
          · have h := pr_ifT h c38
            obtain ⟨rfl, rfl⟩ := pr_inj h
            exact pr_vret C Z dX3_control_150
          · have h := pr_ifF h c38
            refine pr_aload_n C dX3_control_140 rfl 0 rfl ?_
            refine pr_g_3_2 C hk0 pr_w82 dX3_control_141 ?_
            refine pr_iconst (v := 4) C dX3_control_144 (by decide) ?_
            refine pr_dup2 C dX3_control_145 rfl rfl ?_
            refine pr_iaload C hk35 (pr_inlit (by decide +kernel)) dX3_control_146 ?_
            refine pr_iconst (v := 1) C dX3_control_147 (by decide) ?_
            refine pr_iadd C dX3_control_148 ?_
            refine pr_iastore C hk35 (pr_inlit (by decide +kernel)) dX3_control_149 (fun f39 e40 => ?_)
            have h := pr_lt_at h e40
            obtain ⟨rfl, rfl⟩ := pr_inj h
            exact pr_vret C Z dX3_control_150
        clear h
        have h := hv
        clear hv
        refine pr_if_eq (tgt := 103) C dX3_control_93 (by decide) (fun c24 => ?_) (fun c24 => ?_)
        · have h := pr_ifT h c24
          refine pr_iconst (v := 0) C dX3_control_103 (by decide) ?_
          obtain ⟨rfl, rfl⟩ := pr_inj h
          exact pr_pick [2, 3, 1, 0] rfl K
        · have h := pr_ifF h c24
          refine pr_aload_n C dX3_control_96 rfl 3 rfl ?_
          obtain ⟨r26, f27, hc25, h⟩ := pr_bd_some h
          refine k_X7_correctSkew C pr_w204 hk01 hc25 (Nat.le_of_ble_eq_true rfl) (Nat.le_of_ble_eq_true rfl) (Nat.le_of_ble_eq_true rfl) dX3_control_97 ?_
          refine pr_goto (tgt := 104) C dX3_control_100 (by decide) ?_
          obtain ⟨rfl, rfl⟩ := pr_inj h
          exact pr_pick [2, 3, 1, 0] rfl K
      · have h := pr_ifT h c15
        refine pr_iload C dX3_control_62 0 rfl ?_
        refine pr_if_ne (tgt := 68) C dX3_control_64 (by decide) (fun c41 => ?_) (fun c41 => ?_)
        · have h := pr_ifF h c41
          refine pr_aload_n C dX3_control_68 rfl 3 rfl ?_
          refine pr_gN_7_2 C hk01 pr_nf36 dX3_control_69 ?_
          refine pr_iload_n C dX3_control_72 rfl 1 rfl ?_
          refine pr_if_eq (tgt := 83) C dX3_control_73 (by decide) (fun _ => ?_) (fun c42 => absurd c15 c42)
          refine pr_iconst (v := 0) C dX3_control_83 (by decide) ?_
          refine pr_pN_0_7 C hk8 pr_nf18 dX3_control_84 (fun f43 e44 => ?_)
          have h := pr_lt_at h e44
          refine pr_aload_n C dX3_control_87 rfl 3 rfl ?_
          refine pr_gN_7_2 C hk01 pr_nf36 dX3_control_88 ?_
          refine pr_iload C dX3_control_91 0 rfl ?_
          refine pr_if_eq (tgt := 103) C dX3_control_93 (by decide) (fun c45 => absurd c45 c41) (fun _ => ?_)
          refine pr_aload_n C dX3_control_96 rfl 3 rfl ?_
          obtain ⟨r47, f48, hc46, h⟩ := pr_bd_some h
          refine k_X7_correctSkew C pr_w204 hk01 hc46 (Nat.le_of_ble_eq_true rfl) (Nat.le_of_ble_eq_true rfl) (Nat.le_of_ble_eq_true rfl) dX3_control_97 ?_
          refine pr_goto (tgt := 104) C dX3_control_100 (by decide) ?_
          refine pr_pN_0_8 C hk8 pr_nf19 dX3_control_104 (fun f49 e50 => ?_)
          have h := pr_lt_at h e50
          refine pr_aload_n C dX3_control_107 rfl 3 rfl ?_
          refine pr_gN_7_2 C hk01 pr_nf36 dX3_control_108 ?_
          refine pr_aload_n C dX3_control_111 rfl 3 rfl ?_
          refine pr_iconst (v := 1) C dX3_control_112 (by decide) ?_
          obtain ⟨r52, hc51, h⟩ := pr_b1_some h
          refine k_X7_setting C pr_w140 hk01 hc51 (Nat.le_of_ble_eq_true rfl) (Nat.le_of_ble_eq_true rfl) (Nat.le_of_ble_eq_true rfl) dX3_control_113 ?_
          refine pr_iconst (v := 1) C dX3_control_116 (by decide) ?_
          refine pr_iadd C dX3_control_117 ?_
          refine pr_pN_0_2 C hk8 pr_nf8 dX3_control_118 (fun f53 e54 => ?_)
          have h := pr_lt_at h e54
          refine pr_iload_n C dX3_control_121 rfl 1 rfl ?_
          refine pr_if_eq (tgt := 135) C dX3_control_122 (by decide) (fun _ => ?_) (fun c55 => absurd c15 c55)
          refine pr_iload C dX3_control_135 0 rfl ?_
          refine pr_if_eq (tgt := 150) C dX3_control_137 (by decide) (fun c56 => absurd c56 c41) (fun _ => ?_)
          refine pr_aload_n C dX3_control_140 rfl 2 rfl ?_
          refine pr_g_3_2 C hk0 pr_w82 dX3_control_141 ?_
          have hk57 := pr_kC_3_2 hk0
          refine pr_iconst (v := 4) C dX3_control_144 (by decide) ?_
          refine pr_dup2 C dX3_control_145 rfl rfl ?_
          refine pr_iaload C hk57 (pr_inlit (by decide +kernel)) dX3_control_146 ?_
          refine pr_iconst (v := 1) C dX3_control_147 (by decide) ?_
          refine pr_iadd C dX3_control_148 ?_
          refine pr_iastore C hk57 (pr_inlit (by decide +kernel)) dX3_control_149 (fun f58 e59 => ?_)
          have h := pr_lt_at h e59
          obtain ⟨rfl, rfl⟩ := pr_inj h
          exact pr_vret C Z dX3_control_150
        · have h := pr_ifT h c41
          obtain ⟨rfl, rfl⟩ := pr_inj h
          exact pr_vret C Z dX3_control_67
    · have h := pr_ifF h c9
      obtain ⟨rfl, rfl⟩ := pr_inj h
      exact pr_vret C Z dX3_control_32
  · have h := pr_ifF h c4
    refine pr_aload_n C dX3_control_8 rfl 0 rfl ?_
    refine pr_g_3_2 C hk0 pr_w82 dX3_control_9 ?_
    have hk60 := pr_kC_3_2 hk0
    refine pr_iconst (v := 5) C dX3_control_12 (by decide) ?_
    refine pr_dup2 C dX3_control_13 rfl rfl ?_
    refine pr_iaload C hk60 (pr_inlit (by decide +kernel)) dX3_control_14 ?_
    refine pr_iconst (v := 1) C dX3_control_15 (by decide) ?_
    refine pr_iadd C dX3_control_16 ?_
    refine pr_iastore C hk60 (pr_inlit (by decide +kernel)) dX3_control_17 (fun f61 e62 => ?_)
    have h := pr_lt_at h e62
    refine pr_aload_n C dX3_control_18 rfl 1 rfl ?_
    obtain ⟨u64, f65, hc63, h⟩ := pr_bd_some h
    refine k_X7_expectAsMeasured C pr_w195 hk01 hc63 (Nat.le_of_ble_eq_true rfl) (Nat.le_of_ble_eq_true rfl) (Nat.le_of_ble_eq_true rfl) dX3_control_19 ?_
    refine pr_aload_n C dX3_control_22 rfl 1 rfl ?_
    refine pr_gN_7_2 C hk01 pr_nf36 dX3_control_23 ?_
    have hk66 := pr_kC_7_2 hk01
    refine pr_gN_0_2 C hk66 pr_nf8 dX3_control_26 ?_
    refine pr_if_eq (tgt := 33) C dX3_control_29 (by decide) (fun c67 => ?_) (fun c67 => ?_)
    · have h := pr_ifT h c67
      refine pr_aload_n C dX3_control_33 rfl 1 rfl ?_
      refine pr_aload_n C dX3_control_34 rfl 1 rfl ?_
      refine pr_gN_7_3 C hk01 pr_nf39 dX3_control_35 ?_
      have hk68 := pr_kC_7_3 hk01
      refine pr_gN_5_8 C hk68 pr_nf31 dX3_control_38 ?_
      obtain ⟨r70, hc69, h⟩ := pr_b1_some h
      refine k_X7_isOff C pr_w198 hk01 hc69 (Nat.le_of_ble_eq_true rfl) (Nat.le_of_ble_eq_true rfl) (Nat.le_of_ble_eq_true rfl) dX3_control_41 ?_
      refine pr_istore_n (lv' := [(3, .int r70), (0, .ref (pr_ad (pr_EC l e) c)), (1, .ref (pr_ad (pr_EC l e) p1)), (2, .int p2)]) C dX3_control_44 rfl (by decide) rfl ?_
      refine pr_aload_n C dX3_control_45 rfl 2 rfl ?_
      refine pr_aload_n C dX3_control_46 rfl 2 rfl ?_
      refine pr_gN_7_3 C hk01 pr_nf39 dX3_control_47 ?_
      refine pr_gN_5_9 C hk68 pr_nf33 dX3_control_50 ?_
      obtain ⟨r72, hc71, h⟩ := pr_b1_some h
      refine k_X7_isOff C pr_w198 hk01 hc71 (Nat.le_of_ble_eq_true rfl) (Nat.le_of_ble_eq_true rfl) (Nat.le_of_ble_eq_true rfl) dX3_control_53 ?_
      refine pr_istore (lv' := [(4, .int r72), (3, .int r70), (0, .ref (pr_ad (pr_EC l e) c)), (1, .ref (pr_ad (pr_EC l e) p1)), (2, .int p2)]) C dX3_control_56 (by decide) rfl ?_
      refine pr_iload_n C dX3_control_58 rfl 1 rfl ?_
      refine pr_if_ne (tgt := 68) C dX3_control_59 (by decide) (fun c73 => ?_) (fun c73 => ?_)
      · have h := pr_ifF h c73
        refine pr_aload_n C dX3_control_68 rfl 3 rfl ?_
        refine pr_gN_7_2 C hk01 pr_nf36 dX3_control_69 ?_
        refine pr_iload_n C dX3_control_72 rfl 1 rfl ?_
        refine pr_if_eq (tgt := 83) C dX3_control_73 (by decide) (fun c74 => absurd c74 c73) (fun _ => ?_)
        refine pr_aload_n C dX3_control_76 rfl 3 rfl ?_
        obtain ⟨r76, f77, hc75, h⟩ := pr_bd_some h
        refine k_X7_correctPhase C pr_w201 hk01 hc75 (Nat.le_of_ble_eq_true rfl) (Nat.le_of_ble_eq_true rfl) (Nat.le_of_ble_eq_true rfl) dX3_control_77 ?_
        refine pr_goto (tgt := 84) C dX3_control_80 (by decide) ?_
        refine pr_pN_0_7 C hk66 pr_nf18 dX3_control_84 (fun f78 e79 => ?_)
        have h := pr_lt_at h e79
        refine pr_aload_n C dX3_control_87 rfl 3 rfl ?_
        refine pr_gN_7_2 C hk01 pr_nf36 dX3_control_88 ?_
        refine pr_iload C dX3_control_91 0 rfl ?_
        obtain ⟨v80, f81, hv, h⟩ := pr_bd_some h
        have K : pr_W (pr_EC l e) Y { frames := 2, cells := 0, slots := 0, locals := 44 } 5 f81 104 [(0, .ref (pr_ad (pr_EC l e) c)), (1, .ref (pr_ad (pr_EC l e) p1)), (3, .int r70), (4, .int r72)] [.int v80, .ref (pr_ad (pr_EC l e) (p1 + 5))] := by
          refine pr_pN_0_8 C hk66 pr_nf19 dX3_control_104 (fun f86 e87 => ?_)
          have h := pr_lt_at h e87
          refine pr_aload_n C dX3_control_107 rfl 1 rfl ?_
          refine pr_gN_7_2 C hk01 pr_nf36 dX3_control_108 ?_
          refine pr_aload_n C dX3_control_111 rfl 1 rfl ?_
          refine pr_iconst (v := 1) C dX3_control_112 (by decide) ?_
          obtain ⟨r89, hc88, h⟩ := pr_b1_some h
          refine k_X7_setting C pr_w140 hk01 hc88 (Nat.le_of_ble_eq_true rfl) (Nat.le_of_ble_eq_true rfl) (Nat.le_of_ble_eq_true rfl) dX3_control_113 ?_
          refine pr_iconst (v := 1) C dX3_control_116 (by decide) ?_
          refine pr_iadd C dX3_control_117 ?_
          refine pr_pN_0_2 C hk66 pr_nf8 dX3_control_118 (fun f90 e91 => ?_)
          have h := pr_lt_at h e91
          refine pr_iload_n C dX3_control_121 rfl 2 rfl ?_
          refine pr_if_eq (tgt := 135) C dX3_control_122 (by decide) (fun c92 => absurd c92 c73) (fun _ => ?_)
          refine pr_aload_n C dX3_control_125 rfl 0 rfl ?_
          refine pr_g_3_2 C hk0 pr_w82 dX3_control_126 ?_
          refine pr_iconst (v := 3) C dX3_control_129 (by decide) ?_
          refine pr_dup2 C dX3_control_130 rfl rfl ?_
          refine pr_iaload C hk60 (pr_inlit (by decide +kernel)) dX3_control_131 ?_
          refine pr_iconst (v := 1) C dX3_control_132 (by decide) ?_
          refine pr_iadd C dX3_control_133 ?_
          refine pr_iastore C hk60 (pr_inlit (by decide +kernel)) dX3_control_134 (fun f93 e94 => ?_)
          have h := pr_lt_at h e94
          refine pr_iload C dX3_control_135 3 rfl ?_
          refine pr_if_eq (tgt := 150) C dX3_control_137 (by decide) (fun c95 => ?_) (fun c95 => ?_)
          · have h := pr_ifT h c95
            obtain ⟨rfl, rfl⟩ := pr_inj h
            exact pr_vret C Z dX3_control_150
          · have h := pr_ifF h c95
            refine pr_aload_n C dX3_control_140 rfl 0 rfl ?_
            refine pr_g_3_2 C hk0 pr_w82 dX3_control_141 ?_
            refine pr_iconst (v := 4) C dX3_control_144 (by decide) ?_
            refine pr_dup2 C dX3_control_145 rfl rfl ?_
            refine pr_iaload C hk60 (pr_inlit (by decide +kernel)) dX3_control_146 ?_
            refine pr_iconst (v := 1) C dX3_control_147 (by decide) ?_
            refine pr_iadd C dX3_control_148 ?_
            refine pr_iastore C hk60 (pr_inlit (by decide +kernel)) dX3_control_149 (fun f96 e97 => ?_)
            have h := pr_lt_at h e97
            obtain ⟨rfl, rfl⟩ := pr_inj h
            exact pr_vret C Z dX3_control_150
        clear h
        have h := hv
        clear hv
        refine pr_if_eq (tgt := 103) C dX3_control_93 (by decide) (fun c82 => ?_) (fun c82 => ?_)
        · have h := pr_ifT h c82
          refine pr_iconst (v := 0) C dX3_control_103 (by decide) ?_
          obtain ⟨rfl, rfl⟩ := pr_inj h
          exact pr_pick [2, 3, 1, 0] rfl K
        · have h := pr_ifF h c82
          refine pr_aload_n C dX3_control_96 rfl 3 rfl ?_
          obtain ⟨r84, f85, hc83, h⟩ := pr_bd_some h
          refine k_X7_correctSkew C pr_w204 hk01 hc83 (Nat.le_of_ble_eq_true rfl) (Nat.le_of_ble_eq_true rfl) (Nat.le_of_ble_eq_true rfl) dX3_control_97 ?_
          refine pr_goto (tgt := 104) C dX3_control_100 (by decide) ?_
          obtain ⟨rfl, rfl⟩ := pr_inj h
          exact pr_pick [2, 3, 1, 0] rfl K
      · have h := pr_ifT h c73
        refine pr_iload C dX3_control_62 0 rfl ?_
        refine pr_if_ne (tgt := 68) C dX3_control_64 (by decide) (fun c98 => ?_) (fun c98 => ?_)
        · have h := pr_ifF h c98
          refine pr_aload_n C dX3_control_68 rfl 3 rfl ?_
          refine pr_gN_7_2 C hk01 pr_nf36 dX3_control_69 ?_
          refine pr_iload_n C dX3_control_72 rfl 1 rfl ?_
          refine pr_if_eq (tgt := 83) C dX3_control_73 (by decide) (fun _ => ?_) (fun c99 => absurd c73 c99)
          refine pr_iconst (v := 0) C dX3_control_83 (by decide) ?_
          refine pr_pN_0_7 C hk66 pr_nf18 dX3_control_84 (fun f100 e101 => ?_)
          have h := pr_lt_at h e101
          refine pr_aload_n C dX3_control_87 rfl 3 rfl ?_
          refine pr_gN_7_2 C hk01 pr_nf36 dX3_control_88 ?_
          refine pr_iload C dX3_control_91 0 rfl ?_
          refine pr_if_eq (tgt := 103) C dX3_control_93 (by decide) (fun c102 => absurd c102 c98) (fun _ => ?_)
          refine pr_aload_n C dX3_control_96 rfl 3 rfl ?_
          obtain ⟨r104, f105, hc103, h⟩ := pr_bd_some h
          refine k_X7_correctSkew C pr_w204 hk01 hc103 (Nat.le_of_ble_eq_true rfl) (Nat.le_of_ble_eq_true rfl) (Nat.le_of_ble_eq_true rfl) dX3_control_97 ?_
          refine pr_goto (tgt := 104) C dX3_control_100 (by decide) ?_
          refine pr_pN_0_8 C hk66 pr_nf19 dX3_control_104 (fun f106 e107 => ?_)
          have h := pr_lt_at h e107
          refine pr_aload_n C dX3_control_107 rfl 3 rfl ?_
          refine pr_gN_7_2 C hk01 pr_nf36 dX3_control_108 ?_
          refine pr_aload_n C dX3_control_111 rfl 3 rfl ?_
          refine pr_iconst (v := 1) C dX3_control_112 (by decide) ?_
          obtain ⟨r109, hc108, h⟩ := pr_b1_some h
          refine k_X7_setting C pr_w140 hk01 hc108 (Nat.le_of_ble_eq_true rfl) (Nat.le_of_ble_eq_true rfl) (Nat.le_of_ble_eq_true rfl) dX3_control_113 ?_
          refine pr_iconst (v := 1) C dX3_control_116 (by decide) ?_
          refine pr_iadd C dX3_control_117 ?_
          refine pr_pN_0_2 C hk66 pr_nf8 dX3_control_118 (fun f110 e111 => ?_)
          have h := pr_lt_at h e111
          refine pr_iload_n C dX3_control_121 rfl 1 rfl ?_
          refine pr_if_eq (tgt := 135) C dX3_control_122 (by decide) (fun _ => ?_) (fun c112 => absurd c73 c112)
          refine pr_iload C dX3_control_135 0 rfl ?_
          refine pr_if_eq (tgt := 150) C dX3_control_137 (by decide) (fun c113 => absurd c113 c98) (fun _ => ?_)
          refine pr_aload_n C dX3_control_140 rfl 2 rfl ?_
          refine pr_g_3_2 C hk0 pr_w82 dX3_control_141 ?_
          refine pr_iconst (v := 4) C dX3_control_144 (by decide) ?_
          refine pr_dup2 C dX3_control_145 rfl rfl ?_
          refine pr_iaload C hk60 (pr_inlit (by decide +kernel)) dX3_control_146 ?_
          refine pr_iconst (v := 1) C dX3_control_147 (by decide) ?_
          refine pr_iadd C dX3_control_148 ?_
          refine pr_iastore C hk60 (pr_inlit (by decide +kernel)) dX3_control_149 (fun f114 e115 => ?_)
          have h := pr_lt_at h e115
          obtain ⟨rfl, rfl⟩ := pr_inj h
          exact pr_vret C Z dX3_control_150
        · have h := pr_ifT h c98
          obtain ⟨rfl, rfl⟩ := pr_inj h
          exact pr_vret C Z dX3_control_67
    · have h := pr_ifF h c67
      obtain ⟨rfl, rfl⟩ := pr_inj h
      exact pr_vret C Z dX3_control_32
theorem k_X3_control {l : Launch} {e : pr_E0} {Y : pr_Y} {Rm : Room} {cc : ByteArray} {own : String} {nL : Nat} {c0 : Cond} {pc idx : Nat} {lv : List (Nat × Value)} {st : List Value} {c : Nat} {p1 : Nat} {p2 : Int32} {f : pr_M} {r : Unit} {g : pr_M} (C : pr_C (pr_EC l e) Y Rm cc own nL c0) (w1 : Cond.methodLink own idx yX3_control ∈ pr_AL) (hk0 : (pr_LE e)[c]? = some (3, 0)) (hk01 : (pr_LE e)[p1]? = some (7, 0)) (h : F_X3_control c p1 p2 f = some (r, g)) (hr1 : 3 ≤ Rm.frames) (hr2 : 68 ≤ Rm.locals) (hcat : (st.map fun v => v.category).sum ≤ 8) (hdg : decode cc pc = .ok (.invokevirtual idx, 3)) (k : pr_W (pr_EC l e) Y Rm nL g (pc + 3) lv (st)) : pr_W (pr_EC l e) Y Rm nL f pc lv (.int p2 :: .ref (pr_ad (pr_EC l e) p1) :: .ref (pr_ad (pr_EC l e) c) :: st) :=
  pr_callV (As := [.ref (pr_ad (pr_EC l e) p1), .int p2]) (n := 2) C (m_X3_control hk0 hk01 h) hk0 (by decide) rfl w1 pr_w222 pr_w223 pr_w137 pr_w207 rfl rfl ⟨rfl, by decide +kernel, by decide +kernel, by decide +kernel⟩ rfl ⟨hr1, hr2⟩ rfl hcat hdg k

def F_X3_watchUnit (c : Nat) (p1 : Nat) (p2 : Int32) (f : pr_M) : Option (Unit × pr_M) :=
  pr_b1 (F_X7_setting p1 1 f) fun r2 =>
  if 0 ≤ (((f c 4) - r2) - p2) then (
    pr_b1 (F_X4_offsetAt (p1 + 2) ((f c 4) - r2) f) fun r6 =>
    pr_b1 (F_X4_offsetAt (((c + 1) + 3 + 9 * Int32.toNatClampNeg 0) + 2) (((f c 4) - r2) - p2) f) fun r11 =>
    pr_b1 (F_X4_skewAt (p1 + 2) ((f c 4) - r2) f) fun r14 =>
    pr_bd (F_X5_seePiece (p1 + 6) (r6 - r11) r14 f) fun u16 f17 =>
    pr_bd (F_X7_recognizeMark p1 f17) fun r19 f20 =>
    if r19 = 0 then (
      pr_lt (pr_up f20 (c + 3) (Int32.toNatClampNeg 2) ((f20 (c + 3) (Int32.toNatClampNeg 2)) + 1)) fun f23 =>
      some ((), f23)
    ) else (
      pr_lt (pr_up f20 (c + 3) (Int32.toNatClampNeg 0) ((f20 (c + 3) (Int32.toNatClampNeg 0)) + 1)) fun f26 =>
      if (f26 (p1 + 6) 7) = 2 then (
        pr_lt (pr_up f26 (c + 3) (Int32.toNatClampNeg 1) ((f26 (c + 3) (Int32.toNatClampNeg 1)) + 1)) fun f34 =>
        pr_gd (¬ ((((f c 4) - r2) &&& 127) < 0 ∨ 128 ≤ Int32.toNatClampNeg (((f c 4) - r2) &&& 127))) <|
        pr_bd (F_X3_control c p1 (f34 (c + 2) (Int32.toNatClampNeg (((f c 4) - r2) &&& 127))) f34) fun u39 f40 =>
        some ((), f40)
      ) else (
        pr_gd (¬ ((((f c 4) - r2) &&& 127) < 0 ∨ 128 ≤ Int32.toNatClampNeg (((f c 4) - r2) &&& 127))) <|
        pr_bd (F_X3_control c p1 (f26 (c + 2) (Int32.toNatClampNeg (((f c 4) - r2) &&& 127))) f26) fun u32 f33 =>
        some ((), f33)
      )
    )
  ) else (
    pr_bd (F_X5_seeNothing (p1 + 6) f) fun u43 f44 =>
    some ((), f44)
  )
set_option maxHeartbeats 4000000 in
set_option maxRecDepth 100000 in
theorem m_X3_watchUnit {l : Launch} {e : pr_E0} {c : Nat} {p1 : Nat} {p2 : Int32} {f : pr_M} {r : Unit} {g : pr_M} (hk0 : (pr_LE e)[c]? = some (3, 0)) (hk01 : (pr_LE e)[p1]? = some (7, 0)) (h : F_X3_watchUnit c p1 p2 f = some (r, g)) : pr_Met (pr_EC l e) yX3_watchUnit cX3_watchUnit 6 none { frames := 3, cells := 0, slots := 0, locals := 69 } [.ref (pr_ad (pr_EC l e) c), .ref (pr_ad (pr_EC l e) p1), .int p2] f none g := by
  rw [F_X3_watchUnit] at h
  refine pr_enter (by decide +kernel) (Nat.le_of_ble_eq_true rfl) (fun Y C Z => ?_)
  replace C : pr_C (pr_EC l e) Y { frames := 3, cells := 0, slots := 0, locals := 69 } cX3_watchUnit RX3 6 _ := C
  show pr_W (pr_EC l e) Y _ 6 f 0 [(0, .ref (pr_ad (pr_EC l e) c)), (1, .ref (pr_ad (pr_EC l e) p1)), (2, .int p2)] []
  refine pr_aload_n C dX3_watchUnit_0 rfl 0 rfl ?_
  refine pr_g_3_4 C hk0 pr_w122 dX3_watchUnit_1 ?_
  refine pr_aload_n C dX3_watchUnit_4 rfl 1 rfl ?_
  refine pr_iconst (v := 1) C dX3_watchUnit_5 (by decide) ?_
  obtain ⟨r2, hc1, h⟩ := pr_b1_some h
  refine k_X7_setting C pr_w140 hk01 hc1 (Nat.le_of_ble_eq_true rfl) (Nat.le_of_ble_eq_true rfl) (Nat.le_of_ble_eq_true rfl) dX3_watchUnit_6 ?_
  refine pr_isub C dX3_watchUnit_9 ?_
  refine pr_istore_n (lv' := [(3, .int ((f c 4) - r2)), (0, .ref (pr_ad (pr_EC l e) c)), (1, .ref (pr_ad (pr_EC l e) p1)), (2, .int p2)]) C dX3_watchUnit_10 rfl (by decide) rfl ?_
  refine pr_iload_n C dX3_watchUnit_11 rfl 0 rfl ?_
  refine pr_iload_n C dX3_watchUnit_12 rfl 3 rfl ?_
  refine pr_isub C dX3_watchUnit_13 ?_
  refine pr_istore (lv' := [(4, .int (((f c 4) - r2) - p2)), (3, .int ((f c 4) - r2)), (0, .ref (pr_ad (pr_EC l e) c)), (1, .ref (pr_ad (pr_EC l e) p1)), (2, .int p2)]) C dX3_watchUnit_14 (by decide) rfl ?_
  refine pr_iload C dX3_watchUnit_16 0 rfl ?_
  refine pr_if_ge (tgt := 29) C dX3_watchUnit_18 (by decide) (fun c3 => ?_) (fun c3 => ?_)
  · have h := pr_ifT h c3
    refine pr_aload_n C dX3_watchUnit_29 rfl 3 rfl ?_
    refine pr_gN_7_1 C hk01 pr_nf35 dX3_watchUnit_30 ?_
    have hk4 := pr_kC_7_1 hk01
    refine pr_iload_n C dX3_watchUnit_33 rfl 1 rfl ?_
    obtain ⟨r6, hc5, h⟩ := pr_b1_some h
    refine k_X4_offsetAt C pr_w209 hk4 hc5 (Nat.le_of_ble_eq_true rfl) (Nat.le_of_ble_eq_true rfl) (Nat.le_of_ble_eq_true rfl) dX3_watchUnit_34 ?_
    refine pr_aload_n C dX3_watchUnit_37 rfl 2 rfl ?_
    refine pr_g_3_0 C hk0 pr_w80 dX3_watchUnit_38 ?_
    have hk7 := pr_kC_3_0 hk0
    refine pr_iconst (v := 0) C dX3_watchUnit_41 (by decide) ?_
    refine pr_aaload C hk7 (pr_inlit (by decide +kernel)) dX3_watchUnit_42 ?_
    have hk8 := pr_kC_u (i := 0) hk7 (pr_inlit (by decide +kernel))
    refine pr_gN_7_1 C hk8 pr_nf35 dX3_watchUnit_43 ?_
    have hk9 := pr_kC_7_1 hk8
    refine pr_iload C dX3_watchUnit_46 0 rfl ?_
    obtain ⟨r11, hc10, h⟩ := pr_b1_some h
    refine k_X4_offsetAt C pr_w209 hk9 hc10 (Nat.le_of_ble_eq_true rfl) (Nat.le_of_ble_eq_true rfl) (Nat.le_of_ble_eq_true rfl) dX3_watchUnit_48 ?_
    refine pr_isub C dX3_watchUnit_51 ?_
    refine pr_istore (lv' := [(5, .int (r6 - r11)), (4, .int (((f c 4) - r2) - p2)), (3, .int ((f c 4) - r2)), (0, .ref (pr_ad (pr_EC l e) c)), (1, .ref (pr_ad (pr_EC l e) p1)), (2, .int p2)]) C dX3_watchUnit_52 (by decide) rfl ?_
    refine pr_aload_n C dX3_watchUnit_54 rfl 4 rfl ?_
    refine pr_gN_7_3 C hk01 pr_nf39 dX3_watchUnit_55 ?_
    have hk12 := pr_kC_7_3 hk01
    refine pr_iload C dX3_watchUnit_58 0 rfl ?_
    refine pr_aload_n C dX3_watchUnit_60 rfl 4 rfl ?_
    refine pr_gN_7_1 C hk01 pr_nf35 dX3_watchUnit_61 ?_
    refine pr_iload_n C dX3_watchUnit_64 rfl 2 rfl ?_
    obtain ⟨r14, hc13, h⟩ := pr_b1_some h
    refine k_X4_skewAt C pr_w212 hk4 hc13 (Nat.le_of_ble_eq_true rfl) (Nat.le_of_ble_eq_true rfl) (Nat.le_of_ble_eq_true rfl) dX3_watchUnit_65 ?_
    obtain ⟨u16, f17, hc15, h⟩ := pr_bd_some h
    refine k_X5_seePiece C pr_w215 hk12 hc15 (Nat.le_of_ble_eq_true rfl) (Nat.le_of_ble_eq_true rfl) (Nat.le_of_ble_eq_true rfl) dX3_watchUnit_68 ?_
    refine pr_aload_n C dX3_watchUnit_71 rfl 4 rfl ?_
    obtain ⟨r19, f20, hc18, h⟩ := pr_bd_some h
    refine k_X7_recognizeMark C pr_w218 hk01 hc18 (Nat.le_of_ble_eq_true rfl) (Nat.le_of_ble_eq_true rfl) (Nat.le_of_ble_eq_true rfl) dX3_watchUnit_72 ?_
    refine pr_if_eq (tgt := 126) C dX3_watchUnit_75 (by decide) (fun c21 => ?_) (fun c21 => ?_)
    · have h := pr_ifT h c21
      refine pr_aload_n C dX3_watchUnit_126 rfl 3 rfl ?_
      refine pr_g_3_2 C hk0 pr_w82 dX3_watchUnit_127 ?_
      have hk22 := pr_kC_3_2 hk0
      refine pr_iconst (v := 2) C dX3_watchUnit_130 (by decide) ?_
      refine pr_dup2 C dX3_watchUnit_131 rfl rfl ?_
      refine pr_iaload C hk22 (pr_inlit (by decide +kernel)) dX3_watchUnit_132 ?_
      refine pr_iconst (v := 1) C dX3_watchUnit_133 (by decide) ?_
      refine pr_iadd C dX3_watchUnit_134 ?_
      refine pr_iastore C hk22 (pr_inlit (by decide +kernel)) dX3_watchUnit_135 (fun f23 e24 => ?_)
      have h := pr_lt_at h e24
      obtain ⟨rfl, rfl⟩ := pr_inj h
      exact pr_vret C Z dX3_watchUnit_136
    · have h := pr_ifF h c21
      refine pr_aload_n C dX3_watchUnit_78 rfl 3 rfl ?_
      refine pr_g_3_2 C hk0 pr_w82 dX3_watchUnit_79 ?_
      have hk25 := pr_kC_3_2 hk0
      refine pr_iconst (v := 0) C dX3_watchUnit_82 (by decide) ?_
      refine pr_dup2 C dX3_watchUnit_83 rfl rfl ?_
      refine pr_iaload C hk25 (pr_inlit (by decide +kernel)) dX3_watchUnit_84 ?_
      refine pr_iconst (v := 1) C dX3_watchUnit_85 (by decide) ?_
      refine pr_iadd C dX3_watchUnit_86 ?_
      refine pr_iastore C hk25 (pr_inlit (by decide +kernel)) dX3_watchUnit_87 (fun f26 e27 => ?_)
      have h := pr_lt_at h e27
      refine pr_aload_n C dX3_watchUnit_88 rfl 4 rfl ?_
      refine pr_gN_7_3 C hk01 pr_nf39 dX3_watchUnit_89 ?_
      refine pr_gN_5_7 C hk12 pr_nf28 dX3_watchUnit_92 ?_
      refine pr_iconst (v := 2) C dX3_watchUnit_95 (by decide) ?_
      refine pr_icmp_ne (tgt := 109) C dX3_watchUnit_96 (by decide) (fun c28 => ?_) (fun c28 => ?_)
      · have h := pr_ifF h c28
        refine pr_aload_n C dX3_watchUnit_109 rfl 3 rfl ?_
        refine pr_aload_n C dX3_watchUnit_110 rfl 4 rfl ?_
        refine pr_aload_n C dX3_watchUnit_111 rfl 3 rfl ?_
        refine pr_g_3_1 C hk0 pr_w81 dX3_watchUnit_112 ?_
        have hk29 := pr_kC_3_1 hk0
        refine pr_iload_n C dX3_watchUnit_115 rfl 2 rfl ?_
        refine pr_bipush (v := 127) C dX3_watchUnit_116 (by decide) ?_
        refine pr_iand C dX3_watchUnit_118 ?_
        obtain ⟨hg30, h⟩ := pr_gd_some h
        refine pr_iaload C hk29 hg30 dX3_watchUnit_119 ?_
        obtain ⟨u32, f33, hc31, h⟩ := pr_bd_some h
        refine k_X3_control C pr_w221 hk0 hk01 hc31 (Nat.le_of_ble_eq_true rfl) (Nat.le_of_ble_eq_true rfl) (Nat.le_of_ble_eq_true rfl) dX3_watchUnit_120 ?_
        refine pr_goto (tgt := 136) C dX3_watchUnit_123 (by decide) ?_
        obtain ⟨rfl, rfl⟩ := pr_inj h
        exact pr_vret C Z dX3_watchUnit_136
      · have h := pr_ifT h c28
        refine pr_aload_n C dX3_watchUnit_99 rfl 3 rfl ?_
        refine pr_g_3_2 C hk0 pr_w82 dX3_watchUnit_100 ?_
        refine pr_iconst (v := 1) C dX3_watchUnit_103 (by decide) ?_
        refine pr_dup2 C dX3_watchUnit_104 rfl rfl ?_
        refine pr_iaload C hk25 (pr_inlit (by decide +kernel)) dX3_watchUnit_105 ?_
        refine pr_iconst (v := 1) C dX3_watchUnit_106 (by decide) ?_
        refine pr_iadd C dX3_watchUnit_107 ?_
        refine pr_iastore C hk25 (pr_inlit (by decide +kernel)) dX3_watchUnit_108 (fun f34 e35 => ?_)
        have h := pr_lt_at h e35
        refine pr_aload_n C dX3_watchUnit_109 rfl 3 rfl ?_
        refine pr_aload_n C dX3_watchUnit_110 rfl 4 rfl ?_
        refine pr_aload_n C dX3_watchUnit_111 rfl 3 rfl ?_
        refine pr_g_3_1 C hk0 pr_w81 dX3_watchUnit_112 ?_
        have hk36 := pr_kC_3_1 hk0
        refine pr_iload_n C dX3_watchUnit_115 rfl 2 rfl ?_
        refine pr_bipush (v := 127) C dX3_watchUnit_116 (by decide) ?_
        refine pr_iand C dX3_watchUnit_118 ?_
        obtain ⟨hg37, h⟩ := pr_gd_some h
        refine pr_iaload C hk36 hg37 dX3_watchUnit_119 ?_
        obtain ⟨u39, f40, hc38, h⟩ := pr_bd_some h
        refine k_X3_control C pr_w221 hk0 hk01 hc38 (Nat.le_of_ble_eq_true rfl) (Nat.le_of_ble_eq_true rfl) (Nat.le_of_ble_eq_true rfl) dX3_watchUnit_120 ?_
        refine pr_goto (tgt := 136) C dX3_watchUnit_123 (by decide) ?_
        obtain ⟨rfl, rfl⟩ := pr_inj h
        exact pr_vret C Z dX3_watchUnit_136
  · have h := pr_ifF h c3
    refine pr_aload_n C dX3_watchUnit_21 rfl 3 rfl ?_
    refine pr_gN_7_3 C hk01 pr_nf39 dX3_watchUnit_22 ?_
    have hk41 := pr_kC_7_3 hk01
    obtain ⟨u43, f44, hc42, h⟩ := pr_bd_some h
    refine k_X5_seeNothing C pr_w208 hk41 hc42 (Nat.le_of_ble_eq_true rfl) (Nat.le_of_ble_eq_true rfl) (Nat.le_of_ble_eq_true rfl) dX3_watchUnit_25 ?_
    obtain ⟨rfl, rfl⟩ := pr_inj h
    exact pr_vret C Z dX3_watchUnit_28
theorem k_X3_watchUnit {l : Launch} {e : pr_E0} {Y : pr_Y} {Rm : Room} {cc : ByteArray} {own : String} {nL : Nat} {c0 : Cond} {pc idx : Nat} {lv : List (Nat × Value)} {st : List Value} {c : Nat} {p1 : Nat} {p2 : Int32} {f : pr_M} {r : Unit} {g : pr_M} (C : pr_C (pr_EC l e) Y Rm cc own nL c0) (w1 : Cond.methodLink own idx yX3_watchUnit ∈ pr_AL) (hk0 : (pr_LE e)[c]? = some (3, 0)) (hk01 : (pr_LE e)[p1]? = some (7, 0)) (h : F_X3_watchUnit c p1 p2 f = some (r, g)) (hr1 : 4 ≤ Rm.frames) (hr2 : 94 ≤ Rm.locals) (hcat : (st.map fun v => v.category).sum ≤ 8) (hdg : decode cc pc = .ok (.invokevirtual idx, 3)) (k : pr_W (pr_EC l e) Y Rm nL g (pc + 3) lv (st)) : pr_W (pr_EC l e) Y Rm nL f pc lv (.int p2 :: .ref (pr_ad (pr_EC l e) p1) :: .ref (pr_ad (pr_EC l e) c) :: st) :=
  pr_callV (As := [.ref (pr_ad (pr_EC l e) p1), .int p2]) (n := 2) C (m_X3_watchUnit hk0 hk01 h) hk0 (by decide) rfl w1 pr_w236 pr_w237 pr_w137 pr_w224 rfl rfl ⟨rfl, by decide +kernel, by decide +kernel, by decide +kernel⟩ rfl ⟨hr1, hr2⟩ rfl hcat hdg k

def F_X8_lessOne (p1 : Int32) (f : pr_M) : Option (Int32) :=
  if p1 ≤ 0 then (
    some 0
  ) else (
    some (p1 - 1)
  )
set_option maxHeartbeats 4000000 in
set_option maxRecDepth 100000 in
theorem m_X8_lessOne {l : Launch} {e : pr_E0} {p1 : Int32} {f : pr_M} {r : Int32}  (h : F_X8_lessOne p1 f = some r) : pr_Met (pr_EC l e) yX8_lessOne cX8_lessOne 1 (some .int) { frames := 0, cells := 0, slots := 0, locals := 0 } [.int p1] f (some (.int r)) f := by
  rw [F_X8_lessOne] at h
  refine pr_enter (by decide +kernel) (Nat.le_of_ble_eq_true rfl) (fun Y C Z => ?_)
  replace C : pr_C (pr_EC l e) Y { frames := 0, cells := 0, slots := 0, locals := 0 } cX8_lessOne RX8 1 _ := C
  show pr_W (pr_EC l e) Y _ 1 f 0 [(0, .int p1)] []
  refine pr_iload_n C dX8_lessOne_0 rfl 0 rfl ?_
  refine pr_if_le (tgt := 10) C dX8_lessOne_1 (by decide) (fun c1 => ?_) (fun c1 => ?_)
  · have h := pr_ifT h c1
    refine pr_iconst (v := 0) C dX8_lessOne_10 (by decide) ?_
    obtain rfl := pr_in1 h
    exact pr_iret C Z dX8_lessOne_11
  · have h := pr_ifF h c1
    refine pr_iload_n C dX8_lessOne_4 rfl 0 rfl ?_
    refine pr_iconst (v := 1) C dX8_lessOne_5 (by decide) ?_
    refine pr_isub C dX8_lessOne_6 ?_
    refine pr_goto (tgt := 11) C dX8_lessOne_7 (by decide) ?_
    obtain rfl := pr_in1 h
    exact pr_iret C Z dX8_lessOne_11
theorem k_X8_lessOneN {l : Launch} {e : pr_E0} {Y : pr_Y} {Rm : Room} {cc : ByteArray} {own : String} {nL : Nat} {c0 : Cond} {pc idx : Nat} {lv : List (Nat × Value)} {st : List Value} {p1 : Int32} {f : pr_M} {r : Int32} (C : pr_C (pr_EC l e) Y Rm cc own nL c0) (w1 : Cond.methodLinkNest own idx yX8_lessOne "PrintRegister" ∈ pr_NW)  (h : F_X8_lessOne p1 f = some r) (hr1 : 1 ≤ Rm.frames) (hr2 : 20 ≤ Rm.locals) (hcat : (st.map fun v => v.category).sum ≤ 8) (hdg : decode cc pc = .ok (.invokestatic idx, 3)) (k : pr_W (pr_EC l e) Y Rm nL f (pc + 3) lv (.int r :: st)) : pr_W (pr_EC l e) Y Rm nL f pc lv (.int p1 :: st) :=
  pr_callSN (As := [.int p1]) (n := 1) C (m_X8_lessOne  h) w1 pr_w16 pr_w17 pr_w14 rfl rfl ⟨by decide +kernel, by decide +kernel, by decide +kernel⟩ rfl ⟨hr1, hr2⟩ rfl hcat hdg k

def F_X0_endRepeat (c : Nat) (f : pr_M) : Option (Unit × pr_M) :=
  if (f c 2) ≤ 0 then (
    pr_b1 (F_X8_lessOne (f c 4) f) fun r3 =>
    pr_lt (pr_up f c 4 r3) fun f4 =>
    some ((), f4)
  ) else (
    pr_lt (pr_up f c 2 ((f c 2) - 1)) fun f6 =>
    if (f6 c 2) = 0 then (
      pr_lt (pr_up f6 c 5 ((f6 c 5) + (f6 c 7))) fun f13 =>
      pr_lt (pr_up f13 c 6 ((f13 c 6) + (f13 c 8))) fun f15 =>
      pr_b1 (F_X8_lessOne (f15 c 4) f15) fun r18 =>
      pr_lt (pr_up f15 c 4 r18) fun f19 =>
      some ((), f19)
    ) else (
      pr_b1 (F_X8_lessOne (f6 c 4) f6) fun r10 =>
      pr_lt (pr_up f6 c 4 r10) fun f11 =>
      some ((), f11)
    )
  )
set_option maxHeartbeats 4000000 in
set_option maxRecDepth 100000 in
theorem m_X0_endRepeat {l : Launch} {e : pr_E0} {c : Nat} {f : pr_M} {r : Unit} {g : pr_M} (hk0 : (pr_LE e)[c]? = some (0, 0)) (h : F_X0_endRepeat c f = some (r, g)) : pr_Met (pr_EC l e) yX0_endRepeat cX0_endRepeat 1 none { frames := 1, cells := 0, slots := 0, locals := 20 } [.ref (pr_ad (pr_EC l e) c)] f none g := by
  rw [F_X0_endRepeat] at h
  refine pr_enter (by decide +kernel) (Nat.le_of_ble_eq_true rfl) (fun Y C Z => ?_)
  replace C : pr_C (pr_EC l e) Y { frames := 1, cells := 0, slots := 0, locals := 20 } cX0_endRepeat RX0 1 _ := C
  show pr_W (pr_EC l e) Y _ 1 f 0 [(0, .ref (pr_ad (pr_EC l e) c))] []
  refine pr_aload_n C dX0_endRepeat_0 rfl 0 rfl ?_
  refine pr_g_0_2 C hk0 pr_w7 dX0_endRepeat_1 ?_
  refine pr_if_le (tgt := 50) C dX0_endRepeat_4 (by decide) (fun c1 => ?_) (fun c1 => ?_)
  · have h := pr_ifT h c1
    refine pr_aload_n C dX0_endRepeat_50 rfl 0 rfl ?_
    refine pr_aload_n C dX0_endRepeat_51 rfl 0 rfl ?_
    refine pr_g_0_4 C hk0 pr_w9 dX0_endRepeat_52 ?_
    obtain ⟨r3, hc2, h⟩ := pr_b1_some h
    refine k_X8_lessOneN C pr_nm8  hc2 (Nat.le_of_ble_eq_true rfl) (Nat.le_of_ble_eq_true rfl) (Nat.le_of_ble_eq_true rfl) dX0_endRepeat_55 ?_
    refine pr_p_0_4 C hk0 pr_w9 dX0_endRepeat_58 (fun f4 e5 => ?_)
    have h := pr_lt_at h e5
    obtain ⟨rfl, rfl⟩ := pr_inj h
    exact pr_vret C Z dX0_endRepeat_61
  · have h := pr_ifF h c1
    refine pr_aload_n C dX0_endRepeat_7 rfl 0 rfl ?_
    refine pr_dup C dX0_endRepeat_8 rfl ?_
    refine pr_g_0_2 C hk0 pr_w7 dX0_endRepeat_9 ?_
    refine pr_iconst (v := 1) C dX0_endRepeat_12 (by decide) ?_
    refine pr_isub C dX0_endRepeat_13 ?_
    refine pr_p_0_2 C hk0 pr_w7 dX0_endRepeat_14 (fun f6 e7 => ?_)
    have h := pr_lt_at h e7
    refine pr_aload_n C dX0_endRepeat_17 rfl 0 rfl ?_
    refine pr_g_0_2 C hk0 pr_w7 dX0_endRepeat_18 ?_
    refine pr_if_ne (tgt := 50) C dX0_endRepeat_21 (by decide) (fun c8 => ?_) (fun c8 => ?_)
    · have h := pr_ifF h c8
      refine pr_aload_n C dX0_endRepeat_50 rfl 0 rfl ?_
      refine pr_aload_n C dX0_endRepeat_51 rfl 0 rfl ?_
      refine pr_g_0_4 C hk0 pr_w9 dX0_endRepeat_52 ?_
      obtain ⟨r10, hc9, h⟩ := pr_b1_some h
      refine k_X8_lessOneN C pr_nm8  hc9 (Nat.le_of_ble_eq_true rfl) (Nat.le_of_ble_eq_true rfl) (Nat.le_of_ble_eq_true rfl) dX0_endRepeat_55 ?_
      refine pr_p_0_4 C hk0 pr_w9 dX0_endRepeat_58 (fun f11 e12 => ?_)
      have h := pr_lt_at h e12
      obtain ⟨rfl, rfl⟩ := pr_inj h
      exact pr_vret C Z dX0_endRepeat_61
    · have h := pr_ifT h c8
      refine pr_aload_n C dX0_endRepeat_24 rfl 0 rfl ?_
      refine pr_dup C dX0_endRepeat_25 rfl ?_
      refine pr_g_0_5 C hk0 pr_w10 dX0_endRepeat_26 ?_
      refine pr_aload_n C dX0_endRepeat_29 rfl 0 rfl ?_
      refine pr_g_0_7 C hk0 pr_w12 dX0_endRepeat_30 ?_
      refine pr_iadd C dX0_endRepeat_33 ?_
      refine pr_p_0_5 C hk0 pr_w10 dX0_endRepeat_34 (fun f13 e14 => ?_)
      have h := pr_lt_at h e14
      refine pr_aload_n C dX0_endRepeat_37 rfl 0 rfl ?_
      refine pr_dup C dX0_endRepeat_38 rfl ?_
      refine pr_g_0_6 C hk0 pr_w11 dX0_endRepeat_39 ?_
      refine pr_aload_n C dX0_endRepeat_42 rfl 0 rfl ?_
      refine pr_g_0_8 C hk0 pr_w13 dX0_endRepeat_43 ?_
      refine pr_iadd C dX0_endRepeat_46 ?_
      refine pr_p_0_6 C hk0 pr_w11 dX0_endRepeat_47 (fun f15 e16 => ?_)
      have h := pr_lt_at h e16
      refine pr_aload_n C dX0_endRepeat_50 rfl 0 rfl ?_
      refine pr_aload_n C dX0_endRepeat_51 rfl 0 rfl ?_
      refine pr_g_0_4 C hk0 pr_w9 dX0_endRepeat_52 ?_
      obtain ⟨r18, hc17, h⟩ := pr_b1_some h
      refine k_X8_lessOneN C pr_nm8  hc17 (Nat.le_of_ble_eq_true rfl) (Nat.le_of_ble_eq_true rfl) (Nat.le_of_ble_eq_true rfl) dX0_endRepeat_55 ?_
      refine pr_p_0_4 C hk0 pr_w9 dX0_endRepeat_58 (fun f19 e20 => ?_)
      have h := pr_lt_at h e20
      obtain ⟨rfl, rfl⟩ := pr_inj h
      exact pr_vret C Z dX0_endRepeat_61
theorem k_X0_endRepeat {l : Launch} {e : pr_E0} {Y : pr_Y} {Rm : Room} {cc : ByteArray} {own : String} {nL : Nat} {c0 : Cond} {pc idx : Nat} {lv : List (Nat × Value)} {st : List Value} {c : Nat} {f : pr_M} {r : Unit} {g : pr_M} (C : pr_C (pr_EC l e) Y Rm cc own nL c0) (w1 : Cond.methodLink own idx yX0_endRepeat ∈ pr_AL) (hk0 : (pr_LE e)[c]? = some (0, 0)) (h : F_X0_endRepeat c f = some (r, g)) (hr1 : 2 ≤ Rm.frames) (hr2 : 40 ≤ Rm.locals) (hcat : (st.map fun v => v.category).sum ≤ 8) (hdg : decode cc pc = .ok (.invokevirtual idx, 3)) (k : pr_W (pr_EC l e) Y Rm nL g (pc + 3) lv (st)) : pr_W (pr_EC l e) Y Rm nL f pc lv (.ref (pr_ad (pr_EC l e) c) :: st) :=
  pr_callV (As := []) (n := 0) C (m_X0_endRepeat hk0 h) hk0 (by decide) rfl w1 pr_w227 pr_w228 pr_w68 pr_w15 rfl rfl ⟨rfl, by decide +kernel, by decide +kernel, by decide +kernel⟩ rfl ⟨hr1, hr2⟩ rfl hcat hdg k

def F_X7_endRepeat (c : Nat) (f : pr_M) : Option (Unit × pr_M) :=
  pr_bd (F_X0_endRepeat (c + 5) f) fun u3 f4 =>
  pr_b1 (F_X8_lessOne (f4 (c + 2) 7) f4) fun r7 =>
  pr_lt (pr_up f4 (c + 2) 7 r7) fun f8 =>
  pr_b1 (F_X8_lessOne (f8 (c + 6) 1) f8) fun r12 =>
  pr_lt (pr_up f8 (c + 6) 1 r12) fun f13 =>
  pr_b1 (F_X8_lessOne (f13 (c + 6) 3) f13) fun r16 =>
  pr_lt (pr_up f13 (c + 6) 3 r16) fun f17 =>
  some ((), f17)
set_option maxHeartbeats 4000000 in
set_option maxRecDepth 100000 in
theorem m_X7_endRepeat {l : Launch} {e : pr_E0} {c : Nat} {f : pr_M} {r : Unit} {g : pr_M} (hk0 : (pr_LE e)[c]? = some (7, 0)) (h : F_X7_endRepeat c f = some (r, g)) : pr_Met (pr_EC l e) yX7_endRepeat cX7_endRepeat 1 none { frames := 2, cells := 0, slots := 0, locals := 40 } [.ref (pr_ad (pr_EC l e) c)] f none g := by
  rw [F_X7_endRepeat] at h
  refine pr_enter (by decide +kernel) (Nat.le_of_ble_eq_true rfl) (fun Y C Z => ?_)
  replace C : pr_C (pr_EC l e) Y { frames := 2, cells := 0, slots := 0, locals := 40 } cX7_endRepeat RX7 1 _ := C
  show pr_W (pr_EC l e) Y _ 1 f 0 [(0, .ref (pr_ad (pr_EC l e) c))] []
  refine pr_aload_n C dX7_endRepeat_0 rfl 0 rfl ?_
  refine pr_g_7_2 C hk0 pr_w69 dX7_endRepeat_1 ?_
  have hk1 := pr_kC_7_2 hk0
  obtain ⟨u3, f4, hc2, h⟩ := pr_bd_some h
  refine k_X0_endRepeat C pr_w226 hk1 hc2 (Nat.le_of_ble_eq_true rfl) (Nat.le_of_ble_eq_true rfl) (Nat.le_of_ble_eq_true rfl) dX7_endRepeat_4 ?_
  refine pr_aload_n C dX7_endRepeat_7 rfl 0 rfl ?_
  refine pr_g_7_1 C hk0 pr_w65 dX7_endRepeat_8 ?_
  have hk5 := pr_kC_7_1 hk0
  refine pr_aload_n C dX7_endRepeat_11 rfl 0 rfl ?_
  refine pr_g_7_1 C hk0 pr_w65 dX7_endRepeat_12 ?_
  refine pr_gN_4_7 C hk5 pr_nf3 dX7_endRepeat_15 ?_
  obtain ⟨r7, hc6, h⟩ := pr_b1_some h
  refine k_X8_lessOneN C pr_nm9  hc6 (Nat.le_of_ble_eq_true rfl) (Nat.le_of_ble_eq_true rfl) (Nat.le_of_ble_eq_true rfl) dX7_endRepeat_18 ?_
  refine pr_pN_4_7 C hk5 pr_nf3 dX7_endRepeat_21 (fun f8 e9 => ?_)
  have h := pr_lt_at h e9
  refine pr_aload_n C dX7_endRepeat_24 rfl 0 rfl ?_
  refine pr_g_7_3 C hk0 pr_w73 dX7_endRepeat_25 ?_
  have hk10 := pr_kC_7_3 hk0
  refine pr_aload_n C dX7_endRepeat_28 rfl 0 rfl ?_
  refine pr_g_7_3 C hk0 pr_w73 dX7_endRepeat_29 ?_
  refine pr_gN_5_1 C hk10 pr_nf22 dX7_endRepeat_32 ?_
  obtain ⟨r12, hc11, h⟩ := pr_b1_some h
  refine k_X8_lessOneN C pr_nm9  hc11 (Nat.le_of_ble_eq_true rfl) (Nat.le_of_ble_eq_true rfl) (Nat.le_of_ble_eq_true rfl) dX7_endRepeat_35 ?_
  refine pr_pN_5_1 C hk10 pr_nf22 dX7_endRepeat_38 (fun f13 e14 => ?_)
  have h := pr_lt_at h e14
  refine pr_aload_n C dX7_endRepeat_41 rfl 0 rfl ?_
  refine pr_g_7_3 C hk0 pr_w73 dX7_endRepeat_42 ?_
  refine pr_aload_n C dX7_endRepeat_45 rfl 0 rfl ?_
  refine pr_g_7_3 C hk0 pr_w73 dX7_endRepeat_46 ?_
  refine pr_gN_5_3 C hk10 pr_nf25 dX7_endRepeat_49 ?_
  obtain ⟨r16, hc15, h⟩ := pr_b1_some h
  refine k_X8_lessOneN C pr_nm9  hc15 (Nat.le_of_ble_eq_true rfl) (Nat.le_of_ble_eq_true rfl) (Nat.le_of_ble_eq_true rfl) dX7_endRepeat_52 ?_
  refine pr_pN_5_3 C hk10 pr_nf25 dX7_endRepeat_55 (fun f17 e18 => ?_)
  have h := pr_lt_at h e18
  obtain ⟨rfl, rfl⟩ := pr_inj h
  exact pr_vret C Z dX7_endRepeat_58
theorem k_X7_endRepeat {l : Launch} {e : pr_E0} {Y : pr_Y} {Rm : Room} {cc : ByteArray} {own : String} {nL : Nat} {c0 : Cond} {pc idx : Nat} {lv : List (Nat × Value)} {st : List Value} {c : Nat} {f : pr_M} {r : Unit} {g : pr_M} (C : pr_C (pr_EC l e) Y Rm cc own nL c0) (w1 : Cond.methodLink own idx yX7_endRepeat ∈ pr_AL) (hk0 : (pr_LE e)[c]? = some (7, 0)) (h : F_X7_endRepeat c f = some (r, g)) (hr1 : 3 ≤ Rm.frames) (hr2 : 60 ≤ Rm.locals) (hcat : (st.map fun v => v.category).sum ≤ 8) (hdg : decode cc pc = .ok (.invokevirtual idx, 3)) (k : pr_W (pr_EC l e) Y Rm nL g (pc + 3) lv (st)) : pr_W (pr_EC l e) Y Rm nL f pc lv (.ref (pr_ad (pr_EC l e) c) :: st) :=
  pr_callV (As := []) (n := 0) C (m_X7_endRepeat hk0 h) hk0 (by decide) rfl w1 pr_w239 pr_w240 pr_w84 pr_w225 rfl rfl ⟨rfl, by decide +kernel, by decide +kernel, by decide +kernel⟩ rfl ⟨hr1, hr2⟩ rfl hcat hdg k

def L_X3_makeRepeat_29 (q0 : Nat) (x1 : Int32) : Nat → Int32 → pr_M → Option ((Unit) × pr_M)
  | 0, _, _ => none
  | n + 1, x2, f =>
    if (f q0 3) ≤ x2 then (
      some ((), f)
    ) else (
      pr_gd (¬ (x2 < 0 ∨ 5 ≤ Int32.toNatClampNeg x2)) <|
      pr_bd (F_X7_printPiece ((q0 + 1) + 3 + 9 * Int32.toNatClampNeg x2) (f q0 4) x1 f) fun u30006 f30007 =>
      L_X3_makeRepeat_29 q0 x1 n (x2 + 1) f30007
    )
set_option maxHeartbeats 4000000 in
set_option maxRecDepth 100000 in
theorem l_X3_makeRepeat_29 {l : Launch} {e : pr_E0} {Y : pr_Y} {c0 : Cond} {q0 : Nat} {x1 : Int32} {z : Unit} {g : pr_M} (C : pr_C (pr_EC l e) Y { frames := 4, cells := 0, slots := 0, locals := 94 } cX3_makeRepeat RX3 4 c0) (hq0 : (pr_LE e)[q0]? = some (3, 0)) : ∀ (n : Nat) (x2 : Int32) (f : pr_M), L_X3_makeRepeat_29 q0 x1 n x2 f = some (z, g) → pr_W (pr_EC l e) Y { frames := 4, cells := 0, slots := 0, locals := 94 } 4 g 57 [(0, .ref (pr_ad (pr_EC l e) q0))] [] → pr_W (pr_EC l e) Y { frames := 4, cells := 0, slots := 0, locals := 94 } 4 f 29 [(0, .ref (pr_ad (pr_EC l e) q0)), (1, .int x1), (2, .int x2)] [] := by
  intro n
  induction n with
  | zero =>
    intro x2 f h
    exact absurd h (by simp [L_X3_makeRepeat_29])
  | succ n ih =>
    intro x2 f h K
    rw [L_X3_makeRepeat_29] at h
    refine pr_iload_n C dX3_makeRepeat_29 rfl 2 rfl ?_
    refine pr_aload_n C dX3_makeRepeat_30 rfl 0 rfl ?_
    refine pr_g_3_3 C hq0 pr_w121 dX3_makeRepeat_31 ?_
    refine pr_icmp_ge (tgt := 57) C dX3_makeRepeat_34 (by decide) (fun c30001 => ?_) (fun c30001 => ?_)
    · have h := pr_ifT h c30001
      obtain ⟨rfl, rfl⟩ := pr_inj h
      exact pr_pick [0] rfl K
    · have h := pr_ifF h c30001
      refine pr_aload_n C dX3_makeRepeat_37 rfl 0 rfl ?_
      refine pr_g_3_0 C hq0 pr_w80 dX3_makeRepeat_38 ?_
      have hk30002 := pr_kC_3_0 hq0
      refine pr_iload_n C dX3_makeRepeat_41 rfl 2 rfl ?_
      obtain ⟨hg30003, h⟩ := pr_gd_some h
      refine pr_aaload C hk30002 hg30003 dX3_makeRepeat_42 ?_
      have hk30004 := pr_kC_u (i := x2) hk30002 hg30003
      refine pr_aload_n C dX3_makeRepeat_43 rfl 0 rfl ?_
      refine pr_g_3_4 C hq0 pr_w122 dX3_makeRepeat_44 ?_
      refine pr_iload_n C dX3_makeRepeat_47 rfl 1 rfl ?_
      obtain ⟨u30006, f30007, hc30005, h⟩ := pr_bd_some h
      refine k_X7_printPiece C pr_w232 hk30004 hc30005 (Nat.le_of_ble_eq_true rfl) (Nat.le_of_ble_eq_true rfl) (Nat.le_of_ble_eq_true rfl) dX3_makeRepeat_48 ?_
      refine pr_iinc (v := (x2 + 1)) (lv' := [(2, .int (x2 + 1)), (0, .ref (pr_ad (pr_EC l e) q0)), (1, .int x1)]) C dX3_makeRepeat_51 2 rfl rfl (by decide) rfl ?_
      refine pr_goto (tgt := 29) C dX3_makeRepeat_54 (by decide) ?_
      exact pr_pick [1, 2, 0] rfl (ih _ _ h K)
def L_X3_makeRepeat_61 (q0 : Nat) : Nat → Int32 → Int32 → pr_M → Option ((Unit) × pr_M)
  | 0, _, _, _ => none
  | n + 1, x2, x3, f =>
    if (f q0 3) ≤ x3 then (
      some ((), f)
    ) else (
      pr_gd (¬ (x3 < 0 ∨ 5 ≤ Int32.toNatClampNeg x3)) <|
      pr_b1 (F_X7_setting ((q0 + 1) + 3 + 9 * Int32.toNatClampNeg x3) 0 f) fun r62006 =>
      pr_bd (F_X3_watchUnit q0 ((q0 + 1) + 3 + 9 * Int32.toNatClampNeg x3) (x2 + r62006) f) fun u62008 f62009 =>
      L_X3_makeRepeat_61 q0 n (x2 + r62006) (x3 + 1) f62009
    )
set_option maxHeartbeats 4000000 in
set_option maxRecDepth 100000 in
theorem l_X3_makeRepeat_61 {l : Launch} {e : pr_E0} {Y : pr_Y} {c0 : Cond} {q0 : Nat} {z : Unit} {g : pr_M} (C : pr_C (pr_EC l e) Y { frames := 4, cells := 0, slots := 0, locals := 94 } cX3_makeRepeat RX3 4 c0) (hq0 : (pr_LE e)[q0]? = some (3, 0)) : ∀ (n : Nat) (x2 : Int32) (x3 : Int32) (f : pr_M), L_X3_makeRepeat_61 q0 n x2 x3 f = some (z, g) → pr_W (pr_EC l e) Y { frames := 4, cells := 0, slots := 0, locals := 94 } 4 g 99 [(0, .ref (pr_ad (pr_EC l e) q0))] [] → pr_W (pr_EC l e) Y { frames := 4, cells := 0, slots := 0, locals := 94 } 4 f 61 [(0, .ref (pr_ad (pr_EC l e) q0)), (2, .int x2), (3, .int x3)] [] := by
  intro n
  induction n with
  | zero =>
    intro x2 x3 f h
    exact absurd h (by simp [L_X3_makeRepeat_61])
  | succ n ih =>
    intro x2 x3 f h K
    rw [L_X3_makeRepeat_61] at h
    refine pr_iload_n C dX3_makeRepeat_61 rfl 2 rfl ?_
    refine pr_aload_n C dX3_makeRepeat_62 rfl 0 rfl ?_
    refine pr_g_3_3 C hq0 pr_w121 dX3_makeRepeat_63 ?_
    refine pr_icmp_ge (tgt := 99) C dX3_makeRepeat_66 (by decide) (fun c62001 => ?_) (fun c62001 => ?_)
    · have h := pr_ifT h c62001
      obtain ⟨rfl, rfl⟩ := pr_inj h
      exact pr_pick [0] rfl K
    · have h := pr_ifF h c62001
      refine pr_iload_n C dX3_makeRepeat_69 rfl 1 rfl ?_
      refine pr_aload_n C dX3_makeRepeat_70 rfl 0 rfl ?_
      refine pr_g_3_0 C hq0 pr_w80 dX3_makeRepeat_71 ?_
      have hk62002 := pr_kC_3_0 hq0
      refine pr_iload_n C dX3_makeRepeat_74 rfl 2 rfl ?_
      obtain ⟨hg62003, h⟩ := pr_gd_some h
      refine pr_aaload C hk62002 hg62003 dX3_makeRepeat_75 ?_
      have hk62004 := pr_kC_u (i := x3) hk62002 hg62003
      refine pr_iconst (v := 0) C dX3_makeRepeat_76 (by decide) ?_
      obtain ⟨r62006, hc62005, h⟩ := pr_b1_some h
      refine k_X7_setting C pr_w140 hk62004 hc62005 (Nat.le_of_ble_eq_true rfl) (Nat.le_of_ble_eq_true rfl) (Nat.le_of_ble_eq_true rfl) dX3_makeRepeat_77 ?_
      refine pr_iadd C dX3_makeRepeat_80 ?_
      refine pr_istore_n (lv' := [(2, .int (x2 + r62006)), (0, .ref (pr_ad (pr_EC l e) q0)), (3, .int x3)]) C dX3_makeRepeat_81 rfl (by decide) rfl ?_
      refine pr_aload_n C dX3_makeRepeat_82 rfl 1 rfl ?_
      refine pr_aload_n C dX3_makeRepeat_83 rfl 1 rfl ?_
      refine pr_g_3_0 C hq0 pr_w80 dX3_makeRepeat_84 ?_
      refine pr_iload_n C dX3_makeRepeat_87 rfl 2 rfl ?_
      refine pr_aaload C hk62002 hg62003 dX3_makeRepeat_88 ?_
      refine pr_iload_n C dX3_makeRepeat_89 rfl 0 rfl ?_
      obtain ⟨u62008, f62009, hc62007, h⟩ := pr_bd_some h
      refine k_X3_watchUnit C pr_w235 hq0 hk62004 hc62007 (Nat.le_of_ble_eq_true rfl) (Nat.le_of_ble_eq_true rfl) (Nat.le_of_ble_eq_true rfl) dX3_makeRepeat_90 ?_
      refine pr_iinc (v := (x3 + 1)) (lv' := [(3, .int (x3 + 1)), (2, .int (x2 + r62006)), (0, .ref (pr_ad (pr_EC l e) q0))]) C dX3_makeRepeat_93 2 rfl rfl (by decide) rfl ?_
      refine pr_goto (tgt := 61) C dX3_makeRepeat_96 (by decide) ?_
      exact pr_pick [2, 1, 0] rfl (ih _ _ _ h K)
def L_X3_makeRepeat_101 (q0 : Nat) : Nat → Int32 → pr_M → Option ((Unit) × pr_M)
  | 0, _, _ => none
  | n + 1, x3, f =>
    if (f q0 3) ≤ x3 then (
      some ((), f)
    ) else (
      pr_gd (¬ (x3 < 0 ∨ 5 ≤ Int32.toNatClampNeg x3)) <|
      pr_bd (F_X7_endRepeat ((q0 + 1) + 3 + 9 * Int32.toNatClampNeg x3) f) fun u102006 f102007 =>
      L_X3_makeRepeat_101 q0 n (x3 + 1) f102007
    )
set_option maxHeartbeats 4000000 in
set_option maxRecDepth 100000 in
theorem l_X3_makeRepeat_101 {l : Launch} {e : pr_E0} {Y : pr_Y} {c0 : Cond} {q0 : Nat} {z : Unit} {g : pr_M} (C : pr_C (pr_EC l e) Y { frames := 4, cells := 0, slots := 0, locals := 94 } cX3_makeRepeat RX3 4 c0) (hq0 : (pr_LE e)[q0]? = some (3, 0)) : ∀ (n : Nat) (x3 : Int32) (f : pr_M), L_X3_makeRepeat_101 q0 n x3 f = some (z, g) → pr_W (pr_EC l e) Y { frames := 4, cells := 0, slots := 0, locals := 94 } 4 g 124 [(0, .ref (pr_ad (pr_EC l e) q0))] [] → pr_W (pr_EC l e) Y { frames := 4, cells := 0, slots := 0, locals := 94 } 4 f 101 [(0, .ref (pr_ad (pr_EC l e) q0)), (3, .int x3)] [] := by
  intro n
  induction n with
  | zero =>
    intro x3 f h
    exact absurd h (by simp [L_X3_makeRepeat_101])
  | succ n ih =>
    intro x3 f h K
    rw [L_X3_makeRepeat_101] at h
    refine pr_iload_n C dX3_makeRepeat_101 rfl 1 rfl ?_
    refine pr_aload_n C dX3_makeRepeat_102 rfl 0 rfl ?_
    refine pr_g_3_3 C hq0 pr_w121 dX3_makeRepeat_103 ?_
    refine pr_icmp_ge (tgt := 124) C dX3_makeRepeat_106 (by decide) (fun c102001 => ?_) (fun c102001 => ?_)
    · have h := pr_ifT h c102001
      obtain ⟨rfl, rfl⟩ := pr_inj h
      exact pr_pick [0] rfl K
    · have h := pr_ifF h c102001
      refine pr_aload_n C dX3_makeRepeat_109 rfl 0 rfl ?_
      refine pr_g_3_0 C hq0 pr_w80 dX3_makeRepeat_110 ?_
      have hk102002 := pr_kC_3_0 hq0
      refine pr_iload_n C dX3_makeRepeat_113 rfl 1 rfl ?_
      obtain ⟨hg102003, h⟩ := pr_gd_some h
      refine pr_aaload C hk102002 hg102003 dX3_makeRepeat_114 ?_
      have hk102004 := pr_kC_u (i := x3) hk102002 hg102003
      obtain ⟨u102006, f102007, hc102005, h⟩ := pr_bd_some h
      refine k_X7_endRepeat C pr_w238 hk102004 hc102005 (Nat.le_of_ble_eq_true rfl) (Nat.le_of_ble_eq_true rfl) (Nat.le_of_ble_eq_true rfl) dX3_makeRepeat_115 ?_
      refine pr_iinc (v := (x3 + 1)) (lv' := [(3, .int (x3 + 1)), (0, .ref (pr_ad (pr_EC l e) q0))]) C dX3_makeRepeat_118 1 rfl rfl (by decide) rfl ?_
      refine pr_goto (tgt := 101) C dX3_makeRepeat_121 (by decide) ?_
      exact pr_pick [1, 0] rfl (ih _ _ h K)
def F_X3_makeRepeat (c : Nat) (f : pr_M) : Option (Unit × pr_M) :=
  pr_gd (¬ (((f c 4) &&& 127) < 0 ∨ 128 ≤ Int32.toNatClampNeg ((f c 4) &&& 127))) <|
  pr_lt (pr_up f (c + 2) (Int32.toNatClampNeg ((f c 4) &&& 127)) ((f c 5) - (f c 6))) fun f3 =>
  pr_bd (F_X3_bringSplice c f3) fun u6 f7 =>
  pr_bd (L_X3_makeRepeat_29 c ((f c 5) - (f c 6)) pr_fuel 0 f7) fun v8 f9 =>
  pr_bd (L_X3_makeRepeat_61 c pr_fuel 0 1 f9) fun v10 f11 =>
  pr_bd (L_X3_makeRepeat_101 c pr_fuel 0 f11) fun v12 f13 =>
  pr_lt (pr_up f13 c 6 (f13 c 5)) fun f14 =>
  pr_lt (pr_up f14 c 4 ((f14 c 4) + 1)) fun f16 =>
  some ((), f16)
set_option maxHeartbeats 4000000 in
set_option maxRecDepth 100000 in
theorem m_X3_makeRepeat {l : Launch} {e : pr_E0} {c : Nat} {f : pr_M} {r : Unit} {g : pr_M} (hk0 : (pr_LE e)[c]? = some (3, 0)) (h : F_X3_makeRepeat c f = some (r, g)) : pr_Met (pr_EC l e) yX3_makeRepeat cX3_makeRepeat 4 none { frames := 4, cells := 0, slots := 0, locals := 94 } [.ref (pr_ad (pr_EC l e) c)] f none g := by
  rw [F_X3_makeRepeat] at h
  refine pr_enter (by decide +kernel) (Nat.le_of_ble_eq_true rfl) (fun Y C Z => ?_)
  replace C : pr_C (pr_EC l e) Y { frames := 4, cells := 0, slots := 0, locals := 94 } cX3_makeRepeat RX3 4 _ := C
  show pr_W (pr_EC l e) Y _ 4 f 0 [(0, .ref (pr_ad (pr_EC l e) c))] []
  refine pr_aload_n C dX3_makeRepeat_0 rfl 0 rfl ?_
  refine pr_g_3_5 C hk0 pr_w123 dX3_makeRepeat_1 ?_
  refine pr_aload_n C dX3_makeRepeat_4 rfl 0 rfl ?_
  refine pr_g_3_6 C hk0 pr_w124 dX3_makeRepeat_5 ?_
  refine pr_isub C dX3_makeRepeat_8 ?_
  refine pr_istore_n (lv' := [(1, .int ((f c 5) - (f c 6))), (0, .ref (pr_ad (pr_EC l e) c))]) C dX3_makeRepeat_9 rfl (by decide) rfl ?_
  refine pr_aload_n C dX3_makeRepeat_10 rfl 1 rfl ?_
  refine pr_g_3_1 C hk0 pr_w81 dX3_makeRepeat_11 ?_
  have hk1 := pr_kC_3_1 hk0
  refine pr_aload_n C dX3_makeRepeat_14 rfl 1 rfl ?_
  refine pr_g_3_4 C hk0 pr_w122 dX3_makeRepeat_15 ?_
  refine pr_bipush (v := 127) C dX3_makeRepeat_18 (by decide) ?_
  refine pr_iand C dX3_makeRepeat_20 ?_
  refine pr_iload_n C dX3_makeRepeat_21 rfl 0 rfl ?_
  obtain ⟨hg2, h⟩ := pr_gd_some h
  refine pr_iastore C hk1 hg2 dX3_makeRepeat_22 (fun f3 e4 => ?_)
  have h := pr_lt_at h e4
  refine pr_aload_n C dX3_makeRepeat_23 rfl 1 rfl ?_
  obtain ⟨u6, f7, hc5, h⟩ := pr_bd_some h
  refine k_X3_bringSplice C pr_w229 hk0 hc5 (Nat.le_of_ble_eq_true rfl) (Nat.le_of_ble_eq_true rfl) (Nat.le_of_ble_eq_true rfl) dX3_makeRepeat_24 ?_
  refine pr_iconst (v := 0) C dX3_makeRepeat_27 (by decide) ?_
  refine pr_istore_n (lv' := [(2, .int 0), (1, .int ((f c 5) - (f c 6))), (0, .ref (pr_ad (pr_EC l e) c))]) C dX3_makeRepeat_28 rfl (by decide) rfl ?_
  obtain ⟨v8, f9, hv, h⟩ := pr_bd_some h
  refine pr_pick [2, 1, 0] rfl (l_X3_makeRepeat_29 C hk0 pr_fuel _ _ hv ?_)
  clear hv
  refine pr_iconst (v := 0) C dX3_makeRepeat_57 (by decide) ?_
  refine pr_istore_n (lv' := [(2, .int 0), (0, .ref (pr_ad (pr_EC l e) c))]) C dX3_makeRepeat_58 rfl (by decide) rfl ?_
  refine pr_iconst (v := 1) C dX3_makeRepeat_59 (by decide) ?_
  refine pr_istore_n (lv' := [(3, .int 1), (2, .int 0), (0, .ref (pr_ad (pr_EC l e) c))]) C dX3_makeRepeat_60 rfl (by decide) rfl ?_
  obtain ⟨v10, f11, hv, h⟩ := pr_bd_some h
  refine pr_pick [2, 1, 0] rfl (l_X3_makeRepeat_61 C hk0 pr_fuel _ _ _ hv ?_)
  clear hv
  refine pr_iconst (v := 0) C dX3_makeRepeat_99 (by decide) ?_
  refine pr_istore_n (lv' := [(3, .int 0), (0, .ref (pr_ad (pr_EC l e) c))]) C dX3_makeRepeat_100 rfl (by decide) rfl ?_
  obtain ⟨v12, f13, hv, h⟩ := pr_bd_some h
  refine pr_pick [1, 0] rfl (l_X3_makeRepeat_101 C hk0 pr_fuel _ _ hv ?_)
  clear hv
  refine pr_aload_n C dX3_makeRepeat_124 rfl 0 rfl ?_
  refine pr_aload_n C dX3_makeRepeat_125 rfl 0 rfl ?_
  refine pr_g_3_5 C hk0 pr_w123 dX3_makeRepeat_126 ?_
  refine pr_p_3_6 C hk0 pr_w124 dX3_makeRepeat_129 (fun f14 e15 => ?_)
  have h := pr_lt_at h e15
  refine pr_aload_n C dX3_makeRepeat_132 rfl 0 rfl ?_
  refine pr_dup C dX3_makeRepeat_133 rfl ?_
  refine pr_g_3_4 C hk0 pr_w122 dX3_makeRepeat_134 ?_
  refine pr_iconst (v := 1) C dX3_makeRepeat_137 (by decide) ?_
  refine pr_iadd C dX3_makeRepeat_138 ?_
  refine pr_p_3_4 C hk0 pr_w122 dX3_makeRepeat_139 (fun f16 e17 => ?_)
  have h := pr_lt_at h e17
  obtain ⟨rfl, rfl⟩ := pr_inj h
  exact pr_vret C Z dX3_makeRepeat_142
theorem k_X3_makeRepeat {l : Launch} {e : pr_E0} {Y : pr_Y} {Rm : Room} {cc : ByteArray} {own : String} {nL : Nat} {c0 : Cond} {pc idx : Nat} {lv : List (Nat × Value)} {st : List Value} {c : Nat} {f : pr_M} {r : Unit} {g : pr_M} (C : pr_C (pr_EC l e) Y Rm cc own nL c0) (w1 : Cond.methodLink own idx yX3_makeRepeat ∈ pr_AL) (hk0 : (pr_LE e)[c]? = some (3, 0)) (h : F_X3_makeRepeat c f = some (r, g)) (hr1 : 5 ≤ Rm.frames) (hr2 : 117 ≤ Rm.locals) (hcat : (st.map fun v => v.category).sum ≤ 8) (hdg : decode cc pc = .ok (.invokevirtual idx, 3)) (k : pr_W (pr_EC l e) Y Rm nL g (pc + 3) lv (st)) : pr_W (pr_EC l e) Y Rm nL f pc lv (.ref (pr_ad (pr_EC l e) c) :: st) :=
  pr_callV (As := []) (n := 0) C (m_X3_makeRepeat hk0 h) hk0 (by decide) rfl w1 pr_w320 pr_w321 pr_w137 pr_w241 rfl rfl ⟨rfl, by decide +kernel, by decide +kernel, by decide +kernel⟩ rfl ⟨hr1, hr2⟩ rfl hcat hdg k

def L_X8_run_33 (q0 : Nat) (x1 : Int32) : Nat → Int32 → pr_M → Option ((Unit) × pr_M)
  | 0, _, _ => none
  | n + 1, x2, f =>
    if x1 ≤ x2 then (
      some ((), f)
    ) else (
      pr_bd (F_X3_makeRepeat (q0 + 1) f) fun u34004 f34005 =>
      L_X8_run_33 q0 x1 n (x2 + 1) f34005
    )
set_option maxHeartbeats 4000000 in
set_option maxRecDepth 100000 in
theorem l_X8_run_33 {l : Launch} {e : pr_E0} {Y : pr_Y} {c0 : Cond} {q0 : Nat} {x1 : Int32} {z : Unit} {g : pr_M} (C : pr_C (pr_EC l e) Y { frames := 5, cells := 0, slots := 0, locals := 117 } cX8_run RX8 3 c0) (hq0 : (pr_LE e)[q0]? = some (8, 0)) : ∀ (n : Nat) (x2 : Int32) (f : pr_M), L_X8_run_33 q0 x1 n x2 f = some (z, g) → pr_W (pr_EC l e) Y { frames := 5, cells := 0, slots := 0, locals := 117 } 3 g 51 [(0, .ref (pr_ad (pr_EC l e) q0))] [] → pr_W (pr_EC l e) Y { frames := 5, cells := 0, slots := 0, locals := 117 } 3 f 33 [(0, .ref (pr_ad (pr_EC l e) q0)), (1, .int x1), (2, .int x2)] [] := by
  intro n
  induction n with
  | zero =>
    intro x2 f h
    exact absurd h (by simp [L_X8_run_33])
  | succ n ih =>
    intro x2 f h K
    rw [L_X8_run_33] at h
    refine pr_iload_n C dX8_run_33 rfl 2 rfl ?_
    refine pr_iload_n C dX8_run_34 rfl 1 rfl ?_
    refine pr_icmp_ge (tgt := 51) C dX8_run_35 (by decide) (fun c34001 => ?_) (fun c34001 => ?_)
    · have h := pr_ifT h c34001
      obtain ⟨rfl, rfl⟩ := pr_inj h
      exact pr_pick [0] rfl K
    · have h := pr_ifF h c34001
      refine pr_aload_n C dX8_run_38 rfl 0 rfl ?_
      refine pr_g_8_0 C hq0 pr_w255 dX8_run_39 ?_
      have hk34002 := pr_kC_8_0 hq0
      obtain ⟨u34004, f34005, hc34003, h⟩ := pr_bd_some h
      refine k_X3_makeRepeat C pr_w319 hk34002 hc34003 (Nat.le_of_ble_eq_true rfl) (Nat.le_of_ble_eq_true rfl) (Nat.le_of_ble_eq_true rfl) dX8_run_42 ?_
      refine pr_iinc (v := (x2 + 1)) (lv' := [(2, .int (x2 + 1)), (0, .ref (pr_ad (pr_EC l e) q0)), (1, .int x1)]) C dX8_run_45 2 rfl rfl (by decide) rfl ?_
      refine pr_goto (tgt := 33) C dX8_run_48 (by decide) ?_
      exact pr_pick [1, 2, 0] rfl (ih _ _ h K)
def F_X8_run (c : Nat) (p1 : Int32) (f : pr_M) : Option (Int32 × pr_M) :=
  pr_b1 (F_X8_isOutside p1 1 300 f) fun r2 =>
  if r2 = 0 then (
    if ((f (c + 1) 4) + p1) ≤ 100000 then (
      pr_bd (L_X8_run_33 c p1 pr_fuel 0 f) fun v6 f7 =>
      some ((f7 (c + 1) 4), f7)
    ) else (
      some ((-1000000005), f)
    )
  ) else (
    some ((-1000000002), f)
  )
set_option maxHeartbeats 4000000 in
set_option maxRecDepth 100000 in
theorem m_X8_run {l : Launch} {e : pr_E0} {c : Nat} {p1 : Int32} {f : pr_M} {r : Int32} {g : pr_M} (hk0 : (pr_LE e)[c]? = some (8, 0)) (h : F_X8_run c p1 f = some (r, g)) : pr_Met (pr_EC l e) yX8_run cX8_run 3 (some .int) { frames := 5, cells := 0, slots := 0, locals := 117 } [.ref (pr_ad (pr_EC l e) c), .int p1] f (some (.int r)) g := by
  rw [F_X8_run] at h
  refine pr_enter (by decide +kernel) (Nat.le_of_ble_eq_true rfl) (fun Y C Z => ?_)
  replace C : pr_C (pr_EC l e) Y { frames := 5, cells := 0, slots := 0, locals := 117 } cX8_run RX8 3 _ := C
  show pr_W (pr_EC l e) Y _ 3 f 0 [(0, .ref (pr_ad (pr_EC l e) c)), (1, .int p1)] []
  refine pr_iload_n C dX8_run_0 rfl 1 rfl ?_
  refine pr_iconst (v := 1) C dX8_run_1 (by decide) ?_
  refine pr_sipush (v := 300) C dX8_run_2 (by decide) ?_
  obtain ⟨r2, hc1, h⟩ := pr_b1_some h
  refine k_X8_isOutside C pr_w275  hc1 (Nat.le_of_ble_eq_true rfl) (Nat.le_of_ble_eq_true rfl) (Nat.le_of_ble_eq_true rfl) dX8_run_5 ?_
  refine pr_if_eq (tgt := 14) C dX8_run_8 (by decide) (fun c3 => ?_) (fun c3 => ?_)
  · have h := pr_ifT h c3
    refine pr_aload_n C dX8_run_14 rfl 0 rfl ?_
    refine pr_g_8_0 C hk0 pr_w255 dX8_run_15 ?_
    have hk4 := pr_kC_8_0 hk0
    refine pr_gN_3_4 C hk4 pr_nf42 dX8_run_18 ?_
    refine pr_iload_n C dX8_run_21 rfl 1 rfl ?_
    refine pr_iadd C dX8_run_22 ?_
    refine pr_ldc (v := 100000) C dX8_run_23 pr_w318 ?_
    refine pr_icmp_le (tgt := 31) C dX8_run_25 (by decide) (fun c5 => ?_) (fun c5 => ?_)
    · have h := pr_ifT h c5
      refine pr_iconst (v := 0) C dX8_run_31 (by decide) ?_
      refine pr_istore_n (lv' := [(2, .int 0), (0, .ref (pr_ad (pr_EC l e) c)), (1, .int p1)]) C dX8_run_32 rfl (by decide) rfl ?_
      obtain ⟨v6, f7, hv, h⟩ := pr_bd_some h
      refine pr_pick [1, 2, 0] rfl (l_X8_run_33 C hk0 pr_fuel _ _ hv ?_)
      clear hv
      refine pr_aload_n C dX8_run_51 rfl 0 rfl ?_
      refine pr_g_8_0 C hk0 pr_w255 dX8_run_52 ?_
      refine pr_gN_3_4 C hk4 pr_nf42 dX8_run_55 ?_
      obtain ⟨rfl, rfl⟩ := pr_inj h
      exact pr_iret C Z dX8_run_58
    · have h := pr_ifF h c5
      refine pr_ldc (v := (-1000000005)) C dX8_run_28 pr_w283 ?_
      obtain ⟨rfl, rfl⟩ := pr_inj h
      exact pr_iret C Z dX8_run_30
  · have h := pr_ifF h c3
    refine pr_ldc (v := (-1000000002)) C dX8_run_11 pr_w274 ?_
    obtain ⟨rfl, rfl⟩ := pr_inj h
    exact pr_iret C Z dX8_run_13
theorem k_X8_run {l : Launch} {e : pr_E0} {Y : pr_Y} {Rm : Room} {cc : ByteArray} {own : String} {nL : Nat} {c0 : Cond} {pc idx : Nat} {lv : List (Nat × Value)} {st : List Value} {c : Nat} {p1 : Int32} {f : pr_M} {r : Int32} {g : pr_M} (C : pr_C (pr_EC l e) Y Rm cc own nL c0) (w1 : Cond.methodLink own idx yX8_run ∈ pr_AL) (hk0 : (pr_LE e)[c]? = some (8, 0)) (h : F_X8_run c p1 f = some (r, g)) (hr1 : 6 ≤ Rm.frames) (hr2 : 139 ≤ Rm.locals) (hcat : (st.map fun v => v.category).sum ≤ 8) (hdg : decode cc pc = .ok (.invokevirtual idx, 3)) (k : pr_W (pr_EC l e) Y Rm nL g (pc + 3) lv (.int r :: st)) : pr_W (pr_EC l e) Y Rm nL f pc lv (.int p1 :: .ref (pr_ad (pr_EC l e) c) :: st) :=
  pr_callV (As := [.int p1]) (n := 1) C (m_X8_run hk0 h) hk0 (by decide) rfl w1 pr_w420 pr_w421 pr_w17 pr_w322 rfl rfl ⟨rfl, by decide +kernel, by decide +kernel, by decide +kernel⟩ rfl ⟨hr1, hr2⟩ rfl hcat hdg k
