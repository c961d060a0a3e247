def F_X4_begin (c : Nat) (f : pr_M) : Option (Unit × pr_M) :=
  pr_lt (pr_up f c 2 0) fun f1 =>
  pr_lt (pr_up f1 c 3 0) fun f3 =>
  pr_lt (pr_up f3 c 4 0) fun f5 =>
  pr_lt (pr_up f5 c 5 0) fun f7 =>
  pr_lt (pr_up f7 c 6 0) fun f9 =>
  pr_lt (pr_up f9 c 7 0) fun f11 =>
  some ((), f11)
set_option maxHeartbeats 4000000 in
set_option maxRecDepth 100000 in
theorem m_X4_begin {l : Launch} {e : pr_E0} {c : Nat} {f : pr_M} {r : Unit} {g : pr_M} (hk0 : (pr_LE e)[c]? = some (4, 0)) (h : F_X4_begin c f = some (r, g)) : pr_Met (pr_EC l e) yX4_begin cX4_begin 1 none { frames := 0, cells := 0, slots := 0, locals := 0 } [.ref (pr_ad (pr_EC l e) c)] f none g := by
  rw [F_X4_begin] at h
  refine pr_enter (by decide +kernel) (Nat.le_of_ble_eq_true rfl) (fun Y C Z => ?_)
  replace C : pr_C (pr_EC l e) Y { frames := 0, cells := 0, slots := 0, locals := 0 } cX4_begin RX4 1 _ := C
  show pr_W (pr_EC l e) Y _ 1 f 0 [(0, .ref (pr_ad (pr_EC l e) c))] []
  refine pr_aload_n C dX4_begin_0 rfl 0 rfl ?_
  refine pr_iconst (v := 0) C dX4_begin_1 (by decide) ?_
  refine pr_p_4_2 C hk0 pr_w88 dX4_begin_2 (fun f1 e2 => ?_)
  have h := pr_lt_at h e2
  refine pr_aload_n C dX4_begin_5 rfl 0 rfl ?_
  refine pr_iconst (v := 0) C dX4_begin_6 (by decide) ?_
  refine pr_p_4_3 C hk0 pr_w89 dX4_begin_7 (fun f3 e4 => ?_)
  have h := pr_lt_at h e4
  refine pr_aload_n C dX4_begin_10 rfl 0 rfl ?_
  refine pr_iconst (v := 0) C dX4_begin_11 (by decide) ?_
  refine pr_p_4_4 C hk0 pr_w90 dX4_begin_12 (fun f5 e6 => ?_)
  have h := pr_lt_at h e6
  refine pr_aload_n C dX4_begin_15 rfl 0 rfl ?_
  refine pr_iconst (v := 0) C dX4_begin_16 (by decide) ?_
  refine pr_p_4_5 C hk0 pr_w91 dX4_begin_17 (fun f7 e8 => ?_)
  have h := pr_lt_at h e8
  refine pr_aload_n C dX4_begin_20 rfl 0 rfl ?_
  refine pr_iconst (v := 0) C dX4_begin_21 (by decide) ?_
  refine pr_p_4_6 C hk0 pr_w92 dX4_begin_22 (fun f9 e10 => ?_)
  have h := pr_lt_at h e10
  refine pr_aload_n C dX4_begin_25 rfl 0 rfl ?_
  refine pr_iconst (v := 0) C dX4_begin_26 (by decide) ?_
  refine pr_p_4_7 C hk0 pr_w93 dX4_begin_27 (fun f11 e12 => ?_)
  have h := pr_lt_at h e12
  obtain ⟨rfl, rfl⟩ := pr_inj h
  exact pr_vret C Z dX4_begin_30
theorem k_X4_begin {l : Launch} {e : pr_E0} {Y : pr_Y} {Rm : Room} {cc : ByteArray} {own : String} {nL : Nat} {c0 : Cond} {pc idx : Nat} {lv : List (Nat × Value)} {st : List Value} {c : Nat} {f : pr_M} {r : Unit} {g : pr_M} (C : pr_C (pr_EC l e) Y Rm cc own nL c0) (w1 : Cond.methodLink own idx yX4_begin ∈ pr_AL) (hk0 : (pr_LE e)[c]? = some (4, 0)) (h : F_X4_begin c f = some (r, g)) (hr1 : 1 ≤ Rm.frames) (hr2 : 20 ≤ Rm.locals) (hcat : (st.map fun v => v.category).sum ≤ 8) (hdg : decode cc pc = .ok (.invokevirtual idx, 3)) (k : pr_W (pr_EC l e) Y Rm nL g (pc + 3) lv (st)) : pr_W (pr_EC l e) Y Rm nL f pc lv (.ref (pr_ad (pr_EC l e) c) :: st) :=
  pr_callV (As := []) (n := 0) C (m_X4_begin hk0 h) hk0 (by decide) rfl w1 pr_w112 pr_w113 pr_w64 pr_w87 rfl rfl ⟨rfl, by decide +kernel, by decide +kernel, by decide +kernel⟩ rfl ⟨hr1, hr2⟩ rfl hcat hdg k

def F_X0_clear (c : Nat) (f : pr_M) : Option (Unit × pr_M) :=
  pr_lt (pr_up f c 0 0) fun f1 =>
  pr_lt (pr_up f1 c 1 0) fun f3 =>
  pr_lt (pr_up f3 c 2 0) fun f5 =>
  pr_lt (pr_up f5 c 3 0) fun f7 =>
  pr_lt (pr_up f7 c 4 0) fun f9 =>
  pr_lt (pr_up f9 c 5 0) fun f11 =>
  pr_lt (pr_up f11 c 6 0) fun f13 =>
  pr_lt (pr_up f13 c 7 0) fun f15 =>
  pr_lt (pr_up f15 c 8 0) fun f17 =>
  some ((), f17)
set_option maxHeartbeats 4000000 in
set_option maxRecDepth 100000 in
theorem m_X0_clear {l : Launch} {e : pr_E0} {c : Nat} {f : pr_M} {r : Unit} {g : pr_M} (hk0 : (pr_LE e)[c]? = some (0, 0)) (h : F_X0_clear c f = some (r, g)) : pr_Met (pr_EC l e) yX0_clear cX0_clear 1 none { frames := 0, cells := 0, slots := 0, locals := 0 } [.ref (pr_ad (pr_EC l e) c)] f none g := by
  rw [F_X0_clear] at h
  refine pr_enter (by decide +kernel) (Nat.le_of_ble_eq_true rfl) (fun Y C Z => ?_)
  replace C : pr_C (pr_EC l e) Y { frames := 0, cells := 0, slots := 0, locals := 0 } cX0_clear RX0 1 _ := C
  show pr_W (pr_EC l e) Y _ 1 f 0 [(0, .ref (pr_ad (pr_EC l e) c))] []
  refine pr_aload_n C dX0_clear_0 rfl 0 rfl ?_
  refine pr_iconst (v := 0) C dX0_clear_1 (by decide) ?_
  refine pr_p_0_0 C hk0 pr_w5 dX0_clear_2 (fun f1 e2 => ?_)
  have h := pr_lt_at h e2
  refine pr_aload_n C dX0_clear_5 rfl 0 rfl ?_
  refine pr_iconst (v := 0) C dX0_clear_6 (by decide) ?_
  refine pr_p_0_1 C hk0 pr_w6 dX0_clear_7 (fun f3 e4 => ?_)
  have h := pr_lt_at h e4
  refine pr_aload_n C dX0_clear_10 rfl 0 rfl ?_
  refine pr_iconst (v := 0) C dX0_clear_11 (by decide) ?_
  refine pr_p_0_2 C hk0 pr_w7 dX0_clear_12 (fun f5 e6 => ?_)
  have h := pr_lt_at h e6
  refine pr_aload_n C dX0_clear_15 rfl 0 rfl ?_
  refine pr_iconst (v := 0) C dX0_clear_16 (by decide) ?_
  refine pr_p_0_3 C hk0 pr_w8 dX0_clear_17 (fun f7 e8 => ?_)
  have h := pr_lt_at h e8
  refine pr_aload_n C dX0_clear_20 rfl 0 rfl ?_
  refine pr_iconst (v := 0) C dX0_clear_21 (by decide) ?_
  refine pr_p_0_4 C hk0 pr_w9 dX0_clear_22 (fun f9 e10 => ?_)
  have h := pr_lt_at h e10
  refine pr_aload_n C dX0_clear_25 rfl 0 rfl ?_
  refine pr_iconst (v := 0) C dX0_clear_26 (by decide) ?_
  refine pr_p_0_5 C hk0 pr_w10 dX0_clear_27 (fun f11 e12 => ?_)
  have h := pr_lt_at h e12
  refine pr_aload_n C dX0_clear_30 rfl 0 rfl ?_
  refine pr_iconst (v := 0) C dX0_clear_31 (by decide) ?_
  refine pr_p_0_6 C hk0 pr_w11 dX0_clear_32 (fun f13 e14 => ?_)
  have h := pr_lt_at h e14
  refine pr_aload_n C dX0_clear_35 rfl 0 rfl ?_
  refine pr_iconst (v := 0) C dX0_clear_36 (by decide) ?_
  refine pr_p_0_7 C hk0 pr_w12 dX0_clear_37 (fun f15 e16 => ?_)
  have h := pr_lt_at h e16
  refine pr_aload_n C dX0_clear_40 rfl 0 rfl ?_
  refine pr_iconst (v := 0) C dX0_clear_41 (by decide) ?_
  refine pr_p_0_8 C hk0 pr_w13 dX0_clear_42 (fun f17 e18 => ?_)
  have h := pr_lt_at h e18
  obtain ⟨rfl, rfl⟩ := pr_inj h
  exact pr_vret C Z dX0_clear_45
theorem k_X0_clear {l : Launch} {e : pr_E0} {Y : pr_Y} {Rm : Room} {cc : ByteArray} {own : String} {nL : Nat} {c0 : Cond} {pc idx : Nat} {lv : List (Nat × Value)} {st : List Value} {c : Nat} {f : pr_M} {r : Unit} {g : pr_M} (C : pr_C (pr_EC l e) Y Rm cc own nL c0) (w1 : Cond.methodLink own idx yX0_clear ∈ pr_AL) (hk0 : (pr_LE e)[c]? = some (0, 0)) (h : F_X0_clear c f = some (r, g)) (hr1 : 1 ≤ Rm.frames) (hr2 : 20 ≤ Rm.locals) (hcat : (st.map fun v => v.category).sum ≤ 8) (hdg : decode cc pc = .ok (.invokevirtual idx, 3)) (k : pr_W (pr_EC l e) Y Rm nL g (pc + 3) lv (st)) : pr_W (pr_EC l e) Y Rm nL f pc lv (.ref (pr_ad (pr_EC l e) c) :: st) :=
  pr_callV (As := []) (n := 0) C (m_X0_clear hk0 h) hk0 (by decide) rfl w1 pr_w115 pr_w116 pr_w68 pr_w4 rfl rfl ⟨rfl, by decide +kernel, by decide +kernel, by decide +kernel⟩ rfl ⟨hr1, hr2⟩ rfl hcat hdg k

def F_X1_begin (c : Nat) (f : pr_M) : Option (Unit × pr_M) :=
  pr_lt (pr_up f c 1 0) fun f1 =>
  some ((), f1)
set_option maxHeartbeats 4000000 in
set_option maxRecDepth 100000 in
theorem m_X1_begin {l : Launch} {e : pr_E0} {c : Nat} {f : pr_M} {r : Unit} {g : pr_M} (hk0 : (pr_LE e)[c]? = some (1, 0)) (h : F_X1_begin c f = some (r, g)) : pr_Met (pr_EC l e) yX1_begin cX1_begin 1 none { frames := 0, cells := 0, slots := 0, locals := 0 } [.ref (pr_ad (pr_EC l e) c)] f none g := by
  rw [F_X1_begin] at h
  refine pr_enter (by decide +kernel) (Nat.le_of_ble_eq_true rfl) (fun Y C Z => ?_)
  replace C : pr_C (pr_EC l e) Y { frames := 0, cells := 0, slots := 0, locals := 0 } cX1_begin RX1 1 _ := C
  show pr_W (pr_EC l e) Y _ 1 f 0 [(0, .ref (pr_ad (pr_EC l e) c))] []
  refine pr_aload_n C dX1_begin_0 rfl 0 rfl ?_
  refine pr_iconst (v := 0) C dX1_begin_1 (by decide) ?_
  refine pr_p_1_1 C hk0 pr_w23 dX1_begin_2 (fun f1 e2 => ?_)
  have h := pr_lt_at h e2
  obtain ⟨rfl, rfl⟩ := pr_inj h
  exact pr_vret C Z dX1_begin_5
theorem k_X1_begin {l : Launch} {e : pr_E0} {Y : pr_Y} {Rm : Room} {cc : ByteArray} {own : String} {nL : Nat} {c0 : Cond} {pc idx : Nat} {lv : List (Nat × Value)} {st : List Value} {c : Nat} {f : pr_M} {r : Unit} {g : pr_M} (C : pr_C (pr_EC l e) Y Rm cc own nL c0) (w1 : Cond.methodLink own idx yX1_begin ∈ pr_AL) (hk0 : (pr_LE e)[c]? = some (1, 0)) (h : F_X1_begin c f = some (r, g)) (hr1 : 1 ≤ Rm.frames) (hr2 : 20 ≤ Rm.locals) (hcat : (st.map fun v => v.category).sum ≤ 8) (hdg : decode cc pc = .ok (.invokevirtual idx, 3)) (k : pr_W (pr_EC l e) Y Rm nL g (pc + 3) lv (st)) : pr_W (pr_EC l e) Y Rm nL f pc lv (.ref (pr_ad (pr_EC l e) c) :: st) :=
  pr_callV (As := []) (n := 0) C (m_X1_begin hk0 h) hk0 (by decide) rfl w1 pr_w106 pr_w107 pr_w41 pr_w22 rfl rfl ⟨rfl, by decide +kernel, by decide +kernel, by decide +kernel⟩ rfl ⟨hr1, hr2⟩ rfl hcat hdg k

def F_X5_seeNothing (c : Nat) (f : pr_M) : Option (Unit × pr_M) :=
  pr_lt (pr_up f c 4 0) fun f1 =>
  pr_lt (pr_up f1 c 7 0) fun f3 =>
  some ((), f3)
set_option maxHeartbeats 4000000 in
set_option maxRecDepth 100000 in
theorem m_X5_seeNothing {l : Launch} {e : pr_E0} {c : Nat} {f : pr_M} {r : Unit} {g : pr_M} (hk0 : (pr_LE e)[c]? = some (5, 0)) (h : F_X5_seeNothing c f = some (r, g)) : pr_Met (pr_EC l e) yX5_seeNothing cX5_seeNothing 1 none { frames := 0, cells := 0, slots := 0, locals := 0 } [.ref (pr_ad (pr_EC l e) c)] f none g := by
  rw [F_X5_seeNothing] at h
  refine pr_enter (by decide +kernel) (Nat.le_of_ble_eq_true rfl) (fun Y C Z => ?_)
  replace C : pr_C (pr_EC l e) Y { frames := 0, cells := 0, slots := 0, locals := 0 } cX5_seeNothing RX5 1 _ := C
  show pr_W (pr_EC l e) Y _ 1 f 0 [(0, .ref (pr_ad (pr_EC l e) c))] []
  refine pr_aload_n C dX5_seeNothing_0 rfl 0 rfl ?_
  refine pr_iconst (v := 0) C dX5_seeNothing_1 (by decide) ?_
  refine pr_p_5_4 C hk0 pr_w95 (by decide) dX5_seeNothing_2 (fun f1 e2 => ?_)
  have h := pr_lt_at h e2
  refine pr_aload_n C dX5_seeNothing_5 rfl 0 rfl ?_
  refine pr_iconst (v := 0) C dX5_seeNothing_6 (by decide) ?_
  refine pr_p_5_7 C hk0 pr_w96 dX5_seeNothing_7 (fun f3 e4 => ?_)
  have h := pr_lt_at h e4
  obtain ⟨rfl, rfl⟩ := pr_inj h
  exact pr_vret C Z dX5_seeNothing_10
theorem k_X5_seeNothing {l : Launch} {e : pr_E0} {Y : pr_Y} {Rm : Room} {cc : ByteArray} {own : String} {nL : Nat} {c0 : Cond} {pc idx : Nat} {lv : List (Nat × Value)} {st : List Value} {c : Nat} {f : pr_M} {r : Unit} {g : pr_M} (C : pr_C (pr_EC l e) Y Rm cc own nL c0) (w1 : Cond.methodLink own idx yX5_seeNothing ∈ pr_AL) (hk0 : (pr_LE e)[c]? = some (5, 0)) (h : F_X5_seeNothing c f = some (r, g)) (hr1 : 1 ≤ Rm.frames) (hr2 : 20 ≤ Rm.locals) (hcat : (st.map fun v => v.category).sum ≤ 8) (hdg : decode cc pc = .ok (.invokevirtual idx, 3)) (k : pr_W (pr_EC l e) Y Rm nL g (pc + 3) lv (st)) : pr_W (pr_EC l e) Y Rm nL f pc lv (.ref (pr_ad (pr_EC l e) c) :: st) :=
  pr_callV (As := []) (n := 0) C (m_X5_seeNothing hk0 h) hk0 (by decide) rfl w1 pr_w109 pr_w110 pr_w72 pr_w94 rfl rfl ⟨rfl, by decide +kernel, by decide +kernel, by decide +kernel⟩ rfl ⟨hr1, hr2⟩ rfl hcat hdg k

def F_X5_begin (c : Nat) (f : pr_M) : Option (Unit × pr_M) :=
  pr_bd (F_X1_begin (c + 1) f) fun u3 f4 =>
  pr_lt (pr_up f4 c 1 0) fun f5 =>
  pr_lt (pr_up f5 c 2 0) fun f7 =>
  pr_lt (pr_up f7 c 3 0) fun f9 =>
  pr_bd (F_X5_seeNothing c f9) fun u12 f13 =>
  pr_lt (pr_up f13 c 5 0) fun f14 =>
  pr_lt (pr_up f14 c 6 0) fun f16 =>
  pr_lt (pr_up f16 c 8 0) fun f18 =>
  pr_lt (pr_up f18 c 9 0) fun f20 =>
  some ((), f20)
set_option maxHeartbeats 4000000 in
set_option maxRecDepth 100000 in
theorem m_X5_begin {l : Launch} {e : pr_E0} {c : Nat} {f : pr_M} {r : Unit} {g : pr_M} (hk0 : (pr_LE e)[c]? = some (5, 0)) (h : F_X5_begin c f = some (r, g)) : pr_Met (pr_EC l e) yX5_begin cX5_begin 1 none { frames := 1, cells := 0, slots := 0, locals := 20 } [.ref (pr_ad (pr_EC l e) c)] f none g := by
  rw [F_X5_begin] at h
  refine pr_enter (by decide +kernel) (Nat.le_of_ble_eq_true rfl) (fun Y C Z => ?_)
  replace C : pr_C (pr_EC l e) Y { frames := 1, cells := 0, slots := 0, locals := 20 } cX5_begin RX5 1 _ := C
  show pr_W (pr_EC l e) Y _ 1 f 0 [(0, .ref (pr_ad (pr_EC l e) c))] []
  refine pr_aload_n C dX5_begin_0 rfl 0 rfl ?_
  refine pr_g_5_0 C hk0 pr_w58 dX5_begin_1 ?_
  have hk1 := pr_kC_5_0 hk0
  obtain ⟨u3, f4, hc2, h⟩ := pr_bd_some h
  refine k_X1_begin C pr_w105 hk1 hc2 (Nat.le_of_ble_eq_true rfl) (Nat.le_of_ble_eq_true rfl) (Nat.le_of_ble_eq_true rfl) dX5_begin_4 ?_
  refine pr_aload_n C dX5_begin_7 rfl 0 rfl ?_
  refine pr_iconst (v := 0) C dX5_begin_8 (by decide) ?_
  refine pr_p_5_1 C hk0 pr_w98 dX5_begin_9 (fun f5 e6 => ?_)
  have h := pr_lt_at h e6
  refine pr_aload_n C dX5_begin_12 rfl 0 rfl ?_
  refine pr_iconst (v := 0) C dX5_begin_13 (by decide) ?_
  refine pr_p_5_2 C hk0 pr_w99 dX5_begin_14 (fun f7 e8 => ?_)
  have h := pr_lt_at h e8
  refine pr_aload_n C dX5_begin_17 rfl 0 rfl ?_
  refine pr_iconst (v := 0) C dX5_begin_18 (by decide) ?_
  refine pr_p_5_3 C hk0 pr_w100 dX5_begin_19 (fun f9 e10 => ?_)
  have h := pr_lt_at h e10
  refine pr_aload_n C dX5_begin_22 rfl 0 rfl ?_
  obtain ⟨u12, f13, hc11, h⟩ := pr_bd_some h
  refine k_X5_seeNothing C pr_w108 hk0 hc11 (Nat.le_of_ble_eq_true rfl) (Nat.le_of_ble_eq_true rfl) (Nat.le_of_ble_eq_true rfl) dX5_begin_23 ?_
  refine pr_aload_n C dX5_begin_26 rfl 0 rfl ?_
  refine pr_iconst (v := 0) C dX5_begin_27 (by decide) ?_
  refine pr_p_5_5 C hk0 pr_w101 dX5_begin_28 (fun f14 e15 => ?_)
  have h := pr_lt_at h e15
  refine pr_aload_n C dX5_begin_31 rfl 0 rfl ?_
  refine pr_iconst (v := 0) C dX5_begin_32 (by decide) ?_
  refine pr_p_5_6 C hk0 pr_w102 dX5_begin_33 (fun f16 e17 => ?_)
  have h := pr_lt_at h e17
  refine pr_aload_n C dX5_begin_36 rfl 0 rfl ?_
  refine pr_iconst (v := 0) C dX5_begin_37 (by decide) ?_
  refine pr_p_5_8 C hk0 pr_w103 dX5_begin_38 (fun f18 e19 => ?_)
  have h := pr_lt_at h e19
  refine pr_aload_n C dX5_begin_41 rfl 0 rfl ?_
  refine pr_iconst (v := 0) C dX5_begin_42 (by decide) ?_
  refine pr_p_5_9 C hk0 pr_w104 dX5_begin_43 (fun f20 e21 => ?_)
  have h := pr_lt_at h e21
  obtain ⟨rfl, rfl⟩ := pr_inj h
  exact pr_vret C Z dX5_begin_46
theorem k_X5_begin {l : Launch} {e : pr_E0} {Y : pr_Y} {Rm : Room} {cc : ByteArray} {own : String} {nL : Nat} {c0 : Cond} {pc idx : Nat} {lv : List (Nat × Value)} {st : List Value} {c : Nat} {f : pr_M} {r : Unit} {g : pr_M} (C : pr_C (pr_EC l e) Y Rm cc own nL c0) (w1 : Cond.methodLink own idx yX5_begin ∈ pr_AL) (hk0 : (pr_LE e)[c]? = some (5, 0)) (h : F_X5_begin c f = some (r, g)) (hr1 : 2 ≤ Rm.frames) (hr2 : 40 ≤ Rm.locals) (hcat : (st.map fun v => v.category).sum ≤ 8) (hdg : decode cc pc = .ok (.invokevirtual idx, 3)) (k : pr_W (pr_EC l e) Y Rm nL g (pc + 3) lv (st)) : pr_W (pr_EC l e) Y Rm nL f pc lv (.ref (pr_ad (pr_EC l e) c) :: st) :=
  pr_callV (As := []) (n := 0) C (m_X5_begin hk0 h) hk0 (by decide) rfl w1 pr_w118 pr_w119 pr_w72 pr_w97 rfl rfl ⟨rfl, by decide +kernel, by decide +kernel, by decide +kernel⟩ rfl ⟨hr1, hr2⟩ rfl hcat hdg k

def L_X7_begin_2 (q0 : Nat) : Nat → Int32 → pr_M → Option ((Unit) × pr_M)
  | 0, _, _ => none
  | n + 1, x1, f =>
    if 11 ≤ x1 then (
      some ((), f)
    ) else (
      pr_gd (¬ (x1 < 0 ∨ 11 ≤ Int32.toNatClampNeg x1)) <|
      pr_lt (pr_up f (q0 + 1) (Int32.toNatClampNeg x1) ((pr_x2).getD (Int32.toNatClampNeg x1) 0)) fun f3006 =>
      L_X7_begin_2 q0 n (x1 + 1) f3006
    )
set_option maxHeartbeats 4000000 in
set_option maxRecDepth 100000 in
theorem l_X7_begin_2 {l : Launch} {e : pr_E0} {Y : pr_Y} {c0 : Cond} {q0 : Nat} {z : Unit} {g : pr_M} (C : pr_C (pr_EC l e) Y { frames := 2, cells := 0, slots := 0, locals := 40 } cX7_begin RX7 2 c0) (hq0 : (pr_LE e)[q0]? = some (7, 0)) : ∀ (n : Nat) (x1 : Int32) (f : pr_M), L_X7_begin_2 q0 n x1 f = some (z, g) → pr_W (pr_EC l e) Y { frames := 2, cells := 0, slots := 0, locals := 40 } 2 g 25 [(0, .ref (pr_ad (pr_EC l e) q0))] [] → pr_W (pr_EC l e) Y { frames := 2, cells := 0, slots := 0, locals := 40 } 2 f 2 [(0, .ref (pr_ad (pr_EC l e) q0)), (1, .int x1)] [] := by
  intro n
  induction n with
  | zero =>
    intro x1 f h
    exact absurd h (by simp [L_X7_begin_2])
  | succ n ih =>
    intro x1 f h K
    rw [L_X7_begin_2] at h
    refine pr_iload_n C dX7_begin_2 rfl 1 rfl ?_
    refine pr_bipush (v := 11) C dX7_begin_3 (by decide) ?_
    refine pr_icmp_ge (tgt := 25) C dX7_begin_5 (by decide) (fun c3001 => ?_) (fun c3001 => ?_)
    · have h := pr_ifT h c3001
      obtain ⟨rfl, rfl⟩ := pr_inj h
      exact pr_pick [0] rfl K
    · have h := pr_ifF h c3001
      refine pr_aload_n C dX7_begin_8 rfl 0 rfl ?_
      refine pr_g_7_0 C hq0 pr_w61 dX7_begin_9 ?_
      have hk3002 := pr_kC_7_0 hq0
      refine pr_iload_n C dX7_begin_12 rfl 1 rfl ?_
      refine pr_sgetN C (xs := pr_x2) (List.mem_of_getElem? (i := 2) rfl) pr_nf45 dX7_begin_13 (fun t3003 hT3004 => ?_)
      refine pr_iload_n C dX7_begin_16 rfl 1 rfl ?_
      obtain ⟨hg3005, h⟩ := pr_gd_some h
      refine pr_saload C hT3004 hg3005 dX7_begin_17 ?_
      refine pr_iastore C hk3002 hg3005 dX7_begin_18 (fun f3006 e3007 => ?_)
      have h := pr_lt_at h e3007
      refine pr_iinc (v := (x1 + 1)) (lv' := [(1, .int (x1 + 1)), (0, .ref (pr_ad (pr_EC l e) q0))]) C dX7_begin_19 1 rfl rfl (by decide) rfl ?_
      refine pr_goto (tgt := 2) C dX7_begin_22 (by decide) ?_
      exact pr_pick [1, 0] rfl (ih _ _ h K)
def F_X7_begin (c : Nat) (f : pr_M) : Option (Unit × pr_M) :=
  pr_bd (L_X7_begin_2 c pr_fuel 0 f) fun v1 f2 =>
  pr_bd (F_X4_begin (c + 2) f2) fun u5 f6 =>
  pr_bd (F_X0_clear (c + 5) f6) fun u9 f10 =>
  pr_bd (F_X5_begin (c + 6) f10) fun u13 f14 =>
  some ((), f14)
set_option maxHeartbeats 4000000 in
set_option maxRecDepth 100000 in
theorem m_X7_begin {l : Launch} {e : pr_E0} {c : Nat} {f : pr_M} {r : Unit} {g : pr_M} (hk0 : (pr_LE e)[c]? = some (7, 0)) (h : F_X7_begin c f = some (r, g)) : pr_Met (pr_EC l e) yX7_begin cX7_begin 2 none { frames := 2, cells := 0, slots := 0, locals := 40 } [.ref (pr_ad (pr_EC l e) c)] f none g := by
  rw [F_X7_begin] at h
  refine pr_enter (by decide +kernel) (Nat.le_of_ble_eq_true rfl) (fun Y C Z => ?_)
  replace C : pr_C (pr_EC l e) Y { frames := 2, cells := 0, slots := 0, locals := 40 } cX7_begin RX7 2 _ := C
  show pr_W (pr_EC l e) Y _ 2 f 0 [(0, .ref (pr_ad (pr_EC l e) c))] []
  refine pr_iconst (v := 0) C dX7_begin_0 (by decide) ?_
  refine pr_istore_n (lv' := [(1, .int 0), (0, .ref (pr_ad (pr_EC l e) c))]) C dX7_begin_1 rfl (by decide) rfl ?_
  obtain ⟨v1, f2, hv, h⟩ := pr_bd_some h
  refine pr_pick [1, 0] rfl (l_X7_begin_2 C hk0 pr_fuel _ _ hv ?_)
  clear hv
  refine pr_aload_n C dX7_begin_25 rfl 0 rfl ?_
  refine pr_g_7_1 C hk0 pr_w65 dX7_begin_26 ?_
  have hk3 := pr_kC_7_1 hk0
  obtain ⟨u5, f6, hc4, h⟩ := pr_bd_some h
  refine k_X4_begin C pr_w111 hk3 hc4 (Nat.le_of_ble_eq_true rfl) (Nat.le_of_ble_eq_true rfl) (Nat.le_of_ble_eq_true rfl) dX7_begin_29 ?_
  refine pr_aload_n C dX7_begin_32 rfl 0 rfl ?_
  refine pr_g_7_2 C hk0 pr_w69 dX7_begin_33 ?_
  have hk7 := pr_kC_7_2 hk0
  obtain ⟨u9, f10, hc8, h⟩ := pr_bd_some h
  refine k_X0_clear C pr_w114 hk7 hc8 (Nat.le_of_ble_eq_true rfl) (Nat.le_of_ble_eq_true rfl) (Nat.le_of_ble_eq_true rfl) dX7_begin_36 ?_
  refine pr_aload_n C dX7_begin_39 rfl 0 rfl ?_
  refine pr_g_7_3 C hk0 pr_w73 dX7_begin_40 ?_
  have hk11 := pr_kC_7_3 hk0
  obtain ⟨u13, f14, hc12, h⟩ := pr_bd_some h
  refine k_X5_begin C pr_w117 hk11 hc12 (Nat.le_of_ble_eq_true rfl) (Nat.le_of_ble_eq_true rfl) (Nat.le_of_ble_eq_true rfl) dX7_begin_43 ?_
  obtain ⟨rfl, rfl⟩ := pr_inj h
  exact pr_vret C Z dX7_begin_46
theorem k_X7_begin {l : Launch} {e : pr_E0} {Y : pr_Y} {Rm : Room} {cc : ByteArray} {own : String} {nL : Nat} {c0 : Cond} {pc idx : Nat} {lv : List (Nat × Value)} {st : List Value} {c : Nat} {f : pr_M} {r : Unit} {g : pr_M} (C : pr_C (pr_EC l e) Y Rm cc own nL c0) (w1 : Cond.methodLink own idx yX7_begin ∈ pr_AL) (hk0 : (pr_LE e)[c]? = some (7, 0)) (h : F_X7_begin c f = some (r, g)) (hr1 : 3 ≤ Rm.frames) (hr2 : 61 ≤ Rm.locals) (hcat : (st.map fun v => v.category).sum ≤ 8) (hdg : decode cc pc = .ok (.invokevirtual idx, 3)) (k : pr_W (pr_EC l e) Y Rm nL g (pc + 3) lv (st)) : pr_W (pr_EC l e) Y Rm nL f pc lv (.ref (pr_ad (pr_EC l e) c) :: st) :=
  pr_callV (As := []) (n := 0) C (m_X7_begin hk0 h) hk0 (by decide) rfl w1 pr_w129 pr_w130 pr_w84 pr_w120 rfl rfl ⟨rfl, by decide +kernel, by decide +kernel, by decide +kernel⟩ rfl ⟨hr1, hr2⟩ rfl hcat hdg k

def L_X3_begin_37 (q0 : Nat) : Nat → Int32 → pr_M → Option ((Unit) × pr_M)
  | 0, _, _ => none
  | n + 1, x2, f =>
    if 6 ≤ x2 then (
      some ((), f)
    ) else (
      pr_gd (¬ (x2 < 0 ∨ 6 ≤ Int32.toNatClampNeg x2)) <|
      pr_lt (pr_up f (q0 + 3) (Int32.toNatClampNeg x2) 0) fun f38004 =>
      L_X3_begin_37 q0 n (x2 + 1) f38004
    )
set_option maxHeartbeats 4000000 in
set_option maxRecDepth 100000 in
theorem l_X3_begin_37 {l : Launch} {e : pr_E0} {Y : pr_Y} {c0 : Cond} {q0 : Nat} {z : Unit} {g : pr_M} (C : pr_C (pr_EC l e) Y { frames := 3, cells := 0, slots := 0, locals := 61 } cX3_begin RX3 3 c0) (hq0 : (pr_LE e)[q0]? = some (3, 0)) : ∀ (n : Nat) (x2 : Int32) (f : pr_M), L_X3_begin_37 q0 n x2 f = some (z, g) → pr_W (pr_EC l e) Y { frames := 3, cells := 0, slots := 0, locals := 61 } 3 g 56 [(0, .ref (pr_ad (pr_EC l e) q0))] [] → pr_W (pr_EC l e) Y { frames := 3, cells := 0, slots := 0, locals := 61 } 3 f 37 [(0, .ref (pr_ad (pr_EC l e) q0)), (2, .int x2)] [] := by
  intro n
  induction n with
  | zero =>
    intro x2 f h
    exact absurd h (by simp [L_X3_begin_37])
  | succ n ih =>
    intro x2 f h K
    rw [L_X3_begin_37] at h
    refine pr_iload_n C dX3_begin_37 rfl 1 rfl ?_
    refine pr_bipush (v := 6) C dX3_begin_38 (by decide) ?_
    refine pr_icmp_ge (tgt := 56) C dX3_begin_40 (by decide) (fun c38001 => ?_) (fun c38001 => ?_)
    · have h := pr_ifT h c38001
      obtain ⟨rfl, rfl⟩ := pr_inj h
      exact pr_pick [0] rfl K
    · have h := pr_ifF h c38001
      refine pr_aload_n C dX3_begin_43 rfl 0 rfl ?_
      refine pr_g_3_2 C hq0 pr_w82 dX3_begin_44 ?_
      have hk38002 := pr_kC_3_2 hq0
      refine pr_iload_n C dX3_begin_47 rfl 1 rfl ?_
      refine pr_iconst (v := 0) C dX3_begin_48 (by decide) ?_
      obtain ⟨hg38003, h⟩ := pr_gd_some h
      refine pr_iastore C hk38002 hg38003 dX3_begin_49 (fun f38004 e38005 => ?_)
      have h := pr_lt_at h e38005
      refine pr_iinc (v := (x2 + 1)) (lv' := [(2, .int (x2 + 1)), (0, .ref (pr_ad (pr_EC l e) q0))]) C dX3_begin_50 1 rfl rfl (by decide) rfl ?_
      refine pr_goto (tgt := 37) C dX3_begin_53 (by decide) ?_
      exact pr_pick [1, 0] rfl (ih _ _ h K)
def L_X3_begin_58 (q0 : Nat) : Nat → Int32 → pr_M → Option ((Unit) × pr_M)
  | 0, _, _ => none
  | n + 1, x2, f =>
    if 5 ≤ x2 then (
      some ((), f)
    ) else (
      pr_gd (¬ (x2 < 0 ∨ 5 ≤ Int32.toNatClampNeg x2)) <|
      pr_bd (F_X7_begin ((q0 + 1) + 3 + 9 * Int32.toNatClampNeg x2) f) fun u59006 f59007 =>
      L_X3_begin_58 q0 n (x2 + 1) f59007
    )
set_option maxHeartbeats 4000000 in
set_option maxRecDepth 100000 in
theorem l_X3_begin_58 {l : Launch} {e : pr_E0} {Y : pr_Y} {c0 : Cond} {q0 : Nat} {z : Unit} {g : pr_M} (C : pr_C (pr_EC l e) Y { frames := 3, cells := 0, slots := 0, locals := 61 } cX3_begin RX3 3 c0) (hq0 : (pr_LE e)[q0]? = some (3, 0)) : ∀ (n : Nat) (x2 : Int32) (f : pr_M), L_X3_begin_58 q0 n x2 f = some (z, g) → pr_W (pr_EC l e) Y { frames := 3, cells := 0, slots := 0, locals := 61 } 3 g 78 [] [] → pr_W (pr_EC l e) Y { frames := 3, cells := 0, slots := 0, locals := 61 } 3 f 58 [(0, .ref (pr_ad (pr_EC l e) q0)), (2, .int x2)] [] := by
  intro n
  induction n with
  | zero =>
    intro x2 f h
    exact absurd h (by simp [L_X3_begin_58])
  | succ n ih =>
    intro x2 f h K
    rw [L_X3_begin_58] at h
    refine pr_iload_n C dX3_begin_58 rfl 1 rfl ?_
    refine pr_iconst (v := 5) C dX3_begin_59 (by decide) ?_
    refine pr_icmp_ge (tgt := 78) C dX3_begin_60 (by decide) (fun c59001 => ?_) (fun c59001 => ?_)
    · have h := pr_ifT h c59001
      obtain ⟨rfl, rfl⟩ := pr_inj h
      exact pr_pick [] rfl K
    · have h := pr_ifF h c59001
      refine pr_aload_n C dX3_begin_63 rfl 0 rfl ?_
      refine pr_g_3_0 C hq0 pr_w80 dX3_begin_64 ?_
      have hk59002 := pr_kC_3_0 hq0
      refine pr_iload_n C dX3_begin_67 rfl 1 rfl ?_
      obtain ⟨hg59003, h⟩ := pr_gd_some h
      refine pr_aaload C hk59002 hg59003 dX3_begin_68 ?_
      have hk59004 := pr_kC_u (i := x2) hk59002 hg59003
      obtain ⟨u59006, f59007, hc59005, h⟩ := pr_bd_some h
      refine k_X7_begin C pr_w128 hk59004 hc59005 (Nat.le_of_ble_eq_true rfl) (Nat.le_of_ble_eq_true rfl) (Nat.le_of_ble_eq_true rfl) dX3_begin_69 ?_
      refine pr_iinc (v := (x2 + 1)) (lv' := [(2, .int (x2 + 1)), (0, .ref (pr_ad (pr_EC l e) q0))]) C dX3_begin_72 1 rfl rfl (by decide) rfl ?_
      refine pr_goto (tgt := 58) C dX3_begin_75 (by decide) ?_
      exact pr_pick [1, 0] rfl (ih _ _ h K)
def F_X3_begin (c : Nat) (p1 : Int32) (f : pr_M) : Option (Unit × pr_M) :=
  pr_lt (pr_up f c 3 p1) fun f1 =>
  pr_lt (pr_up f1 c 4 0) fun f3 =>
  pr_lt (pr_up f3 c 5 0) fun f5 =>
  pr_lt (pr_up f5 c 6 0) fun f7 =>
  pr_lt (pr_up f7 c 7 0) fun f9 =>
  pr_lt (pr_up f9 c 8 0) fun f11 =>
  pr_lt (pr_up f11 c 9 0) fun f13 =>
  pr_bd (L_X3_begin_37 c pr_fuel 0 f13) fun v15 f16 =>
  pr_bd (L_X3_begin_58 c pr_fuel 0 f16) fun v17 f18 =>
  some ((), f18)
set_option maxHeartbeats 4000000 in
set_option maxRecDepth 100000 in
theorem m_X3_begin {l : Launch} {e : pr_E0} {c : Nat} {p1 : Int32} {f : pr_M} {r : Unit} {g : pr_M} (hk0 : (pr_LE e)[c]? = some (3, 0)) (h : F_X3_begin c p1 f = some (r, g)) : pr_Met (pr_EC l e) yX3_begin cX3_begin 3 none { frames := 3, cells := 0, slots := 0, locals := 61 } [.ref (pr_ad (pr_EC l e) c), .int p1] f none g := by
  rw [F_X3_begin] at h
  refine pr_enter (by decide +kernel) (Nat.le_of_ble_eq_true rfl) (fun Y C Z => ?_)
  replace C : pr_C (pr_EC l e) Y { frames := 3, cells := 0, slots := 0, locals := 61 } cX3_begin RX3 3 _ := C
  show pr_W (pr_EC l e) Y _ 3 f 0 [(0, .ref (pr_ad (pr_EC l e) c)), (1, .int p1)] []
  refine pr_aload_n C dX3_begin_0 rfl 0 rfl ?_
  refine pr_iload_n C dX3_begin_1 rfl 1 rfl ?_
  refine pr_p_3_3 C hk0 pr_w121 dX3_begin_2 (fun f1 e2 => ?_)
  have h := pr_lt_at h e2
  refine pr_aload_n C dX3_begin_5 rfl 0 rfl ?_
  refine pr_iconst (v := 0) C dX3_begin_6 (by decide) ?_
  refine pr_p_3_4 C hk0 pr_w122 dX3_begin_7 (fun f3 e4 => ?_)
  have h := pr_lt_at h e4
  refine pr_aload_n C dX3_begin_10 rfl 0 rfl ?_
  refine pr_iconst (v := 0) C dX3_begin_11 (by decide) ?_
  refine pr_p_3_5 C hk0 pr_w123 dX3_begin_12 (fun f5 e6 => ?_)
  have h := pr_lt_at h e6
  refine pr_aload_n C dX3_begin_15 rfl 0 rfl ?_
  refine pr_iconst (v := 0) C dX3_begin_16 (by decide) ?_
  refine pr_p_3_6 C hk0 pr_w124 dX3_begin_17 (fun f7 e8 => ?_)
  have h := pr_lt_at h e8
  refine pr_aload_n C dX3_begin_20 rfl 0 rfl ?_
  refine pr_iconst (v := 0) C dX3_begin_21 (by decide) ?_
  refine pr_p_3_7 C hk0 pr_w125 dX3_begin_22 (fun f9 e10 => ?_)
  have h := pr_lt_at h e10
  refine pr_aload_n C dX3_begin_25 rfl 0 rfl ?_
  refine pr_iconst (v := 0) C dX3_begin_26 (by decide) ?_
  refine pr_p_3_8 C hk0 pr_w126 dX3_begin_27 (fun f11 e12 => ?_)
  have h := pr_lt_at h e12
  refine pr_aload_n C dX3_begin_30 rfl 0 rfl ?_
  refine pr_iconst (v := 0) C dX3_begin_31 (by decide) ?_
  refine pr_p_3_9 C hk0 pr_w127 dX3_begin_32 (fun f13 e14 => ?_)
  have h := pr_lt_at h e14
  refine pr_iconst (v := 0) C dX3_begin_35 (by decide) ?_
  refine pr_istore_n (lv' := [(2, .int 0), (0, .ref (pr_ad (pr_EC l e) c)), (1, .int p1)]) C dX3_begin_36 rfl (by decide) rfl ?_
  obtain ⟨v15, f16, hv, h⟩ := pr_bd_some h
  refine pr_pick [1, 0] rfl (l_X3_begin_37 C hk0 pr_fuel _ _ hv ?_)
  clear hv
  refine pr_iconst (v := 0) C dX3_begin_56 (by decide) ?_
  refine pr_istore_n (lv' := [(2, .int 0), (0, .ref (pr_ad (pr_EC l e) c))]) C dX3_begin_57 rfl (by decide) rfl ?_
  obtain ⟨v17, f18, hv, h⟩ := pr_bd_some h
  refine pr_pick [1, 0] rfl (l_X3_begin_58 C hk0 pr_fuel _ _ hv ?_)
  clear hv
  obtain ⟨rfl, rfl⟩ := pr_inj h
  exact pr_vret C Z dX3_begin_78
theorem k_X3_begin {l : Launch} {e : pr_E0} {Y : pr_Y} {Rm : Room} {cc : ByteArray} {own : String} {nL : Nat} {c0 : Cond} {pc idx : Nat} {lv : List (Nat × Value)} {st : List Value} {c : Nat} {p1 : Int32} {f : pr_M} {r : Unit} {g : pr_M} (C : pr_C (pr_EC l e) Y Rm cc own nL c0) (w1 : Cond.methodLink own idx yX3_begin ∈ pr_AL) (hk0 : (pr_LE e)[c]? = some (3, 0)) (h : F_X3_begin c p1 f = some (r, g)) (hr1 : 4 ≤ Rm.frames) (hr2 : 83 ≤ Rm.locals) (hcat : (st.map fun v => v.category).sum ≤ 8) (hdg : decode cc pc = .ok (.invokevirtual idx, 3)) (k : pr_W (pr_EC l e) Y Rm nL g (pc + 3) lv (st)) : pr_W (pr_EC l e) Y Rm nL f pc lv (.int p1 :: .ref (pr_ad (pr_EC l e) c) :: st) :=
  pr_callV (As := [.int p1]) (n := 1) C (m_X3_begin hk0 h) hk0 (by decide) rfl w1 pr_w270 pr_w271 pr_w137 pr_w131 rfl rfl ⟨rfl, by decide +kernel, by decide +kernel, by decide +kernel⟩ rfl ⟨hr1, hr2⟩ rfl hcat hdg k

def F_X8_isOutside (p1 : Int32) (p2 : Int32) (p3 : Int32) (f : pr_M) : Option (Int32) :=
  if p1 < p2 then (
    some 1
  ) else (
    if p1 ≤ p3 then (
      some 0
    ) else (
      some 1
    )
  )
set_option maxHeartbeats 4000000 in
set_option maxRecDepth 100000 in
theorem m_X8_isOutside {l : Launch} {e : pr_E0} {p1 : Int32} {p2 : Int32} {p3 : Int32} {f : pr_M} {r : Int32}  (h : F_X8_isOutside p1 p2 p3 f = some r) : pr_Met (pr_EC l e) yX8_isOutside cX8_isOutside 3 (some .boolean) { frames := 0, cells := 0, slots := 0, locals := 0 } [.int p1, .int p2, .int p3] f (some (.int r)) f := by
  rw [F_X8_isOutside] at h
  refine pr_enter (by decide +kernel) (Nat.le_of_ble_eq_true rfl) (fun Y C Z => ?_)
  replace C : pr_C (pr_EC l e) Y { frames := 0, cells := 0, slots := 0, locals := 0 } cX8_isOutside RX8 3 _ := C
  show pr_W (pr_EC l e) Y _ 3 f 0 [(0, .int p1), (1, .int p2), (2, .int p3)] []
  refine pr_iload_n C dX8_isOutside_0 rfl 0 rfl ?_
  refine pr_iload_n C dX8_isOutside_1 rfl 1 rfl ?_
  refine pr_icmp_lt (tgt := 10) C dX8_isOutside_2 (by decide) (fun c1 => ?_) (fun c1 => ?_)
  · have h := pr_ifT h c1
    refine pr_iconst (v := 1) C dX8_isOutside_10 (by decide) ?_
    refine pr_goto (tgt := 15) C dX8_isOutside_11 (by decide) ?_
    obtain rfl := pr_in1 h
    exact pr_zret C (by decide) Z dX8_isOutside_15
  · have h := pr_ifF h c1
    refine pr_iload_n C dX8_isOutside_5 rfl 0 rfl ?_
    refine pr_iload_n C dX8_isOutside_6 rfl 2 rfl ?_
    refine pr_icmp_le (tgt := 14) C dX8_isOutside_7 (by decide) (fun c2 => ?_) (fun c2 => ?_)
    · have h := pr_ifT h c2
      refine pr_iconst (v := 0) C dX8_isOutside_14 (by decide) ?_
      obtain rfl := pr_in1 h
      exact pr_zret C (by decide) Z dX8_isOutside_15
    · have h := pr_ifF h c2
      refine pr_iconst (v := 1) C dX8_isOutside_10 (by decide) ?_
      refine pr_goto (tgt := 15) C dX8_isOutside_11 (by decide) ?_
      obtain rfl := pr_in1 h
      exact pr_zret C (by decide) Z dX8_isOutside_15
theorem k_X8_isOutside {l : Launch} {e : pr_E0} {Y : pr_Y} {Rm : Room} {cc : ByteArray} {own : String} {nL : Nat} {c0 : Cond} {pc idx : Nat} {lv : List (Nat × Value)} {st : List Value} {p1 : Int32} {p2 : Int32} {p3 : Int32} {f : pr_M} {r : Int32} (C : pr_C (pr_EC l e) Y Rm cc own nL c0) (w1 : Cond.methodLink own idx yX8_isOutside ∈ pr_AL)  (h : F_X8_isOutside p1 p2 p3 f = some r) (hr1 : 1 ≤ Rm.frames) (hr2 : 22 ≤ Rm.locals) (hcat : (st.map fun v => v.category).sum ≤ 8) (hdg : decode cc pc = .ok (.invokestatic idx, 3)) (k : pr_W (pr_EC l e) Y Rm nL f (pc + 3) lv (.int r :: st)) : pr_W (pr_EC l e) Y Rm nL f pc lv (.int p3 :: .int p2 :: .int p1 :: st) :=
  pr_callS (As := [.int p1, .int p2, .int p3]) (n := 3) C (m_X8_isOutside  h) w1 pr_w276 pr_w17 pr_w273 rfl rfl ⟨by decide +kernel, by decide +kernel, by decide +kernel⟩ rfl ⟨hr1, hr2⟩ rfl hcat hdg k

def F_X8_setUp (c : Nat) (p1 : Int32) (f : pr_M) : Option (Int32 × pr_M) :=
  pr_b1 (F_X8_isOutside p1 2 5 f) fun r2 =>
  if r2 = 0 then (
    pr_bd (F_X3_begin (c + 1) p1 f) fun u6 f7 =>
    some ((f (c + 1) 4), f7)
  ) else (
    some ((-1000000002), f)
  )
set_option maxHeartbeats 4000000 in
set_option maxRecDepth 100000 in
theorem m_X8_setUp {l : Launch} {e : pr_E0} {c : Nat} {p1 : Int32} {f : pr_M} {r : Int32} {g : pr_M} (hk0 : (pr_LE e)[c]? = some (8, 0)) (h : F_X8_setUp c p1 f = some (r, g)) : pr_Met (pr_EC l e) yX8_setUp cX8_setUp 3 (some .int) { frames := 4, cells := 0, slots := 0, locals := 83 } [.ref (pr_ad (pr_EC l e) c), .int p1] f (some (.int r)) g := by
  rw [F_X8_setUp] at h
  refine pr_enter (by decide +kernel) (Nat.le_of_ble_eq_true rfl) (fun Y C Z => ?_)
  replace C : pr_C (pr_EC l e) Y { frames := 4, cells := 0, slots := 0, locals := 83 } cX8_setUp RX8 3 _ := C
  show pr_W (pr_EC l e) Y _ 3 f 0 [(0, .ref (pr_ad (pr_EC l e) c)), (1, .int p1)] []
  refine pr_iload_n C dX8_setUp_0 rfl 1 rfl ?_
  refine pr_iconst (v := 2) C dX8_setUp_1 (by decide) ?_
  refine pr_iconst (v := 5) C dX8_setUp_2 (by decide) ?_
  obtain ⟨r2, hc1, h⟩ := pr_b1_some h
  refine k_X8_isOutside C pr_w275  hc1 (Nat.le_of_ble_eq_true rfl) (Nat.le_of_ble_eq_true rfl) (Nat.le_of_ble_eq_true rfl) dX8_setUp_3 ?_
  refine pr_if_eq (tgt := 12) C dX8_setUp_6 (by decide) (fun c3 => ?_) (fun c3 => ?_)
  · have h := pr_ifT h c3
    refine pr_aload_n C dX8_setUp_12 rfl 0 rfl ?_
    refine pr_g_8_0 C hk0 pr_w255 dX8_setUp_13 ?_
    have hk4 := pr_kC_8_0 hk0
    refine pr_gN_3_4 C hk4 pr_nf42 dX8_setUp_16 ?_
    refine pr_istore_n (lv' := [(2, .int (f (c + 1) 4)), (0, .ref (pr_ad (pr_EC l e) c)), (1, .int p1)]) C dX8_setUp_19 rfl (by decide) rfl ?_
    refine pr_aload_n C dX8_setUp_20 rfl 1 rfl ?_
    refine pr_g_8_0 C hk0 pr_w255 dX8_setUp_21 ?_
    refine pr_iload_n C dX8_setUp_24 rfl 2 rfl ?_
    obtain ⟨u6, f7, hc5, h⟩ := pr_bd_some h
    refine k_X3_begin C pr_w269 hk4 hc5 (Nat.le_of_ble_eq_true rfl) (Nat.le_of_ble_eq_true rfl) (Nat.le_of_ble_eq_true rfl) dX8_setUp_25 ?_
    refine pr_iload_n C dX8_setUp_28 rfl 0 rfl ?_
    obtain ⟨rfl, rfl⟩ := pr_inj h
    exact pr_iret C Z dX8_setUp_29
  · have h := pr_ifF h c3
    refine pr_ldc (v := (-1000000002)) C dX8_setUp_9 pr_w274 ?_
    obtain ⟨rfl, rfl⟩ := pr_inj h
    exact pr_iret C Z dX8_setUp_11
theorem k_X8_setUp {l : Launch} {e : pr_E0} {Y : pr_Y} {Rm : Room} {cc : ByteArray} {own : String} {nL : Nat} {c0 : Cond} {pc idx : Nat} {lv : List (Nat × Value)} {st : List Value} {c : Nat} {p1 : Int32} {f : pr_M} {r : Int32} {g : pr_M} (C : pr_C (pr_EC l e) Y Rm cc own nL c0) (w1 : Cond.methodLink own idx yX8_setUp ∈ pr_AL) (hk0 : (pr_LE e)[c]? = some (8, 0)) (h : F_X8_setUp c p1 f = some (r, g)) (hr1 : 5 ≤ Rm.frames) (hr2 : 105 ≤ Rm.locals) (hcat : (st.map fun v => v.category).sum ≤ 8) (hdg : decode cc pc = .ok (.invokevirtual idx, 3)) (k : pr_W (pr_EC l e) Y Rm nL g (pc + 3) lv (.int r :: st)) : pr_W (pr_EC l e) Y Rm nL f pc lv (.int p1 :: .ref (pr_ad (pr_EC l e) c) :: st) :=
  pr_callV (As := [.int p1]) (n := 1) C (m_X8_setUp hk0 h) hk0 (by decide) rfl w1 pr_w393 pr_w394 pr_w17 pr_w277 rfl rfl ⟨rfl, by decide +kernel, by decide +kernel, by decide +kernel⟩ rfl ⟨hr1, hr2⟩ rfl hcat hdg k

def F_X3_unitAt (c : Nat) (p1 : Int32) (f : pr_M) : Option (Option Nat) :=
  if p1 < 0 then (
    some none
  ) else (
    if (f c 3) ≤ p1 then (
      some none
    ) else (
      pr_gd (¬ (p1 < 0 ∨ 5 ≤ Int32.toNatClampNeg p1)) <|
      some (some ((c + 1) + 3 + 9 * Int32.toNatClampNeg p1))
    )
  )
set_option maxHeartbeats 4000000 in
set_option maxRecDepth 100000 in
theorem m_X3_unitAt {l : Launch} {e : pr_E0} {c : Nat} {p1 : Int32} {f : pr_M} {r : Option Nat} (hk0 : (pr_LE e)[c]? = some (3, 0)) (h : F_X3_unitAt c p1 f = some r) : pr_Met (pr_EC l e) yX3_unitAt cX3_unitAt 2 (some (.object "PrintRegister$Unit")) { frames := 0, cells := 0, slots := 0, locals := 0 } [.ref (pr_ad (pr_EC l e) c), .int p1] f (some (pr_rv (pr_EC l e) r)) f := by
  rw [F_X3_unitAt] at h
  refine pr_enter (by decide +kernel) (Nat.le_of_ble_eq_true rfl) (fun Y C Z => ?_)
  replace C : pr_C (pr_EC l e) Y { frames := 0, cells := 0, slots := 0, locals := 0 } cX3_unitAt RX3 2 _ := C
  show pr_W (pr_EC l e) Y _ 2 f 0 [(0, .ref (pr_ad (pr_EC l e) c)), (1, .int p1)] []
  refine pr_iload_n C dX3_unitAt_0 rfl 1 rfl ?_
  refine pr_if_lt (tgt := 21) C dX3_unitAt_1 (by decide) (fun c1 => ?_) (fun c1 => ?_)
  · have h := pr_ifT h c1
    refine pr_null C dX3_unitAt_21 ?_
    obtain rfl := pr_in1 h
    exact pr_aret C (Or.inl rfl) Z dX3_unitAt_22
  · have h := pr_ifF h c1
    refine pr_iload_n C dX3_unitAt_4 rfl 1 rfl ?_
    refine pr_aload_n C dX3_unitAt_5 rfl 0 rfl ?_
    refine pr_g_3_3 C hk0 pr_w121 dX3_unitAt_6 ?_
    refine pr_icmp_ge (tgt := 21) C dX3_unitAt_9 (by decide) (fun c2 => ?_) (fun c2 => ?_)
    · have h := pr_ifT h c2
      refine pr_null C dX3_unitAt_21 ?_
      obtain rfl := pr_in1 h
      exact pr_aret C (Or.inl rfl) Z dX3_unitAt_22
    · have h := pr_ifF h c2
      refine pr_aload_n C dX3_unitAt_12 rfl 0 rfl ?_
      refine pr_g_3_0 C hk0 pr_w80 dX3_unitAt_13 ?_
      have hk3 := pr_kC_3_0 hk0
      refine pr_iload_n C dX3_unitAt_16 rfl 1 rfl ?_
      obtain ⟨hg4, h⟩ := pr_gd_some h
      refine pr_aaload C hk3 hg4 dX3_unitAt_17 ?_
      have hk5 := pr_kC_u (i := p1) hk3 hg4
      refine pr_goto (tgt := 22) C dX3_unitAt_18 (by decide) ?_
      obtain rfl := pr_in1 h
      exact pr_aret C (Or.inr ⟨_, rfl⟩) Z dX3_unitAt_22
theorem k_X3_unitAt {l : Launch} {e : pr_E0} {Y : pr_Y} {Rm : Room} {cc : ByteArray} {own : String} {nL : Nat} {c0 : Cond} {pc idx : Nat} {lv : List (Nat × Value)} {st : List Value} {c : Nat} {p1 : Int32} {f : pr_M} {r : Option Nat} (C : pr_C (pr_EC l e) Y Rm cc own nL c0) (w1 : Cond.methodLink own idx yX3_unitAt ∈ pr_AL) (hk0 : (pr_LE e)[c]? = some (3, 0)) (h : F_X3_unitAt c p1 f = some r) (hr1 : 1 ≤ Rm.frames) (hr2 : 21 ≤ Rm.locals) (hcat : (st.map fun v => v.category).sum ≤ 8) (hdg : decode cc pc = .ok (.invokevirtual idx, 3)) (k : pr_W (pr_EC l e) Y Rm nL f (pc + 3) lv (pr_rv (pr_EC l e) r :: st)) : pr_W (pr_EC l e) Y Rm nL f pc lv (.int p1 :: .ref (pr_ad (pr_EC l e) c) :: st) :=
  pr_callV (As := [.int p1]) (n := 1) C (m_X3_unitAt hk0 h) hk0 (by decide) rfl w1 pr_w135 pr_w136 pr_w137 pr_w132 rfl rfl ⟨rfl, by decide +kernel, by decide +kernel, by decide +kernel⟩ rfl ⟨hr1, hr2⟩ rfl hcat hdg k

def F_X8_isSettingValue (p1 : Int32) (p2 : Int32) (f : pr_M) : Option (Int32) :=
  if p1 < 0 then (
    some 0
  ) else (
    if p1 < 11 then (
      pr_gd (¬ (p1 < 0 ∨ 11 ≤ Int32.toNatClampNeg p1)) <|
      pr_b1 (F_X8_isOutside p2 ((pr_x0).getD (Int32.toNatClampNeg p1) 0) ((pr_x1).getD (Int32.toNatClampNeg p1) 0) f) fun r9 =>
      if r9 = 0 then (
        some 1
      ) else (
        some 0
      )
    ) else (
      some 0
    )
  )
set_option maxHeartbeats 4000000 in
set_option maxRecDepth 100000 in
theorem m_X8_isSettingValue {l : Launch} {e : pr_E0} {p1 : Int32} {p2 : Int32} {f : pr_M} {r : Int32}  (h : F_X8_isSettingValue p1 p2 f = some r) : pr_Met (pr_EC l e) yX8_isSettingValue cX8_isSettingValue 2 (some .boolean) { frames := 1, cells := 0, slots := 0, locals := 22 } [.int p1, .int p2] f (some (.int r)) f := by
  rw [F_X8_isSettingValue] at h
  refine pr_enter (by decide +kernel) (Nat.le_of_ble_eq_true rfl) (fun Y C Z => ?_)
  replace C : pr_C (pr_EC l e) Y { frames := 1, cells := 0, slots := 0, locals := 22 } cX8_isSettingValue RX8 2 _ := C
  show pr_W (pr_EC l e) Y _ 2 f 0 [(0, .int p1), (1, .int p2)] []
  refine pr_iload_n C dX8_isSettingValue_0 rfl 0 rfl ?_
  refine pr_if_lt (tgt := 10) C dX8_isSettingValue_1 (by decide) (fun c1 => ?_) (fun c1 => ?_)
  · have h := pr_ifT h c1
    refine pr_iconst (v := 0) C dX8_isSettingValue_10 (by decide) ?_
    obtain rfl := pr_in1 h
    exact pr_zret C (by decide) Z dX8_isSettingValue_11
  · have h := pr_ifF h c1
    refine pr_iload_n C dX8_isSettingValue_4 rfl 0 rfl ?_
    refine pr_bipush (v := 11) C dX8_isSettingValue_5 (by decide) ?_
    refine pr_icmp_lt (tgt := 12) C dX8_isSettingValue_7 (by decide) (fun c2 => ?_) (fun c2 => ?_)
    · have h := pr_ifT h c2
      refine pr_iload_n C dX8_isSettingValue_12 rfl 1 rfl ?_
      refine pr_sget C (xs := pr_x0) (List.mem_of_getElem? (i := 0) rfl) pr_w279 dX8_isSettingValue_13 (fun t3 hT4 => ?_)
      refine pr_iload_n C dX8_isSettingValue_16 rfl 0 rfl ?_
      obtain ⟨hg5, h⟩ := pr_gd_some h
      refine pr_saload C hT4 hg5 dX8_isSettingValue_17 ?_
      refine pr_sget C (xs := pr_x1) (List.mem_of_getElem? (i := 1) rfl) pr_w280 dX8_isSettingValue_18 (fun t6 hT7 => ?_)
      refine pr_iload_n C dX8_isSettingValue_21 rfl 0 rfl ?_
      refine pr_saload C hT7 hg5 dX8_isSettingValue_22 ?_
      obtain ⟨r9, hc8, h⟩ := pr_b1_some h
      refine k_X8_isOutside C pr_w275  hc8 (Nat.le_of_ble_eq_true rfl) (Nat.le_of_ble_eq_true rfl) (Nat.le_of_ble_eq_true rfl) dX8_isSettingValue_23 ?_
      refine pr_if_ne (tgt := 33) C dX8_isSettingValue_26 (by decide) (fun c10 => ?_) (fun c10 => ?_)
      · have h := pr_ifF h c10
        refine pr_iconst (v := 0) C dX8_isSettingValue_33 (by decide) ?_
        obtain rfl := pr_in1 h
        exact pr_zret C (by decide) Z dX8_isSettingValue_34
      · have h := pr_ifT h c10
        refine pr_iconst (v := 1) C dX8_isSettingValue_29 (by decide) ?_
        refine pr_goto (tgt := 34) C dX8_isSettingValue_30 (by decide) ?_
        obtain rfl := pr_in1 h
        exact pr_zret C (by decide) Z dX8_isSettingValue_34
    · have h := pr_ifF h c2
      refine pr_iconst (v := 0) C dX8_isSettingValue_10 (by decide) ?_
      obtain rfl := pr_in1 h
      exact pr_zret C (by decide) Z dX8_isSettingValue_11
theorem k_X8_isSettingValue {l : Launch} {e : pr_E0} {Y : pr_Y} {Rm : Room} {cc : ByteArray} {own : String} {nL : Nat} {c0 : Cond} {pc idx : Nat} {lv : List (Nat × Value)} {st : List Value} {p1 : Int32} {p2 : Int32} {f : pr_M} {r : Int32} (C : pr_C (pr_EC l e) Y Rm cc own nL c0) (w1 : Cond.methodLink own idx yX8_isSettingValue ∈ pr_AL)  (h : F_X8_isSettingValue p1 p2 f = some r) (hr1 : 2 ≤ Rm.frames) (hr2 : 43 ≤ Rm.locals) (hcat : (st.map fun v => v.category).sum ≤ 8) (hdg : decode cc pc = .ok (.invokestatic idx, 3)) (k : pr_W (pr_EC l e) Y Rm nL f (pc + 3) lv (.int r :: st)) : pr_W (pr_EC l e) Y Rm nL f pc lv (.int p2 :: .int p1 :: st) :=
  pr_callS (As := [.int p1, .int p2]) (n := 2) C (m_X8_isSettingValue  h) w1 pr_w286 pr_w17 pr_w278 rfl rfl ⟨by decide +kernel, by decide +kernel, by decide +kernel⟩ rfl ⟨hr1, hr2⟩ rfl hcat hdg k

def F_X8_isPlace (p1 : Int32) (f : pr_M) : Option (Int32) :=
  if p1 = 0 then (
    some 1
  ) else (
    if p1 = 1 then (
      some 1
    ) else (
      some 0
    )
  )
set_option maxHeartbeats 4000000 in
set_option maxRecDepth 100000 in
theorem m_X8_isPlace {l : Launch} {e : pr_E0} {p1 : Int32} {f : pr_M} {r : Int32}  (h : F_X8_isPlace p1 f = some r) : pr_Met (pr_EC l e) yX8_isPlace cX8_isPlace 1 (some .boolean) { frames := 0, cells := 0, slots := 0, locals := 0 } [.int p1] f (some (.int r)) f := by
  rw [F_X8_isPlace] at h
  refine pr_enter (by decide +kernel) (Nat.le_of_ble_eq_true rfl) (fun Y C Z => ?_)
  replace C : pr_C (pr_EC l e) Y { frames := 0, cells := 0, slots := 0, locals := 0 } cX8_isPlace RX8 1 _ := C
  show pr_W (pr_EC l e) Y _ 1 f 0 [(0, .int p1)] []
  refine pr_iload_n C dX8_isPlace_0 rfl 0 rfl ?_
  refine pr_if_eq (tgt := 9) C dX8_isPlace_1 (by decide) (fun c1 => ?_) (fun c1 => ?_)
  · have h := pr_ifT h c1
    refine pr_iconst (v := 1) C dX8_isPlace_9 (by decide) ?_
    refine pr_goto (tgt := 14) C dX8_isPlace_10 (by decide) ?_
    obtain rfl := pr_in1 h
    exact pr_zret C (by decide) Z dX8_isPlace_14
  · have h := pr_ifF h c1
    refine pr_iload_n C dX8_isPlace_4 rfl 0 rfl ?_
    refine pr_iconst (v := 1) C dX8_isPlace_5 (by decide) ?_
    refine pr_icmp_ne (tgt := 13) C dX8_isPlace_6 (by decide) (fun c2 => ?_) (fun c2 => ?_)
    · have h := pr_ifF h c2
      refine pr_iconst (v := 0) C dX8_isPlace_13 (by decide) ?_
      obtain rfl := pr_in1 h
      exact pr_zret C (by decide) Z dX8_isPlace_14
    · have h := pr_ifT h c2
      refine pr_iconst (v := 1) C dX8_isPlace_9 (by decide) ?_
      refine pr_goto (tgt := 14) C dX8_isPlace_10 (by decide) ?_
      obtain rfl := pr_in1 h
      exact pr_zret C (by decide) Z dX8_isPlace_14
theorem k_X8_isPlace {l : Launch} {e : pr_E0} {Y : pr_Y} {Rm : Room} {cc : ByteArray} {own : String} {nL : Nat} {c0 : Cond} {pc idx : Nat} {lv : List (Nat × Value)} {st : List Value} {p1 : Int32} {f : pr_M} {r : Int32} (C : pr_C (pr_EC l e) Y Rm cc own nL c0) (w1 : Cond.methodLink own idx yX8_isPlace ∈ pr_AL)  (h : F_X8_isPlace p1 f = some r) (hr1 : 1 ≤ Rm.frames) (hr2 : 20 ≤ Rm.locals) (hcat : (st.map fun v => v.category).sum ≤ 8) (hdg : decode cc pc = .ok (.invokestatic idx, 3)) (k : pr_W (pr_EC l e) Y Rm nL f (pc + 3) lv (.int r :: st)) : pr_W (pr_EC l e) Y Rm nL f pc lv (.int p1 :: st) :=
  pr_callS (As := [.int p1]) (n := 1) C (m_X8_isPlace  h) w1 pr_w288 pr_w17 pr_w281 rfl rfl ⟨by decide +kernel, by decide +kernel, by decide +kernel⟩ rfl ⟨hr1, hr2⟩ rfl hcat hdg k

def F_X7_setting (c : Nat) (p1 : Int32) (f : pr_M) : Option (Int32) :=
  if p1 < 0 then (
    some 0
  ) else (
    if 11 ≤ p1 then (
      some 0
    ) else (
      pr_gd (¬ (p1 < 0 ∨ 11 ≤ Int32.toNatClampNeg p1)) <|
      some (f (c + 1) (Int32.toNatClampNeg p1))
    )
  )
set_option maxHeartbeats 4000000 in
set_option maxRecDepth 100000 in
theorem m_X7_setting {l : Launch} {e : pr_E0} {c : Nat} {p1 : Int32} {f : pr_M} {r : Int32} (hk0 : (pr_LE e)[c]? = some (7, 0)) (h : F_X7_setting c p1 f = some r) : pr_Met (pr_EC l e) yX7_setting cX7_setting 2 (some .int) { frames := 0, cells := 0, slots := 0, locals := 0 } [.ref (pr_ad (pr_EC l e) c), .int p1] f (some (.int r)) f := by
  rw [F_X7_setting] at h
  refine pr_enter (by decide +kernel) (Nat.le_of_ble_eq_true rfl) (fun Y C Z => ?_)
  replace C : pr_C (pr_EC l e) Y { frames := 0, cells := 0, slots := 0, locals := 0 } cX7_setting RX7 2 _ := C
  show pr_W (pr_EC l e) Y _ 2 f 0 [(0, .ref (pr_ad (pr_EC l e) c)), (1, .int p1)] []
  refine pr_iload_n C dX7_setting_0 rfl 1 rfl ?_
  refine pr_if_lt (tgt := 19) C dX7_setting_1 (by decide) (fun c1 => ?_) (fun c1 => ?_)
  · have h := pr_ifT h c1
    refine pr_iconst (v := 0) C dX7_setting_19 (by decide) ?_
    obtain rfl := pr_in1 h
    exact pr_iret C Z dX7_setting_20
  · have h := pr_ifF h c1
    refine pr_iload_n C dX7_setting_4 rfl 1 rfl ?_
    refine pr_bipush (v := 11) C dX7_setting_5 (by decide) ?_
    refine pr_icmp_ge (tgt := 19) C dX7_setting_7 (by decide) (fun c2 => ?_) (fun c2 => ?_)
    · have h := pr_ifT h c2
      refine pr_iconst (v := 0) C dX7_setting_19 (by decide) ?_
      obtain rfl := pr_in1 h
      exact pr_iret C Z dX7_setting_20
    · have h := pr_ifF h c2
      refine pr_aload_n C dX7_setting_10 rfl 0 rfl ?_
      refine pr_g_7_0 C hk0 pr_w61 dX7_setting_11 ?_
      have hk3 := pr_kC_7_0 hk0
      refine pr_iload_n C dX7_setting_14 rfl 1 rfl ?_
      obtain ⟨hg4, h⟩ := pr_gd_some h
      refine pr_iaload C hk3 hg4 dX7_setting_15 ?_
      refine pr_goto (tgt := 20) C dX7_setting_16 (by decide) ?_
      obtain rfl := pr_in1 h
      exact pr_iret C Z dX7_setting_20
theorem k_X7_setting {l : Launch} {e : pr_E0} {Y : pr_Y} {Rm : Room} {cc : ByteArray} {own : String} {nL : Nat} {c0 : Cond} {pc idx : Nat} {lv : List (Nat × Value)} {st : List Value} {c : Nat} {p1 : Int32} {f : pr_M} {r : Int32} (C : pr_C (pr_EC l e) Y Rm cc own nL c0) (w1 : Cond.methodLink own idx yX7_setting ∈ pr_AL) (hk0 : (pr_LE e)[c]? = some (7, 0)) (h : F_X7_setting c p1 f = some r) (hr1 : 1 ≤ Rm.frames) (hr2 : 21 ≤ Rm.locals) (hcat : (st.map fun v => v.category).sum ≤ 8) (hdg : decode cc pc = .ok (.invokevirtual idx, 3)) (k : pr_W (pr_EC l e) Y Rm nL f (pc + 3) lv (.int r :: st)) : pr_W (pr_EC l e) Y Rm nL f pc lv (.int p1 :: .ref (pr_ad (pr_EC l e) c) :: st) :=
  pr_callV (As := [.int p1]) (n := 1) C (m_X7_setting hk0 h) hk0 (by decide) rfl w1 pr_w141 pr_w142 pr_w84 pr_w138 rfl rfl ⟨rfl, by decide +kernel, by decide +kernel, by decide +kernel⟩ rfl ⟨hr1, hr2⟩ rfl hcat hdg k

def F_X7_changeSetting (c : Nat) (p1 : Int32) (p2 : Int32) (f : pr_M) : Option (Unit × pr_M) :=
  if p1 < 0 then (
    some ((), f)
  ) else (
    if 11 ≤ p1 then (
      some ((), f)
    ) else (
      pr_gd (¬ (p1 < 0 ∨ 11 ≤ Int32.toNatClampNeg p1)) <|
      pr_lt (pr_up f (c + 1) (Int32.toNatClampNeg p1) p2) fun f5 =>
      some ((), f5)
    )
  )
set_option maxHeartbeats 4000000 in
set_option maxRecDepth 100000 in
theorem m_X7_changeSetting {l : Launch} {e : pr_E0} {c : Nat} {p1 : Int32} {p2 : Int32} {f : pr_M} {r : Unit} {g : pr_M} (hk0 : (pr_LE e)[c]? = some (7, 0)) (h : F_X7_changeSetting c p1 p2 f = some (r, g)) : pr_Met (pr_EC l e) yX7_changeSetting cX7_changeSetting 3 none { frames := 0, cells := 0, slots := 0, locals := 0 } [.ref (pr_ad (pr_EC l e) c), .int p1, .int p2] f none g := by
  rw [F_X7_changeSetting] at h
  refine pr_enter (by decide +kernel) (Nat.le_of_ble_eq_true rfl) (fun Y C Z => ?_)
  replace C : pr_C (pr_EC l e) Y { frames := 0, cells := 0, slots := 0, locals := 0 } cX7_changeSetting RX7 3 _ := C
  show pr_W (pr_EC l e) Y _ 3 f 0 [(0, .ref (pr_ad (pr_EC l e) c)), (1, .int p1), (2, .int p2)] []
  refine pr_iload_n C dX7_changeSetting_0 rfl 1 rfl ?_
  refine pr_if_lt (tgt := 17) C dX7_changeSetting_1 (by decide) (fun c1 => ?_) (fun c1 => ?_)
  · have h := pr_ifT h c1
    obtain ⟨rfl, rfl⟩ := pr_inj h
    exact pr_vret C Z dX7_changeSetting_17
  · have h := pr_ifF h c1
    refine pr_iload_n C dX7_changeSetting_4 rfl 1 rfl ?_
    refine pr_bipush (v := 11) C dX7_changeSetting_5 (by decide) ?_
    refine pr_icmp_ge (tgt := 17) C dX7_changeSetting_7 (by decide) (fun c2 => ?_) (fun c2 => ?_)
    · have h := pr_ifT h c2
      obtain ⟨rfl, rfl⟩ := pr_inj h
      exact pr_vret C Z dX7_changeSetting_17
    · have h := pr_ifF h c2
      refine pr_aload_n C dX7_changeSetting_10 rfl 0 rfl ?_
      refine pr_g_7_0 C hk0 pr_w61 dX7_changeSetting_11 ?_
      have hk3 := pr_kC_7_0 hk0
      refine pr_iload_n C dX7_changeSetting_14 rfl 1 rfl ?_
      refine pr_iload_n C dX7_changeSetting_15 rfl 2 rfl ?_
      obtain ⟨hg4, h⟩ := pr_gd_some h
      refine pr_iastore C hk3 hg4 dX7_changeSetting_16 (fun f5 e6 => ?_)
      have h := pr_lt_at h e6
      obtain ⟨rfl, rfl⟩ := pr_inj h
      exact pr_vret C Z dX7_changeSetting_17
theorem k_X7_changeSetting {l : Launch} {e : pr_E0} {Y : pr_Y} {Rm : Room} {cc : ByteArray} {own : String} {nL : Nat} {c0 : Cond} {pc idx : Nat} {lv : List (Nat × Value)} {st : List Value} {c : Nat} {p1 : Int32} {p2 : Int32} {f : pr_M} {r : Unit} {g : pr_M} (C : pr_C (pr_EC l e) Y Rm cc own nL c0) (w1 : Cond.methodLink own idx yX7_changeSetting ∈ pr_AL) (hk0 : (pr_LE e)[c]? = some (7, 0)) (h : F_X7_changeSetting c p1 p2 f = some (r, g)) (hr1 : 1 ≤ Rm.frames) (hr2 : 22 ≤ Rm.locals) (hcat : (st.map fun v => v.category).sum ≤ 8) (hdg : decode cc pc = .ok (.invokevirtual idx, 3)) (k : pr_W (pr_EC l e) Y Rm nL g (pc + 3) lv (st)) : pr_W (pr_EC l e) Y Rm nL f pc lv (.int p2 :: .int p1 :: .ref (pr_ad (pr_EC l e) c) :: st) :=
  pr_callV (As := [.int p1, .int p2]) (n := 2) C (m_X7_changeSetting hk0 h) hk0 (by decide) rfl w1 pr_w291 pr_w292 pr_w84 pr_w252 rfl rfl ⟨rfl, by decide +kernel, by decide +kernel, by decide +kernel⟩ rfl ⟨hr1, hr2⟩ rfl hcat hdg k

def F_X8_set (c : Nat) (p1 : Int32) (p2 : Int32) (p3 : Int32) (f : pr_M) : Option (Int32 × pr_M) :=
  pr_b1 (F_X3_unitAt (c + 1) p1 f) fun o3 =>
  pr_op o3 (
    some ((-1000000001), f)
  ) fun q4 =>
  pr_gd (pr_LC[q4]? = some (7, 0)) <|
  pr_b1 (F_X8_isSettingValue p2 p3 f) fun r7 =>
  if r7 = 0 then (
    some ((-1000000002), f)
  ) else (
    pr_b1 (F_X8_isPlace p2 f) fun r10 =>
    if r10 = 0 then (
      pr_b1 (F_X7_setting q4 p2 f) fun r13 =>
      pr_bd (F_X7_changeSetting q4 p2 p3 f) fun u15 f16 =>
      some (r13, f16)
    ) else (
      if (f (c + 1) 4) = 0 then (
        pr_b1 (F_X7_setting q4 p2 f) fun r19 =>
        pr_bd (F_X7_changeSetting q4 p2 p3 f) fun u21 f22 =>
        some (r19, f22)
      ) else (
        some ((-1000000005), f)
      )
    )
  )
set_option maxHeartbeats 4000000 in
set_option maxRecDepth 100000 in
theorem m_X8_set {l : Launch} {e : pr_E0} {c : Nat} {p1 : Int32} {p2 : Int32} {p3 : Int32} {f : pr_M} {r : Int32} {g : pr_M} (hk0 : (pr_LE e)[c]? = some (8, 0)) (h : F_X8_set c p1 p2 p3 f = some (r, g)) : pr_Met (pr_EC l e) yX8_set cX8_set 6 (some .int) { frames := 2, cells := 0, slots := 0, locals := 43 } [.ref (pr_ad (pr_EC l e) c), .int p1, .int p2, .int p3] f (some (.int r)) g := by
  rw [F_X8_set] at h
  refine pr_enter (by decide +kernel) (Nat.le_of_ble_eq_true rfl) (fun Y C Z => ?_)
  replace C : pr_C (pr_EC l e) Y { frames := 2, cells := 0, slots := 0, locals := 43 } cX8_set RX8 6 _ := C
  show pr_W (pr_EC l e) Y _ 6 f 0 [(0, .ref (pr_ad (pr_EC l e) c)), (1, .int p1), (2, .int p2), (3, .int p3)] []
  refine pr_aload_n C dX8_set_0 rfl 0 rfl ?_
  refine pr_g_8_0 C hk0 pr_w255 dX8_set_1 ?_
  have hk1 := pr_kC_8_0 hk0
  refine pr_iload_n C dX8_set_4 rfl 1 rfl ?_
  obtain ⟨o3, hc2, h⟩ := pr_b1_some h
  refine k_X3_unitAt C pr_w284 hk1 hc2 (Nat.le_of_ble_eq_true rfl) (Nat.le_of_ble_eq_true rfl) (Nat.le_of_ble_eq_true rfl) dX8_set_5 ?_
  cases o3 with
  | none =>
    have h := pr_op_n h
    refine pr_astoreN (lv' := [(4, .null), (0, .ref (pr_ad (pr_EC l e) c)), (1, .int p1), (2, .int p2), (3, .int p3)]) C dX8_set_8 (by decide) rfl ?_
    refine pr_aloadN C dX8_set_10 0 rfl ?_
    refine pr_ifnonnullN C dX8_set_12 ?_
    refine pr_ldc (v := (-1000000001)) C dX8_set_15 pr_w282 ?_
    obtain ⟨rfl, rfl⟩ := pr_inj h
    exact pr_iret C Z dX8_set_17
  | some q4 =>
    have h := pr_op_s h
    obtain ⟨hk5, h⟩ := pr_gd_some h
    replace hk5 := px_lx (X := pr_eX e) hk5
    refine pr_astore (lv' := [(4, .ref (pr_ad (pr_EC l e) q4)), (0, .ref (pr_ad (pr_EC l e) c)), (1, .int p1), (2, .int p2), (3, .int p3)]) C dX8_set_8 (by decide) rfl ?_
    refine pr_aload C dX8_set_10 0 rfl ?_
    refine pr_ifnonnull (tgt := 18) C dX8_set_12 (by decide) ?_
    refine pr_iload_n C dX8_set_18 rfl 3 rfl ?_
    refine pr_iload_n C dX8_set_19 rfl 4 rfl ?_
    obtain ⟨r7, hc6, h⟩ := pr_b1_some h
    refine k_X8_isSettingValue C pr_w285  hc6 (Nat.le_of_ble_eq_true rfl) (Nat.le_of_ble_eq_true rfl) (Nat.le_of_ble_eq_true rfl) dX8_set_20 ?_
    refine pr_if_ne (tgt := 29) C dX8_set_23 (by decide) (fun c8 => ?_) (fun c8 => ?_)
    · have h := pr_ifF h c8
      refine pr_iload_n C dX8_set_29 rfl 3 rfl ?_
      obtain ⟨r10, hc9, h⟩ := pr_b1_some h
      refine k_X8_isPlace C pr_w287  hc9 (Nat.le_of_ble_eq_true rfl) (Nat.le_of_ble_eq_true rfl) (Nat.le_of_ble_eq_true rfl) dX8_set_30 ?_
      refine pr_if_eq (tgt := 49) C dX8_set_33 (by decide) (fun c11 => ?_) (fun c11 => ?_)
      · have h := pr_ifT h c11
        refine pr_aload C dX8_set_49 0 rfl ?_
        refine pr_iload_n C dX8_set_51 rfl 3 rfl ?_
        obtain ⟨r13, hc12, h⟩ := pr_b1_some h
        refine k_X7_setting C pr_w289 hk5 hc12 (Nat.le_of_ble_eq_true rfl) (Nat.le_of_ble_eq_true rfl) (Nat.le_of_ble_eq_true rfl) dX8_set_52 ?_
        refine pr_istore (lv' := [(5, .int r13), (4, .ref (pr_ad (pr_EC l e) q4)), (0, .ref (pr_ad (pr_EC l e) c)), (1, .int p1), (2, .int p2), (3, .int p3)]) C dX8_set_55 (by decide) rfl ?_
        refine pr_aload C dX8_set_57 1 rfl ?_
        refine pr_iload_n C dX8_set_59 rfl 4 rfl ?_
        refine pr_iload_n C dX8_set_60 rfl 5 rfl ?_
        obtain ⟨u15, f16, hc14, h⟩ := pr_bd_some h
        refine k_X7_changeSetting C pr_w290 hk5 hc14 (Nat.le_of_ble_eq_true rfl) (Nat.le_of_ble_eq_true rfl) (Nat.le_of_ble_eq_true rfl) dX8_set_61 ?_
        refine pr_iload C dX8_set_64 0 rfl ?_
        obtain ⟨rfl, rfl⟩ := pr_inj h
        exact pr_iret C Z dX8_set_66
      · have h := pr_ifF h c11
        refine pr_aload_n C dX8_set_36 rfl 1 rfl ?_
        refine pr_g_8_0 C hk0 pr_w255 dX8_set_37 ?_
        refine pr_gN_3_4 C hk1 pr_nf42 dX8_set_40 ?_
        refine pr_if_eq (tgt := 49) C dX8_set_43 (by decide) (fun c17 => ?_) (fun c17 => ?_)
        · have h := pr_ifT h c17
          refine pr_aload C dX8_set_49 0 rfl ?_
          refine pr_iload_n C dX8_set_51 rfl 3 rfl ?_
          obtain ⟨r19, hc18, h⟩ := pr_b1_some h
          refine k_X7_setting C pr_w289 hk5 hc18 (Nat.le_of_ble_eq_true rfl) (Nat.le_of_ble_eq_true rfl) (Nat.le_of_ble_eq_true rfl) dX8_set_52 ?_
          refine pr_istore (lv' := [(5, .int r19), (4, .ref (pr_ad (pr_EC l e) q4)), (0, .ref (pr_ad (pr_EC l e) c)), (1, .int p1), (2, .int p2), (3, .int p3)]) C dX8_set_55 (by decide) rfl ?_
          refine pr_aload C dX8_set_57 1 rfl ?_
          refine pr_iload_n C dX8_set_59 rfl 4 rfl ?_
          refine pr_iload_n C dX8_set_60 rfl 5 rfl ?_
          obtain ⟨u21, f22, hc20, h⟩ := pr_bd_some h
          refine k_X7_changeSetting C pr_w290 hk5 hc20 (Nat.le_of_ble_eq_true rfl) (Nat.le_of_ble_eq_true rfl) (Nat.le_of_ble_eq_true rfl) dX8_set_61 ?_
          refine pr_iload C dX8_set_64 0 rfl ?_
          obtain ⟨rfl, rfl⟩ := pr_inj h
          exact pr_iret C Z dX8_set_66
        · have h := pr_ifF h c17
          refine pr_ldc (v := (-1000000005)) C dX8_set_46 pr_w283 ?_
          obtain ⟨rfl, rfl⟩ := pr_inj h
          exact pr_iret C Z dX8_set_48
    · have h := pr_ifT h c8
      refine pr_ldc (v := (-1000000002)) C dX8_set_26 pr_w274 ?_
      obtain ⟨rfl, rfl⟩ := pr_inj h
      exact pr_iret C Z dX8_set_28
theorem k_X8_set {l : Launch} {e : pr_E0} {Y : pr_Y} {Rm : Room} {cc : ByteArray} {own : String} {nL : Nat} {c0 : Cond} {pc idx : Nat} {lv : List (Nat × Value)} {st : List Value} {c : Nat} {p1 : Int32} {p2 : Int32} {p3 : Int32} {f : pr_M} {r : Int32} {g : pr_M} (C : pr_C (pr_EC l e) Y Rm cc own nL c0) (w1 : Cond.methodLink own idx yX8_set ∈ pr_AL) (hk0 : (pr_LE e)[c]? = some (8, 0)) (h : F_X8_set c p1 p2 p3 f = some (r, g)) (hr1 : 3 ≤ Rm.frames) (hr2 : 68 ≤ Rm.locals) (hcat : (st.map fun v => v.category).sum ≤ 8) (hdg : decode cc pc = .ok (.invokevirtual idx, 3)) (k : pr_W (pr_EC l e) Y Rm nL g (pc + 3) lv (.int r :: st)) : pr_W (pr_EC l e) Y Rm nL f pc lv (.int p3 :: .int p2 :: .int p1 :: .ref (pr_ad (pr_EC l e) c) :: st) :=
  pr_callV (As := [.int p1, .int p2, .int p3]) (n := 3) C (m_X8_set hk0 h) hk0 (by decide) rfl w1 pr_w380 pr_w381 pr_w17 pr_w293 rfl rfl ⟨rfl, by decide +kernel, by decide +kernel, by decide +kernel⟩ rfl ⟨hr1, hr2⟩ rfl hcat hdg k

def F_X8_get (c : Nat) (p1 : Int32) (p2 : Int32) (f : pr_M) : Option (Int32) :=
  pr_b1 (F_X3_unitAt (c + 1) p1 f) fun o3 =>
  pr_op o3 (
    some (-1000000001)
  ) fun q4 =>
  pr_gd (pr_LC[q4]? = some (7, 0)) <|
  pr_b1 (F_X8_isOutside p2 0 10 f) fun r7 =>
  if r7 = 0 then (
    pr_b1 (F_X7_setting q4 p2 f) fun r10 =>
    some r10
  ) else (
    some (-1000000002)
  )
set_option maxHeartbeats 4000000 in
set_option maxRecDepth 100000 in
theorem m_X8_get {l : Launch} {e : pr_E0} {c : Nat} {p1 : Int32} {p2 : Int32} {f : pr_M} {r : Int32} (hk0 : (pr_LE e)[c]? = some (8, 0)) (h : F_X8_get c p1 p2 f = some r) : pr_Met (pr_EC l e) yX8_get cX8_get 4 (some .int) { frames := 1, cells := 0, slots := 0, locals := 22 } [.ref (pr_ad (pr_EC l e) c), .int p1, .int p2] f (some (.int r)) f := by
  rw [F_X8_get] at h
  refine pr_enter (by decide +kernel) (Nat.le_of_ble_eq_true rfl) (fun Y C Z => ?_)
  replace C : pr_C (pr_EC l e) Y { frames := 1, cells := 0, slots := 0, locals := 22 } cX8_get RX8 4 _ := C
  show pr_W (pr_EC l e) Y _ 4 f 0 [(0, .ref (pr_ad (pr_EC l e) c)), (1, .int p1), (2, .int p2)] []
  refine pr_aload_n C dX8_get_0 rfl 0 rfl ?_
  refine pr_g_8_0 C hk0 pr_w255 dX8_get_1 ?_
  have hk1 := pr_kC_8_0 hk0
  refine pr_iload_n C dX8_get_4 rfl 1 rfl ?_
  obtain ⟨o3, hc2, h⟩ := pr_b1_some h
  refine k_X3_unitAt C pr_w284 hk1 hc2 (Nat.le_of_ble_eq_true rfl) (Nat.le_of_ble_eq_true rfl) (Nat.le_of_ble_eq_true rfl) dX8_get_5 ?_
  cases o3 with
  | none =>
    have h := pr_op_n h
    refine pr_astore_nN (lv' := [(3, .null), (0, .ref (pr_ad (pr_EC l e) c)), (1, .int p1), (2, .int p2)]) C dX8_get_8 rfl (by decide) rfl ?_
    refine pr_aload_nN C dX8_get_9 rfl 0 rfl ?_
    refine pr_ifnonnullN C dX8_get_10 ?_
    refine pr_ldc (v := (-1000000001)) C dX8_get_13 pr_w282 ?_
    obtain rfl := pr_in1 h
    exact pr_iret C Z dX8_get_15
  | some q4 =>
    have h := pr_op_s h
    obtain ⟨hk5, h⟩ := pr_gd_some h
    replace hk5 := px_lx (X := pr_eX e) hk5
    refine pr_astore_n (lv' := [(3, .ref (pr_ad (pr_EC l e) q4)), (0, .ref (pr_ad (pr_EC l e) c)), (1, .int p1), (2, .int p2)]) C dX8_get_8 rfl (by decide) rfl ?_
    refine pr_aload_n C dX8_get_9 rfl 0 rfl ?_
    refine pr_ifnonnull (tgt := 16) C dX8_get_10 (by decide) ?_
    refine pr_iload_n C dX8_get_16 rfl 3 rfl ?_
    refine pr_iconst (v := 0) C dX8_get_17 (by decide) ?_
    refine pr_bipush (v := 10) C dX8_get_18 (by decide) ?_
    obtain ⟨r7, hc6, h⟩ := pr_b1_some h
    refine k_X8_isOutside C pr_w275  hc6 (Nat.le_of_ble_eq_true rfl) (Nat.le_of_ble_eq_true rfl) (Nat.le_of_ble_eq_true rfl) dX8_get_20 ?_
    refine pr_if_eq (tgt := 29) C dX8_get_23 (by decide) (fun c8 => ?_) (fun c8 => ?_)
    · have h := pr_ifT h c8
      refine pr_aload_n C dX8_get_29 rfl 0 rfl ?_
      refine pr_iload_n C dX8_get_30 rfl 3 rfl ?_
      obtain ⟨r10, hc9, h⟩ := pr_b1_some h
      refine k_X7_setting C pr_w289 hk5 hc9 (Nat.le_of_ble_eq_true rfl) (Nat.le_of_ble_eq_true rfl) (Nat.le_of_ble_eq_true rfl) dX8_get_31 ?_
      obtain rfl := pr_in1 h
      exact pr_iret C Z dX8_get_34
    · have h := pr_ifF h c8
      refine pr_ldc (v := (-1000000002)) C dX8_get_26 pr_w274 ?_
      obtain rfl := pr_in1 h
      exact pr_iret C Z dX8_get_28
theorem k_X8_get {l : Launch} {e : pr_E0} {Y : pr_Y} {Rm : Room} {cc : ByteArray} {own : String} {nL : Nat} {c0 : Cond} {pc idx : Nat} {lv : List (Nat × Value)} {st : List Value} {c : Nat} {p1 : Int32} {p2 : Int32} {f : pr_M} {r : Int32} (C : pr_C (pr_EC l e) Y Rm cc own nL c0) (w1 : Cond.methodLink own idx yX8_get ∈ pr_AL) (hk0 : (pr_LE e)[c]? = some (8, 0)) (h : F_X8_get c p1 p2 f = some r) (hr1 : 2 ≤ Rm.frames) (hr2 : 45 ≤ Rm.locals) (hcat : (st.map fun v => v.category).sum ≤ 8) (hdg : decode cc pc = .ok (.invokevirtual idx, 3)) (k : pr_W (pr_EC l e) Y Rm nL f (pc + 3) lv (.int r :: st)) : pr_W (pr_EC l e) Y Rm nL f pc lv (.int p2 :: .int p1 :: .ref (pr_ad (pr_EC l e) c) :: st) :=
  pr_callV (As := [.int p1, .int p2]) (n := 2) C (m_X8_get hk0 h) hk0 (by decide) rfl w1 pr_w364 pr_w365 pr_w17 pr_w294 rfl rfl ⟨rfl, by decide +kernel, by decide +kernel, by decide +kernel⟩ rfl ⟨hr1, hr2⟩ rfl hcat hdg k

def F_X4_byHand (c : Nat) (p1 : Int32) (f : pr_M) : Option (Int32) :=
  if p1 = 0 then (
    some (f c 2)
  ) else (
    if p1 = 1 then (
      some (f c 3)
    ) else (
      some (f c 4)
      )
      )
set_option maxHeartbeats 4000000 in
set_option maxRecDepth 100000 in
theorem m_X4_byHand {l : Launch} {e : pr_E0} {c : Nat} {p1 : Int32} {f : pr_M} {r : Int32} (hk0 : (pr_LE e)[c]? = some (4, 0)) (h : F_X4_byHand c p1 f = some r) : pr_Met (pr_EC l e) yX4_byHand cX4_byHand 2 (some .int) { frames := 0, cells := 0, slots := 0, locals := 0 } [.ref (pr_ad (pr_EC l e) c), .int p1] f (some (.int r)) f := by
  rw [F_X4_byHand] at h
  refine pr_enter (by decide +kernel) (Nat.le_of_ble_eq_true rfl) (fun Y C Z => ?_)
  replace C : pr_C (pr_EC l e) Y { frames := 0, cells := 0, slots := 0, locals := 0 } cX4_byHand RX4 2 _ := C
  show pr_W (pr_EC l e) Y _ 2 f 0 [(0, .ref (pr_ad (pr_EC l e) c)), (1, .int p1)] []
  refine pr_iload_n C dX4_byHand_0 rfl 1 rfl ?_
  by_cases c1 : p1 = 0
  · have h := pr_ifT h c1
    refine pr_lookup (tgt := 28) (off := 27) C dX4_byHand_1 c1 (by decide) (by decide) (by decide) ?_
    refine pr_aload_n C dX4_byHand_28 rfl 0 rfl ?_
    refine pr_g_4_2 C hk0 pr_w88 dX4_byHand_29 ?_
    obtain rfl := pr_in1 h
    exact pr_iret C Z dX4_byHand_32
  · have h := pr_ifF h c1
    by_cases c2 : p1 = 1
    · have h := pr_ifT h c2
      refine pr_lookup (tgt := 33) (off := 32) C dX4_byHand_1 c2 (by decide) (by decide) (by decide) ?_
      refine pr_aload_n C dX4_byHand_33 rfl 0 rfl ?_
      refine pr_g_4_3 C hk0 pr_w89 dX4_byHand_34 ?_
      obtain rfl := pr_in1 h
      exact pr_iret C Z dX4_byHand_37
    · have h := pr_ifF h c2
      refine pr_lookup (tgt := 38) (off := 37) (v := p1) C dX4_byHand_1 rfl (by decide) (by rw [lv_osw c1 (by decide), lv_osw c2 (by decide)] <;> rfl) (by decide) ?_
      refine pr_aload_n C dX4_byHand_38 rfl 0 rfl ?_
      refine pr_g_4_4 C hk0 pr_w90 dX4_byHand_39 ?_
      obtain rfl := pr_in1 h
      exact pr_iret C Z dX4_byHand_42
theorem k_X4_byHand {l : Launch} {e : pr_E0} {Y : pr_Y} {Rm : Room} {cc : ByteArray} {own : String} {nL : Nat} {c0 : Cond} {pc idx : Nat} {lv : List (Nat × Value)} {st : List Value} {c : Nat} {p1 : Int32} {f : pr_M} {r : Int32} (C : pr_C (pr_EC l e) Y Rm cc own nL c0) (w1 : Cond.methodLink own idx yX4_byHand ∈ pr_AL) (hk0 : (pr_LE e)[c]? = some (4, 0)) (h : F_X4_byHand c p1 f = some r) (hr1 : 1 ≤ Rm.frames) (hr2 : 21 ≤ Rm.locals) (hcat : (st.map fun v => v.category).sum ≤ 8) (hdg : decode cc pc = .ok (.invokevirtual idx, 3)) (k : pr_W (pr_EC l e) Y Rm nL f (pc + 3) lv (.int r :: st)) : pr_W (pr_EC l e) Y Rm nL f pc lv (.int p1 :: .ref (pr_ad (pr_EC l e) c) :: st) :=
  pr_callV (As := [.int p1]) (n := 1) C (m_X4_byHand hk0 h) hk0 (by decide) rfl w1 pr_w297 pr_w298 pr_w64 pr_w242 rfl rfl ⟨rfl, by decide +kernel, by decide +kernel, by decide +kernel⟩ rfl ⟨hr1, hr2⟩ rfl hcat hdg k

def F_X4_changeByHand (c : Nat) (p1 : Int32) (p2 : Int32) (f : pr_M) : Option (Unit × pr_M) :=
  if p1 = 0 then (
    pr_lt (pr_up f c 2 p2) fun f2 =>
    some ((), f2)
  ) else (
    if p1 = 1 then (
      pr_lt (pr_up f c 3 p2) fun f5 =>
      some ((), f5)
    ) else (
      pr_lt (pr_up f c 4 p2) fun f7 =>
      some ((), f7)
      )
      )
set_option maxHeartbeats 4000000 in
set_option maxRecDepth 100000 in
theorem m_X4_changeByHand {l : Launch} {e : pr_E0} {c : Nat} {p1 : Int32} {p2 : Int32} {f : pr_M} {r : Unit} {g : pr_M} (hk0 : (pr_LE e)[c]? = some (4, 0)) (h : F_X4_changeByHand c p1 p2 f = some (r, g)) : pr_Met (pr_EC l e) yX4_changeByHand cX4_changeByHand 3 none { frames := 0, cells := 0, slots := 0, locals := 0 } [.ref (pr_ad (pr_EC l e) c), .int p1, .int p2] f none g := by
  rw [F_X4_changeByHand] at h
  refine pr_enter (by decide +kernel) (Nat.le_of_ble_eq_true rfl) (fun Y C Z => ?_)
  replace C : pr_C (pr_EC l e) Y { frames := 0, cells := 0, slots := 0, locals := 0 } cX4_changeByHand RX4 3 _ := C
  show pr_W (pr_EC l e) Y _ 3 f 0 [(0, .ref (pr_ad (pr_EC l e) c)), (1, .int p1), (2, .int p2)] []
  refine pr_iload_n C dX4_changeByHand_0 rfl 1 rfl ?_
  by_cases c1 : p1 = 0
  · have h := pr_ifT h c1
    refine pr_lookup (tgt := 28) (off := 27) C dX4_changeByHand_1 c1 (by decide) (by decide) (by decide) ?_
    refine pr_aload_n C dX4_changeByHand_28 rfl 0 rfl ?_
    refine pr_iload_n C dX4_changeByHand_29 rfl 2 rfl ?_
    refine pr_p_4_2 C hk0 pr_w88 dX4_changeByHand_30 (fun f2 e3 => ?_)
    have h := pr_lt_at h e3
    refine pr_goto (tgt := 49) C dX4_changeByHand_33 (by decide) ?_
    obtain ⟨rfl, rfl⟩ := pr_inj h
    exact pr_vret C Z dX4_changeByHand_49
  · have h := pr_ifF h c1
    by_cases c4 : p1 = 1
    · have h := pr_ifT h c4
      refine pr_lookup (tgt := 36) (off := 35) C dX4_changeByHand_1 c4 (by decide) (by decide) (by decide) ?_
      refine pr_aload_n C dX4_changeByHand_36 rfl 0 rfl ?_
      refine pr_iload_n C dX4_changeByHand_37 rfl 2 rfl ?_
      refine pr_p_4_3 C hk0 pr_w89 dX4_changeByHand_38 (fun f5 e6 => ?_)
      have h := pr_lt_at h e6
      refine pr_goto (tgt := 49) C dX4_changeByHand_41 (by decide) ?_
      obtain ⟨rfl, rfl⟩ := pr_inj h
      exact pr_vret C Z dX4_changeByHand_49
    · have h := pr_ifF h c4
      refine pr_lookup (tgt := 44) (off := 43) (v := p1) C dX4_changeByHand_1 rfl (by decide) (by rw [lv_osw c1 (by decide), lv_osw c4 (by decide)] <;> rfl) (by decide) ?_
      refine pr_aload_n C dX4_changeByHand_44 rfl 0 rfl ?_
      refine pr_iload_n C dX4_changeByHand_45 rfl 2 rfl ?_
      refine pr_p_4_4 C hk0 pr_w90 dX4_changeByHand_46 (fun f7 e8 => ?_)
      have h := pr_lt_at h e8
      obtain ⟨rfl, rfl⟩ := pr_inj h
      exact pr_vret C Z dX4_changeByHand_49
theorem k_X4_changeByHand {l : Launch} {e : pr_E0} {Y : pr_Y} {Rm : Room} {cc : ByteArray} {own : String} {nL : Nat} {c0 : Cond} {pc idx : Nat} {lv : List (Nat × Value)} {st : List Value} {c : Nat} {p1 : Int32} {p2 : Int32} {f : pr_M} {r : Unit} {g : pr_M} (C : pr_C (pr_EC l e) Y Rm cc own nL c0) (w1 : Cond.methodLink own idx yX4_changeByHand ∈ pr_AL) (hk0 : (pr_LE e)[c]? = some (4, 0)) (h : F_X4_changeByHand c p1 p2 f = some (r, g)) (hr1 : 1 ≤ Rm.frames) (hr2 : 22 ≤ Rm.locals) (hcat : (st.map fun v => v.category).sum ≤ 8) (hdg : decode cc pc = .ok (.invokevirtual idx, 3)) (k : pr_W (pr_EC l e) Y Rm nL g (pc + 3) lv (st)) : pr_W (pr_EC l e) Y Rm nL f pc lv (.int p2 :: .int p1 :: .ref (pr_ad (pr_EC l e) c) :: st) :=
  pr_callV (As := [.int p1, .int p2]) (n := 2) C (m_X4_changeByHand hk0 h) hk0 (by decide) rfl w1 pr_w300 pr_w301 pr_w64 pr_w243 rfl rfl ⟨rfl, by decide +kernel, by decide +kernel, by decide +kernel⟩ rfl ⟨hr1, hr2⟩ rfl hcat hdg k

def F_X8_adjust (c : Nat) (p1 : Int32) (p2 : Int32) (p3 : Int32) (f : pr_M) : Option (Int32 × pr_M) :=
  pr_b1 (F_X3_unitAt (c + 1) p1 f) fun o3 =>
  pr_op o3 (
    some ((-1000000001), f)
  ) fun q4 =>
  pr_gd (pr_LC[q4]? = some (7, 0)) <|
  pr_b1 (F_X8_isOutside p2 0 2 f) fun r7 =>
  if r7 = 0 then (
    pr_gd (¬ (p2 < 0 ∨ 3 ≤ Int32.toNatClampNeg p2)) <|
    pr_b1 (F_X8_isOutside p3 (-((pr_x3).getD (Int32.toNatClampNeg p2) 0)) ((pr_x3).getD (Int32.toNatClampNeg p2) 0) f) fun r15 =>
    if r15 = 0 then (
      pr_b1 (F_X4_byHand (q4 + 2) p2 f) fun r19 =>
      pr_bd (F_X4_changeByHand (q4 + 2) p2 p3 f) fun u21 f22 =>
      some (r19, f22)
    ) else (
      some ((-1000000002), f)
    )
  ) else (
    some ((-1000000002), f)
  )
set_option maxHeartbeats 4000000 in
set_option maxRecDepth 100000 in
theorem m_X8_adjust {l : Launch} {e : pr_E0} {c : Nat} {p1 : Int32} {p2 : Int32} {p3 : Int32} {f : pr_M} {r : Int32} {g : pr_M} (hk0 : (pr_LE e)[c]? = some (8, 0)) (h : F_X8_adjust c p1 p2 p3 f = some (r, g)) : pr_Met (pr_EC l e) yX8_adjust cX8_adjust 6 (some .int) { frames := 1, cells := 0, slots := 0, locals := 22 } [.ref (pr_ad (pr_EC l e) c), .int p1, .int p2, .int p3] f (some (.int r)) g := by
  rw [F_X8_adjust] at h
  refine pr_enter (by decide +kernel) (Nat.le_of_ble_eq_true rfl) (fun Y C Z => ?_)
  replace C : pr_C (pr_EC l e) Y { frames := 1, cells := 0, slots := 0, locals := 22 } cX8_adjust RX8 6 _ := C
  show pr_W (pr_EC l e) Y _ 6 f 0 [(0, .ref (pr_ad (pr_EC l e) c)), (1, .int p1), (2, .int p2), (3, .int p3)] []
  refine pr_aload_n C dX8_adjust_0 rfl 0 rfl ?_
  refine pr_g_8_0 C hk0 pr_w255 dX8_adjust_1 ?_
  have hk1 := pr_kC_8_0 hk0
  refine pr_iload_n C dX8_adjust_4 rfl 1 rfl ?_
  obtain ⟨o3, hc2, h⟩ := pr_b1_some h
  refine k_X3_unitAt C pr_w284 hk1 hc2 (Nat.le_of_ble_eq_true rfl) (Nat.le_of_ble_eq_true rfl) (Nat.le_of_ble_eq_true rfl) dX8_adjust_5 ?_
  cases o3 with
  | none =>
    have h := pr_op_n h
    refine pr_astoreN (lv' := [(4, .null), (0, .ref (pr_ad (pr_EC l e) c)), (1, .int p1), (2, .int p2), (3, .int p3)]) C dX8_adjust_8 (by decide) rfl ?_
    refine pr_aloadN C dX8_adjust_10 0 rfl ?_
    refine pr_ifnonnullN C dX8_adjust_12 ?_
    refine pr_ldc (v := (-1000000001)) C dX8_adjust_15 pr_w282 ?_
    obtain ⟨rfl, rfl⟩ := pr_inj h
    exact pr_iret C Z dX8_adjust_17
  | some q4 =>
    have h := pr_op_s h
    obtain ⟨hk5, h⟩ := pr_gd_some h
    replace hk5 := px_lx (X := pr_eX e) hk5
    refine pr_astore (lv' := [(4, .ref (pr_ad (pr_EC l e) q4)), (0, .ref (pr_ad (pr_EC l e) c)), (1, .int p1), (2, .int p2), (3, .int p3)]) C dX8_adjust_8 (by decide) rfl ?_
    refine pr_aload C dX8_adjust_10 0 rfl ?_
    refine pr_ifnonnull (tgt := 18) C dX8_adjust_12 (by decide) ?_
    refine pr_iload_n C dX8_adjust_18 rfl 3 rfl ?_
    refine pr_iconst (v := 0) C dX8_adjust_19 (by decide) ?_
    refine pr_iconst (v := 2) C dX8_adjust_20 (by decide) ?_
    obtain ⟨r7, hc6, h⟩ := pr_b1_some h
    refine k_X8_isOutside C pr_w275  hc6 (Nat.le_of_ble_eq_true rfl) (Nat.le_of_ble_eq_true rfl) (Nat.le_of_ble_eq_true rfl) dX8_adjust_21 ?_
    refine pr_if_eq (tgt := 30) C dX8_adjust_24 (by decide) (fun c8 => ?_) (fun c8 => ?_)
    · have h := pr_ifT h c8
      refine pr_iload_n C dX8_adjust_30 rfl 4 rfl ?_
      refine pr_sget C (xs := pr_x3) (List.mem_of_getElem? (i := 3) rfl) pr_w295 dX8_adjust_31 (fun t9 hT10 => ?_)
      refine pr_iload_n C dX8_adjust_34 rfl 3 rfl ?_
      obtain ⟨hg11, h⟩ := pr_gd_some h
      refine pr_saload C hT10 hg11 dX8_adjust_35 ?_
      refine pr_ineg C dX8_adjust_36 ?_
      refine pr_sget C (xs := pr_x3) (List.mem_of_getElem? (i := 3) rfl) pr_w295 dX8_adjust_37 (fun t12 hT13 => ?_)
      refine pr_iload_n C dX8_adjust_40 rfl 3 rfl ?_
      refine pr_saload C hT13 hg11 dX8_adjust_41 ?_
      obtain ⟨r15, hc14, h⟩ := pr_b1_some h
      refine k_X8_isOutside C pr_w275  hc14 (Nat.le_of_ble_eq_true rfl) (Nat.le_of_ble_eq_true rfl) (Nat.le_of_ble_eq_true rfl) dX8_adjust_42 ?_
      refine pr_if_eq (tgt := 51) C dX8_adjust_45 (by decide) (fun c16 => ?_) (fun c16 => ?_)
      · have h := pr_ifT h c16
        refine pr_aload C dX8_adjust_51 0 rfl ?_
        refine pr_gN_7_1 C hk5 pr_nf34 dX8_adjust_53 ?_
        have hk17 := pr_kC_7_1 hk5
        refine pr_iload_n C dX8_adjust_56 rfl 3 rfl ?_
        obtain ⟨r19, hc18, h⟩ := pr_b1_some h
        refine k_X4_byHand C pr_w296 hk17 hc18 (Nat.le_of_ble_eq_true rfl) (Nat.le_of_ble_eq_true rfl) (Nat.le_of_ble_eq_true rfl) dX8_adjust_57 ?_
        refine pr_istore (lv' := [(5, .int r19), (4, .ref (pr_ad (pr_EC l e) q4)), (0, .ref (pr_ad (pr_EC l e) c)), (1, .int p1), (2, .int p2), (3, .int p3)]) C dX8_adjust_60 (by decide) rfl ?_
        refine pr_aload C dX8_adjust_62 1 rfl ?_
        refine pr_gN_7_1 C hk5 pr_nf34 dX8_adjust_64 ?_
        refine pr_iload_n C dX8_adjust_67 rfl 4 rfl ?_
        refine pr_iload_n C dX8_adjust_68 rfl 5 rfl ?_
        obtain ⟨u21, f22, hc20, h⟩ := pr_bd_some h
        refine k_X4_changeByHand C pr_w299 hk17 hc20 (Nat.le_of_ble_eq_true rfl) (Nat.le_of_ble_eq_true rfl) (Nat.le_of_ble_eq_true rfl) dX8_adjust_69 ?_
        refine pr_iload C dX8_adjust_72 0 rfl ?_
        obtain ⟨rfl, rfl⟩ := pr_inj h
        exact pr_iret C Z dX8_adjust_74
      · have h := pr_ifF h c16
        refine pr_ldc (v := (-1000000002)) C dX8_adjust_48 pr_w274 ?_
        obtain ⟨rfl, rfl⟩ := pr_inj h
        exact pr_iret C Z dX8_adjust_50
    · have h := pr_ifF h c8
      refine pr_ldc (v := (-1000000002)) C dX8_adjust_27 pr_w274 ?_
      obtain ⟨rfl, rfl⟩ := pr_inj h
      exact pr_iret C Z dX8_adjust_29
theorem k_X8_adjust {l : Launch} {e : pr_E0} {Y : pr_Y} {Rm : Room} {cc : ByteArray} {own : String} {nL : Nat} {c0 : Cond} {pc idx : Nat} {lv : List (Nat × Value)} {st : List Value} {c : Nat} {p1 : Int32} {p2 : Int32} {p3 : Int32} {f : pr_M} {r : Int32} {g : pr_M} (C : pr_C (pr_EC l e) Y Rm cc own nL c0) (w1 : Cond.methodLink own idx yX8_adjust ∈ pr_AL) (hk0 : (pr_LE e)[c]? = some (8, 0)) (h : F_X8_adjust c p1 p2 p3 f = some (r, g)) (hr1 : 2 ≤ Rm.frames) (hr2 : 47 ≤ Rm.locals) (hcat : (st.map fun v => v.category).sum ≤ 8) (hdg : decode cc pc = .ok (.invokevirtual idx, 3)) (k : pr_W (pr_EC l e) Y Rm nL g (pc + 3) lv (.int r :: st)) : pr_W (pr_EC l e) Y Rm nL f pc lv (.int p3 :: .int p2 :: .int p1 :: .ref (pr_ad (pr_EC l e) c) :: st) :=
  pr_callV (As := [.int p1, .int p2, .int p3]) (n := 3) C (m_X8_adjust hk0 h) hk0 (by decide) rfl w1 pr_w383 pr_w384 pr_w17 pr_w302 rfl rfl ⟨rfl, by decide +kernel, by decide +kernel, by decide +kernel⟩ rfl ⟨hr1, hr2⟩ rfl hcat hdg k

def F_X8_speed (c : Nat) (p1 : Int32) (f : pr_M) : Option (Int32 × pr_M) :=
  pr_b1 (F_X8_isOutside p1 0 1000 f) fun r2 =>
  if r2 = 0 then (
    pr_lt (pr_up f (c + 1) 5 p1) fun f5 =>
    some ((f (c + 1) 5), f5)
  ) else (
    some ((-1000000002), f)
  )
set_option maxHeartbeats 4000000 in
set_option maxRecDepth 100000 in
theorem m_X8_speed {l : Launch} {e : pr_E0} {c : Nat} {p1 : Int32} {f : pr_M} {r : Int32} {g : pr_M} (hk0 : (pr_LE e)[c]? = some (8, 0)) (h : F_X8_speed c p1 f = some (r, g)) : pr_Met (pr_EC l e) yX8_speed cX8_speed 3 (some .int) { frames := 1, cells := 0, slots := 0, locals := 22 } [.ref (pr_ad (pr_EC l e) c), .int p1] f (some (.int r)) g := by
  rw [F_X8_speed] at h
  refine pr_enter (by decide +kernel) (Nat.le_of_ble_eq_true rfl) (fun Y C Z => ?_)
  replace C : pr_C (pr_EC l e) Y { frames := 1, cells := 0, slots := 0, locals := 22 } cX8_speed RX8 3 _ := C
  show pr_W (pr_EC l e) Y _ 3 f 0 [(0, .ref (pr_ad (pr_EC l e) c)), (1, .int p1)] []
  refine pr_iload_n C dX8_speed_0 rfl 1 rfl ?_
  refine pr_iconst (v := 0) C dX8_speed_1 (by decide) ?_
  refine pr_sipush (v := 1000) C dX8_speed_2 (by decide) ?_
  obtain ⟨r2, hc1, h⟩ := pr_b1_some h
  refine k_X8_isOutside C pr_w275  hc1 (Nat.le_of_ble_eq_true rfl) (Nat.le_of_ble_eq_true rfl) (Nat.le_of_ble_eq_true rfl) dX8_speed_5 ?_
  refine pr_if_eq (tgt := 14) C dX8_speed_8 (by decide) (fun c3 => ?_) (fun c3 => ?_)
  · have h := pr_ifT h c3
    refine pr_aload_n C dX8_speed_14 rfl 0 rfl ?_
    refine pr_g_8_0 C hk0 pr_w255 dX8_speed_15 ?_
    have hk4 := pr_kC_8_0 hk0
    refine pr_gN_3_5 C hk4 pr_nf43 dX8_speed_18 ?_
    refine pr_istore_n (lv' := [(2, .int (f (c + 1) 5)), (0, .ref (pr_ad (pr_EC l e) c)), (1, .int p1)]) C dX8_speed_21 rfl (by decide) rfl ?_
    refine pr_aload_n C dX8_speed_22 rfl 1 rfl ?_
    refine pr_g_8_0 C hk0 pr_w255 dX8_speed_23 ?_
    refine pr_iload_n C dX8_speed_26 rfl 2 rfl ?_
    refine pr_pN_3_5 C hk4 pr_nf43 dX8_speed_27 (fun f5 e6 => ?_)
    have h := pr_lt_at h e6
    refine pr_iload_n C dX8_speed_30 rfl 0 rfl ?_
    obtain ⟨rfl, rfl⟩ := pr_inj h
    exact pr_iret C Z dX8_speed_31
  · have h := pr_ifF h c3
    refine pr_ldc (v := (-1000000002)) C dX8_speed_11 pr_w274 ?_
    obtain ⟨rfl, rfl⟩ := pr_inj h
    exact pr_iret C Z dX8_speed_13
theorem k_X8_speed {l : Launch} {e : pr_E0} {Y : pr_Y} {Rm : Room} {cc : ByteArray} {own : String} {nL : Nat} {c0 : Cond} {pc idx : Nat} {lv : List (Nat × Value)} {st : List Value} {c : Nat} {p1 : Int32} {f : pr_M} {r : Int32} {g : pr_M} (C : pr_C (pr_EC l e) Y Rm cc own nL c0) (w1 : Cond.methodLink own idx yX8_speed ∈ pr_AL) (hk0 : (pr_LE e)[c]? = some (8, 0)) (h : F_X8_speed c p1 f = some (r, g)) (hr1 : 2 ≤ Rm.frames) (hr2 : 44 ≤ Rm.locals) (hcat : (st.map fun v => v.category).sum ≤ 8) (hdg : decode cc pc = .ok (.invokevirtual idx, 3)) (k : pr_W (pr_EC l e) Y Rm nL g (pc + 3) lv (.int r :: st)) : pr_W (pr_EC l e) Y Rm nL f pc lv (.int p1 :: .ref (pr_ad (pr_EC l e) c) :: st) :=
  pr_callV (As := [.int p1]) (n := 1) C (m_X8_speed hk0 h) hk0 (by decide) rfl w1 pr_w398 pr_w399 pr_w17 pr_w303 rfl rfl ⟨rfl, by decide +kernel, by decide +kernel, by decide +kernel⟩ rfl ⟨hr1, hr2⟩ rfl hcat hdg k

def F_X8_isDisturbance (p1 : Int32) (p2 : Int32) (f : pr_M) : Option (Int32) :=
  pr_b1 (F_X8_isOutside p1 (-3000) 3000 f) fun r2 =>
  if r2 = 0 then (
    pr_b1 (F_X8_isOutside p2 1 50 f) fun r5 =>
    if r5 = 0 then (
      some 1
    ) else (
      some 0
    )
  ) else (
    some 0
  )
set_option maxHeartbeats 4000000 in
set_option maxRecDepth 100000 in
theorem m_X8_isDisturbance {l : Launch} {e : pr_E0} {p1 : Int32} {p2 : Int32} {f : pr_M} {r : Int32}  (h : F_X8_isDisturbance p1 p2 f = some r) : pr_Met (pr_EC l e) yX8_isDisturbance cX8_isDisturbance 2 (some .boolean) { frames := 1, cells := 0, slots := 0, locals := 22 } [.int p1, .int p2] f (some (.int r)) f := by
  rw [F_X8_isDisturbance] at h
  refine pr_enter (by decide +kernel) (Nat.le_of_ble_eq_true rfl) (fun Y C Z => ?_)
  replace C : pr_C (pr_EC l e) Y { frames := 1, cells := 0, slots := 0, locals := 22 } cX8_isDisturbance RX8 2 _ := C
  show pr_W (pr_EC l e) Y _ 2 f 0 [(0, .int p1), (1, .int p2)] []
  refine pr_iload_n C dX8_isDisturbance_0 rfl 0 rfl ?_
  refine pr_sipush (v := (-3000)) C dX8_isDisturbance_1 (by decide) ?_
  refine pr_sipush (v := 3000) C dX8_isDisturbance_4 (by decide) ?_
  obtain ⟨r2, hc1, h⟩ := pr_b1_some h
  refine k_X8_isOutside C pr_w275  hc1 (Nat.le_of_ble_eq_true rfl) (Nat.le_of_ble_eq_true rfl) (Nat.le_of_ble_eq_true rfl) dX8_isDisturbance_7 ?_
  refine pr_if_ne (tgt := 27) C dX8_isDisturbance_10 (by decide) (fun c3 => ?_) (fun c3 => ?_)
  · have h := pr_ifF h c3
    refine pr_iconst (v := 0) C dX8_isDisturbance_27 (by decide) ?_
    obtain rfl := pr_in1 h
    exact pr_zret C (by decide) Z dX8_isDisturbance_28
  · have h := pr_ifT h c3
    refine pr_iload_n C dX8_isDisturbance_13 rfl 1 rfl ?_
    refine pr_iconst (v := 1) C dX8_isDisturbance_14 (by decide) ?_
    refine pr_bipush (v := 50) C dX8_isDisturbance_15 (by decide) ?_
    obtain ⟨r5, hc4, h⟩ := pr_b1_some h
    refine k_X8_isOutside C pr_w275  hc4 (Nat.le_of_ble_eq_true rfl) (Nat.le_of_ble_eq_true rfl) (Nat.le_of_ble_eq_true rfl) dX8_isDisturbance_17 ?_
    refine pr_if_ne (tgt := 27) C dX8_isDisturbance_20 (by decide) (fun c6 => ?_) (fun c6 => ?_)
    · have h := pr_ifF h c6
      refine pr_iconst (v := 0) C dX8_isDisturbance_27 (by decide) ?_
      obtain rfl := pr_in1 h
      exact pr_zret C (by decide) Z dX8_isDisturbance_28
    · have h := pr_ifT h c6
      refine pr_iconst (v := 1) C dX8_isDisturbance_23 (by decide) ?_
      refine pr_goto (tgt := 28) C dX8_isDisturbance_24 (by decide) ?_
      obtain rfl := pr_in1 h
      exact pr_zret C (by decide) Z dX8_isDisturbance_28
theorem k_X8_isDisturbance {l : Launch} {e : pr_E0} {Y : pr_Y} {Rm : Room} {cc : ByteArray} {own : String} {nL : Nat} {c0 : Cond} {pc idx : Nat} {lv : List (Nat × Value)} {st : List Value} {p1 : Int32} {p2 : Int32} {f : pr_M} {r : Int32} (C : pr_C (pr_EC l e) Y Rm cc own nL c0) (w1 : Cond.methodLink own idx yX8_isDisturbance ∈ pr_AL)  (h : F_X8_isDisturbance p1 p2 f = some r) (hr1 : 2 ≤ Rm.frames) (hr2 : 43 ≤ Rm.locals) (hcat : (st.map fun v => v.category).sum ≤ 8) (hdg : decode cc pc = .ok (.invokestatic idx, 3)) (k : pr_W (pr_EC l e) Y Rm nL f (pc + 3) lv (.int r :: st)) : pr_W (pr_EC l e) Y Rm nL f pc lv (.int p2 :: .int p1 :: st) :=
  pr_callS (As := [.int p1, .int p2]) (n := 2) C (m_X8_isDisturbance  h) w1 pr_w306 pr_w17 pr_w304 rfl rfl ⟨by decide +kernel, by decide +kernel, by decide +kernel⟩ rfl ⟨hr1, hr2⟩ rfl hcat hdg k

def F_X4_beDisturbed (c : Nat) (p1 : Int32) (p2 : Int32) (f : pr_M) : Option (Unit × pr_M) :=
  pr_lt (pr_up f c 5 p1) fun f1 =>
  pr_lt (pr_up f1 c 6 p2) fun f3 =>
  pr_lt (pr_up f3 c 7 p2) fun f5 =>
  some ((), f5)
set_option maxHeartbeats 4000000 in
set_option maxRecDepth 100000 in
theorem m_X4_beDisturbed {l : Launch} {e : pr_E0} {c : Nat} {p1 : Int32} {p2 : Int32} {f : pr_M} {r : Unit} {g : pr_M} (hk0 : (pr_LE e)[c]? = some (4, 0)) (h : F_X4_beDisturbed c p1 p2 f = some (r, g)) : pr_Met (pr_EC l e) yX4_beDisturbed cX4_beDisturbed 3 none { frames := 0, cells := 0, slots := 0, locals := 0 } [.ref (pr_ad (pr_EC l e) c), .int p1, .int p2] f none g := by
  rw [F_X4_beDisturbed] at h
  refine pr_enter (by decide +kernel) (Nat.le_of_ble_eq_true rfl) (fun Y C Z => ?_)
  replace C : pr_C (pr_EC l e) Y { frames := 0, cells := 0, slots := 0, locals := 0 } cX4_beDisturbed RX4 3 _ := C
  show pr_W (pr_EC l e) Y _ 3 f 0 [(0, .ref (pr_ad (pr_EC l e) c)), (1, .int p1), (2, .int p2)] []
  refine pr_aload_n C dX4_beDisturbed_0 rfl 0 rfl ?_
  refine pr_iload_n C dX4_beDisturbed_1 rfl 1 rfl ?_
  refine pr_p_4_5 C hk0 pr_w91 dX4_beDisturbed_2 (fun f1 e2 => ?_)
  have h := pr_lt_at h e2
  refine pr_aload_n C dX4_beDisturbed_5 rfl 0 rfl ?_
  refine pr_iload_n C dX4_beDisturbed_6 rfl 2 rfl ?_
  refine pr_p_4_6 C hk0 pr_w92 dX4_beDisturbed_7 (fun f3 e4 => ?_)
  have h := pr_lt_at h e4
  refine pr_aload_n C dX4_beDisturbed_10 rfl 0 rfl ?_
  refine pr_iload_n C dX4_beDisturbed_11 rfl 2 rfl ?_
  refine pr_p_4_7 C hk0 pr_w93 dX4_beDisturbed_12 (fun f5 e6 => ?_)
  have h := pr_lt_at h e6
  obtain ⟨rfl, rfl⟩ := pr_inj h
  exact pr_vret C Z dX4_beDisturbed_15
theorem k_X4_beDisturbed {l : Launch} {e : pr_E0} {Y : pr_Y} {Rm : Room} {cc : ByteArray} {own : String} {nL : Nat} {c0 : Cond} {pc idx : Nat} {lv : List (Nat × Value)} {st : List Value} {c : Nat} {p1 : Int32} {p2 : Int32} {f : pr_M} {r : Unit} {g : pr_M} (C : pr_C (pr_EC l e) Y Rm cc own nL c0) (w1 : Cond.methodLink own idx yX4_beDisturbed ∈ pr_AL) (hk0 : (pr_LE e)[c]? = some (4, 0)) (h : F_X4_beDisturbed c p1 p2 f = some (r, g)) (hr1 : 1 ≤ Rm.frames) (hr2 : 22 ≤ Rm.locals) (hcat : (st.map fun v => v.category).sum ≤ 8) (hdg : decode cc pc = .ok (.invokevirtual idx, 3)) (k : pr_W (pr_EC l e) Y Rm nL g (pc + 3) lv (st)) : pr_W (pr_EC l e) Y Rm nL f pc lv (.int p2 :: .int p1 :: .ref (pr_ad (pr_EC l e) c) :: st) :=
  pr_callV (As := [.int p1, .int p2]) (n := 2) C (m_X4_beDisturbed hk0 h) hk0 (by decide) rfl w1 pr_w152 pr_w153 pr_w64 pr_w149 rfl rfl ⟨rfl, by decide +kernel, by decide +kernel, by decide +kernel⟩ rfl ⟨hr1, hr2⟩ rfl hcat hdg k

def F_X8_disturb (c : Nat) (p1 : Int32) (p2 : Int32) (p3 : Int32) (f : pr_M) : Option (Int32 × pr_M) :=
  pr_b1 (F_X3_unitAt (c + 1) p1 f) fun o3 =>
  pr_op o3 (
    some ((-1000000001), f)
  ) fun q4 =>
  pr_gd (pr_LC[q4]? = some (7, 0)) <|
  pr_b1 (F_X8_isDisturbance p2 p3 f) fun r7 =>
  if r7 = 0 then (
    some ((-1000000002), f)
  ) else (
    pr_bd (F_X4_beDisturbed (q4 + 2) p2 p3 f) fun u11 f12 =>
    some ((f12 (c + 1) 4), f12)
  )
set_option maxHeartbeats 4000000 in
set_option maxRecDepth 100000 in
theorem m_X8_disturb {l : Launch} {e : pr_E0} {c : Nat} {p1 : Int32} {p2 : Int32} {p3 : Int32} {f : pr_M} {r : Int32} {g : pr_M} (hk0 : (pr_LE e)[c]? = some (8, 0)) (h : F_X8_disturb c p1 p2 p3 f = some (r, g)) : pr_Met (pr_EC l e) yX8_disturb cX8_disturb 5 (some .int) { frames := 2, cells := 0, slots := 0, locals := 43 } [.ref (pr_ad (pr_EC l e) c), .int p1, .int p2, .int p3] f (some (.int r)) g := by
  rw [F_X8_disturb] at h
  refine pr_enter (by decide +kernel) (Nat.le_of_ble_eq_true rfl) (fun Y C Z => ?_)
  replace C : pr_C (pr_EC l e) Y { frames := 2, cells := 0, slots := 0, locals := 43 } cX8_disturb RX8 5 _ := C
  show pr_W (pr_EC l e) Y _ 5 f 0 [(0, .ref (pr_ad (pr_EC l e) c)), (1, .int p1), (2, .int p2), (3, .int p3)] []
  refine pr_aload_n C dX8_disturb_0 rfl 0 rfl ?_
  refine pr_g_8_0 C hk0 pr_w255 dX8_disturb_1 ?_
  have hk1 := pr_kC_8_0 hk0
  refine pr_iload_n C dX8_disturb_4 rfl 1 rfl ?_
  obtain ⟨o3, hc2, h⟩ := pr_b1_some h
  refine k_X3_unitAt C pr_w284 hk1 hc2 (Nat.le_of_ble_eq_true rfl) (Nat.le_of_ble_eq_true rfl) (Nat.le_of_ble_eq_true rfl) dX8_disturb_5 ?_
  cases o3 with
  | none =>
    have h := pr_op_n h
    refine pr_astoreN (lv' := [(4, .null), (0, .ref (pr_ad (pr_EC l e) c)), (1, .int p1), (2, .int p2), (3, .int p3)]) C dX8_disturb_8 (by decide) rfl ?_
    refine pr_aloadN C dX8_disturb_10 0 rfl ?_
    refine pr_ifnonnullN C dX8_disturb_12 ?_
    refine pr_ldc (v := (-1000000001)) C dX8_disturb_15 pr_w282 ?_
    obtain ⟨rfl, rfl⟩ := pr_inj h
    exact pr_iret C Z dX8_disturb_17
  | some q4 =>
    have h := pr_op_s h
    obtain ⟨hk5, h⟩ := pr_gd_some h
    replace hk5 := px_lx (X := pr_eX e) hk5
    refine pr_astore (lv' := [(4, .ref (pr_ad (pr_EC l e) q4)), (0, .ref (pr_ad (pr_EC l e) c)), (1, .int p1), (2, .int p2), (3, .int p3)]) C dX8_disturb_8 (by decide) rfl ?_
    refine pr_aload C dX8_disturb_10 0 rfl ?_
    refine pr_ifnonnull (tgt := 18) C dX8_disturb_12 (by decide) ?_
    refine pr_iload_n C dX8_disturb_18 rfl 3 rfl ?_
    refine pr_iload_n C dX8_disturb_19 rfl 4 rfl ?_
    obtain ⟨r7, hc6, h⟩ := pr_b1_some h
    refine k_X8_isDisturbance C pr_w305  hc6 (Nat.le_of_ble_eq_true rfl) (Nat.le_of_ble_eq_true rfl) (Nat.le_of_ble_eq_true rfl) dX8_disturb_20 ?_
    refine pr_if_ne (tgt := 29) C dX8_disturb_23 (by decide) (fun c8 => ?_) (fun c8 => ?_)
    · have h := pr_ifF h c8
      refine pr_aload C dX8_disturb_29 0 rfl ?_
      refine pr_gN_7_1 C hk5 pr_nf34 dX8_disturb_31 ?_
      have hk9 := pr_kC_7_1 hk5
      refine pr_iload_n C dX8_disturb_34 rfl 3 rfl ?_
      refine pr_iload_n C dX8_disturb_35 rfl 4 rfl ?_
      obtain ⟨u11, f12, hc10, h⟩ := pr_bd_some h
      refine k_X4_beDisturbed C pr_w307 hk9 hc10 (Nat.le_of_ble_eq_true rfl) (Nat.le_of_ble_eq_true rfl) (Nat.le_of_ble_eq_true rfl) dX8_disturb_36 ?_
      refine pr_aload_n C dX8_disturb_39 rfl 1 rfl ?_
      refine pr_g_8_0 C hk0 pr_w255 dX8_disturb_40 ?_
      refine pr_gN_3_4 C hk1 pr_nf42 dX8_disturb_43 ?_
      obtain ⟨rfl, rfl⟩ := pr_inj h
      exact pr_iret C Z dX8_disturb_46
    · have h := pr_ifT h c8
      refine pr_ldc (v := (-1000000002)) C dX8_disturb_26 pr_w274 ?_
      obtain ⟨rfl, rfl⟩ := pr_inj h
      exact pr_iret C Z dX8_disturb_28
theorem k_X8_disturb {l : Launch} {e : pr_E0} {Y : pr_Y} {Rm : Room} {cc : ByteArray} {own : String} {nL : Nat} {c0 : Cond} {pc idx : Nat} {lv : List (Nat × Value)} {st : List Value} {c : Nat} {p1 : Int32} {p2 : Int32} {p3 : Int32} {f : pr_M} {r : Int32} {g : pr_M} (C : pr_C (pr_EC l e) Y Rm cc own nL c0) (w1 : Cond.methodLink own idx yX8_disturb ∈ pr_AL) (hk0 : (pr_LE e)[c]? = some (8, 0)) (h : F_X8_disturb c p1 p2 p3 f = some (r, g)) (hr1 : 3 ≤ Rm.frames) (hr2 : 67 ≤ Rm.locals) (hcat : (st.map fun v => v.category).sum ≤ 8) (hdg : decode cc pc = .ok (.invokevirtual idx, 3)) (k : pr_W (pr_EC l e) Y Rm nL g (pc + 3) lv (.int r :: st)) : pr_W (pr_EC l e) Y Rm nL f pc lv (.int p3 :: .int p2 :: .int p1 :: .ref (pr_ad (pr_EC l e) c) :: st) :=
  pr_callV (As := [.int p1, .int p2, .int p3]) (n := 3) C (m_X8_disturb hk0 h) hk0 (by decide) rfl w1 pr_w401 pr_w402 pr_w17 pr_w308 rfl rfl ⟨rfl, by decide +kernel, by decide +kernel, by decide +kernel⟩ rfl ⟨hr1, hr2⟩ rfl hcat hdg k
